section
/-- a private method of a class that the tables say can be made, by its rows of tables_1 -/
def lw_okq (q : MethodName × Nat) : Prop := (q.1.cls ≠ "java/lang/invoke/MethodHandle" ∧ q.1.cls ≠ "java/lang/invoke/VarHandle") ∧ Cond.instantiable q.1.cls q.2 ∈ tables_1 ∧ Cond.privateMethod q.1 ∈ tables_1 ∧ Cond.instanceMethod q.1 ∈ tables_1
theorem lw_p0 : lw_okq (⟨"SketchCache$Sketch", "forgetIfChanged", "(II)V"⟩, 11) := ⟨⟨by decide +kernel, by decide +kernel⟩, List.mem_of_getElem? (i := 213) (by decide +kernel), List.mem_of_getElem? (i := 334) (by decide +kernel), List.mem_of_getElem? (i := 335) (by decide +kernel)⟩
theorem lw_p1 : lw_okq (⟨"SketchCache$Climb", "beginAnew", "()V"⟩, 6) := ⟨⟨by decide +kernel, by decide +kernel⟩, List.mem_of_getElem? (i := 176) (by decide +kernel), List.mem_of_getElem? (i := 379) (by decide +kernel), List.mem_of_getElem? (i := 380) (by decide +kernel)⟩
theorem lw_p2 : lw_okq (⟨"SketchCache$Sketch", "isPastDoor", "(I)Z"⟩, 11) := ⟨⟨by decide +kernel, by decide +kernel⟩, List.mem_of_getElem? (i := 213) (by decide +kernel), List.mem_of_getElem? (i := 407) (by decide +kernel), List.mem_of_getElem? (i := 408) (by decide +kernel)⟩
theorem lw_p3 : lw_okq (⟨"SketchCache$Sketch", "growCounters", "(I)V"⟩, 11) := ⟨⟨by decide +kernel, by decide +kernel⟩, List.mem_of_getElem? (i := 213) (by decide +kernel), List.mem_of_getElem? (i := 411) (by decide +kernel), List.mem_of_getElem? (i := 412) (by decide +kernel)⟩
theorem lw_p4 : lw_okq (⟨"SketchCache$Sketch", "smallestCounter", "(I)I"⟩, 11) := ⟨⟨by decide +kernel, by decide +kernel⟩, List.mem_of_getElem? (i := 213) (by decide +kernel), List.mem_of_getElem? (i := 415) (by decide +kernel), List.mem_of_getElem? (i := 416) (by decide +kernel)⟩
theorem lw_p5 : lw_okq (⟨"SketchCache$Sketch", "age", "()V"⟩, 11) := ⟨⟨by decide +kernel, by decide +kernel⟩, List.mem_of_getElem? (i := 213) (by decide +kernel), List.mem_of_getElem? (i := 419) (by decide +kernel), List.mem_of_getElem? (i := 420) (by decide +kernel)⟩
theorem lw_p6 : lw_okq (⟨"SketchCache$Cache", "settle", "()V"⟩, 6) := ⟨⟨by decide +kernel, by decide +kernel⟩, List.mem_of_getElem? (i := 205) (by decide +kernel), List.mem_of_getElem? (i := 439) (by decide +kernel), List.mem_of_getElem? (i := 440) (by decide +kernel)⟩
theorem lw_p7 : lw_okq (⟨"SketchCache$Cache", "judge", "(I)V"⟩, 6) := ⟨⟨by decide +kernel, by decide +kernel⟩, List.mem_of_getElem? (i := 205) (by decide +kernel), List.mem_of_getElem? (i := 451) (by decide +kernel), List.mem_of_getElem? (i := 452) (by decide +kernel)⟩
theorem lw_p8 : lw_okq (⟨"SketchCache$Cache", "victimsNeeded", "(I)I"⟩, 6) := ⟨⟨by decide +kernel, by decide +kernel⟩, List.mem_of_getElem? (i := 205) (by decide +kernel), List.mem_of_getElem? (i := 455) (by decide +kernel), List.mem_of_getElem? (i := 456) (by decide +kernel)⟩
theorem lw_p9 : lw_okq (⟨"SketchCache$Cache", "unitsInMain", "()I"⟩, 6) := ⟨⟨by decide +kernel, by decide +kernel⟩, List.mem_of_getElem? (i := 205) (by decide +kernel), List.mem_of_getElem? (i := 459) (by decide +kernel), List.mem_of_getElem? (i := 460) (by decide +kernel)⟩
theorem lw_p10 : lw_okq (⟨"SketchCache$Cache", "keysInMain", "()I"⟩, 6) := ⟨⟨by decide +kernel, by decide +kernel⟩, List.mem_of_getElem? (i := 205) (by decide +kernel), List.mem_of_getElem? (i := 463) (by decide +kernel), List.mem_of_getElem? (i := 464) (by decide +kernel)⟩
theorem lw_p11 : lw_okq (⟨"SketchCache$Cache", "victimAt", "(I)I"⟩, 6) := ⟨⟨by decide +kernel, by decide +kernel⟩, List.mem_of_getElem? (i := 205) (by decide +kernel), List.mem_of_getElem? (i := 467) (by decide +kernel), List.mem_of_getElem? (i := 468) (by decide +kernel)⟩
theorem lw_p12 : lw_okq (⟨"SketchCache$Cache", "victimsBeaten", "(II)I"⟩, 6) := ⟨⟨by decide +kernel, by decide +kernel⟩, List.mem_of_getElem? (i := 205) (by decide +kernel), List.mem_of_getElem? (i := 475) (by decide +kernel), List.mem_of_getElem? (i := 476) (by decide +kernel)⟩
theorem lw_p13 : lw_okq (⟨"SketchCache$Cache", "spare", "(I)V"⟩, 6) := ⟨⟨by decide +kernel, by decide +kernel⟩, List.mem_of_getElem? (i := 205) (by decide +kernel), List.mem_of_getElem? (i := 485) (by decide +kernel), List.mem_of_getElem? (i := 486) (by decide +kernel)⟩
theorem lw_p14 : lw_okq (⟨"SketchCache$Player", "lookAhead", "(LSketchCache$Trace;II)V"⟩, 5) := ⟨⟨by decide +kernel, by decide +kernel⟩, List.mem_of_getElem? (i := 27) (by decide +kernel), List.mem_of_getElem? (i := 568) (by decide +kernel), List.mem_of_getElem? (i := 569) (by decide +kernel)⟩
theorem lw_p15 : lw_okq (⟨"SketchCache$FourRows", "makeRoomForNew", "()V"⟩, 3) := ⟨⟨by decide +kernel, by decide +kernel⟩, List.mem_of_getElem? (i := 76) (by decide +kernel), List.mem_of_getElem? (i := 595) (by decide +kernel), List.mem_of_getElem? (i := 596) (by decide +kernel)⟩
def lw_privs_1 : List (MethodName × Nat) := [(⟨"SketchCache$Sketch", "forgetIfChanged", "(II)V"⟩, 11), (⟨"SketchCache$Climb", "beginAnew", "()V"⟩, 6), (⟨"SketchCache$Sketch", "isPastDoor", "(I)Z"⟩, 11), (⟨"SketchCache$Sketch", "growCounters", "(I)V"⟩, 11), (⟨"SketchCache$Sketch", "smallestCounter", "(I)I"⟩, 11), (⟨"SketchCache$Sketch", "age", "()V"⟩, 11), (⟨"SketchCache$Cache", "settle", "()V"⟩, 6), (⟨"SketchCache$Cache", "judge", "(I)V"⟩, 6), (⟨"SketchCache$Cache", "victimsNeeded", "(I)I"⟩, 6), (⟨"SketchCache$Cache", "unitsInMain", "()I"⟩, 6), (⟨"SketchCache$Cache", "keysInMain", "()I"⟩, 6), (⟨"SketchCache$Cache", "victimAt", "(I)I"⟩, 6), (⟨"SketchCache$Cache", "victimsBeaten", "(II)I"⟩, 6), (⟨"SketchCache$Cache", "spare", "(I)V"⟩, 6), (⟨"SketchCache$Player", "lookAhead", "(LSketchCache$Trace;II)V"⟩, 5), (⟨"SketchCache$FourRows", "makeRoomForNew", "()V"⟩, 3)]
theorem lw_r1 : ∀ q ∈ lw_privs_1, lw_okq q := List.forall_mem_cons.mpr ⟨lw_p0, List.forall_mem_cons.mpr ⟨lw_p1, List.forall_mem_cons.mpr ⟨lw_p2, List.forall_mem_cons.mpr ⟨lw_p3, List.forall_mem_cons.mpr ⟨lw_p4, List.forall_mem_cons.mpr ⟨lw_p5, List.forall_mem_cons.mpr ⟨lw_p6, List.forall_mem_cons.mpr ⟨lw_p7, List.forall_mem_cons.mpr ⟨lw_p8, List.forall_mem_cons.mpr ⟨lw_p9, List.forall_mem_cons.mpr ⟨lw_p10, List.forall_mem_cons.mpr ⟨lw_p11, List.forall_mem_cons.mpr ⟨lw_p12, List.forall_mem_cons.mpr ⟨lw_p13, List.forall_mem_cons.mpr ⟨lw_p14, List.forall_mem_cons.mpr ⟨lw_p15, fun _ h => absurd h List.not_mem_nil⟩⟩⟩⟩⟩⟩⟩⟩⟩⟩⟩⟩⟩⟩⟩⟩
theorem lw_p16 : lw_okq (⟨"SketchCache$FourRows", "makeRoom", "(Z)V"⟩, 3) := ⟨⟨by decide +kernel, by decide +kernel⟩, List.mem_of_getElem? (i := 76) (by decide +kernel), List.mem_of_getElem? (i := 604) (by decide +kernel), List.mem_of_getElem? (i := 605) (by decide +kernel)⟩
theorem lw_p17 : lw_okq (⟨"SketchCache$Seats", "seatOf", "(I)I"⟩, 10) := ⟨⟨by decide +kernel, by decide +kernel⟩, List.mem_of_getElem? (i := 35) (by decide +kernel), List.mem_of_getElem? (i := 623) (by decide +kernel), List.mem_of_getElem? (i := 624) (by decide +kernel)⟩
theorem lw_p18 : lw_okq (⟨"SketchCache$Seats", "freeSeat", "()I"⟩, 10) := ⟨⟨by decide +kernel, by decide +kernel⟩, List.mem_of_getElem? (i := 35) (by decide +kernel), List.mem_of_getElem? (i := 627) (by decide +kernel), List.mem_of_getElem? (i := 628) (by decide +kernel)⟩
theorem lw_p19 : lw_okq (⟨"SketchCache$Seats", "seatByHand", "()I"⟩, 10) := ⟨⟨by decide +kernel, by decide +kernel⟩, List.mem_of_getElem? (i := 35) (by decide +kernel), List.mem_of_getElem? (i := 631) (by decide +kernel), List.mem_of_getElem? (i := 632) (by decide +kernel)⟩
theorem lw_p20 : lw_okq (⟨"SketchCache$Seats", "nextSeat", "(I)I"⟩, 10) := ⟨⟨by decide +kernel, by decide +kernel⟩, List.mem_of_getElem? (i := 35) (by decide +kernel), List.mem_of_getElem? (i := 635) (by decide +kernel), List.mem_of_getElem? (i := 636) (by decide +kernel)⟩
theorem lw_p21 : lw_okq (⟨"SketchCache$Seats", "seatByRank", "()I"⟩, 10) := ⟨⟨by decide +kernel, by decide +kernel⟩, List.mem_of_getElem? (i := 35) (by decide +kernel), List.mem_of_getElem? (i := 639) (by decide +kernel), List.mem_of_getElem? (i := 640) (by decide +kernel)⟩
theorem lw_p22 : lw_okq (⟨"SketchCache$Seats", "goesBefore", "(II)Z"⟩, 10) := ⟨⟨by decide +kernel, by decide +kernel⟩, List.mem_of_getElem? (i := 35) (by decide +kernel), List.mem_of_getElem? (i := 643) (by decide +kernel), List.mem_of_getElem? (i := 644) (by decide +kernel)⟩
theorem lw_p23 : lw_okq (⟨"SketchCache$Player", "keepFrom", "(LSketchCache$Policy;)V"⟩, 5) := ⟨⟨by decide +kernel, by decide +kernel⟩, List.mem_of_getElem? (i := 27) (by decide +kernel), List.mem_of_getElem? (i := 647) (by decide +kernel), List.mem_of_getElem? (i := 648) (by decide +kernel)⟩
theorem lw_p24 : lw_okq (⟨"SketchCacheModel", "setWindow", "(I)V"⟩, 17) := ⟨⟨by decide +kernel, by decide +kernel⟩, List.mem_of_getElem? (i := 729) (by decide +kernel), List.mem_of_getElem? (i := 738) (by decide +kernel), List.mem_of_getElem? (i := 739) (by decide +kernel)⟩
theorem lw_p25 : lw_okq (⟨"SketchCacheModel", "forgetTimes", "()V"⟩, 17) := ⟨⟨by decide +kernel, by decide +kernel⟩, List.mem_of_getElem? (i := 729) (by decide +kernel), List.mem_of_getElem? (i := 805) (by decide +kernel), List.mem_of_getElem? (i := 806) (by decide +kernel)⟩
theorem lw_p26 : lw_okq (⟨"SketchCacheModel", "partOf", "(I)I"⟩, 17) := ⟨⟨by decide +kernel, by decide +kernel⟩, List.mem_of_getElem? (i := 729) (by decide +kernel), List.mem_of_getElem? (i := 821) (by decide +kernel), List.mem_of_getElem? (i := 822) (by decide +kernel)⟩
theorem lw_p27 : lw_okq (⟨"SketchCacheModel", "indexOf", "(II)I"⟩, 17) := ⟨⟨by decide +kernel, by decide +kernel⟩, List.mem_of_getElem? (i := 729) (by decide +kernel), List.mem_of_getElem? (i := 825) (by decide +kernel), List.mem_of_getElem? (i := 826) (by decide +kernel)⟩
theorem lw_p28 : lw_okq (⟨"SketchCacheModel", "length", "(I)I"⟩, 17) := ⟨⟨by decide +kernel, by decide +kernel⟩, List.mem_of_getElem? (i := 729) (by decide +kernel), List.mem_of_getElem? (i := 829) (by decide +kernel), List.mem_of_getElem? (i := 830) (by decide +kernel)⟩
theorem lw_p29 : lw_okq (⟨"SketchCacheModel", "keyAt", "(II)I"⟩, 17) := ⟨⟨by decide +kernel, by decide +kernel⟩, List.mem_of_getElem? (i := 729) (by decide +kernel), List.mem_of_getElem? (i := 833) (by decide +kernel), List.mem_of_getElem? (i := 834) (by decide +kernel)⟩
theorem lw_p30 : lw_okq (⟨"SketchCacheModel", "accessed", "(I)I"⟩, 17) := ⟨⟨by decide +kernel, by decide +kernel⟩, List.mem_of_getElem? (i := 729) (by decide +kernel), List.mem_of_getElem? (i := 841) (by decide +kernel), List.mem_of_getElem? (i := 842) (by decide +kernel)⟩
theorem lw_p31 : lw_okq (⟨"SketchCacheModel", "count", "(I)V"⟩, 17) := ⟨⟨by decide +kernel, by decide +kernel⟩, List.mem_of_getElem? (i := 729) (by decide +kernel), List.mem_of_getElem? (i := 845) (by decide +kernel), List.mem_of_getElem? (i := 846) (by decide +kernel)⟩
def lw_privs_2 : List (MethodName × Nat) := [(⟨"SketchCache$FourRows", "makeRoom", "(Z)V"⟩, 3), (⟨"SketchCache$Seats", "seatOf", "(I)I"⟩, 10), (⟨"SketchCache$Seats", "freeSeat", "()I"⟩, 10), (⟨"SketchCache$Seats", "seatByHand", "()I"⟩, 10), (⟨"SketchCache$Seats", "nextSeat", "(I)I"⟩, 10), (⟨"SketchCache$Seats", "seatByRank", "()I"⟩, 10), (⟨"SketchCache$Seats", "goesBefore", "(II)Z"⟩, 10), (⟨"SketchCache$Player", "keepFrom", "(LSketchCache$Policy;)V"⟩, 5), (⟨"SketchCacheModel", "setWindow", "(I)V"⟩, 17), (⟨"SketchCacheModel", "forgetTimes", "()V"⟩, 17), (⟨"SketchCacheModel", "partOf", "(I)I"⟩, 17), (⟨"SketchCacheModel", "indexOf", "(II)I"⟩, 17), (⟨"SketchCacheModel", "length", "(I)I"⟩, 17), (⟨"SketchCacheModel", "keyAt", "(II)I"⟩, 17), (⟨"SketchCacheModel", "accessed", "(I)I"⟩, 17), (⟨"SketchCacheModel", "count", "(I)V"⟩, 17)]
theorem lw_r2 : ∀ q ∈ lw_privs_2, lw_okq q := List.forall_mem_cons.mpr ⟨lw_p16, List.forall_mem_cons.mpr ⟨lw_p17, List.forall_mem_cons.mpr ⟨lw_p18, List.forall_mem_cons.mpr ⟨lw_p19, List.forall_mem_cons.mpr ⟨lw_p20, List.forall_mem_cons.mpr ⟨lw_p21, List.forall_mem_cons.mpr ⟨lw_p22, List.forall_mem_cons.mpr ⟨lw_p23, List.forall_mem_cons.mpr ⟨lw_p24, List.forall_mem_cons.mpr ⟨lw_p25, List.forall_mem_cons.mpr ⟨lw_p26, List.forall_mem_cons.mpr ⟨lw_p27, List.forall_mem_cons.mpr ⟨lw_p28, List.forall_mem_cons.mpr ⟨lw_p29, List.forall_mem_cons.mpr ⟨lw_p30, List.forall_mem_cons.mpr ⟨lw_p31, fun _ h => absurd h List.not_mem_nil⟩⟩⟩⟩⟩⟩⟩⟩⟩⟩⟩⟩⟩⟩⟩⟩
theorem lw_p32 : lw_okq (⟨"SketchCacheModel", "isThrough", "(I)Z"⟩, 17) := ⟨⟨by decide +kernel, by decide +kernel⟩, List.mem_of_getElem? (i := 729) (by decide +kernel), List.mem_of_getElem? (i := 849) (by decide +kernel), List.mem_of_getElem? (i := 850) (by decide +kernel)⟩
theorem lw_p33 : lw_okq (⟨"SketchCacheModel", "smallest", "(I)I"⟩, 17) := ⟨⟨by decide +kernel, by decide +kernel⟩, List.mem_of_getElem? (i := 729) (by decide +kernel), List.mem_of_getElem? (i := 853) (by decide +kernel), List.mem_of_getElem? (i := 854) (by decide +kernel)⟩
theorem lw_p34 : lw_okq (⟨"SketchCacheModel", "cell", "(II)I"⟩, 17) := ⟨⟨by decide +kernel, by decide +kernel⟩, List.mem_of_getElem? (i := 729) (by decide +kernel), List.mem_of_getElem? (i := 857) (by decide +kernel), List.mem_of_getElem? (i := 858) (by decide +kernel)⟩
theorem lw_p35 : lw_okq (⟨"SketchCacheModel", "take", "(II)I"⟩, 17) := ⟨⟨by decide +kernel, by decide +kernel⟩, List.mem_of_getElem? (i := 729) (by decide +kernel), List.mem_of_getElem? (i := 861) (by decide +kernel), List.mem_of_getElem? (i := 862) (by decide +kernel)⟩
theorem lw_p36 : lw_okq (⟨"SketchCacheModel", "append", "(II)V"⟩, 17) := ⟨⟨by decide +kernel, by decide +kernel⟩, List.mem_of_getElem? (i := 729) (by decide +kernel), List.mem_of_getElem? (i := 865) (by decide +kernel), List.mem_of_getElem? (i := 866) (by decide +kernel)⟩
theorem lw_p37 : lw_okq (⟨"SketchCacheModel", "settle", "()V"⟩, 17) := ⟨⟨by decide +kernel, by decide +kernel⟩, List.mem_of_getElem? (i := 729) (by decide +kernel), List.mem_of_getElem? (i := 869) (by decide +kernel), List.mem_of_getElem? (i := 870) (by decide +kernel)⟩
theorem lw_p38 : lw_okq (⟨"SketchCacheModel", "units", "(I)I"⟩, 17) := ⟨⟨by decide +kernel, by decide +kernel⟩, List.mem_of_getElem? (i := 729) (by decide +kernel), List.mem_of_getElem? (i := 873) (by decide +kernel), List.mem_of_getElem? (i := 874) (by decide +kernel)⟩
theorem lw_p39 : lw_okq (⟨"SketchCacheModel", "candidate", "(I)V"⟩, 17) := ⟨⟨by decide +kernel, by decide +kernel⟩, List.mem_of_getElem? (i := 729) (by decide +kernel), List.mem_of_getElem? (i := 877) (by decide +kernel), List.mem_of_getElem? (i := 878) (by decide +kernel)⟩
theorem lw_p40 : lw_okq (⟨"SketchCacheModel", "inMain", "()I"⟩, 17) := ⟨⟨by decide +kernel, by decide +kernel⟩, List.mem_of_getElem? (i := 729) (by decide +kernel), List.mem_of_getElem? (i := 881) (by decide +kernel), List.mem_of_getElem? (i := 882) (by decide +kernel)⟩
theorem lw_p41 : lw_okq (⟨"SketchCacheModel", "together", "(II)V"⟩, 17) := ⟨⟨by decide +kernel, by decide +kernel⟩, List.mem_of_getElem? (i := 729) (by decide +kernel), List.mem_of_getElem? (i := 885) (by decide +kernel), List.mem_of_getElem? (i := 886) (by decide +kernel)⟩
theorem lw_p42 : lw_okq (⟨"SketchCacheModel", "estimated", "(I)I"⟩, 17) := ⟨⟨by decide +kernel, by decide +kernel⟩, List.mem_of_getElem? (i := 729) (by decide +kernel), List.mem_of_getElem? (i := 889) (by decide +kernel), List.mem_of_getElem? (i := 890) (by decide +kernel)⟩
theorem lw_p43 : lw_okq (⟨"SketchCacheModel", "overflow", "()V"⟩, 17) := ⟨⟨by decide +kernel, by decide +kernel⟩, List.mem_of_getElem? (i := 729) (by decide +kernel), List.mem_of_getElem? (i := 893) (by decide +kernel), List.mem_of_getElem? (i := 894) (by decide +kernel)⟩
theorem lw_p44 : lw_okq (⟨"SketchCacheModel", "climb", "()V"⟩, 17) := ⟨⟨by decide +kernel, by decide +kernel⟩, List.mem_of_getElem? (i := 729) (by decide +kernel), List.mem_of_getElem? (i := 897) (by decide +kernel), List.mem_of_getElem? (i := 898) (by decide +kernel)⟩
theorem lw_p45 : lw_okq (⟨"SketchCacheModel", "balanced", "(III)I"⟩, 17) := ⟨⟨by decide +kernel, by decide +kernel⟩, List.mem_of_getElem? (i := 729) (by decide +kernel), List.mem_of_getElem? (i := 945) (by decide +kernel), List.mem_of_getElem? (i := 946) (by decide +kernel)⟩
theorem lw_p46 : lw_okq (⟨"SketchCacheModel", "indexIn", "(II)I"⟩, 17) := ⟨⟨by decide +kernel, by decide +kernel⟩, List.mem_of_getElem? (i := 729) (by decide +kernel), List.mem_of_getElem? (i := 949) (by decide +kernel), List.mem_of_getElem? (i := 950) (by decide +kernel)⟩
theorem lw_p47 : lw_okq (⟨"SketchCacheModel", "leave", "(II)I"⟩, 17) := ⟨⟨by decide +kernel, by decide +kernel⟩, List.mem_of_getElem? (i := 729) (by decide +kernel), List.mem_of_getElem? (i := 953) (by decide +kernel), List.mem_of_getElem? (i := 954) (by decide +kernel)⟩
def lw_privs_3 : List (MethodName × Nat) := [(⟨"SketchCacheModel", "isThrough", "(I)Z"⟩, 17), (⟨"SketchCacheModel", "smallest", "(I)I"⟩, 17), (⟨"SketchCacheModel", "cell", "(II)I"⟩, 17), (⟨"SketchCacheModel", "take", "(II)I"⟩, 17), (⟨"SketchCacheModel", "append", "(II)V"⟩, 17), (⟨"SketchCacheModel", "settle", "()V"⟩, 17), (⟨"SketchCacheModel", "units", "(I)I"⟩, 17), (⟨"SketchCacheModel", "candidate", "(I)V"⟩, 17), (⟨"SketchCacheModel", "inMain", "()I"⟩, 17), (⟨"SketchCacheModel", "together", "(II)V"⟩, 17), (⟨"SketchCacheModel", "estimated", "(I)I"⟩, 17), (⟨"SketchCacheModel", "overflow", "()V"⟩, 17), (⟨"SketchCacheModel", "climb", "()V"⟩, 17), (⟨"SketchCacheModel", "balanced", "(III)I"⟩, 17), (⟨"SketchCacheModel", "indexIn", "(II)I"⟩, 17), (⟨"SketchCacheModel", "leave", "(II)I"⟩, 17)]
theorem lw_r3 : ∀ q ∈ lw_privs_3, lw_okq q := List.forall_mem_cons.mpr ⟨lw_p32, List.forall_mem_cons.mpr ⟨lw_p33, List.forall_mem_cons.mpr ⟨lw_p34, List.forall_mem_cons.mpr ⟨lw_p35, List.forall_mem_cons.mpr ⟨lw_p36, List.forall_mem_cons.mpr ⟨lw_p37, List.forall_mem_cons.mpr ⟨lw_p38, List.forall_mem_cons.mpr ⟨lw_p39, List.forall_mem_cons.mpr ⟨lw_p40, List.forall_mem_cons.mpr ⟨lw_p41, List.forall_mem_cons.mpr ⟨lw_p42, List.forall_mem_cons.mpr ⟨lw_p43, List.forall_mem_cons.mpr ⟨lw_p44, List.forall_mem_cons.mpr ⟨lw_p45, List.forall_mem_cons.mpr ⟨lw_p46, List.forall_mem_cons.mpr ⟨lw_p47, fun _ h => absurd h List.not_mem_nil⟩⟩⟩⟩⟩⟩⟩⟩⟩⟩⟩⟩⟩⟩⟩⟩
theorem lw_p48 : lw_okq (⟨"SketchCacheModel", "join", "(II)V"⟩, 17) := ⟨⟨by decide +kernel, by decide +kernel⟩, List.mem_of_getElem? (i := 729) (by decide +kernel), List.mem_of_getElem? (i := 957) (by decide +kernel), List.mem_of_getElem? (i := 958) (by decide +kernel)⟩
theorem lw_p49 : lw_okq (⟨"SketchCacheModel", "makeRoom", "(Z)V"⟩, 17) := ⟨⟨by decide +kernel, by decide +kernel⟩, List.mem_of_getElem? (i := 729) (by decide +kernel), List.mem_of_getElem? (i := 961) (by decide +kernel), List.mem_of_getElem? (i := 962) (by decide +kernel)⟩
theorem lw_p50 : lw_okq (⟨"SketchCacheModel", "otherKey", "(II)V"⟩, 17) := ⟨⟨by decide +kernel, by decide +kernel⟩, List.mem_of_getElem? (i := 729) (by decide +kernel), List.mem_of_getElem? (i := 965) (by decide +kernel), List.mem_of_getElem? (i := 966) (by decide +kernel)⟩
theorem lw_p51 : lw_okq (⟨"SketchCacheModel", "played", "(IIII)I"⟩, 17) := ⟨⟨by decide +kernel, by decide +kernel⟩, List.mem_of_getElem? (i := 729) (by decide +kernel), List.mem_of_getElem? (i := 969) (by decide +kernel), List.mem_of_getElem? (i := 970) (by decide +kernel)⟩
theorem lw_p52 : lw_okq (⟨"SketchCacheModel", "seatOf", "(I)I"⟩, 17) := ⟨⟨by decide +kernel, by decide +kernel⟩, List.mem_of_getElem? (i := 729) (by decide +kernel), List.mem_of_getElem? (i := 973) (by decide +kernel), List.mem_of_getElem? (i := 974) (by decide +kernel)⟩
theorem lw_p53 : lw_okq (⟨"SketchCacheModel", "seatThatGoes", "(IIII)I"⟩, 17) := ⟨⟨by decide +kernel, by decide +kernel⟩, List.mem_of_getElem? (i := 729) (by decide +kernel), List.mem_of_getElem? (i := 977) (by decide +kernel), List.mem_of_getElem? (i := 978) (by decide +kernel)⟩
theorem lw_p54 : lw_okq (⟨"SketchCacheModel", "isSooner", "(IIIII)Z"⟩, 17) := ⟨⟨by decide +kernel, by decide +kernel⟩, List.mem_of_getElem? (i := 729) (by decide +kernel), List.mem_of_getElem? (i := 981) (by decide +kernel), List.mem_of_getElem? (i := 982) (by decide +kernel)⟩
theorem lw_p55 : lw_okq (⟨"SketchCacheModel", "again", "(III)I"⟩, 17) := ⟨⟨by decide +kernel, by decide +kernel⟩, List.mem_of_getElem? (i := 729) (by decide +kernel), List.mem_of_getElem? (i := 985) (by decide +kernel), List.mem_of_getElem? (i := 986) (by decide +kernel)⟩
def lw_privs_4 : List (MethodName × Nat) := [(⟨"SketchCacheModel", "join", "(II)V"⟩, 17), (⟨"SketchCacheModel", "makeRoom", "(Z)V"⟩, 17), (⟨"SketchCacheModel", "otherKey", "(II)V"⟩, 17), (⟨"SketchCacheModel", "played", "(IIII)I"⟩, 17), (⟨"SketchCacheModel", "seatOf", "(I)I"⟩, 17), (⟨"SketchCacheModel", "seatThatGoes", "(IIII)I"⟩, 17), (⟨"SketchCacheModel", "isSooner", "(IIIII)Z"⟩, 17), (⟨"SketchCacheModel", "again", "(III)I"⟩, 17)]
theorem lw_r4 : ∀ q ∈ lw_privs_4, lw_okq q := List.forall_mem_cons.mpr ⟨lw_p48, List.forall_mem_cons.mpr ⟨lw_p49, List.forall_mem_cons.mpr ⟨lw_p50, List.forall_mem_cons.mpr ⟨lw_p51, List.forall_mem_cons.mpr ⟨lw_p52, List.forall_mem_cons.mpr ⟨lw_p53, List.forall_mem_cons.mpr ⟨lw_p54, List.forall_mem_cons.mpr ⟨lw_p55, fun _ h => absurd h List.not_mem_nil⟩⟩⟩⟩⟩⟩⟩⟩
def lw_privs : List (MethodName × Nat) := lw_privs_1 ++ (lw_privs_2 ++ (lw_privs_3 ++ (lw_privs_4)))
def lw_tbl : List Cond := k2_sels lw_privs ++ tables_1
theorem lw_privs_ok : ∀ q ∈ lw_privs, lw_okq q := by
  show ∀ q ∈ lw_privs_1 ++ (lw_privs_2 ++ (lw_privs_3 ++ (lw_privs_4))), lw_okq q
  exact List.forall_mem_append.mpr ⟨lw_r1, List.forall_mem_append.mpr ⟨lw_r2, List.forall_mem_append.mpr ⟨lw_r3, lw_r4⟩⟩⟩
end
section
def RX0 : String := "SketchCache$Cache"
def TX0 : u_T := fun k => match k with
  | 0 => ("SketchCache$Cache", "sketch", "LSketchCache$Sketch;", true)
  | 1 => ("SketchCache$Cache", "parts", "LSketchCache$Rows;", true)
  | 2 => ("SketchCache$Cache", "capacity", "I", true)
  | 3 => ("SketchCache$Cache", "mode", "I", false)
  | 4 => ("SketchCache$Cache", "window", "I", false)
  | _ => ("SketchCache$Cache", "outs", "I", false)
def tyX0 : Nat → FieldType := fun k => match k with
  | 0 => .object "SketchCache$Sketch"
  | 1 => .object "SketchCache$Rows"
  | 2 => .int
  | 3 => .int
  | 4 => .int
  | _ => .int
abbrev wsX00 : List Cond := u_ws RX0 TX0 6
theorem nmX0 : ∀ a, a < 6 → ∀ b, b < 6 → a ≠ b → (TX0 a).2.1 ≠ (TX0 b).2.1 := by decide +kernel
theorem tyX0_ok : ∀ k, k < 6 → parseFieldDescriptor (TX0 k).2.2.1 = some (tyX0 k) := by decide +kernel
abbrev cX0_init : ByteArray := prog_2_method_1_code
def yX0_init : MethodName := ⟨RX0, "<init>", "(III)V"⟩
abbrev cX0_tellMode : ByteArray := prog_2_method_2_code
def yX0_tellMode : MethodName := ⟨RX0, "tellMode", "(I)I"⟩
abbrev cX0_protectedLimit : ByteArray := prog_2_method_3_code
def yX0_protectedLimit : MethodName := ⟨RX0, "protectedLimit", "()I"⟩
abbrev cX0_keysThere : ByteArray := prog_2_method_4_code
def yX0_keysThere : MethodName := ⟨RX0, "keysThere", "()I"⟩
abbrev cX0_keysInMain : ByteArray := prog_2_method_5_code
def yX0_keysInMain : MethodName := ⟨RX0, "keysInMain", "()I"⟩
abbrev cX0_unitsInMain : ByteArray := prog_2_method_6_code
def yX0_unitsInMain : MethodName := ⟨RX0, "unitsInMain", "()I"⟩
abbrev cX0_touch : ByteArray := prog_2_method_7_code
def yX0_touch : MethodName := ⟨RX0, "touch", "(I)V"⟩
abbrev cX0_settle : ByteArray := prog_2_method_8_code
def yX0_settle : MethodName := ⟨RX0, "settle", "()V"⟩
abbrev cX0_bringIn : ByteArray := prog_2_method_9_code
def yX0_bringIn : MethodName := ⟨RX0, "bringIn", "(I)V"⟩
abbrev cX0_overflow : ByteArray := prog_2_method_10_code
def yX0_overflow : MethodName := ⟨RX0, "overflow", "()V"⟩
abbrev cX0_judge : ByteArray := prog_2_method_11_code
def yX0_judge : MethodName := ⟨RX0, "judge", "(I)V"⟩
abbrev cX0_victimsNeeded : ByteArray := prog_2_method_12_code
def yX0_victimsNeeded : MethodName := ⟨RX0, "victimsNeeded", "(I)I"⟩
abbrev cX0_victimsBeaten : ByteArray := prog_2_method_13_code
def yX0_victimsBeaten : MethodName := ⟨RX0, "victimsBeaten", "(II)I"⟩
abbrev cX0_spare : ByteArray := prog_2_method_14_code
def yX0_spare : MethodName := ⟨RX0, "spare", "(I)V"⟩
abbrev cX0_victimAt : ByteArray := prog_2_method_15_code
def yX0_victimAt : MethodName := ⟨RX0, "victimAt", "(I)I"⟩
abbrev cX0_resize : ByteArray := prog_2_method_16_code
def yX0_resize : MethodName := ⟨RX0, "resize", "(I)V"⟩
abbrev cX0_isSound : ByteArray := prog_2_method_17_code
def yX0_isSound : MethodName := ⟨RX0, "isSound", "()Z"⟩
abbrev cX0_copyFrom : ByteArray := prog_2_method_18_code
def yX0_copyFrom : MethodName := ⟨RX0, "copyFrom", "(LSketchCache$Cache;)V"⟩
def RX1 : String := "SketchCache$Climb"
def TX1 : u_T := fun k => match k with
  | 0 => ("SketchCache$Climb", "step", "I", false)
  | 1 => ("SketchCache$Climb", "period", "I", false)
  | 2 => ("SketchCache$Climb", "direction", "I", false)
  | 3 => ("SketchCache$Climb", "hits", "I", false)
  | 4 => ("SketchCache$Climb", "accesses", "I", false)
  | _ => ("SketchCache$Climb", "hitsBefore", "I", false)
def tyX1 : Nat → FieldType := fun k => match k with
  | 0 => .int
  | 1 => .int
  | 2 => .int
  | 3 => .int
  | 4 => .int
  | _ => .int
abbrev wsX10 : List Cond := u_ws RX1 TX1 6
theorem nmX1 : ∀ a, a < 6 → ∀ b, b < 6 → a ≠ b → (TX1 a).2.1 ≠ (TX1 b).2.1 := by decide +kernel
theorem tyX1_ok : ∀ k, k < 6 → parseFieldDescriptor (TX1 k).2.2.1 = some (tyX1 k) := by decide +kernel
abbrev cX1_init : ByteArray := prog_3_method_1_code
def yX1_init : MethodName := ⟨RX1, "<init>", "()V"⟩
abbrev cX1_tellStep : ByteArray := prog_3_method_2_code
def yX1_tellStep : MethodName := ⟨RX1, "tellStep", "(I)I"⟩
abbrev cX1_tellPeriod : ByteArray := prog_3_method_3_code
def yX1_tellPeriod : MethodName := ⟨RX1, "tellPeriod", "(I)I"⟩
abbrev cX1_beginAnew : ByteArray := prog_3_method_4_code
def yX1_beginAnew : MethodName := ⟨RX1, "beginAnew", "()V"⟩
abbrev cX1_growthAfter : ByteArray := prog_3_method_5_code
def yX1_growthAfter : MethodName := ⟨RX1, "growthAfter", "(Z)I"⟩
abbrev cX1_copyFrom : ByteArray := prog_3_method_6_code
def yX1_copyFrom : MethodName := ⟨RX1, "copyFrom", "(LSketchCache$Climb;)V"⟩
def RX2 : String := "SketchCache$FourRows"
def TX2 : u_T := fun k => match k with
  | 0 => ("SketchCache$FourRows", "rows", "LSketchCache$Rows;", true)
  | 1 => ("SketchCache$FourRows", "most", "I", false)
  | _ => ("SketchCache$FourRows", "goal", "I", false)
def tyX2 : Nat → FieldType := fun k => match k with
  | 0 => .object "SketchCache$Rows"
  | 1 => .int
  | _ => .int
abbrev wsX20 : List Cond := u_ws RX2 TX2 3
theorem nmX2 : ∀ a, a < 3 → ∀ b, b < 3 → a ≠ b → (TX2 a).2.1 ≠ (TX2 b).2.1 := by decide +kernel
theorem tyX2_ok : ∀ k, k < 3 → parseFieldDescriptor (TX2 k).2.2.1 = some (tyX2 k) := by decide +kernel
abbrev cX2_init : ByteArray := prog_4_method_1_code
def yX2_init : MethodName := ⟨RX2, "<init>", "()V"⟩
abbrev cX2_begin : ByteArray := prog_4_method_2_code
def yX2_begin : MethodName := ⟨RX2, "begin", "(I)V"⟩
abbrev cX2_asks : ByteArray := prog_4_method_3_code
def yX2_asks : MethodName := ⟨RX2, "asks", "(III)Z"⟩
abbrev cX2_holds : ByteArray := prog_4_method_4_code
def yX2_holds : MethodName := ⟨RX2, "holds", "(I)Z"⟩
abbrev cX2_ratio : ByteArray := prog_4_method_5_code
def yX2_ratio : MethodName := ⟨RX2, "ratio", "(II)I"⟩
abbrev cX2_makeRoomForNew : ByteArray := prog_4_method_6_code
def yX2_makeRoomForNew : MethodName := ⟨RX2, "makeRoomForNew", "()V"⟩
abbrev cX2_makeRoom : ByteArray := prog_4_method_7_code
def yX2_makeRoom : MethodName := ⟨RX2, "makeRoom", "(Z)V"⟩
def RX3 : String := "SketchCache$Player"
def TX3 : u_T := fun k => match k with
  | 0 => ("SketchCache$Player", "policies", "[LSketchCache$Policy;", true)
  | 1 => ("SketchCache$Player", "nextUse", "[I", true)
  | 2 => ("SketchCache$Player", "seenAt", "[I", true)
  | 3 => ("SketchCache$Player", "keptKeys", "[I", true)
  | _ => ("SketchCache$Player", "keptCount", "I", false)
def tyX3 : Nat → FieldType := fun k => match k with
  | 0 => .array (.object "SketchCache$Policy")
  | 1 => .array .int
  | 2 => .array .int
  | 3 => .array .int
  | _ => .int
abbrev wsX30 : List Cond := u_ws RX3 TX3 5
theorem nmX3 : ∀ a, a < 5 → ∀ b, b < 5 → a ≠ b → (TX3 a).2.1 ≠ (TX3 b).2.1 := by decide +kernel
theorem tyX3_ok : ∀ k, k < 5 → parseFieldDescriptor (TX3 k).2.2.1 = some (tyX3 k) := by decide +kernel
abbrev cX3_init : ByteArray := prog_5_method_1_code
def yX3_init : MethodName := ⟨RX3, "<init>", "()V"⟩
abbrev cX3_play : ByteArray := prog_5_method_2_code
def yX3_play : MethodName := ⟨RX3, "play", "(IILSketchCache$Trace;II)I"⟩
abbrev cX3_lookAhead : ByteArray := prog_5_method_3_code
def yX3_lookAhead : MethodName := ⟨RX3, "lookAhead", "(LSketchCache$Trace;II)V"⟩
abbrev cX3_keepFrom : ByteArray := prog_5_method_4_code
def yX3_keepFrom : MethodName := ⟨RX3, "keepFrom", "(LSketchCache$Policy;)V"⟩
abbrev cX3_keptAt : ByteArray := prog_5_method_5_code
def yX3_keptAt : MethodName := ⟨RX3, "keptAt", "(I)I"⟩
def RX4 : String := "SketchCache$Policy"
def TX4 : u_T := fun k => match k with
  | _ => ("", "", "", false)
def tyX4 : Nat → FieldType := fun k => match k with
  | _ => .int
abbrev wsX40 : List Cond := u_ws RX4 TX4 0
theorem nmX4 : ∀ a, a < 0 → ∀ b, b < 0 → a ≠ b → (TX4 a).2.1 ≠ (TX4 b).2.1 := by decide +kernel
theorem tyX4_ok : ∀ k, k < 0 → parseFieldDescriptor (TX4 k).2.2.1 = some (tyX4 k) := by decide +kernel
abbrev cX4_init : ByteArray := prog_6_method_1_code
def yX4_init : MethodName := ⟨RX4, "<init>", "()V"⟩
def RX5 : String := "SketchCache$Rows"
def TX5 : u_T := fun k => match k with
  | 0 => ("SketchCache$Rows", "keys", "[[I", true)
  | 1 => ("SketchCache$Rows", "counts", "[I", true)
  | 2 => ("SketchCache$Rows", "units", "[I", true)
  | 3 => ("SketchCache$Rows", "rowOf", "[I", true)
  | _ => ("SketchCache$Rows", "sizes", "[I", true)
def tyX5 : Nat → FieldType := fun k => match k with
  | 0 => .array (.array .int)
  | 1 => .array .int
  | 2 => .array .int
  | 3 => .array .int
  | _ => .array .int
abbrev wsX50 : List Cond := u_ws RX5 TX5 5
theorem nmX5 : ∀ a, a < 5 → ∀ b, b < 5 → a ≠ b → (TX5 a).2.1 ≠ (TX5 b).2.1 := by decide +kernel
theorem tyX5_ok : ∀ k, k < 5 → parseFieldDescriptor (TX5 k).2.2.1 = some (tyX5 k) := by decide +kernel
abbrev cX5_init : ByteArray := prog_7_method_1_code
def yX5_init : MethodName := ⟨RX5, "<init>", "(I)V"⟩
abbrev cX5_clear : ByteArray := prog_7_method_2_code
def yX5_clear : MethodName := ⟨RX5, "clear", "()V"⟩
abbrev cX5_keyAt : ByteArray := prog_7_method_3_code
def yX5_keyAt : MethodName := ⟨RX5, "keyAt", "(II)I"⟩
abbrev cX5_takeOut : ByteArray := prog_7_method_4_code
def yX5_takeOut : MethodName := ⟨RX5, "takeOut", "(I)V"⟩
abbrev cX5_append : ByteArray := prog_7_method_5_code
def yX5_append : MethodName := ⟨RX5, "append", "(II)V"⟩
abbrev cX5_moveToLast : ByteArray := prog_7_method_6_code
def yX5_moveToLast : MethodName := ⟨RX5, "moveToLast", "(II)V"⟩
abbrev cX5_moveFirst : ByteArray := prog_7_method_7_code
def yX5_moveFirst : MethodName := ⟨RX5, "moveFirst", "(II)V"⟩
abbrev cX5_dropFirst : ByteArray := prog_7_method_8_code
def yX5_dropFirst : MethodName := ⟨RX5, "dropFirst", "(I)V"⟩
abbrev cX5_appearancesOf : ByteArray := prog_7_method_9_code
def yX5_appearancesOf : MethodName := ⟨RX5, "appearancesOf", "(I)I"⟩
abbrev cX5_countedUnits : ByteArray := prog_7_method_10_code
def yX5_countedUnits : MethodName := ⟨RX5, "countedUnits", "(I)I"⟩
abbrev cX5_copyFrom : ByteArray := prog_7_method_11_code
def yX5_copyFrom : MethodName := ⟨RX5, "copyFrom", "(LSketchCache$Rows;)V"⟩
def RX6 : String := "SketchCache$Seats"
def TX6 : u_T := fun k => match k with
  | 0 => ("SketchCache$Seats", "leaver", "I", true)
  | 1 => ("SketchCache$Seats", "keys", "[I", true)
  | 2 => ("SketchCache$Seats", "came", "[I", true)
  | 3 => ("SketchCache$Seats", "used", "[I", true)
  | 4 => ("SketchCache$Seats", "uses", "[I", true)
  | 5 => ("SketchCache$Seats", "next", "[I", true)
  | 6 => ("SketchCache$Seats", "marks", "[I", true)
  | 7 => ("SketchCache$Seats", "seats", "I", false)
  | 8 => ("SketchCache$Seats", "taken", "I", false)
  | _ => ("SketchCache$Seats", "hand", "I", false)
def tyX6 : Nat → FieldType := fun k => match k with
  | 0 => .int
  | 1 => .array .int
  | 2 => .array .int
  | 3 => .array .int
  | 4 => .array .int
  | 5 => .array .int
  | 6 => .array .int
  | 7 => .int
  | 8 => .int
  | _ => .int
abbrev wsX60 : List Cond := u_ws RX6 TX6 10
theorem nmX6 : ∀ a, a < 10 → ∀ b, b < 10 → a ≠ b → (TX6 a).2.1 ≠ (TX6 b).2.1 := by decide +kernel
theorem tyX6_ok : ∀ k, k < 10 → parseFieldDescriptor (TX6 k).2.2.1 = some (tyX6 k) := by decide +kernel
abbrev cX6_init : ByteArray := prog_8_method_1_code
def yX6_init : MethodName := ⟨RX6, "<init>", "(I)V"⟩
abbrev cX6_begin : ByteArray := prog_8_method_2_code
def yX6_begin : MethodName := ⟨RX6, "begin", "(I)V"⟩
abbrev cX6_asks : ByteArray := prog_8_method_3_code
def yX6_asks : MethodName := ⟨RX6, "asks", "(III)Z"⟩
abbrev cX6_holds : ByteArray := prog_8_method_4_code
def yX6_holds : MethodName := ⟨RX6, "holds", "(I)Z"⟩
abbrev cX6_seatOf : ByteArray := prog_8_method_5_code
def yX6_seatOf : MethodName := ⟨RX6, "seatOf", "(I)I"⟩
abbrev cX6_freeSeat : ByteArray := prog_8_method_6_code
def yX6_freeSeat : MethodName := ⟨RX6, "freeSeat", "()I"⟩
abbrev cX6_seatByHand : ByteArray := prog_8_method_7_code
def yX6_seatByHand : MethodName := ⟨RX6, "seatByHand", "()I"⟩
abbrev cX6_nextSeat : ByteArray := prog_8_method_8_code
def yX6_nextSeat : MethodName := ⟨RX6, "nextSeat", "(I)I"⟩
abbrev cX6_seatByRank : ByteArray := prog_8_method_9_code
def yX6_seatByRank : MethodName := ⟨RX6, "seatByRank", "()I"⟩
abbrev cX6_goesBefore : ByteArray := prog_8_method_10_code
def yX6_goesBefore : MethodName := ⟨RX6, "goesBefore", "(II)Z"⟩
def RX7 : String := "SketchCache$Sketch"
def TX7 : u_T := fun k => match k with
  | 0 => ("SketchCache$Sketch", "counters", "[[I", true)
  | 1 => ("SketchCache$Sketch", "bits", "[I", true)
  | 2 => ("SketchCache$Sketch", "places", "[[I", true)
  | 3 => ("SketchCache$Sketch", "doorBits", "[[I", true)
  | 4 => ("SketchCache$Sketch", "addedSince", "[I", true)
  | 5 => ("SketchCache$Sketch", "rows", "I", true)
  | 6 => ("SketchCache$Sketch", "doorInUse", "I", false)
  | 7 => ("SketchCache$Sketch", "careful", "I", false)
  | 8 => ("SketchCache$Sketch", "sample", "I", false)
  | 9 => ("SketchCache$Sketch", "added", "I", false)
  | _ => ("SketchCache$Sketch", "aged", "I", false)
def tyX7 : Nat → FieldType := fun k => match k with
  | 0 => .array (.array .int)
  | 1 => .array .int
  | 2 => .array (.array .int)
  | 3 => .array (.array .int)
  | 4 => .array .int
  | 5 => .int
  | 6 => .int
  | 7 => .int
  | 8 => .int
  | 9 => .int
  | _ => .int
abbrev wsX70 : List Cond := u_ws RX7 TX7 11
theorem nmX7 : ∀ a, a < 11 → ∀ b, b < 11 → a ≠ b → (TX7 a).2.1 ≠ (TX7 b).2.1 := by decide +kernel
theorem tyX7_ok : ∀ k, k < 11 → parseFieldDescriptor (TX7 k).2.2.1 = some (tyX7 k) := by decide +kernel
abbrev cX7_init : ByteArray := prog_9_method_1_code
def yX7_init : MethodName := ⟨RX7, "<init>", "(I)V"⟩
abbrev cX7_tellPlace : ByteArray := prog_9_method_2_code
def yX7_tellPlace : MethodName := ⟨RX7, "tellPlace", "(III)I"⟩
abbrev cX7_tellBit : ByteArray := prog_9_method_3_code
def yX7_tellBit : MethodName := ⟨RX7, "tellBit", "(III)I"⟩
abbrev cX7_tellDoorInUse : ByteArray := prog_9_method_4_code
def yX7_tellDoorInUse : MethodName := ⟨RX7, "tellDoorInUse", "(I)I"⟩
abbrev cX7_tellCareful : ByteArray := prog_9_method_5_code
def yX7_tellCareful : MethodName := ⟨RX7, "tellCareful", "(I)I"⟩
abbrev cX7_tellSample : ByteArray := prog_9_method_6_code
def yX7_tellSample : MethodName := ⟨RX7, "tellSample", "(I)I"⟩
abbrev cX7_forgetIfChanged : ByteArray := prog_9_method_7_code
def yX7_forgetIfChanged : MethodName := ⟨RX7, "forgetIfChanged", "(II)V"⟩
abbrev cX7_put : ByteArray := prog_9_method_8_code
def yX7_put : MethodName := ⟨RX7, "put", "(I)V"⟩
abbrev cX7_isPastDoor : ByteArray := prog_9_method_9_code
def yX7_isPastDoor : MethodName := ⟨RX7, "isPastDoor", "(I)Z"⟩
abbrev cX7_growCounters : ByteArray := prog_9_method_10_code
def yX7_growCounters : MethodName := ⟨RX7, "growCounters", "(I)V"⟩
abbrev cX7_smallestCounter : ByteArray := prog_9_method_11_code
def yX7_smallestCounter : MethodName := ⟨RX7, "smallestCounter", "(I)I"⟩
abbrev cX7_age : ByteArray := prog_9_method_12_code
def yX7_age : MethodName := ⟨RX7, "age", "()V"⟩
abbrev cX7_guess : ByteArray := prog_9_method_13_code
def yX7_guess : MethodName := ⟨RX7, "guess", "(I)I"⟩
abbrev cX7_isSound : ByteArray := prog_9_method_14_code
def yX7_isSound : MethodName := ⟨RX7, "isSound", "()Z"⟩
abbrev cX7_copyFrom : ByteArray := prog_9_method_15_code
def yX7_copyFrom : MethodName := ⟨RX7, "copyFrom", "(LSketchCache$Sketch;)V"⟩
def RX8 : String := "SketchCache$State"
def TX8 : u_T := fun k => match k with
  | 0 => ("SketchCache$State", "cache", "LSketchCache$Cache;", true)
  | 1 => ("SketchCache$State", "trace", "LSketchCache$Trace;", true)
  | 2 => ("SketchCache$State", "climb", "LSketchCache$Climb;", true)
  | 3 => ("SketchCache$State", "accesses", "I", false)
  | _ => ("SketchCache$State", "hits", "I", false)
def tyX8 : Nat → FieldType := fun k => match k with
  | 0 => .object "SketchCache$Cache"
  | 1 => .object "SketchCache$Trace"
  | 2 => .object "SketchCache$Climb"
  | 3 => .int
  | _ => .int
abbrev wsX80 : List Cond := u_ws RX8 TX8 5
theorem nmX8 : ∀ a, a < 5 → ∀ b, b < 5 → a ≠ b → (TX8 a).2.1 ≠ (TX8 b).2.1 := by decide +kernel
theorem tyX8_ok : ∀ k, k < 5 → parseFieldDescriptor (TX8 k).2.2.1 = some (tyX8 k) := by decide +kernel
abbrev cX8_init : ByteArray := prog_10_method_1_code
def yX8_init : MethodName := ⟨RX8, "<init>", "(III)V"⟩
abbrev cX8_visit : ByteArray := prog_10_method_2_code
def yX8_visit : MethodName := ⟨RX8, "visit", "(I)I"⟩
abbrev cX8_tellRule : ByteArray := prog_10_method_3_code
def yX8_tellRule : MethodName := ⟨RX8, "tellRule", "(II)I"⟩
abbrev cX8_tellAbout : ByteArray := prog_10_method_4_code
def yX8_tellAbout : MethodName := ⟨RX8, "tellAbout", "(I)I"⟩
abbrev cX8_copyFrom : ByteArray := prog_10_method_5_code
def yX8_copyFrom : MethodName := ⟨RX8, "copyFrom", "(LSketchCache$State;)V"⟩
def RX9 : String := "SketchCache$Trace"
def TX9 : u_T := fun k => match k with
  | 0 => ("SketchCache$Trace", "ring", "[I", true)
  | 1 => ("SketchCache$Trace", "earliest", "I", false)
  | _ => ("SketchCache$Trace", "count", "I", false)
def tyX9 : Nat → FieldType := fun k => match k with
  | 0 => .array .int
  | 1 => .int
  | _ => .int
abbrev wsX90 : List Cond := u_ws RX9 TX9 3
theorem nmX9 : ∀ a, a < 3 → ∀ b, b < 3 → a ≠ b → (TX9 a).2.1 ≠ (TX9 b).2.1 := by decide +kernel
theorem tyX9_ok : ∀ k, k < 3 → parseFieldDescriptor (TX9 k).2.2.1 = some (tyX9 k) := by decide +kernel
abbrev cX9_init : ByteArray := prog_11_method_1_code
def yX9_init : MethodName := ⟨RX9, "<init>", "()V"⟩
abbrev cX9_note : ByteArray := prog_11_method_2_code
def yX9_note : MethodName := ⟨RX9, "note", "(I)V"⟩
abbrev cX9_keyAt : ByteArray := prog_11_method_3_code
def yX9_keyAt : MethodName := ⟨RX9, "keyAt", "(I)I"⟩
abbrev cX9_copyFrom : ByteArray := prog_11_method_4_code
def yX9_copyFrom : MethodName := ⟨RX9, "copyFrom", "(LSketchCache$Trace;)V"⟩
def RX10 : String := "SketchCache"
def TX10 : u_T := fun k => match k with
  | 0 => ("SketchCache", "sketchRows", "I", true)
  | 1 => ("SketchCache", "capacity", "I", true)
  | 2 => ("SketchCache", "firstWindow", "I", true)
  | 3 => ("SketchCache", "now", "LSketchCache$State;", true)
  | 4 => ("SketchCache", "saved", "[LSketchCache$State;", true)
  | _ => ("SketchCache", "player", "LSketchCache$Player;", true)
def tyX10 : Nat → FieldType := fun k => match k with
  | 0 => .int
  | 1 => .int
  | 2 => .int
  | 3 => .object "SketchCache$State"
  | 4 => .array (.object "SketchCache$State")
  | _ => .object "SketchCache$Player"
abbrev wsX100 : List Cond := u_ws RX10 TX10 6
theorem nmX10 : ∀ a, a < 6 → ∀ b, b < 6 → a ≠ b → (TX10 a).2.1 ≠ (TX10 b).2.1 := by decide +kernel
theorem tyX10_ok : ∀ k, k < 6 → parseFieldDescriptor (TX10 k).2.2.1 = some (tyX10 k) := by decide +kernel
abbrev cX10_init : ByteArray := prog_1_method_1_code
def yX10_init : MethodName := ⟨RX10, "<init>", "(III)V"⟩
abbrev cX10_place : ByteArray := prog_1_method_2_code
def yX10_place : MethodName := ⟨RX10, "place", "(III)I"⟩
abbrev cX10_door : ByteArray := prog_1_method_3_code
def yX10_door : MethodName := ⟨RX10, "door", "(III)I"⟩
abbrev cX10_rule : ByteArray := prog_1_method_4_code
def yX10_rule : MethodName := ⟨RX10, "rule", "(II)I"⟩
abbrev cX10_size : ByteArray := prog_1_method_5_code
def yX10_size : MethodName := ⟨RX10, "size", "(II)I"⟩
abbrev cX10_access : ByteArray := prog_1_method_6_code
def yX10_access : MethodName := ⟨RX10, "access", "(I)I"⟩
abbrev cX10_run : ByteArray := prog_1_method_7_code
def yX10_run : MethodName := ⟨RX10, "run", "(III)I"⟩
abbrev cX10_add : ByteArray := prog_1_method_8_code
def yX10_add : MethodName := ⟨RX10, "add", "(I)I"⟩
abbrev cX10_estimate : ByteArray := prog_1_method_9_code
def yX10_estimate : MethodName := ⟨RX10, "estimate", "(I)I"⟩
abbrev cX10_counter : ByteArray := prog_1_method_10_code
def yX10_counter : MethodName := ⟨RX10, "counter", "(II)I"⟩
abbrev cX10_bit : ByteArray := prog_1_method_11_code
def yX10_bit : MethodName := ⟨RX10, "bit", "(I)I"⟩
abbrev cX10_remove : ByteArray := prog_1_method_12_code
def yX10_remove : MethodName := ⟨RX10, "remove", "(I)I"⟩
abbrev cX10_where : ByteArray := prog_1_method_13_code
def yX10_where : MethodName := ⟨RX10, "where", "(I)I"⟩
abbrev cX10_key : ByteArray := prog_1_method_14_code
def yX10_key : MethodName := ⟨RX10, "key", "(II)I"⟩
abbrev cX10_about : ByteArray := prog_1_method_15_code
def yX10_about : MethodName := ⟨RX10, "about", "(I)I"⟩
abbrev cX10_trace : ByteArray := prog_1_method_16_code
def yX10_trace : MethodName := ⟨RX10, "trace", "(I)I"⟩
abbrev cX10_replay : ByteArray := prog_1_method_17_code
def yX10_replay : MethodName := ⟨RX10, "replay", "(IIII)I"⟩
abbrev cX10_kept : ByteArray := prog_1_method_18_code
def yX10_kept : MethodName := ⟨RX10, "kept", "(I)I"⟩
abbrev cX10_save : ByteArray := prog_1_method_19_code
def yX10_save : MethodName := ⟨RX10, "save", "(I)I"⟩
abbrev cX10_load : ByteArray := prog_1_method_20_code
def yX10_load : MethodName := ⟨RX10, "load", "(I)I"⟩
abbrev cX10_sound : ByteArray := prog_1_method_21_code
def yX10_sound : MethodName := ⟨RX10, "sound", "()I"⟩
abbrev cX10_isKey : ByteArray := prog_1_method_22_code
def yX10_isKey : MethodName := ⟨RX10, "isKey", "(I)Z"⟩
def RX11 : String := "SketchCacheModel"
def TX11 : u_T := fun k => match k with
  | 0 => ("SketchCacheModel", "rows", "I", true)
  | 1 => ("SketchCacheModel", "capacity", "I", true)
  | 2 => ("SketchCacheModel", "now", "[I", true)
  | 3 => ("SketchCacheModel", "saved", "[I", true)
  | 4 => ("SketchCacheModel", "isSaved", "[Z", true)
  | 5 => ("SketchCacheModel", "kept", "[I", true)
  | 6 => ("SketchCacheModel", "keptCount", "I", false)
  | 7 => ("SketchCacheModel", "seats", "[I", true)
  | 8 => ("SketchCacheModel", "marked", "[Z", true)
  | 9 => ("SketchCacheModel", "uses", "[I", true)
  | 10 => ("SketchCacheModel", "used", "[I", true)
  | 11 => ("SketchCacheModel", "came", "[I", true)
  | 12 => ("SketchCacheModel", "sitting", "I", false)
  | 13 => ("SketchCacheModel", "hand", "I", false)
  | 14 => ("SketchCacheModel", "four", "[I", true)
  | 15 => ("SketchCacheModel", "many", "[I", true)
  | _ => ("SketchCacheModel", "goal", "I", false)
def tyX11 : Nat → FieldType := fun k => match k with
  | 0 => .int
  | 1 => .int
  | 2 => .array .int
  | 3 => .array .int
  | 4 => .array .boolean
  | 5 => .array .int
  | 6 => .int
  | 7 => .array .int
  | 8 => .array .boolean
  | 9 => .array .int
  | 10 => .array .int
  | 11 => .array .int
  | 12 => .int
  | 13 => .int
  | 14 => .array .int
  | 15 => .array .int
  | _ => .int
abbrev wsX110 : List Cond := u_ws RX11 TX11 17
theorem nmX11 : ∀ a, a < 17 → ∀ b, b < 17 → a ≠ b → (TX11 a).2.1 ≠ (TX11 b).2.1 := by decide +kernel
theorem tyX11_ok : ∀ k, k < 17 → parseFieldDescriptor (TX11 k).2.2.1 = some (tyX11 k) := by decide +kernel
abbrev cX11_init : ByteArray := prog_13_method_1_code
def yX11_init : MethodName := ⟨RX11, "<init>", "(III)V"⟩
abbrev cX11_within : ByteArray := prog_13_method_2_code
def yX11_within : MethodName := ⟨RX11, "within", "(III)I"⟩
abbrev cX11_in : ByteArray := prog_13_method_3_code
def yX11_in : MethodName := ⟨RX11, "in", "(III)Z"⟩
abbrev cX11_isKey : ByteArray := prog_13_method_4_code
def yX11_isKey : MethodName := ⟨RX11, "isKey", "(I)Z"⟩
abbrev cX11_setWindow : ByteArray := prog_13_method_5_code
def yX11_setWindow : MethodName := ⟨RX11, "setWindow", "(I)V"⟩
abbrev cX11_forgetTimes : ByteArray := prog_13_method_6_code
def yX11_forgetTimes : MethodName := ⟨RX11, "forgetTimes", "()V"⟩
abbrev cX11_place : ByteArray := prog_13_method_7_code
def yX11_place : MethodName := ⟨RX11, "place", "(III)I"⟩
abbrev cX11_door : ByteArray := prog_13_method_8_code
def yX11_door : MethodName := ⟨RX11, "door", "(III)I"⟩
abbrev cX11_rule : ByteArray := prog_13_method_9_code
def yX11_rule : MethodName := ⟨RX11, "rule", "(II)I"⟩
abbrev cX11_size : ByteArray := prog_13_method_10_code
def yX11_size : MethodName := ⟨RX11, "size", "(II)I"⟩
abbrev cX11_cell : ByteArray := prog_13_method_11_code
def yX11_cell : MethodName := ⟨RX11, "cell", "(II)I"⟩
abbrev cX11_isThrough : ByteArray := prog_13_method_12_code
def yX11_isThrough : MethodName := ⟨RX11, "isThrough", "(I)Z"⟩
abbrev cX11_smallest : ByteArray := prog_13_method_13_code
def yX11_smallest : MethodName := ⟨RX11, "smallest", "(I)I"⟩
abbrev cX11_estimated : ByteArray := prog_13_method_14_code
def yX11_estimated : MethodName := ⟨RX11, "estimated", "(I)I"⟩
abbrev cX11_count : ByteArray := prog_13_method_15_code
def yX11_count : MethodName := ⟨RX11, "count", "(I)V"⟩
abbrev cX11_length : ByteArray := prog_13_method_16_code
def yX11_length : MethodName := ⟨RX11, "length", "(I)I"⟩
abbrev cX11_keyAt : ByteArray := prog_13_method_17_code
def yX11_keyAt : MethodName := ⟨RX11, "keyAt", "(II)I"⟩
abbrev cX11_indexOf : ByteArray := prog_13_method_18_code
def yX11_indexOf : MethodName := ⟨RX11, "indexOf", "(II)I"⟩
abbrev cX11_partOf : ByteArray := prog_13_method_19_code
def yX11_partOf : MethodName := ⟨RX11, "partOf", "(I)I"⟩
abbrev cX11_units : ByteArray := prog_13_method_20_code
def yX11_units : MethodName := ⟨RX11, "units", "(I)I"⟩
abbrev cX11_inMain : ByteArray := prog_13_method_21_code
def yX11_inMain : MethodName := ⟨RX11, "inMain", "()I"⟩
abbrev cX11_append : ByteArray := prog_13_method_22_code
def yX11_append : MethodName := ⟨RX11, "append", "(II)V"⟩
abbrev cX11_take : ByteArray := prog_13_method_23_code
def yX11_take : MethodName := ⟨RX11, "take", "(II)I"⟩
abbrev cX11_settle : ByteArray := prog_13_method_24_code
def yX11_settle : MethodName := ⟨RX11, "settle", "()V"⟩
abbrev cX11_overflow : ByteArray := prog_13_method_25_code
def yX11_overflow : MethodName := ⟨RX11, "overflow", "()V"⟩
abbrev cX11_candidate : ByteArray := prog_13_method_26_code
def yX11_candidate : MethodName := ⟨RX11, "candidate", "(I)V"⟩
abbrev cX11_together : ByteArray := prog_13_method_27_code
def yX11_together : MethodName := ⟨RX11, "together", "(II)V"⟩
abbrev cX11_accessed : ByteArray := prog_13_method_28_code
def yX11_accessed : MethodName := ⟨RX11, "accessed", "(I)I"⟩
abbrev cX11_climb : ByteArray := prog_13_method_29_code
def yX11_climb : MethodName := ⟨RX11, "climb", "()V"⟩
abbrev cX11_access : ByteArray := prog_13_method_30_code
def yX11_access : MethodName := ⟨RX11, "access", "(I)I"⟩
abbrev cX11_run : ByteArray := prog_13_method_31_code
def yX11_run : MethodName := ⟨RX11, "run", "(III)I"⟩
abbrev cX11_add : ByteArray := prog_13_method_32_code
def yX11_add : MethodName := ⟨RX11, "add", "(I)I"⟩
abbrev cX11_estimate : ByteArray := prog_13_method_33_code
def yX11_estimate : MethodName := ⟨RX11, "estimate", "(I)I"⟩
abbrev cX11_counter : ByteArray := prog_13_method_34_code
def yX11_counter : MethodName := ⟨RX11, "counter", "(II)I"⟩
abbrev cX11_bit : ByteArray := prog_13_method_35_code
def yX11_bit : MethodName := ⟨RX11, "bit", "(I)I"⟩
abbrev cX11_remove : ByteArray := prog_13_method_36_code
def yX11_remove : MethodName := ⟨RX11, "remove", "(I)I"⟩
abbrev cX11_where : ByteArray := prog_13_method_37_code
def yX11_where : MethodName := ⟨RX11, "where", "(I)I"⟩
abbrev cX11_key : ByteArray := prog_13_method_38_code
def yX11_key : MethodName := ⟨RX11, "key", "(II)I"⟩
abbrev cX11_about : ByteArray := prog_13_method_39_code
def yX11_about : MethodName := ⟨RX11, "about", "(I)I"⟩
abbrev cX11_trace : ByteArray := prog_13_method_40_code
def yX11_trace : MethodName := ⟨RX11, "trace", "(I)I"⟩
abbrev cX11_seatOf : ByteArray := prog_13_method_41_code
def yX11_seatOf : MethodName := ⟨RX11, "seatOf", "(I)I"⟩
abbrev cX11_again : ByteArray := prog_13_method_42_code
def yX11_again : MethodName := ⟨RX11, "again", "(III)I"⟩
abbrev cX11_isSooner : ByteArray := prog_13_method_43_code
def yX11_isSooner : MethodName := ⟨RX11, "isSooner", "(IIIII)Z"⟩
abbrev cX11_seatThatGoes : ByteArray := prog_13_method_44_code
def yX11_seatThatGoes : MethodName := ⟨RX11, "seatThatGoes", "(IIII)I"⟩
abbrev cX11_played : ByteArray := prog_13_method_45_code
def yX11_played : MethodName := ⟨RX11, "played", "(IIII)I"⟩
abbrev cX11_indexIn : ByteArray := prog_13_method_46_code
def yX11_indexIn : MethodName := ⟨RX11, "indexIn", "(II)I"⟩
abbrev cX11_join : ByteArray := prog_13_method_47_code
def yX11_join : MethodName := ⟨RX11, "join", "(II)V"⟩
abbrev cX11_leave : ByteArray := prog_13_method_48_code
def yX11_leave : MethodName := ⟨RX11, "leave", "(II)I"⟩
abbrev cX11_makeRoom : ByteArray := prog_13_method_49_code
def yX11_makeRoom : MethodName := ⟨RX11, "makeRoom", "(Z)V"⟩
abbrev cX11_otherKey : ByteArray := prog_13_method_50_code
def yX11_otherKey : MethodName := ⟨RX11, "otherKey", "(II)V"⟩
abbrev cX11_balanced : ByteArray := prog_13_method_51_code
def yX11_balanced : MethodName := ⟨RX11, "balanced", "(III)I"⟩
abbrev cX11_replay : ByteArray := prog_13_method_52_code
def yX11_replay : MethodName := ⟨RX11, "replay", "(IIII)I"⟩
abbrev cX11_kept : ByteArray := prog_13_method_53_code
def yX11_kept : MethodName := ⟨RX11, "kept", "(I)I"⟩
abbrev cX11_save : ByteArray := prog_13_method_54_code
def yX11_save : MethodName := ⟨RX11, "save", "(I)I"⟩
abbrev cX11_load : ByteArray := prog_13_method_55_code
def yX11_load : MethodName := ⟨RX11, "load", "(I)I"⟩
abbrev cX11_sound : ByteArray := prog_13_method_56_code
def yX11_sound : MethodName := ⟨RX11, "sound", "()I"⟩
def RJ9 : String := "java/lang/Math"
def TJ9 : u_T := fun k => match k with
  | _ => ("", "", "", false)
def tyJ9 : Nat → FieldType := fun k => match k with
  | _ => .int
abbrev wsJ90 : List Cond := u_ws RJ9 TJ9 0
theorem nmJ9 : ∀ a, a < 0 → ∀ b, b < 0 → a ≠ b → (TJ9 a).2.1 ≠ (TJ9 b).2.1 := by decide +kernel
theorem tyJ9_ok : ∀ k, k < 0 → parseFieldDescriptor (TJ9 k).2.2.1 = some (tyJ9 k) := by decide +kernel
abbrev cJ9_max_7cf53 : ByteArray := prog_14_method_65_code
def yJ9_max_7cf53 : MethodName := ⟨RJ9, "max", "(II)I"⟩
abbrev cJ9_min_7cf53 : ByteArray := prog_14_method_69_code
def yJ9_min_7cf53 : MethodName := ⟨RJ9, "min", "(II)I"⟩
def RJ10 : String := "java/lang/System"
def TJ10 : u_T := fun k => match k with
  | _ => ("", "", "", false)
def tyJ10 : Nat → FieldType := fun k => match k with
  | _ => .int
abbrev wsJ100 : List Cond := u_ws RJ10 TJ10 0
theorem nmJ10 : ∀ a, a < 0 → ∀ b, b < 0 → a ≠ b → (TJ10 a).2.1 ≠ (TJ10 b).2.1 := by decide +kernel
theorem tyJ10_ok : ∀ k, k < 0 → parseFieldDescriptor (TJ10 k).2.2.1 = some (tyJ10 k) := by decide +kernel
def RJ7 : String := "java/util/Arrays"
def TJ7 : u_T := fun k => match k with
  | _ => ("", "", "", false)
def tyJ7 : Nat → FieldType := fun k => match k with
  | _ => .int
abbrev wsJ70 : List Cond := u_ws RJ7 TJ7 0
theorem nmJ7 : ∀ a, a < 0 → ∀ b, b < 0 → a ≠ b → (TJ7 a).2.1 ≠ (TJ7 b).2.1 := by decide +kernel
theorem tyJ7_ok : ∀ k, k < 0 → parseFieldDescriptor (TJ7 k).2.2.1 = some (tyJ7 k) := by decide +kernel
abbrev cJ7_fill_53178 : ByteArray := prog_16_method_103_code
def yJ7_fill_53178 : MethodName := ⟨RJ7, "fill", "([II)V"⟩
def RL : String := "SketchCacheLaw"
abbrev cL_cell : ByteArray := method_2_code
def yL_cell : MethodName := ⟨RL, "cell", "([II)I"⟩
abbrev cL_law : ByteArray := code
def yL_law : MethodName := ⟨RL, "law", "([I)Z"⟩
abbrev vwCl : List vw_C := [(RX0, TX0, 6), (RX1, TX1, 6), (RX2, TX2, 3), (RX3, TX3, 5), (RX5, TX5, 5), (RX6, TX6, 10), (RX7, TX7, 11), (RX8, TX8, 5), (RX9, TX9, 3), (RX10, TX10, 6), (RX11, TX11, 17)]
end
section
/-- the words that stay good at every later state -/
def tk_tb : List Cond := lw_tbl.filter goodWord
theorem tk_in {w : Cond} (h : w ∈ lw_tbl) (hg : goodWord w = true) : w ∈ tk_tb := List.mem_filter.mpr ⟨h, hg⟩
theorem tk_good : ∀ w ∈ tk_tb, w ∈ lw_tbl ∧ ((w.onTables && w.keeps) = true ∨ ∃ ty, w = .arrayClass ty) := fun w h => ⟨(List.mem_filter.mp h).1, good_of_word (List.mem_filter.mp h).2⟩
set_option maxRecDepth 20000 in
theorem t_0 : (Jvm.Cond.initialized "SketchCacheLaw") ∈ tk_tb := tk_in (List.mem_append_right _ (List.mem_of_getElem? (i := 0) (by decide +kernel))) rfl
set_option maxRecDepth 20000 in
theorem t_1 : (Jvm.Cond.initialized "SketchCache") ∈ tk_tb := tk_in (List.mem_append_right _ (List.mem_of_getElem? (i := 1) (by decide +kernel))) rfl
set_option maxRecDepth 20000 in
theorem t_2 : (Jvm.Cond.initialized "SketchCache$Player") ∈ tk_tb := tk_in (List.mem_append_right _ (List.mem_of_getElem? (i := 2) (by decide +kernel))) rfl
set_option maxRecDepth 20000 in
theorem t_3 : (Jvm.Cond.initialized "SketchCache$Policy") ∈ tk_tb := tk_in (List.mem_append_right _ (List.mem_of_getElem? (i := 3) (by decide +kernel))) rfl
set_option maxRecDepth 20000 in
theorem t_4 : (Jvm.Cond.initialized "SketchCache$Seats") ∈ tk_tb := tk_in (List.mem_append_right _ (List.mem_of_getElem? (i := 4) (by decide +kernel))) rfl
set_option maxRecDepth 20000 in
theorem t_5 : (Jvm.Cond.initialized "SketchCache$FourRows") ∈ tk_tb := tk_in (List.mem_append_right _ (List.mem_of_getElem? (i := 5) (by decide +kernel))) rfl
set_option maxRecDepth 20000 in
theorem t_6 : (Jvm.Cond.initialized "SketchCache$Rows") ∈ tk_tb := tk_in (List.mem_append_right _ (List.mem_of_getElem? (i := 6) (by decide +kernel))) rfl
set_option maxRecDepth 20000 in
theorem t_7 : (Jvm.Cond.initialized "java/lang/Math") ∈ tk_tb := tk_in (List.mem_append_right _ (List.mem_of_getElem? (i := 7) (by decide +kernel))) rfl
set_option maxRecDepth 20000 in
theorem t_8 : (Jvm.Cond.initialized "java/util/Arrays") ∈ tk_tb := tk_in (List.mem_append_right _ (List.mem_of_getElem? (i := 8) (by decide +kernel))) rfl
set_option maxRecDepth 20000 in
theorem t_9 : (Jvm.Cond.initialized "SketchCache$State") ∈ tk_tb := tk_in (List.mem_append_right _ (List.mem_of_getElem? (i := 9) (by decide +kernel))) rfl
set_option maxRecDepth 20000 in
theorem t_10 : (Jvm.Cond.initialized "SketchCache$Trace") ∈ tk_tb := tk_in (List.mem_append_right _ (List.mem_of_getElem? (i := 10) (by decide +kernel))) rfl
set_option maxRecDepth 20000 in
theorem t_11 : (Jvm.Cond.initialized "SketchCache$Climb") ∈ tk_tb := tk_in (List.mem_append_right _ (List.mem_of_getElem? (i := 11) (by decide +kernel))) rfl
set_option maxRecDepth 20000 in
theorem t_12 : (Jvm.Cond.initialized "SketchCache$Cache") ∈ tk_tb := tk_in (List.mem_append_right _ (List.mem_of_getElem? (i := 12) (by decide +kernel))) rfl
set_option maxRecDepth 20000 in
theorem t_13 : (Jvm.Cond.initialized "SketchCache$Sketch") ∈ tk_tb := tk_in (List.mem_append_right _ (List.mem_of_getElem? (i := 13) (by decide +kernel))) rfl
set_option maxRecDepth 20000 in
theorem t_14 : (Jvm.Cond.initialized "SketchCacheModel") ∈ tk_tb := tk_in (List.mem_append_right _ (List.mem_of_getElem? (i := 14) (by decide +kernel))) rfl
set_option maxRecDepth 20000 in
theorem t_15 : (Jvm.Cond.initialized "java/lang/System") ∈ tk_tb := tk_in (List.mem_append_right _ (List.mem_of_getElem? (i := 15) (by decide +kernel))) rfl
set_option maxRecDepth 20000 in
theorem t_16 : (Jvm.Cond.classLink "SketchCacheLaw" (7 : Nat) "SketchCache") ∈ tk_tb := tk_in (List.mem_append_right _ (List.mem_of_getElem? (i := 16) (by decide +kernel))) rfl
set_option maxRecDepth 20000 in
theorem t_17 : (Jvm.Cond.instantiable "SketchCache" (6 : Nat)) ∈ tk_tb := tk_in (List.mem_append_right _ (List.mem_of_getElem? (i := 17) (by decide +kernel))) rfl
set_option maxRecDepth 20000 in
theorem t_18 : (Jvm.Cond.methodLink "SketchCacheLaw" (15 : Nat) ({ cls := "SketchCache", name := "<init>", desc := "(III)V" } : Jvm.MethodName)) ∈ tk_tb := tk_in (List.mem_append_right _ (List.mem_of_getElem? (i := 18) (by decide +kernel))) rfl
set_option maxRecDepth 20000 in
theorem t_19 : (Jvm.Cond.instanceMethod ({ cls := "SketchCache", name := "<init>", desc := "(III)V" } : Jvm.MethodName)) ∈ tk_tb := tk_in (List.mem_append_right _ (List.mem_of_getElem? (i := 19) (by decide +kernel))) rfl
set_option maxRecDepth 20000 in
theorem t_20 : (Jvm.Cond.code ({ cls := "SketchCache", name := "<init>", desc := "(III)V" } : Jvm.MethodName) prog_1_method_1_code (4 : Nat) (Option.none : Option Jvm.ClassFile.FieldType)) ∈ tk_tb := tk_in (List.mem_append_right _ (List.mem_of_getElem? (i := 20) (rfl))) rfl
set_option maxRecDepth 20000 in
theorem t_21 : (Jvm.Cond.methodLink "SketchCache" (1 : Nat) ({ cls := "java/lang/Object", name := "<init>", desc := "()V" } : Jvm.MethodName)) ∈ tk_tb := tk_in (List.mem_append_right _ (List.mem_of_getElem? (i := 21) (by decide +kernel))) rfl
set_option maxRecDepth 20000 in
theorem t_22 : (Jvm.Cond.instanceMethod ({ cls := "java/lang/Object", name := "<init>", desc := "()V" } : Jvm.MethodName)) ∈ tk_tb := tk_in (List.mem_append_right _ (List.mem_of_getElem? (i := 22) (by decide +kernel))) rfl
set_option maxRecDepth 20000 in
theorem t_23 : (Jvm.Cond.code ({ cls := "java/lang/Object", name := "<init>", desc := "()V" } : Jvm.MethodName) object_method_1_code (1 : Nat) (Option.none : Option Jvm.ClassFile.FieldType)) ∈ tk_tb := tk_in (List.mem_append_right _ (List.mem_of_getElem? (i := 23) (rfl))) rfl
set_option maxRecDepth 20000 in
theorem t_24 : (Jvm.Cond.classLink "SketchCache" (9 : Nat) "SketchCache$State") ∈ tk_tb := tk_in (List.mem_append_right _ (List.mem_of_getElem? (i := 24) (by decide +kernel))) rfl
set_option maxRecDepth 20000 in
theorem q_25 : (Jvm.Cond.arrayOver (Jvm.ClassFile.FieldType.object "SketchCache$State")) ∈ lw_tbl := List.mem_append_right _ (List.mem_of_getElem? (i := 25) (by decide +kernel))
set_option maxRecDepth 20000 in
theorem t_26 : (Jvm.Cond.classLink "SketchCache" (15 : Nat) "SketchCache$Player") ∈ tk_tb := tk_in (List.mem_append_right _ (List.mem_of_getElem? (i := 26) (by decide +kernel))) rfl
set_option maxRecDepth 20000 in
theorem t_27 : (Jvm.Cond.instantiable "SketchCache$Player" (5 : Nat)) ∈ tk_tb := tk_in (List.mem_append_right _ (List.mem_of_getElem? (i := 27) (by decide +kernel))) rfl
set_option maxRecDepth 20000 in
theorem t_28 : (Jvm.Cond.methodLink "SketchCache" (17 : Nat) ({ cls := "SketchCache$Player", name := "<init>", desc := "()V" } : Jvm.MethodName)) ∈ tk_tb := tk_in (List.mem_append_right _ (List.mem_of_getElem? (i := 28) (by decide +kernel))) rfl
set_option maxRecDepth 20000 in
theorem t_29 : (Jvm.Cond.instanceMethod ({ cls := "SketchCache$Player", name := "<init>", desc := "()V" } : Jvm.MethodName)) ∈ tk_tb := tk_in (List.mem_append_right _ (List.mem_of_getElem? (i := 29) (by decide +kernel))) rfl
set_option maxRecDepth 20000 in
theorem t_30 : (Jvm.Cond.code ({ cls := "SketchCache$Player", name := "<init>", desc := "()V" } : Jvm.MethodName) prog_5_method_1_code (1 : Nat) (Option.none : Option Jvm.ClassFile.FieldType)) ∈ tk_tb := tk_in (List.mem_append_right _ (List.mem_of_getElem? (i := 30) (rfl))) rfl
set_option maxRecDepth 20000 in
theorem t_31 : (Jvm.Cond.methodLink "SketchCache$Player" (3 : Nat) ({ cls := "java/lang/Object", name := "<init>", desc := "()V" } : Jvm.MethodName)) ∈ tk_tb := tk_in (List.mem_append_right _ (List.mem_of_getElem? (i := 31) (by decide +kernel))) rfl
set_option maxRecDepth 20000 in
theorem t_32 : (Jvm.Cond.classLink "SketchCache$Player" (11 : Nat) "SketchCache$Policy") ∈ tk_tb := tk_in (List.mem_append_right _ (List.mem_of_getElem? (i := 32) (by decide +kernel))) rfl
set_option maxRecDepth 20000 in
theorem q_33 : (Jvm.Cond.arrayOver (Jvm.ClassFile.FieldType.object "SketchCache$Policy")) ∈ lw_tbl := List.mem_append_right _ (List.mem_of_getElem? (i := 33) (by decide +kernel))
set_option maxRecDepth 20000 in
theorem t_34 : (Jvm.Cond.classLink "SketchCache$Player" (31 : Nat) "SketchCache$Seats") ∈ tk_tb := tk_in (List.mem_append_right _ (List.mem_of_getElem? (i := 34) (by decide +kernel))) rfl
set_option maxRecDepth 20000 in
theorem t_35 : (Jvm.Cond.instantiable "SketchCache$Seats" (10 : Nat)) ∈ tk_tb := tk_in (List.mem_append_right _ (List.mem_of_getElem? (i := 35) (by decide +kernel))) rfl
set_option maxRecDepth 20000 in
theorem t_36 : (Jvm.Cond.methodLink "SketchCache$Player" (33 : Nat) ({ cls := "SketchCache$Seats", name := "<init>", desc := "(I)V" } : Jvm.MethodName)) ∈ tk_tb := tk_in (List.mem_append_right _ (List.mem_of_getElem? (i := 36) (by decide +kernel))) rfl
set_option maxRecDepth 20000 in
theorem t_37 : (Jvm.Cond.instanceMethod ({ cls := "SketchCache$Seats", name := "<init>", desc := "(I)V" } : Jvm.MethodName)) ∈ tk_tb := tk_in (List.mem_append_right _ (List.mem_of_getElem? (i := 37) (by decide +kernel))) rfl
set_option maxRecDepth 20000 in
theorem t_38 : (Jvm.Cond.code ({ cls := "SketchCache$Seats", name := "<init>", desc := "(I)V" } : Jvm.MethodName) prog_8_method_1_code (2 : Nat) (Option.none : Option Jvm.ClassFile.FieldType)) ∈ tk_tb := tk_in (List.mem_append_right _ (List.mem_of_getElem? (i := 38) (rfl))) rfl
set_option maxRecDepth 20000 in
theorem q_39 : (Jvm.Cond.methodLinkNest "SketchCache$Seats" (3 : Nat) ({ cls := "SketchCache$Policy", name := "<init>", desc := "()V" } : Jvm.MethodName) "SketchCache") ∈ lw_tbl := List.mem_append_right _ (List.mem_of_getElem? (i := 39) (by decide +kernel))
set_option maxRecDepth 20000 in
theorem t_40 : (Jvm.Cond.instanceMethod ({ cls := "SketchCache$Policy", name := "<init>", desc := "()V" } : Jvm.MethodName)) ∈ tk_tb := tk_in (List.mem_append_right _ (List.mem_of_getElem? (i := 40) (by decide +kernel))) rfl
set_option maxRecDepth 20000 in
theorem t_41 : (Jvm.Cond.code ({ cls := "SketchCache$Policy", name := "<init>", desc := "()V" } : Jvm.MethodName) prog_6_method_1_code (1 : Nat) (Option.none : Option Jvm.ClassFile.FieldType)) ∈ tk_tb := tk_in (List.mem_append_right _ (List.mem_of_getElem? (i := 41) (rfl))) rfl
set_option maxRecDepth 20000 in
theorem t_42 : (Jvm.Cond.methodLink "SketchCache$Policy" (1 : Nat) ({ cls := "java/lang/Object", name := "<init>", desc := "()V" } : Jvm.MethodName)) ∈ tk_tb := tk_in (List.mem_append_right _ (List.mem_of_getElem? (i := 42) (by decide +kernel))) rfl
set_option maxRecDepth 20000 in
theorem t_43 : (Jvm.Cond.fieldLink "SketchCache$Seats" (40 : Nat) "SketchCache$Seats" "leaver" "I") ∈ tk_tb := tk_in (List.mem_append_right _ (List.mem_of_getElem? (i := 43) (by decide +kernel))) rfl
set_option maxRecDepth 20000 in
theorem t_44 : (Jvm.Cond.fieldLink "SketchCache$Seats" (9 : Nat) "SketchCache$Seats" "keys" "[I") ∈ tk_tb := tk_in (List.mem_append_right _ (List.mem_of_getElem? (i := 44) (by decide +kernel))) rfl
set_option maxRecDepth 20000 in
theorem t_45 : (Jvm.Cond.fieldLink "SketchCache$Seats" (15 : Nat) "SketchCache$Seats" "came" "[I") ∈ tk_tb := tk_in (List.mem_append_right _ (List.mem_of_getElem? (i := 45) (by decide +kernel))) rfl
set_option maxRecDepth 20000 in
theorem t_46 : (Jvm.Cond.fieldLink "SketchCache$Seats" (18 : Nat) "SketchCache$Seats" "used" "[I") ∈ tk_tb := tk_in (List.mem_append_right _ (List.mem_of_getElem? (i := 46) (by decide +kernel))) rfl
set_option maxRecDepth 20000 in
theorem t_47 : (Jvm.Cond.fieldLink "SketchCache$Seats" (21 : Nat) "SketchCache$Seats" "uses" "[I") ∈ tk_tb := tk_in (List.mem_append_right _ (List.mem_of_getElem? (i := 47) (by decide +kernel))) rfl
set_option maxRecDepth 20000 in
theorem t_48 : (Jvm.Cond.fieldLink "SketchCache$Seats" (24 : Nat) "SketchCache$Seats" "next" "[I") ∈ tk_tb := tk_in (List.mem_append_right _ (List.mem_of_getElem? (i := 48) (by decide +kernel))) rfl
set_option maxRecDepth 20000 in
theorem t_49 : (Jvm.Cond.fieldLink "SketchCache$Seats" (27 : Nat) "SketchCache$Seats" "marks" "[I") ∈ tk_tb := tk_in (List.mem_append_right _ (List.mem_of_getElem? (i := 49) (by decide +kernel))) rfl
set_option maxRecDepth 20000 in
theorem t_50 : (Jvm.Cond.fieldLink "SketchCache$Seats" (30 : Nat) "SketchCache$Seats" "seats" "I") ∈ tk_tb := tk_in (List.mem_append_right _ (List.mem_of_getElem? (i := 50) (by decide +kernel))) rfl
set_option maxRecDepth 20000 in
theorem t_51 : (Jvm.Cond.fieldLink "SketchCache$Seats" (34 : Nat) "SketchCache$Seats" "taken" "I") ∈ tk_tb := tk_in (List.mem_append_right _ (List.mem_of_getElem? (i := 51) (by decide +kernel))) rfl
set_option maxRecDepth 20000 in
theorem t_52 : (Jvm.Cond.fieldLink "SketchCache$Seats" (37 : Nat) "SketchCache$Seats" "hand" "I") ∈ tk_tb := tk_in (List.mem_append_right _ (List.mem_of_getElem? (i := 52) (by decide +kernel))) rfl
set_option maxRecDepth 20000 in
theorem t_53 : (Jvm.Cond.laysFinal "SketchCache$Seats" "SketchCache$Seats" "leaver" "I") ∈ tk_tb := tk_in (List.mem_append_right _ (List.mem_of_getElem? (i := 53) (by decide +kernel))) rfl
set_option maxRecDepth 20000 in
theorem t_54 : (Jvm.Cond.soleField "SketchCache$Seats" "leaver") ∈ tk_tb := tk_in (List.mem_append_right _ (List.mem_of_getElem? (i := 54) (by decide +kernel))) rfl
set_option maxRecDepth 20000 in
theorem t_55 : (Jvm.Cond.laysFinal "SketchCache$Seats" "SketchCache$Seats" "keys" "[I") ∈ tk_tb := tk_in (List.mem_append_right _ (List.mem_of_getElem? (i := 55) (by decide +kernel))) rfl
set_option maxRecDepth 20000 in
theorem t_56 : (Jvm.Cond.soleField "SketchCache$Seats" "keys") ∈ tk_tb := tk_in (List.mem_append_right _ (List.mem_of_getElem? (i := 56) (by decide +kernel))) rfl
set_option maxRecDepth 20000 in
theorem t_57 : (Jvm.Cond.laysFinal "SketchCache$Seats" "SketchCache$Seats" "came" "[I") ∈ tk_tb := tk_in (List.mem_append_right _ (List.mem_of_getElem? (i := 57) (by decide +kernel))) rfl
set_option maxRecDepth 20000 in
theorem t_58 : (Jvm.Cond.soleField "SketchCache$Seats" "came") ∈ tk_tb := tk_in (List.mem_append_right _ (List.mem_of_getElem? (i := 58) (by decide +kernel))) rfl
set_option maxRecDepth 20000 in
theorem t_59 : (Jvm.Cond.laysFinal "SketchCache$Seats" "SketchCache$Seats" "used" "[I") ∈ tk_tb := tk_in (List.mem_append_right _ (List.mem_of_getElem? (i := 59) (by decide +kernel))) rfl
set_option maxRecDepth 20000 in
theorem t_60 : (Jvm.Cond.soleField "SketchCache$Seats" "used") ∈ tk_tb := tk_in (List.mem_append_right _ (List.mem_of_getElem? (i := 60) (by decide +kernel))) rfl
set_option maxRecDepth 20000 in
theorem t_61 : (Jvm.Cond.laysFinal "SketchCache$Seats" "SketchCache$Seats" "uses" "[I") ∈ tk_tb := tk_in (List.mem_append_right _ (List.mem_of_getElem? (i := 61) (by decide +kernel))) rfl
set_option maxRecDepth 20000 in
theorem t_62 : (Jvm.Cond.soleField "SketchCache$Seats" "uses") ∈ tk_tb := tk_in (List.mem_append_right _ (List.mem_of_getElem? (i := 62) (by decide +kernel))) rfl
set_option maxRecDepth 20000 in
theorem t_63 : (Jvm.Cond.laysFinal "SketchCache$Seats" "SketchCache$Seats" "next" "[I") ∈ tk_tb := tk_in (List.mem_append_right _ (List.mem_of_getElem? (i := 63) (by decide +kernel))) rfl
set_option maxRecDepth 20000 in
theorem t_64 : (Jvm.Cond.soleField "SketchCache$Seats" "next") ∈ tk_tb := tk_in (List.mem_append_right _ (List.mem_of_getElem? (i := 64) (by decide +kernel))) rfl
set_option maxRecDepth 20000 in
theorem t_65 : (Jvm.Cond.laysFinal "SketchCache$Seats" "SketchCache$Seats" "marks" "[I") ∈ tk_tb := tk_in (List.mem_append_right _ (List.mem_of_getElem? (i := 65) (by decide +kernel))) rfl
set_option maxRecDepth 20000 in
theorem t_66 : (Jvm.Cond.soleField "SketchCache$Seats" "marks") ∈ tk_tb := tk_in (List.mem_append_right _ (List.mem_of_getElem? (i := 66) (by decide +kernel))) rfl
set_option maxRecDepth 20000 in
theorem t_67 : (Jvm.Cond.lays "SketchCache$Seats" "SketchCache$Seats" "seats" "I") ∈ tk_tb := tk_in (List.mem_append_right _ (List.mem_of_getElem? (i := 67) (by decide +kernel))) rfl
set_option maxRecDepth 20000 in
theorem t_68 : (Jvm.Cond.soleField "SketchCache$Seats" "seats") ∈ tk_tb := tk_in (List.mem_append_right _ (List.mem_of_getElem? (i := 68) (by decide +kernel))) rfl
set_option maxRecDepth 20000 in
theorem t_69 : (Jvm.Cond.lays "SketchCache$Seats" "SketchCache$Seats" "taken" "I") ∈ tk_tb := tk_in (List.mem_append_right _ (List.mem_of_getElem? (i := 69) (by decide +kernel))) rfl
set_option maxRecDepth 20000 in
theorem t_70 : (Jvm.Cond.soleField "SketchCache$Seats" "taken") ∈ tk_tb := tk_in (List.mem_append_right _ (List.mem_of_getElem? (i := 70) (by decide +kernel))) rfl
set_option maxRecDepth 20000 in
theorem t_71 : (Jvm.Cond.lays "SketchCache$Seats" "SketchCache$Seats" "hand" "I") ∈ tk_tb := tk_in (List.mem_append_right _ (List.mem_of_getElem? (i := 71) (by decide +kernel))) rfl
set_option maxRecDepth 20000 in
theorem t_72 : (Jvm.Cond.soleField "SketchCache$Seats" "hand") ∈ tk_tb := tk_in (List.mem_append_right _ (List.mem_of_getElem? (i := 72) (by decide +kernel))) rfl
set_option maxRecDepth 20000 in
theorem t_73 : (Jvm.Cond.superclass "SketchCache$Seats" "SketchCache$Policy") ∈ tk_tb := tk_in (List.mem_append_right _ (List.mem_of_getElem? (i := 73) (by decide +kernel))) rfl
set_option maxRecDepth 20000 in
theorem t_74 : (Jvm.Cond.arrayClass Jvm.ClassFile.FieldType.int) ∈ tk_tb := tk_in (List.mem_append_right _ (List.mem_of_getElem? (i := 74) (by decide +kernel))) rfl
set_option maxRecDepth 20000 in
theorem t_75 : (Jvm.Cond.classLink "SketchCache$Player" (36 : Nat) "SketchCache$FourRows") ∈ tk_tb := tk_in (List.mem_append_right _ (List.mem_of_getElem? (i := 75) (by decide +kernel))) rfl
set_option maxRecDepth 20000 in
theorem t_76 : (Jvm.Cond.instantiable "SketchCache$FourRows" (3 : Nat)) ∈ tk_tb := tk_in (List.mem_append_right _ (List.mem_of_getElem? (i := 76) (by decide +kernel))) rfl
set_option maxRecDepth 20000 in
theorem q_77 : (Jvm.Cond.methodLinkNest "SketchCache$Player" (38 : Nat) ({ cls := "SketchCache$FourRows", name := "<init>", desc := "()V" } : Jvm.MethodName) "SketchCache") ∈ lw_tbl := List.mem_append_right _ (List.mem_of_getElem? (i := 77) (by decide +kernel))
set_option maxRecDepth 20000 in
theorem t_78 : (Jvm.Cond.instanceMethod ({ cls := "SketchCache$FourRows", name := "<init>", desc := "()V" } : Jvm.MethodName)) ∈ tk_tb := tk_in (List.mem_append_right _ (List.mem_of_getElem? (i := 78) (by decide +kernel))) rfl
set_option maxRecDepth 20000 in
theorem t_79 : (Jvm.Cond.code ({ cls := "SketchCache$FourRows", name := "<init>", desc := "()V" } : Jvm.MethodName) prog_4_method_1_code (1 : Nat) (Option.none : Option Jvm.ClassFile.FieldType)) ∈ tk_tb := tk_in (List.mem_append_right _ (List.mem_of_getElem? (i := 79) (rfl))) rfl
set_option maxRecDepth 20000 in
theorem q_80 : (Jvm.Cond.methodLinkNest "SketchCache$FourRows" (3 : Nat) ({ cls := "SketchCache$Policy", name := "<init>", desc := "()V" } : Jvm.MethodName) "SketchCache") ∈ lw_tbl := List.mem_append_right _ (List.mem_of_getElem? (i := 80) (by decide +kernel))
set_option maxRecDepth 20000 in
theorem t_81 : (Jvm.Cond.classLink "SketchCache$FourRows" (9 : Nat) "SketchCache$Rows") ∈ tk_tb := tk_in (List.mem_append_right _ (List.mem_of_getElem? (i := 81) (by decide +kernel))) rfl
set_option maxRecDepth 20000 in
theorem t_82 : (Jvm.Cond.instantiable "SketchCache$Rows" (5 : Nat)) ∈ tk_tb := tk_in (List.mem_append_right _ (List.mem_of_getElem? (i := 82) (by decide +kernel))) rfl
set_option maxRecDepth 20000 in
theorem t_83 : (Jvm.Cond.methodLink "SketchCache$FourRows" (11 : Nat) ({ cls := "SketchCache$Rows", name := "<init>", desc := "(I)V" } : Jvm.MethodName)) ∈ tk_tb := tk_in (List.mem_append_right _ (List.mem_of_getElem? (i := 83) (by decide +kernel))) rfl
set_option maxRecDepth 20000 in
theorem t_84 : (Jvm.Cond.instanceMethod ({ cls := "SketchCache$Rows", name := "<init>", desc := "(I)V" } : Jvm.MethodName)) ∈ tk_tb := tk_in (List.mem_append_right _ (List.mem_of_getElem? (i := 84) (by decide +kernel))) rfl
set_option maxRecDepth 20000 in
theorem t_85 : (Jvm.Cond.code ({ cls := "SketchCache$Rows", name := "<init>", desc := "(I)V" } : Jvm.MethodName) prog_7_method_1_code (3 : Nat) (Option.none : Option Jvm.ClassFile.FieldType)) ∈ tk_tb := tk_in (List.mem_append_right _ (List.mem_of_getElem? (i := 85) (rfl))) rfl
set_option maxRecDepth 20000 in
theorem t_86 : (Jvm.Cond.methodLink "SketchCache$Rows" (3 : Nat) ({ cls := "java/lang/Object", name := "<init>", desc := "()V" } : Jvm.MethodName)) ∈ tk_tb := tk_in (List.mem_append_right _ (List.mem_of_getElem? (i := 86) (by decide +kernel))) rfl
set_option maxRecDepth 20000 in
theorem t_87 : (Jvm.Cond.methodLink "SketchCache$Rows" (18 : Nat) ({ cls := "java/lang/Math", name := "max", desc := "(II)I" } : Jvm.MethodName)) ∈ tk_tb := tk_in (List.mem_append_right _ (List.mem_of_getElem? (i := 87) (by decide +kernel))) rfl
set_option maxRecDepth 20000 in
theorem t_88 : (Jvm.Cond.static ({ cls := "java/lang/Math", name := "max", desc := "(II)I" } : Jvm.MethodName)) ∈ tk_tb := tk_in (List.mem_append_right _ (List.mem_of_getElem? (i := 88) (by decide +kernel))) rfl
set_option maxRecDepth 20000 in
theorem t_89 : (Jvm.Cond.code ({ cls := "java/lang/Math", name := "max", desc := "(II)I" } : Jvm.MethodName) prog_14_method_65_code (2 : Nat) (Option.some Jvm.ClassFile.FieldType.int)) ∈ tk_tb := tk_in (List.mem_append_right _ (List.mem_of_getElem? (i := 89) (rfl))) rfl
set_option maxRecDepth 20000 in
theorem t_90 : (Jvm.Cond.classLink "SketchCache$Rows" (24 : Nat) "[[I") ∈ tk_tb := tk_in (List.mem_append_right _ (List.mem_of_getElem? (i := 90) (by decide +kernel))) rfl
set_option maxRecDepth 20000 in
theorem q_91 : (Jvm.Cond.arrayOver (Jvm.ClassFile.FieldType.array Jvm.ClassFile.FieldType.int)) ∈ lw_tbl := List.mem_append_right _ (List.mem_of_getElem? (i := 91) (by decide +kernel))
set_option maxRecDepth 20000 in
theorem t_92 : (Jvm.Cond.methodLink "SketchCache$Rows" (35 : Nat) ({ cls := "java/util/Arrays", name := "fill", desc := "([II)V" } : Jvm.MethodName)) ∈ tk_tb := tk_in (List.mem_append_right _ (List.mem_of_getElem? (i := 92) (by decide +kernel))) rfl
set_option maxRecDepth 20000 in
theorem t_93 : (Jvm.Cond.static ({ cls := "java/util/Arrays", name := "fill", desc := "([II)V" } : Jvm.MethodName)) ∈ tk_tb := tk_in (List.mem_append_right _ (List.mem_of_getElem? (i := 93) (by decide +kernel))) rfl
set_option maxRecDepth 20000 in
theorem t_94 : (Jvm.Cond.code ({ cls := "java/util/Arrays", name := "fill", desc := "([II)V" } : Jvm.MethodName) prog_16_method_103_code (4 : Nat) (Option.none : Option Jvm.ClassFile.FieldType)) ∈ tk_tb := tk_in (List.mem_append_right _ (List.mem_of_getElem? (i := 94) (rfl))) rfl
set_option maxRecDepth 20000 in
theorem t_95 : (Jvm.Cond.fieldLink "SketchCache$Rows" (26 : Nat) "SketchCache$Rows" "keys" "[[I") ∈ tk_tb := tk_in (List.mem_append_right _ (List.mem_of_getElem? (i := 95) (by decide +kernel))) rfl
set_option maxRecDepth 20000 in
theorem t_96 : (Jvm.Cond.fieldLink "SketchCache$Cache" (64 : Nat) "SketchCache$Rows" "keys" "[[I") ∈ tk_tb := tk_in (List.mem_append_right _ (List.mem_of_getElem? (i := 96) (by decide +kernel))) rfl
set_option maxRecDepth 20000 in
theorem t_97 : (Jvm.Cond.fieldLink "SketchCache$Rows" (29 : Nat) "SketchCache$Rows" "counts" "[I") ∈ tk_tb := tk_in (List.mem_append_right _ (List.mem_of_getElem? (i := 97) (by decide +kernel))) rfl
set_option maxRecDepth 20000 in
theorem t_98 : (Jvm.Cond.fieldLink "SketchCache$FourRows" (41 : Nat) "SketchCache$Rows" "counts" "[I") ∈ tk_tb := tk_in (List.mem_append_right _ (List.mem_of_getElem? (i := 98) (by decide +kernel))) rfl
set_option maxRecDepth 20000 in
theorem t_99 : (Jvm.Cond.fieldLink "SketchCache$Cache" (40 : Nat) "SketchCache$Rows" "counts" "[I") ∈ tk_tb := tk_in (List.mem_append_right _ (List.mem_of_getElem? (i := 99) (by decide +kernel))) rfl
set_option maxRecDepth 20000 in
theorem t_100 : (Jvm.Cond.fieldLink "SketchCache$Rows" (32 : Nat) "SketchCache$Rows" "units" "[I") ∈ tk_tb := tk_in (List.mem_append_right _ (List.mem_of_getElem? (i := 100) (by decide +kernel))) rfl
set_option maxRecDepth 20000 in
theorem t_101 : (Jvm.Cond.fieldLink "SketchCache$State" (106 : Nat) "SketchCache$Rows" "units" "[I") ∈ tk_tb := tk_in (List.mem_append_right _ (List.mem_of_getElem? (i := 101) (by decide +kernel))) rfl
set_option maxRecDepth 20000 in
theorem t_102 : (Jvm.Cond.fieldLink "SketchCache$Cache" (48 : Nat) "SketchCache$Rows" "units" "[I") ∈ tk_tb := tk_in (List.mem_append_right _ (List.mem_of_getElem? (i := 102) (by decide +kernel))) rfl
set_option maxRecDepth 20000 in
theorem t_103 : (Jvm.Cond.fieldLink "SketchCache$Rows" (9 : Nat) "SketchCache$Rows" "rowOf" "[I") ∈ tk_tb := tk_in (List.mem_append_right _ (List.mem_of_getElem? (i := 103) (by decide +kernel))) rfl
set_option maxRecDepth 20000 in
theorem t_104 : (Jvm.Cond.fieldLink "SketchCache$State" (58 : Nat) "SketchCache$Rows" "rowOf" "[I") ∈ tk_tb := tk_in (List.mem_append_right _ (List.mem_of_getElem? (i := 104) (by decide +kernel))) rfl
set_option maxRecDepth 20000 in
theorem t_105 : (Jvm.Cond.fieldLink "SketchCache$FourRows" (30 : Nat) "SketchCache$Rows" "rowOf" "[I") ∈ tk_tb := tk_in (List.mem_append_right _ (List.mem_of_getElem? (i := 105) (by decide +kernel))) rfl
set_option maxRecDepth 20000 in
theorem t_106 : (Jvm.Cond.fieldLink "SketchCache" (85 : Nat) "SketchCache$Rows" "rowOf" "[I") ∈ tk_tb := tk_in (List.mem_append_right _ (List.mem_of_getElem? (i := 106) (by decide +kernel))) rfl
set_option maxRecDepth 20000 in
theorem t_107 : (Jvm.Cond.fieldLink "SketchCache$Cache" (51 : Nat) "SketchCache$Rows" "rowOf" "[I") ∈ tk_tb := tk_in (List.mem_append_right _ (List.mem_of_getElem? (i := 107) (by decide +kernel))) rfl
set_option maxRecDepth 20000 in
theorem t_108 : (Jvm.Cond.fieldLink "SketchCache$Rows" (15 : Nat) "SketchCache$Rows" "sizes" "[I") ∈ tk_tb := tk_in (List.mem_append_right _ (List.mem_of_getElem? (i := 108) (by decide +kernel))) rfl
set_option maxRecDepth 20000 in
theorem t_109 : (Jvm.Cond.fieldLink "SketchCache" (90 : Nat) "SketchCache$Rows" "sizes" "[I") ∈ tk_tb := tk_in (List.mem_append_right _ (List.mem_of_getElem? (i := 109) (by decide +kernel))) rfl
set_option maxRecDepth 20000 in
theorem t_110 : (Jvm.Cond.fieldLink "SketchCache$Cache" (68 : Nat) "SketchCache$Rows" "sizes" "[I") ∈ tk_tb := tk_in (List.mem_append_right _ (List.mem_of_getElem? (i := 110) (by decide +kernel))) rfl
set_option maxRecDepth 20000 in
theorem t_111 : (Jvm.Cond.laysFinal "SketchCache$Rows" "SketchCache$Rows" "keys" "[[I") ∈ tk_tb := tk_in (List.mem_append_right _ (List.mem_of_getElem? (i := 111) (by decide +kernel))) rfl
set_option maxRecDepth 20000 in
theorem t_112 : (Jvm.Cond.soleField "SketchCache$Rows" "keys") ∈ tk_tb := tk_in (List.mem_append_right _ (List.mem_of_getElem? (i := 112) (by decide +kernel))) rfl
set_option maxRecDepth 20000 in
theorem t_113 : (Jvm.Cond.laysFinal "SketchCache$Rows" "SketchCache$Rows" "counts" "[I") ∈ tk_tb := tk_in (List.mem_append_right _ (List.mem_of_getElem? (i := 113) (by decide +kernel))) rfl
set_option maxRecDepth 20000 in
theorem t_114 : (Jvm.Cond.soleField "SketchCache$Rows" "counts") ∈ tk_tb := tk_in (List.mem_append_right _ (List.mem_of_getElem? (i := 114) (by decide +kernel))) rfl
set_option maxRecDepth 20000 in
theorem t_115 : (Jvm.Cond.laysFinal "SketchCache$Rows" "SketchCache$Rows" "units" "[I") ∈ tk_tb := tk_in (List.mem_append_right _ (List.mem_of_getElem? (i := 115) (by decide +kernel))) rfl
set_option maxRecDepth 20000 in
theorem t_116 : (Jvm.Cond.soleField "SketchCache$Rows" "units") ∈ tk_tb := tk_in (List.mem_append_right _ (List.mem_of_getElem? (i := 116) (by decide +kernel))) rfl
set_option maxRecDepth 20000 in
theorem t_117 : (Jvm.Cond.laysFinal "SketchCache$Rows" "SketchCache$Rows" "rowOf" "[I") ∈ tk_tb := tk_in (List.mem_append_right _ (List.mem_of_getElem? (i := 117) (by decide +kernel))) rfl
set_option maxRecDepth 20000 in
theorem t_118 : (Jvm.Cond.soleField "SketchCache$Rows" "rowOf") ∈ tk_tb := tk_in (List.mem_append_right _ (List.mem_of_getElem? (i := 118) (by decide +kernel))) rfl
set_option maxRecDepth 20000 in
theorem t_119 : (Jvm.Cond.laysFinal "SketchCache$Rows" "SketchCache$Rows" "sizes" "[I") ∈ tk_tb := tk_in (List.mem_append_right _ (List.mem_of_getElem? (i := 119) (by decide +kernel))) rfl
set_option maxRecDepth 20000 in
theorem t_120 : (Jvm.Cond.soleField "SketchCache$Rows" "sizes") ∈ tk_tb := tk_in (List.mem_append_right _ (List.mem_of_getElem? (i := 120) (by decide +kernel))) rfl
set_option maxRecDepth 20000 in
theorem t_121 : (Jvm.Cond.superclass "SketchCache$Rows" "java/lang/Object") ∈ tk_tb := tk_in (List.mem_append_right _ (List.mem_of_getElem? (i := 121) (by decide +kernel))) rfl
set_option maxRecDepth 20000 in
theorem t_122 : (Jvm.Cond.fieldLink "SketchCache$FourRows" (14 : Nat) "SketchCache$FourRows" "rows" "LSketchCache$Rows;") ∈ tk_tb := tk_in (List.mem_append_right _ (List.mem_of_getElem? (i := 122) (by decide +kernel))) rfl
set_option maxRecDepth 20000 in
theorem t_123 : (Jvm.Cond.fieldLink "SketchCache$FourRows" (20 : Nat) "SketchCache$FourRows" "most" "I") ∈ tk_tb := tk_in (List.mem_append_right _ (List.mem_of_getElem? (i := 123) (by decide +kernel))) rfl
set_option maxRecDepth 20000 in
theorem t_124 : (Jvm.Cond.fieldLink "SketchCache$FourRows" (24 : Nat) "SketchCache$FourRows" "goal" "I") ∈ tk_tb := tk_in (List.mem_append_right _ (List.mem_of_getElem? (i := 124) (by decide +kernel))) rfl
set_option maxRecDepth 20000 in
theorem t_125 : (Jvm.Cond.laysFinal "SketchCache$FourRows" "SketchCache$FourRows" "rows" "LSketchCache$Rows;") ∈ tk_tb := tk_in (List.mem_append_right _ (List.mem_of_getElem? (i := 125) (by decide +kernel))) rfl
set_option maxRecDepth 20000 in
theorem t_126 : (Jvm.Cond.soleField "SketchCache$FourRows" "rows") ∈ tk_tb := tk_in (List.mem_append_right _ (List.mem_of_getElem? (i := 126) (by decide +kernel))) rfl
set_option maxRecDepth 20000 in
theorem t_127 : (Jvm.Cond.lays "SketchCache$FourRows" "SketchCache$FourRows" "most" "I") ∈ tk_tb := tk_in (List.mem_append_right _ (List.mem_of_getElem? (i := 127) (by decide +kernel))) rfl
set_option maxRecDepth 20000 in
theorem t_128 : (Jvm.Cond.soleField "SketchCache$FourRows" "most") ∈ tk_tb := tk_in (List.mem_append_right _ (List.mem_of_getElem? (i := 128) (by decide +kernel))) rfl
set_option maxRecDepth 20000 in
theorem t_129 : (Jvm.Cond.lays "SketchCache$FourRows" "SketchCache$FourRows" "goal" "I") ∈ tk_tb := tk_in (List.mem_append_right _ (List.mem_of_getElem? (i := 129) (by decide +kernel))) rfl
set_option maxRecDepth 20000 in
theorem t_130 : (Jvm.Cond.soleField "SketchCache$FourRows" "goal") ∈ tk_tb := tk_in (List.mem_append_right _ (List.mem_of_getElem? (i := 130) (by decide +kernel))) rfl
set_option maxRecDepth 20000 in
theorem t_131 : (Jvm.Cond.superclass "SketchCache$FourRows" "SketchCache$Policy") ∈ tk_tb := tk_in (List.mem_append_right _ (List.mem_of_getElem? (i := 131) (by decide +kernel))) rfl
set_option maxRecDepth 20000 in
theorem t_132 : (Jvm.Cond.fieldLink "SketchCache$Player" (13 : Nat) "SketchCache$Player" "policies" "[LSketchCache$Policy;") ∈ tk_tb := tk_in (List.mem_append_right _ (List.mem_of_getElem? (i := 132) (by decide +kernel))) rfl
set_option maxRecDepth 20000 in
theorem t_133 : (Jvm.Cond.fieldLink "SketchCache$Player" (17 : Nat) "SketchCache$Player" "nextUse" "[I") ∈ tk_tb := tk_in (List.mem_append_right _ (List.mem_of_getElem? (i := 133) (by decide +kernel))) rfl
set_option maxRecDepth 20000 in
theorem t_134 : (Jvm.Cond.fieldLink "SketchCache$Player" (21 : Nat) "SketchCache$Player" "seenAt" "[I") ∈ tk_tb := tk_in (List.mem_append_right _ (List.mem_of_getElem? (i := 134) (by decide +kernel))) rfl
set_option maxRecDepth 20000 in
theorem t_135 : (Jvm.Cond.fieldLink "SketchCache$Player" (24 : Nat) "SketchCache$Player" "keptKeys" "[I") ∈ tk_tb := tk_in (List.mem_append_right _ (List.mem_of_getElem? (i := 135) (by decide +kernel))) rfl
set_option maxRecDepth 20000 in
theorem t_136 : (Jvm.Cond.fieldLink "SketchCache$Player" (27 : Nat) "SketchCache$Player" "keptCount" "I") ∈ tk_tb := tk_in (List.mem_append_right _ (List.mem_of_getElem? (i := 136) (by decide +kernel))) rfl
set_option maxRecDepth 20000 in
theorem t_137 : (Jvm.Cond.laysFinal "SketchCache$Player" "SketchCache$Player" "policies" "[LSketchCache$Policy;") ∈ tk_tb := tk_in (List.mem_append_right _ (List.mem_of_getElem? (i := 137) (by decide +kernel))) rfl
set_option maxRecDepth 20000 in
theorem t_138 : (Jvm.Cond.soleField "SketchCache$Player" "policies") ∈ tk_tb := tk_in (List.mem_append_right _ (List.mem_of_getElem? (i := 138) (by decide +kernel))) rfl
set_option maxRecDepth 20000 in
theorem t_139 : (Jvm.Cond.laysFinal "SketchCache$Player" "SketchCache$Player" "nextUse" "[I") ∈ tk_tb := tk_in (List.mem_append_right _ (List.mem_of_getElem? (i := 139) (by decide +kernel))) rfl
set_option maxRecDepth 20000 in
theorem t_140 : (Jvm.Cond.soleField "SketchCache$Player" "nextUse") ∈ tk_tb := tk_in (List.mem_append_right _ (List.mem_of_getElem? (i := 140) (by decide +kernel))) rfl
set_option maxRecDepth 20000 in
theorem t_141 : (Jvm.Cond.laysFinal "SketchCache$Player" "SketchCache$Player" "seenAt" "[I") ∈ tk_tb := tk_in (List.mem_append_right _ (List.mem_of_getElem? (i := 141) (by decide +kernel))) rfl
set_option maxRecDepth 20000 in
theorem t_142 : (Jvm.Cond.soleField "SketchCache$Player" "seenAt") ∈ tk_tb := tk_in (List.mem_append_right _ (List.mem_of_getElem? (i := 142) (by decide +kernel))) rfl
set_option maxRecDepth 20000 in
theorem t_143 : (Jvm.Cond.laysFinal "SketchCache$Player" "SketchCache$Player" "keptKeys" "[I") ∈ tk_tb := tk_in (List.mem_append_right _ (List.mem_of_getElem? (i := 143) (by decide +kernel))) rfl
set_option maxRecDepth 20000 in
theorem t_144 : (Jvm.Cond.soleField "SketchCache$Player" "keptKeys") ∈ tk_tb := tk_in (List.mem_append_right _ (List.mem_of_getElem? (i := 144) (by decide +kernel))) rfl
set_option maxRecDepth 20000 in
theorem t_145 : (Jvm.Cond.lays "SketchCache$Player" "SketchCache$Player" "keptCount" "I") ∈ tk_tb := tk_in (List.mem_append_right _ (List.mem_of_getElem? (i := 145) (by decide +kernel))) rfl
set_option maxRecDepth 20000 in
theorem t_146 : (Jvm.Cond.soleField "SketchCache$Player" "keptCount") ∈ tk_tb := tk_in (List.mem_append_right _ (List.mem_of_getElem? (i := 146) (by decide +kernel))) rfl
set_option maxRecDepth 20000 in
theorem t_147 : (Jvm.Cond.superclass "SketchCache$Player" "java/lang/Object") ∈ tk_tb := tk_in (List.mem_append_right _ (List.mem_of_getElem? (i := 147) (by decide +kernel))) rfl
set_option maxRecDepth 20000 in
theorem t_148 : (Jvm.Cond.methodLink "SketchCache" (22 : Nat) ({ cls := "java/lang/Math", name := "min", desc := "(II)I" } : Jvm.MethodName)) ∈ tk_tb := tk_in (List.mem_append_right _ (List.mem_of_getElem? (i := 148) (by decide +kernel))) rfl
set_option maxRecDepth 20000 in
theorem t_149 : (Jvm.Cond.static ({ cls := "java/lang/Math", name := "min", desc := "(II)I" } : Jvm.MethodName)) ∈ tk_tb := tk_in (List.mem_append_right _ (List.mem_of_getElem? (i := 149) (by decide +kernel))) rfl
set_option maxRecDepth 20000 in
theorem t_150 : (Jvm.Cond.code ({ cls := "java/lang/Math", name := "min", desc := "(II)I" } : Jvm.MethodName) prog_14_method_69_code (2 : Nat) (Option.some Jvm.ClassFile.FieldType.int)) ∈ tk_tb := tk_in (List.mem_append_right _ (List.mem_of_getElem? (i := 150) (rfl))) rfl
set_option maxRecDepth 20000 in
theorem t_151 : (Jvm.Cond.methodLink "SketchCache" (28 : Nat) ({ cls := "java/lang/Math", name := "max", desc := "(II)I" } : Jvm.MethodName)) ∈ tk_tb := tk_in (List.mem_append_right _ (List.mem_of_getElem? (i := 151) (by decide +kernel))) rfl
set_option maxRecDepth 20000 in
theorem t_152 : (Jvm.Cond.instantiable "SketchCache$State" (5 : Nat)) ∈ tk_tb := tk_in (List.mem_append_right _ (List.mem_of_getElem? (i := 152) (by decide +kernel))) rfl
set_option maxRecDepth 20000 in
theorem t_153 : (Jvm.Cond.methodLink "SketchCache" (41 : Nat) ({ cls := "SketchCache$State", name := "<init>", desc := "(III)V" } : Jvm.MethodName)) ∈ tk_tb := tk_in (List.mem_append_right _ (List.mem_of_getElem? (i := 153) (by decide +kernel))) rfl
set_option maxRecDepth 20000 in
theorem t_154 : (Jvm.Cond.instanceMethod ({ cls := "SketchCache$State", name := "<init>", desc := "(III)V" } : Jvm.MethodName)) ∈ tk_tb := tk_in (List.mem_append_right _ (List.mem_of_getElem? (i := 154) (by decide +kernel))) rfl
set_option maxRecDepth 20000 in
theorem t_155 : (Jvm.Cond.code ({ cls := "SketchCache$State", name := "<init>", desc := "(III)V" } : Jvm.MethodName) prog_10_method_1_code (4 : Nat) (Option.none : Option Jvm.ClassFile.FieldType)) ∈ tk_tb := tk_in (List.mem_append_right _ (List.mem_of_getElem? (i := 155) (rfl))) rfl
set_option maxRecDepth 20000 in
theorem t_156 : (Jvm.Cond.methodLink "SketchCache$State" (3 : Nat) ({ cls := "java/lang/Object", name := "<init>", desc := "()V" } : Jvm.MethodName)) ∈ tk_tb := tk_in (List.mem_append_right _ (List.mem_of_getElem? (i := 156) (by decide +kernel))) rfl
set_option maxRecDepth 20000 in
theorem t_157 : (Jvm.Cond.classLink "SketchCache$State" (9 : Nat) "SketchCache$Trace") ∈ tk_tb := tk_in (List.mem_append_right _ (List.mem_of_getElem? (i := 157) (by decide +kernel))) rfl
set_option maxRecDepth 20000 in
theorem t_158 : (Jvm.Cond.instantiable "SketchCache$Trace" (3 : Nat)) ∈ tk_tb := tk_in (List.mem_append_right _ (List.mem_of_getElem? (i := 158) (by decide +kernel))) rfl
set_option maxRecDepth 20000 in
theorem q_159 : (Jvm.Cond.methodLinkNest "SketchCache$State" (11 : Nat) ({ cls := "SketchCache$Trace", name := "<init>", desc := "()V" } : Jvm.MethodName) "SketchCache") ∈ lw_tbl := List.mem_append_right _ (List.mem_of_getElem? (i := 159) (by decide +kernel))
set_option maxRecDepth 20000 in
theorem t_160 : (Jvm.Cond.instanceMethod ({ cls := "SketchCache$Trace", name := "<init>", desc := "()V" } : Jvm.MethodName)) ∈ tk_tb := tk_in (List.mem_append_right _ (List.mem_of_getElem? (i := 160) (by decide +kernel))) rfl
set_option maxRecDepth 20000 in
theorem t_161 : (Jvm.Cond.code ({ cls := "SketchCache$Trace", name := "<init>", desc := "()V" } : Jvm.MethodName) prog_11_method_1_code (1 : Nat) (Option.none : Option Jvm.ClassFile.FieldType)) ∈ tk_tb := tk_in (List.mem_append_right _ (List.mem_of_getElem? (i := 161) (rfl))) rfl
set_option maxRecDepth 20000 in
theorem t_162 : (Jvm.Cond.methodLink "SketchCache$Trace" (3 : Nat) ({ cls := "java/lang/Object", name := "<init>", desc := "()V" } : Jvm.MethodName)) ∈ tk_tb := tk_in (List.mem_append_right _ (List.mem_of_getElem? (i := 162) (by decide +kernel))) rfl
set_option maxRecDepth 20000 in
theorem t_163 : (Jvm.Cond.fieldLink "SketchCache$Trace" (9 : Nat) "SketchCache$Trace" "ring" "[I") ∈ tk_tb := tk_in (List.mem_append_right _ (List.mem_of_getElem? (i := 163) (by decide +kernel))) rfl
set_option maxRecDepth 20000 in
theorem t_164 : (Jvm.Cond.fieldLink "SketchCache$Trace" (15 : Nat) "SketchCache$Trace" "earliest" "I") ∈ tk_tb := tk_in (List.mem_append_right _ (List.mem_of_getElem? (i := 164) (by decide +kernel))) rfl
set_option maxRecDepth 20000 in
theorem t_165 : (Jvm.Cond.fieldLink "SketchCache$Trace" (19 : Nat) "SketchCache$Trace" "count" "I") ∈ tk_tb := tk_in (List.mem_append_right _ (List.mem_of_getElem? (i := 165) (by decide +kernel))) rfl
set_option maxRecDepth 20000 in
theorem t_166 : (Jvm.Cond.fieldLink "SketchCache$State" (129 : Nat) "SketchCache$Trace" "count" "I") ∈ tk_tb := tk_in (List.mem_append_right _ (List.mem_of_getElem? (i := 166) (by decide +kernel))) rfl
set_option maxRecDepth 20000 in
theorem t_167 : (Jvm.Cond.fieldLink "SketchCache" (128 : Nat) "SketchCache$Trace" "count" "I") ∈ tk_tb := tk_in (List.mem_append_right _ (List.mem_of_getElem? (i := 167) (by decide +kernel))) rfl
set_option maxRecDepth 20000 in
theorem t_168 : (Jvm.Cond.laysFinal "SketchCache$Trace" "SketchCache$Trace" "ring" "[I") ∈ tk_tb := tk_in (List.mem_append_right _ (List.mem_of_getElem? (i := 168) (by decide +kernel))) rfl
set_option maxRecDepth 20000 in
theorem t_169 : (Jvm.Cond.soleField "SketchCache$Trace" "ring") ∈ tk_tb := tk_in (List.mem_append_right _ (List.mem_of_getElem? (i := 169) (by decide +kernel))) rfl
set_option maxRecDepth 20000 in
theorem t_170 : (Jvm.Cond.lays "SketchCache$Trace" "SketchCache$Trace" "earliest" "I") ∈ tk_tb := tk_in (List.mem_append_right _ (List.mem_of_getElem? (i := 170) (by decide +kernel))) rfl
set_option maxRecDepth 20000 in
theorem t_171 : (Jvm.Cond.soleField "SketchCache$Trace" "earliest") ∈ tk_tb := tk_in (List.mem_append_right _ (List.mem_of_getElem? (i := 171) (by decide +kernel))) rfl
set_option maxRecDepth 20000 in
theorem t_172 : (Jvm.Cond.lays "SketchCache$Trace" "SketchCache$Trace" "count" "I") ∈ tk_tb := tk_in (List.mem_append_right _ (List.mem_of_getElem? (i := 172) (by decide +kernel))) rfl
set_option maxRecDepth 20000 in
theorem t_173 : (Jvm.Cond.soleField "SketchCache$Trace" "count") ∈ tk_tb := tk_in (List.mem_append_right _ (List.mem_of_getElem? (i := 173) (by decide +kernel))) rfl
set_option maxRecDepth 20000 in
theorem t_174 : (Jvm.Cond.superclass "SketchCache$Trace" "java/lang/Object") ∈ tk_tb := tk_in (List.mem_append_right _ (List.mem_of_getElem? (i := 174) (by decide +kernel))) rfl
set_option maxRecDepth 20000 in
theorem t_175 : (Jvm.Cond.classLink "SketchCache$State" (18 : Nat) "SketchCache$Climb") ∈ tk_tb := tk_in (List.mem_append_right _ (List.mem_of_getElem? (i := 175) (by decide +kernel))) rfl
set_option maxRecDepth 20000 in
theorem t_176 : (Jvm.Cond.instantiable "SketchCache$Climb" (6 : Nat)) ∈ tk_tb := tk_in (List.mem_append_right _ (List.mem_of_getElem? (i := 176) (by decide +kernel))) rfl
set_option maxRecDepth 20000 in
theorem q_177 : (Jvm.Cond.methodLinkNest "SketchCache$State" (20 : Nat) ({ cls := "SketchCache$Climb", name := "<init>", desc := "()V" } : Jvm.MethodName) "SketchCache") ∈ lw_tbl := List.mem_append_right _ (List.mem_of_getElem? (i := 177) (by decide +kernel))
set_option maxRecDepth 20000 in
theorem t_178 : (Jvm.Cond.instanceMethod ({ cls := "SketchCache$Climb", name := "<init>", desc := "()V" } : Jvm.MethodName)) ∈ tk_tb := tk_in (List.mem_append_right _ (List.mem_of_getElem? (i := 178) (by decide +kernel))) rfl
set_option maxRecDepth 20000 in
theorem t_179 : (Jvm.Cond.code ({ cls := "SketchCache$Climb", name := "<init>", desc := "()V" } : Jvm.MethodName) prog_3_method_1_code (1 : Nat) (Option.none : Option Jvm.ClassFile.FieldType)) ∈ tk_tb := tk_in (List.mem_append_right _ (List.mem_of_getElem? (i := 179) (rfl))) rfl
set_option maxRecDepth 20000 in
theorem t_180 : (Jvm.Cond.methodLink "SketchCache$Climb" (1 : Nat) ({ cls := "java/lang/Object", name := "<init>", desc := "()V" } : Jvm.MethodName)) ∈ tk_tb := tk_in (List.mem_append_right _ (List.mem_of_getElem? (i := 180) (by decide +kernel))) rfl
set_option maxRecDepth 20000 in
theorem t_181 : (Jvm.Cond.fieldLink "SketchCache$Climb" (7 : Nat) "SketchCache$Climb" "step" "I") ∈ tk_tb := tk_in (List.mem_append_right _ (List.mem_of_getElem? (i := 181) (by decide +kernel))) rfl
set_option maxRecDepth 20000 in
theorem t_182 : (Jvm.Cond.fieldLink "SketchCache$Climb" (13 : Nat) "SketchCache$Climb" "period" "I") ∈ tk_tb := tk_in (List.mem_append_right _ (List.mem_of_getElem? (i := 182) (by decide +kernel))) rfl
set_option maxRecDepth 20000 in
theorem t_183 : (Jvm.Cond.fieldLink "SketchCache$Climb" (16 : Nat) "SketchCache$Climb" "direction" "I") ∈ tk_tb := tk_in (List.mem_append_right _ (List.mem_of_getElem? (i := 183) (by decide +kernel))) rfl
set_option maxRecDepth 20000 in
theorem t_184 : (Jvm.Cond.fieldLink "SketchCache$State" (121 : Nat) "SketchCache$Climb" "direction" "I") ∈ tk_tb := tk_in (List.mem_append_right _ (List.mem_of_getElem? (i := 184) (by decide +kernel))) rfl
set_option maxRecDepth 20000 in
theorem t_185 : (Jvm.Cond.fieldLink "SketchCache$Climb" (19 : Nat) "SketchCache$Climb" "hits" "I") ∈ tk_tb := tk_in (List.mem_append_right _ (List.mem_of_getElem? (i := 185) (by decide +kernel))) rfl
set_option maxRecDepth 20000 in
theorem t_186 : (Jvm.Cond.fieldLink "SketchCache$State" (124 : Nat) "SketchCache$Climb" "hits" "I") ∈ tk_tb := tk_in (List.mem_append_right _ (List.mem_of_getElem? (i := 186) (by decide +kernel))) rfl
set_option maxRecDepth 20000 in
theorem t_187 : (Jvm.Cond.fieldLink "SketchCache$Climb" (22 : Nat) "SketchCache$Climb" "accesses" "I") ∈ tk_tb := tk_in (List.mem_append_right _ (List.mem_of_getElem? (i := 187) (by decide +kernel))) rfl
set_option maxRecDepth 20000 in
theorem t_188 : (Jvm.Cond.fieldLink "SketchCache$State" (125 : Nat) "SketchCache$Climb" "accesses" "I") ∈ tk_tb := tk_in (List.mem_append_right _ (List.mem_of_getElem? (i := 188) (by decide +kernel))) rfl
set_option maxRecDepth 20000 in
theorem t_189 : (Jvm.Cond.fieldLink "SketchCache$Climb" (25 : Nat) "SketchCache$Climb" "hitsBefore" "I") ∈ tk_tb := tk_in (List.mem_append_right _ (List.mem_of_getElem? (i := 189) (by decide +kernel))) rfl
set_option maxRecDepth 20000 in
theorem t_190 : (Jvm.Cond.fieldLink "SketchCache$State" (126 : Nat) "SketchCache$Climb" "hitsBefore" "I") ∈ tk_tb := tk_in (List.mem_append_right _ (List.mem_of_getElem? (i := 190) (by decide +kernel))) rfl
set_option maxRecDepth 20000 in
theorem t_191 : (Jvm.Cond.lays "SketchCache$Climb" "SketchCache$Climb" "step" "I") ∈ tk_tb := tk_in (List.mem_append_right _ (List.mem_of_getElem? (i := 191) (by decide +kernel))) rfl
set_option maxRecDepth 20000 in
theorem t_192 : (Jvm.Cond.soleField "SketchCache$Climb" "step") ∈ tk_tb := tk_in (List.mem_append_right _ (List.mem_of_getElem? (i := 192) (by decide +kernel))) rfl
set_option maxRecDepth 20000 in
theorem t_193 : (Jvm.Cond.lays "SketchCache$Climb" "SketchCache$Climb" "period" "I") ∈ tk_tb := tk_in (List.mem_append_right _ (List.mem_of_getElem? (i := 193) (by decide +kernel))) rfl
set_option maxRecDepth 20000 in
theorem t_194 : (Jvm.Cond.soleField "SketchCache$Climb" "period") ∈ tk_tb := tk_in (List.mem_append_right _ (List.mem_of_getElem? (i := 194) (by decide +kernel))) rfl
set_option maxRecDepth 20000 in
theorem t_195 : (Jvm.Cond.lays "SketchCache$Climb" "SketchCache$Climb" "direction" "I") ∈ tk_tb := tk_in (List.mem_append_right _ (List.mem_of_getElem? (i := 195) (by decide +kernel))) rfl
set_option maxRecDepth 20000 in
theorem t_196 : (Jvm.Cond.soleField "SketchCache$Climb" "direction") ∈ tk_tb := tk_in (List.mem_append_right _ (List.mem_of_getElem? (i := 196) (by decide +kernel))) rfl
set_option maxRecDepth 20000 in
theorem t_197 : (Jvm.Cond.lays "SketchCache$Climb" "SketchCache$Climb" "hits" "I") ∈ tk_tb := tk_in (List.mem_append_right _ (List.mem_of_getElem? (i := 197) (by decide +kernel))) rfl
set_option maxRecDepth 20000 in
theorem t_198 : (Jvm.Cond.soleField "SketchCache$Climb" "hits") ∈ tk_tb := tk_in (List.mem_append_right _ (List.mem_of_getElem? (i := 198) (by decide +kernel))) rfl
set_option maxRecDepth 20000 in
theorem t_199 : (Jvm.Cond.lays "SketchCache$Climb" "SketchCache$Climb" "accesses" "I") ∈ tk_tb := tk_in (List.mem_append_right _ (List.mem_of_getElem? (i := 199) (by decide +kernel))) rfl
set_option maxRecDepth 20000 in
theorem t_200 : (Jvm.Cond.soleField "SketchCache$Climb" "accesses") ∈ tk_tb := tk_in (List.mem_append_right _ (List.mem_of_getElem? (i := 200) (by decide +kernel))) rfl
set_option maxRecDepth 20000 in
theorem t_201 : (Jvm.Cond.lays "SketchCache$Climb" "SketchCache$Climb" "hitsBefore" "I") ∈ tk_tb := tk_in (List.mem_append_right _ (List.mem_of_getElem? (i := 201) (by decide +kernel))) rfl
set_option maxRecDepth 20000 in
theorem t_202 : (Jvm.Cond.soleField "SketchCache$Climb" "hitsBefore") ∈ tk_tb := tk_in (List.mem_append_right _ (List.mem_of_getElem? (i := 202) (by decide +kernel))) rfl
set_option maxRecDepth 20000 in
theorem t_203 : (Jvm.Cond.superclass "SketchCache$Climb" "java/lang/Object") ∈ tk_tb := tk_in (List.mem_append_right _ (List.mem_of_getElem? (i := 203) (by decide +kernel))) rfl
set_option maxRecDepth 20000 in
theorem t_204 : (Jvm.Cond.classLink "SketchCache$State" (32 : Nat) "SketchCache$Cache") ∈ tk_tb := tk_in (List.mem_append_right _ (List.mem_of_getElem? (i := 204) (by decide +kernel))) rfl
set_option maxRecDepth 20000 in
theorem t_205 : (Jvm.Cond.instantiable "SketchCache$Cache" (6 : Nat)) ∈ tk_tb := tk_in (List.mem_append_right _ (List.mem_of_getElem? (i := 205) (by decide +kernel))) rfl
set_option maxRecDepth 20000 in
theorem t_206 : (Jvm.Cond.methodLink "SketchCache$State" (34 : Nat) ({ cls := "SketchCache$Cache", name := "<init>", desc := "(III)V" } : Jvm.MethodName)) ∈ tk_tb := tk_in (List.mem_append_right _ (List.mem_of_getElem? (i := 206) (by decide +kernel))) rfl
set_option maxRecDepth 20000 in
theorem t_207 : (Jvm.Cond.instanceMethod ({ cls := "SketchCache$Cache", name := "<init>", desc := "(III)V" } : Jvm.MethodName)) ∈ tk_tb := tk_in (List.mem_append_right _ (List.mem_of_getElem? (i := 207) (by decide +kernel))) rfl
set_option maxRecDepth 20000 in
theorem t_208 : (Jvm.Cond.code ({ cls := "SketchCache$Cache", name := "<init>", desc := "(III)V" } : Jvm.MethodName) prog_2_method_1_code (4 : Nat) (Option.none : Option Jvm.ClassFile.FieldType)) ∈ tk_tb := tk_in (List.mem_append_right _ (List.mem_of_getElem? (i := 208) (rfl))) rfl
set_option maxRecDepth 20000 in
theorem t_209 : (Jvm.Cond.methodLink "SketchCache$Cache" (3 : Nat) ({ cls := "java/lang/Object", name := "<init>", desc := "()V" } : Jvm.MethodName)) ∈ tk_tb := tk_in (List.mem_append_right _ (List.mem_of_getElem? (i := 209) (by decide +kernel))) rfl
set_option maxRecDepth 20000 in
theorem t_210 : (Jvm.Cond.classLink "SketchCache$Cache" (9 : Nat) "SketchCache$Rows") ∈ tk_tb := tk_in (List.mem_append_right _ (List.mem_of_getElem? (i := 210) (by decide +kernel))) rfl
set_option maxRecDepth 20000 in
theorem t_211 : (Jvm.Cond.methodLink "SketchCache$Cache" (11 : Nat) ({ cls := "SketchCache$Rows", name := "<init>", desc := "(I)V" } : Jvm.MethodName)) ∈ tk_tb := tk_in (List.mem_append_right _ (List.mem_of_getElem? (i := 211) (by decide +kernel))) rfl
set_option maxRecDepth 20000 in
theorem t_212 : (Jvm.Cond.classLink "SketchCache$Cache" (27 : Nat) "SketchCache$Sketch") ∈ tk_tb := tk_in (List.mem_append_right _ (List.mem_of_getElem? (i := 212) (by decide +kernel))) rfl
set_option maxRecDepth 20000 in
theorem t_213 : (Jvm.Cond.instantiable "SketchCache$Sketch" (11 : Nat)) ∈ tk_tb := tk_in (List.mem_append_right _ (List.mem_of_getElem? (i := 213) (by decide +kernel))) rfl
set_option maxRecDepth 20000 in
theorem t_214 : (Jvm.Cond.methodLink "SketchCache$Cache" (29 : Nat) ({ cls := "SketchCache$Sketch", name := "<init>", desc := "(I)V" } : Jvm.MethodName)) ∈ tk_tb := tk_in (List.mem_append_right _ (List.mem_of_getElem? (i := 214) (by decide +kernel))) rfl
set_option maxRecDepth 20000 in
theorem t_215 : (Jvm.Cond.instanceMethod ({ cls := "SketchCache$Sketch", name := "<init>", desc := "(I)V" } : Jvm.MethodName)) ∈ tk_tb := tk_in (List.mem_append_right _ (List.mem_of_getElem? (i := 215) (by decide +kernel))) rfl
set_option maxRecDepth 20000 in
theorem t_216 : (Jvm.Cond.code ({ cls := "SketchCache$Sketch", name := "<init>", desc := "(I)V" } : Jvm.MethodName) prog_9_method_1_code (4 : Nat) (Option.none : Option Jvm.ClassFile.FieldType)) ∈ tk_tb := tk_in (List.mem_append_right _ (List.mem_of_getElem? (i := 216) (rfl))) rfl
set_option maxRecDepth 20000 in
theorem t_217 : (Jvm.Cond.methodLink "SketchCache$Sketch" (3 : Nat) ({ cls := "java/lang/Object", name := "<init>", desc := "()V" } : Jvm.MethodName)) ∈ tk_tb := tk_in (List.mem_append_right _ (List.mem_of_getElem? (i := 217) (by decide +kernel))) rfl
set_option maxRecDepth 20000 in
theorem t_218 : (Jvm.Cond.classLink "SketchCache$Sketch" (9 : Nat) "[[I") ∈ tk_tb := tk_in (List.mem_append_right _ (List.mem_of_getElem? (i := 218) (by decide +kernel))) rfl
set_option maxRecDepth 20000 in
theorem t_219 : (Jvm.Cond.methodLink "SketchCache$Sketch" (45 : Nat) ({ cls := "java/lang/Math", name := "min", desc := "(II)I" } : Jvm.MethodName)) ∈ tk_tb := tk_in (List.mem_append_right _ (List.mem_of_getElem? (i := 219) (by decide +kernel))) rfl
set_option maxRecDepth 20000 in
theorem t_220 : (Jvm.Cond.methodLink "SketchCache$Sketch" (51 : Nat) ({ cls := "java/lang/Math", name := "max", desc := "(II)I" } : Jvm.MethodName)) ∈ tk_tb := tk_in (List.mem_append_right _ (List.mem_of_getElem? (i := 220) (by decide +kernel))) rfl
set_option maxRecDepth 20000 in
theorem t_221 : (Jvm.Cond.fieldLink "SketchCache$Sketch" (11 : Nat) "SketchCache$Sketch" "counters" "[[I") ∈ tk_tb := tk_in (List.mem_append_right _ (List.mem_of_getElem? (i := 221) (by decide +kernel))) rfl
set_option maxRecDepth 20000 in
theorem t_222 : (Jvm.Cond.fieldLink "SketchCache" (104 : Nat) "SketchCache$Sketch" "counters" "[[I") ∈ tk_tb := tk_in (List.mem_append_right _ (List.mem_of_getElem? (i := 222) (by decide +kernel))) rfl
set_option maxRecDepth 20000 in
theorem t_223 : (Jvm.Cond.fieldLink "SketchCache$Sketch" (16 : Nat) "SketchCache$Sketch" "bits" "[I") ∈ tk_tb := tk_in (List.mem_append_right _ (List.mem_of_getElem? (i := 223) (by decide +kernel))) rfl
set_option maxRecDepth 20000 in
theorem t_224 : (Jvm.Cond.fieldLink "SketchCache" (108 : Nat) "SketchCache$Sketch" "bits" "[I") ∈ tk_tb := tk_in (List.mem_append_right _ (List.mem_of_getElem? (i := 224) (by decide +kernel))) rfl
set_option maxRecDepth 20000 in
theorem t_225 : (Jvm.Cond.fieldLink "SketchCache$Sketch" (20 : Nat) "SketchCache$Sketch" "places" "[[I") ∈ tk_tb := tk_in (List.mem_append_right _ (List.mem_of_getElem? (i := 225) (by decide +kernel))) rfl
set_option maxRecDepth 20000 in
theorem t_226 : (Jvm.Cond.fieldLink "SketchCache$Sketch" (23 : Nat) "SketchCache$Sketch" "doorBits" "[[I") ∈ tk_tb := tk_in (List.mem_append_right _ (List.mem_of_getElem? (i := 226) (by decide +kernel))) rfl
set_option maxRecDepth 20000 in
theorem t_227 : (Jvm.Cond.fieldLink "SketchCache$Sketch" (26 : Nat) "SketchCache$Sketch" "addedSince" "[I") ∈ tk_tb := tk_in (List.mem_append_right _ (List.mem_of_getElem? (i := 227) (by decide +kernel))) rfl
set_option maxRecDepth 20000 in
theorem t_228 : (Jvm.Cond.fieldLink "SketchCache$Sketch" (54 : Nat) "SketchCache$Sketch" "rows" "I") ∈ tk_tb := tk_in (List.mem_append_right _ (List.mem_of_getElem? (i := 228) (by decide +kernel))) rfl
set_option maxRecDepth 20000 in
theorem t_229 : (Jvm.Cond.fieldLink "SketchCache$Sketch" (29 : Nat) "SketchCache$Sketch" "doorInUse" "I") ∈ tk_tb := tk_in (List.mem_append_right _ (List.mem_of_getElem? (i := 229) (by decide +kernel))) rfl
set_option maxRecDepth 20000 in
theorem t_230 : (Jvm.Cond.fieldLink "SketchCache$Sketch" (33 : Nat) "SketchCache$Sketch" "careful" "I") ∈ tk_tb := tk_in (List.mem_append_right _ (List.mem_of_getElem? (i := 230) (by decide +kernel))) rfl
set_option maxRecDepth 20000 in
theorem t_231 : (Jvm.Cond.fieldLink "SketchCache$Sketch" (36 : Nat) "SketchCache$Sketch" "sample" "I") ∈ tk_tb := tk_in (List.mem_append_right _ (List.mem_of_getElem? (i := 231) (by decide +kernel))) rfl
set_option maxRecDepth 20000 in
theorem t_232 : (Jvm.Cond.fieldLink "SketchCache$Sketch" (39 : Nat) "SketchCache$Sketch" "added" "I") ∈ tk_tb := tk_in (List.mem_append_right _ (List.mem_of_getElem? (i := 232) (by decide +kernel))) rfl
set_option maxRecDepth 20000 in
theorem t_233 : (Jvm.Cond.fieldLink "SketchCache$State" (112 : Nat) "SketchCache$Sketch" "added" "I") ∈ tk_tb := tk_in (List.mem_append_right _ (List.mem_of_getElem? (i := 233) (by decide +kernel))) rfl
set_option maxRecDepth 20000 in
theorem t_234 : (Jvm.Cond.fieldLink "SketchCache$Sketch" (42 : Nat) "SketchCache$Sketch" "aged" "I") ∈ tk_tb := tk_in (List.mem_append_right _ (List.mem_of_getElem? (i := 234) (by decide +kernel))) rfl
set_option maxRecDepth 20000 in
theorem t_235 : (Jvm.Cond.fieldLink "SketchCache$State" (115 : Nat) "SketchCache$Sketch" "aged" "I") ∈ tk_tb := tk_in (List.mem_append_right _ (List.mem_of_getElem? (i := 235) (by decide +kernel))) rfl
set_option maxRecDepth 20000 in
theorem t_236 : (Jvm.Cond.laysFinal "SketchCache$Sketch" "SketchCache$Sketch" "counters" "[[I") ∈ tk_tb := tk_in (List.mem_append_right _ (List.mem_of_getElem? (i := 236) (by decide +kernel))) rfl
set_option maxRecDepth 20000 in
theorem t_237 : (Jvm.Cond.soleField "SketchCache$Sketch" "counters") ∈ tk_tb := tk_in (List.mem_append_right _ (List.mem_of_getElem? (i := 237) (by decide +kernel))) rfl
set_option maxRecDepth 20000 in
theorem t_238 : (Jvm.Cond.laysFinal "SketchCache$Sketch" "SketchCache$Sketch" "bits" "[I") ∈ tk_tb := tk_in (List.mem_append_right _ (List.mem_of_getElem? (i := 238) (by decide +kernel))) rfl
set_option maxRecDepth 20000 in
theorem t_239 : (Jvm.Cond.soleField "SketchCache$Sketch" "bits") ∈ tk_tb := tk_in (List.mem_append_right _ (List.mem_of_getElem? (i := 239) (by decide +kernel))) rfl
set_option maxRecDepth 20000 in
theorem t_240 : (Jvm.Cond.laysFinal "SketchCache$Sketch" "SketchCache$Sketch" "places" "[[I") ∈ tk_tb := tk_in (List.mem_append_right _ (List.mem_of_getElem? (i := 240) (by decide +kernel))) rfl
set_option maxRecDepth 20000 in
theorem t_241 : (Jvm.Cond.soleField "SketchCache$Sketch" "places") ∈ tk_tb := tk_in (List.mem_append_right _ (List.mem_of_getElem? (i := 241) (by decide +kernel))) rfl
set_option maxRecDepth 20000 in
theorem t_242 : (Jvm.Cond.laysFinal "SketchCache$Sketch" "SketchCache$Sketch" "doorBits" "[[I") ∈ tk_tb := tk_in (List.mem_append_right _ (List.mem_of_getElem? (i := 242) (by decide +kernel))) rfl
set_option maxRecDepth 20000 in
theorem t_243 : (Jvm.Cond.soleField "SketchCache$Sketch" "doorBits") ∈ tk_tb := tk_in (List.mem_append_right _ (List.mem_of_getElem? (i := 243) (by decide +kernel))) rfl
set_option maxRecDepth 20000 in
theorem t_244 : (Jvm.Cond.laysFinal "SketchCache$Sketch" "SketchCache$Sketch" "addedSince" "[I") ∈ tk_tb := tk_in (List.mem_append_right _ (List.mem_of_getElem? (i := 244) (by decide +kernel))) rfl
set_option maxRecDepth 20000 in
theorem t_245 : (Jvm.Cond.soleField "SketchCache$Sketch" "addedSince") ∈ tk_tb := tk_in (List.mem_append_right _ (List.mem_of_getElem? (i := 245) (by decide +kernel))) rfl
set_option maxRecDepth 20000 in
theorem t_246 : (Jvm.Cond.laysFinal "SketchCache$Sketch" "SketchCache$Sketch" "rows" "I") ∈ tk_tb := tk_in (List.mem_append_right _ (List.mem_of_getElem? (i := 246) (by decide +kernel))) rfl
set_option maxRecDepth 20000 in
theorem t_247 : (Jvm.Cond.soleField "SketchCache$Sketch" "rows") ∈ tk_tb := tk_in (List.mem_append_right _ (List.mem_of_getElem? (i := 247) (by decide +kernel))) rfl
set_option maxRecDepth 20000 in
theorem t_248 : (Jvm.Cond.lays "SketchCache$Sketch" "SketchCache$Sketch" "doorInUse" "I") ∈ tk_tb := tk_in (List.mem_append_right _ (List.mem_of_getElem? (i := 248) (by decide +kernel))) rfl
set_option maxRecDepth 20000 in
theorem t_249 : (Jvm.Cond.soleField "SketchCache$Sketch" "doorInUse") ∈ tk_tb := tk_in (List.mem_append_right _ (List.mem_of_getElem? (i := 249) (by decide +kernel))) rfl
set_option maxRecDepth 20000 in
theorem t_250 : (Jvm.Cond.lays "SketchCache$Sketch" "SketchCache$Sketch" "careful" "I") ∈ tk_tb := tk_in (List.mem_append_right _ (List.mem_of_getElem? (i := 250) (by decide +kernel))) rfl
set_option maxRecDepth 20000 in
theorem t_251 : (Jvm.Cond.soleField "SketchCache$Sketch" "careful") ∈ tk_tb := tk_in (List.mem_append_right _ (List.mem_of_getElem? (i := 251) (by decide +kernel))) rfl
set_option maxRecDepth 20000 in
theorem t_252 : (Jvm.Cond.lays "SketchCache$Sketch" "SketchCache$Sketch" "sample" "I") ∈ tk_tb := tk_in (List.mem_append_right _ (List.mem_of_getElem? (i := 252) (by decide +kernel))) rfl
set_option maxRecDepth 20000 in
theorem t_253 : (Jvm.Cond.soleField "SketchCache$Sketch" "sample") ∈ tk_tb := tk_in (List.mem_append_right _ (List.mem_of_getElem? (i := 253) (by decide +kernel))) rfl
set_option maxRecDepth 20000 in
theorem t_254 : (Jvm.Cond.lays "SketchCache$Sketch" "SketchCache$Sketch" "added" "I") ∈ tk_tb := tk_in (List.mem_append_right _ (List.mem_of_getElem? (i := 254) (by decide +kernel))) rfl
set_option maxRecDepth 20000 in
theorem t_255 : (Jvm.Cond.soleField "SketchCache$Sketch" "added") ∈ tk_tb := tk_in (List.mem_append_right _ (List.mem_of_getElem? (i := 255) (by decide +kernel))) rfl
set_option maxRecDepth 20000 in
theorem t_256 : (Jvm.Cond.lays "SketchCache$Sketch" "SketchCache$Sketch" "aged" "I") ∈ tk_tb := tk_in (List.mem_append_right _ (List.mem_of_getElem? (i := 256) (by decide +kernel))) rfl
set_option maxRecDepth 20000 in
theorem t_257 : (Jvm.Cond.soleField "SketchCache$Sketch" "aged") ∈ tk_tb := tk_in (List.mem_append_right _ (List.mem_of_getElem? (i := 257) (by decide +kernel))) rfl
set_option maxRecDepth 20000 in
theorem t_258 : (Jvm.Cond.superclass "SketchCache$Sketch" "java/lang/Object") ∈ tk_tb := tk_in (List.mem_append_right _ (List.mem_of_getElem? (i := 258) (by decide +kernel))) rfl
set_option maxRecDepth 20000 in
theorem t_259 : (Jvm.Cond.fieldLink "SketchCache$Cache" (30 : Nat) "SketchCache$Cache" "sketch" "LSketchCache$Sketch;") ∈ tk_tb := tk_in (List.mem_append_right _ (List.mem_of_getElem? (i := 259) (by decide +kernel))) rfl
set_option maxRecDepth 20000 in
theorem t_260 : (Jvm.Cond.fieldLink "SketchCache$State" (45 : Nat) "SketchCache$Cache" "sketch" "LSketchCache$Sketch;") ∈ tk_tb := tk_in (List.mem_append_right _ (List.mem_of_getElem? (i := 260) (by decide +kernel))) rfl
set_option maxRecDepth 20000 in
theorem t_261 : (Jvm.Cond.fieldLink "SketchCache" (56 : Nat) "SketchCache$Cache" "sketch" "LSketchCache$Sketch;") ∈ tk_tb := tk_in (List.mem_append_right _ (List.mem_of_getElem? (i := 261) (by decide +kernel))) rfl
set_option maxRecDepth 20000 in
theorem t_262 : (Jvm.Cond.fieldLink "SketchCache$Cache" (14 : Nat) "SketchCache$Cache" "parts" "LSketchCache$Rows;") ∈ tk_tb := tk_in (List.mem_append_right _ (List.mem_of_getElem? (i := 262) (by decide +kernel))) rfl
set_option maxRecDepth 20000 in
theorem t_263 : (Jvm.Cond.fieldLink "SketchCache$State" (54 : Nat) "SketchCache$Cache" "parts" "LSketchCache$Rows;") ∈ tk_tb := tk_in (List.mem_append_right _ (List.mem_of_getElem? (i := 263) (by decide +kernel))) rfl
set_option maxRecDepth 20000 in
theorem t_264 : (Jvm.Cond.fieldLink "SketchCache" (81 : Nat) "SketchCache$Cache" "parts" "LSketchCache$Rows;") ∈ tk_tb := tk_in (List.mem_append_right _ (List.mem_of_getElem? (i := 264) (by decide +kernel))) rfl
set_option maxRecDepth 20000 in
theorem t_265 : (Jvm.Cond.fieldLink "SketchCache$Cache" (34 : Nat) "SketchCache$Cache" "capacity" "I") ∈ tk_tb := tk_in (List.mem_append_right _ (List.mem_of_getElem? (i := 265) (by decide +kernel))) rfl
set_option maxRecDepth 20000 in
theorem t_266 : (Jvm.Cond.fieldLink "SketchCache$Cache" (20 : Nat) "SketchCache$Cache" "mode" "I") ∈ tk_tb := tk_in (List.mem_append_right _ (List.mem_of_getElem? (i := 266) (by decide +kernel))) rfl
set_option maxRecDepth 20000 in
theorem t_267 : (Jvm.Cond.fieldLink "SketchCache$Cache" (37 : Nat) "SketchCache$Cache" "window" "I") ∈ tk_tb := tk_in (List.mem_append_right _ (List.mem_of_getElem? (i := 267) (by decide +kernel))) rfl
set_option maxRecDepth 20000 in
theorem t_268 : (Jvm.Cond.fieldLink "SketchCache$State" (77 : Nat) "SketchCache$Cache" "window" "I") ∈ tk_tb := tk_in (List.mem_append_right _ (List.mem_of_getElem? (i := 268) (by decide +kernel))) rfl
set_option maxRecDepth 20000 in
theorem t_269 : (Jvm.Cond.fieldLink "SketchCache$Cache" (24 : Nat) "SketchCache$Cache" "outs" "I") ∈ tk_tb := tk_in (List.mem_append_right _ (List.mem_of_getElem? (i := 269) (by decide +kernel))) rfl
set_option maxRecDepth 20000 in
theorem t_270 : (Jvm.Cond.fieldLink "SketchCache$State" (118 : Nat) "SketchCache$Cache" "outs" "I") ∈ tk_tb := tk_in (List.mem_append_right _ (List.mem_of_getElem? (i := 270) (by decide +kernel))) rfl
set_option maxRecDepth 20000 in
theorem t_271 : (Jvm.Cond.laysFinal "SketchCache$Cache" "SketchCache$Cache" "sketch" "LSketchCache$Sketch;") ∈ tk_tb := tk_in (List.mem_append_right _ (List.mem_of_getElem? (i := 271) (by decide +kernel))) rfl
set_option maxRecDepth 20000 in
theorem t_272 : (Jvm.Cond.soleField "SketchCache$Cache" "sketch") ∈ tk_tb := tk_in (List.mem_append_right _ (List.mem_of_getElem? (i := 272) (by decide +kernel))) rfl
set_option maxRecDepth 20000 in
theorem t_273 : (Jvm.Cond.laysFinal "SketchCache$Cache" "SketchCache$Cache" "parts" "LSketchCache$Rows;") ∈ tk_tb := tk_in (List.mem_append_right _ (List.mem_of_getElem? (i := 273) (by decide +kernel))) rfl
set_option maxRecDepth 20000 in
theorem t_274 : (Jvm.Cond.soleField "SketchCache$Cache" "parts") ∈ tk_tb := tk_in (List.mem_append_right _ (List.mem_of_getElem? (i := 274) (by decide +kernel))) rfl
set_option maxRecDepth 20000 in
theorem t_275 : (Jvm.Cond.laysFinal "SketchCache$Cache" "SketchCache$Cache" "capacity" "I") ∈ tk_tb := tk_in (List.mem_append_right _ (List.mem_of_getElem? (i := 275) (by decide +kernel))) rfl
set_option maxRecDepth 20000 in
theorem t_276 : (Jvm.Cond.soleField "SketchCache$Cache" "capacity") ∈ tk_tb := tk_in (List.mem_append_right _ (List.mem_of_getElem? (i := 276) (by decide +kernel))) rfl
set_option maxRecDepth 20000 in
theorem t_277 : (Jvm.Cond.lays "SketchCache$Cache" "SketchCache$Cache" "mode" "I") ∈ tk_tb := tk_in (List.mem_append_right _ (List.mem_of_getElem? (i := 277) (by decide +kernel))) rfl
set_option maxRecDepth 20000 in
theorem t_278 : (Jvm.Cond.soleField "SketchCache$Cache" "mode") ∈ tk_tb := tk_in (List.mem_append_right _ (List.mem_of_getElem? (i := 278) (by decide +kernel))) rfl
set_option maxRecDepth 20000 in
theorem t_279 : (Jvm.Cond.lays "SketchCache$Cache" "SketchCache$Cache" "window" "I") ∈ tk_tb := tk_in (List.mem_append_right _ (List.mem_of_getElem? (i := 279) (by decide +kernel))) rfl
set_option maxRecDepth 20000 in
theorem t_280 : (Jvm.Cond.soleField "SketchCache$Cache" "window") ∈ tk_tb := tk_in (List.mem_append_right _ (List.mem_of_getElem? (i := 280) (by decide +kernel))) rfl
set_option maxRecDepth 20000 in
theorem t_281 : (Jvm.Cond.lays "SketchCache$Cache" "SketchCache$Cache" "outs" "I") ∈ tk_tb := tk_in (List.mem_append_right _ (List.mem_of_getElem? (i := 281) (by decide +kernel))) rfl
set_option maxRecDepth 20000 in
theorem t_282 : (Jvm.Cond.soleField "SketchCache$Cache" "outs") ∈ tk_tb := tk_in (List.mem_append_right _ (List.mem_of_getElem? (i := 282) (by decide +kernel))) rfl
set_option maxRecDepth 20000 in
theorem t_283 : (Jvm.Cond.superclass "SketchCache$Cache" "java/lang/Object") ∈ tk_tb := tk_in (List.mem_append_right _ (List.mem_of_getElem? (i := 283) (by decide +kernel))) rfl
set_option maxRecDepth 20000 in
theorem t_284 : (Jvm.Cond.fieldLink "SketchCache$State" (37 : Nat) "SketchCache$State" "cache" "LSketchCache$Cache;") ∈ tk_tb := tk_in (List.mem_append_right _ (List.mem_of_getElem? (i := 284) (by decide +kernel))) rfl
set_option maxRecDepth 20000 in
theorem t_285 : (Jvm.Cond.fieldLink "SketchCache" (52 : Nat) "SketchCache$State" "cache" "LSketchCache$Cache;") ∈ tk_tb := tk_in (List.mem_append_right _ (List.mem_of_getElem? (i := 285) (by decide +kernel))) rfl
set_option maxRecDepth 20000 in
theorem t_286 : (Jvm.Cond.fieldLink "SketchCache$State" (12 : Nat) "SketchCache$State" "trace" "LSketchCache$Trace;") ∈ tk_tb := tk_in (List.mem_append_right _ (List.mem_of_getElem? (i := 286) (by decide +kernel))) rfl
set_option maxRecDepth 20000 in
theorem t_287 : (Jvm.Cond.fieldLink "SketchCache" (120 : Nat) "SketchCache$State" "trace" "LSketchCache$Trace;") ∈ tk_tb := tk_in (List.mem_append_right _ (List.mem_of_getElem? (i := 287) (by decide +kernel))) rfl
set_option maxRecDepth 20000 in
theorem t_288 : (Jvm.Cond.fieldLink "SketchCache$State" (21 : Nat) "SketchCache$State" "climb" "LSketchCache$Climb;") ∈ tk_tb := tk_in (List.mem_append_right _ (List.mem_of_getElem? (i := 288) (by decide +kernel))) rfl
set_option maxRecDepth 20000 in
theorem t_289 : (Jvm.Cond.fieldLink "SketchCache$State" (25 : Nat) "SketchCache$State" "accesses" "I") ∈ tk_tb := tk_in (List.mem_append_right _ (List.mem_of_getElem? (i := 289) (by decide +kernel))) rfl
set_option maxRecDepth 20000 in
theorem t_290 : (Jvm.Cond.fieldLink "SketchCache" (142 : Nat) "SketchCache$State" "accesses" "I") ∈ tk_tb := tk_in (List.mem_append_right _ (List.mem_of_getElem? (i := 290) (by decide +kernel))) rfl
set_option maxRecDepth 20000 in
theorem t_291 : (Jvm.Cond.fieldLink "SketchCache$State" (29 : Nat) "SketchCache$State" "hits" "I") ∈ tk_tb := tk_in (List.mem_append_right _ (List.mem_of_getElem? (i := 291) (by decide +kernel))) rfl
set_option maxRecDepth 20000 in
theorem t_292 : (Jvm.Cond.laysFinal "SketchCache$State" "SketchCache$State" "cache" "LSketchCache$Cache;") ∈ tk_tb := tk_in (List.mem_append_right _ (List.mem_of_getElem? (i := 292) (by decide +kernel))) rfl
set_option maxRecDepth 20000 in
theorem t_293 : (Jvm.Cond.soleField "SketchCache$State" "cache") ∈ tk_tb := tk_in (List.mem_append_right _ (List.mem_of_getElem? (i := 293) (by decide +kernel))) rfl
set_option maxRecDepth 20000 in
theorem t_294 : (Jvm.Cond.laysFinal "SketchCache$State" "SketchCache$State" "trace" "LSketchCache$Trace;") ∈ tk_tb := tk_in (List.mem_append_right _ (List.mem_of_getElem? (i := 294) (by decide +kernel))) rfl
set_option maxRecDepth 20000 in
theorem t_295 : (Jvm.Cond.soleField "SketchCache$State" "trace") ∈ tk_tb := tk_in (List.mem_append_right _ (List.mem_of_getElem? (i := 295) (by decide +kernel))) rfl
set_option maxRecDepth 20000 in
theorem t_296 : (Jvm.Cond.laysFinal "SketchCache$State" "SketchCache$State" "climb" "LSketchCache$Climb;") ∈ tk_tb := tk_in (List.mem_append_right _ (List.mem_of_getElem? (i := 296) (by decide +kernel))) rfl
set_option maxRecDepth 20000 in
theorem t_297 : (Jvm.Cond.soleField "SketchCache$State" "climb") ∈ tk_tb := tk_in (List.mem_append_right _ (List.mem_of_getElem? (i := 297) (by decide +kernel))) rfl
set_option maxRecDepth 20000 in
theorem t_298 : (Jvm.Cond.lays "SketchCache$State" "SketchCache$State" "accesses" "I") ∈ tk_tb := tk_in (List.mem_append_right _ (List.mem_of_getElem? (i := 298) (by decide +kernel))) rfl
set_option maxRecDepth 20000 in
theorem t_299 : (Jvm.Cond.soleField "SketchCache$State" "accesses") ∈ tk_tb := tk_in (List.mem_append_right _ (List.mem_of_getElem? (i := 299) (by decide +kernel))) rfl
set_option maxRecDepth 20000 in
theorem t_300 : (Jvm.Cond.lays "SketchCache$State" "SketchCache$State" "hits" "I") ∈ tk_tb := tk_in (List.mem_append_right _ (List.mem_of_getElem? (i := 300) (by decide +kernel))) rfl
set_option maxRecDepth 20000 in
theorem t_301 : (Jvm.Cond.soleField "SketchCache$State" "hits") ∈ tk_tb := tk_in (List.mem_append_right _ (List.mem_of_getElem? (i := 301) (by decide +kernel))) rfl
set_option maxRecDepth 20000 in
theorem t_302 : (Jvm.Cond.superclass "SketchCache$State" "java/lang/Object") ∈ tk_tb := tk_in (List.mem_append_right _ (List.mem_of_getElem? (i := 302) (by decide +kernel))) rfl
set_option maxRecDepth 20000 in
theorem t_303 : (Jvm.Cond.fieldLink "SketchCache" (31 : Nat) "SketchCache" "sketchRows" "I") ∈ tk_tb := tk_in (List.mem_append_right _ (List.mem_of_getElem? (i := 303) (by decide +kernel))) rfl
set_option maxRecDepth 20000 in
theorem t_304 : (Jvm.Cond.fieldLink "SketchCache" (35 : Nat) "SketchCache" "capacity" "I") ∈ tk_tb := tk_in (List.mem_append_right _ (List.mem_of_getElem? (i := 304) (by decide +kernel))) rfl
set_option maxRecDepth 20000 in
theorem t_305 : (Jvm.Cond.fieldLink "SketchCache" (38 : Nat) "SketchCache" "firstWindow" "I") ∈ tk_tb := tk_in (List.mem_append_right _ (List.mem_of_getElem? (i := 305) (by decide +kernel))) rfl
set_option maxRecDepth 20000 in
theorem t_306 : (Jvm.Cond.fieldLink "SketchCache" (44 : Nat) "SketchCache" "now" "LSketchCache$State;") ∈ tk_tb := tk_in (List.mem_append_right _ (List.mem_of_getElem? (i := 306) (by decide +kernel))) rfl
set_option maxRecDepth 20000 in
theorem t_307 : (Jvm.Cond.fieldLink "SketchCache" (11 : Nat) "SketchCache" "saved" "[LSketchCache$State;") ∈ tk_tb := tk_in (List.mem_append_right _ (List.mem_of_getElem? (i := 307) (by decide +kernel))) rfl
set_option maxRecDepth 20000 in
theorem t_308 : (Jvm.Cond.fieldLink "SketchCache" (18 : Nat) "SketchCache" "player" "LSketchCache$Player;") ∈ tk_tb := tk_in (List.mem_append_right _ (List.mem_of_getElem? (i := 308) (by decide +kernel))) rfl
set_option maxRecDepth 20000 in
theorem t_309 : (Jvm.Cond.laysFinal "SketchCache" "SketchCache" "sketchRows" "I") ∈ tk_tb := tk_in (List.mem_append_right _ (List.mem_of_getElem? (i := 309) (by decide +kernel))) rfl
set_option maxRecDepth 20000 in
theorem t_310 : (Jvm.Cond.soleField "SketchCache" "sketchRows") ∈ tk_tb := tk_in (List.mem_append_right _ (List.mem_of_getElem? (i := 310) (by decide +kernel))) rfl
set_option maxRecDepth 20000 in
theorem t_311 : (Jvm.Cond.laysFinal "SketchCache" "SketchCache" "capacity" "I") ∈ tk_tb := tk_in (List.mem_append_right _ (List.mem_of_getElem? (i := 311) (by decide +kernel))) rfl
set_option maxRecDepth 20000 in
theorem t_312 : (Jvm.Cond.soleField "SketchCache" "capacity") ∈ tk_tb := tk_in (List.mem_append_right _ (List.mem_of_getElem? (i := 312) (by decide +kernel))) rfl
set_option maxRecDepth 20000 in
theorem t_313 : (Jvm.Cond.laysFinal "SketchCache" "SketchCache" "firstWindow" "I") ∈ tk_tb := tk_in (List.mem_append_right _ (List.mem_of_getElem? (i := 313) (by decide +kernel))) rfl
set_option maxRecDepth 20000 in
theorem t_314 : (Jvm.Cond.soleField "SketchCache" "firstWindow") ∈ tk_tb := tk_in (List.mem_append_right _ (List.mem_of_getElem? (i := 314) (by decide +kernel))) rfl
set_option maxRecDepth 20000 in
theorem t_315 : (Jvm.Cond.laysFinal "SketchCache" "SketchCache" "now" "LSketchCache$State;") ∈ tk_tb := tk_in (List.mem_append_right _ (List.mem_of_getElem? (i := 315) (by decide +kernel))) rfl
set_option maxRecDepth 20000 in
theorem t_316 : (Jvm.Cond.soleField "SketchCache" "now") ∈ tk_tb := tk_in (List.mem_append_right _ (List.mem_of_getElem? (i := 316) (by decide +kernel))) rfl
set_option maxRecDepth 20000 in
theorem t_317 : (Jvm.Cond.laysFinal "SketchCache" "SketchCache" "saved" "[LSketchCache$State;") ∈ tk_tb := tk_in (List.mem_append_right _ (List.mem_of_getElem? (i := 317) (by decide +kernel))) rfl
set_option maxRecDepth 20000 in
theorem t_318 : (Jvm.Cond.soleField "SketchCache" "saved") ∈ tk_tb := tk_in (List.mem_append_right _ (List.mem_of_getElem? (i := 318) (by decide +kernel))) rfl
set_option maxRecDepth 20000 in
theorem t_319 : (Jvm.Cond.laysFinal "SketchCache" "SketchCache" "player" "LSketchCache$Player;") ∈ tk_tb := tk_in (List.mem_append_right _ (List.mem_of_getElem? (i := 319) (by decide +kernel))) rfl
set_option maxRecDepth 20000 in
theorem t_320 : (Jvm.Cond.soleField "SketchCache" "player") ∈ tk_tb := tk_in (List.mem_append_right _ (List.mem_of_getElem? (i := 320) (by decide +kernel))) rfl
set_option maxRecDepth 20000 in
theorem t_321 : (Jvm.Cond.superclass "SketchCache" "java/lang/Object") ∈ tk_tb := tk_in (List.mem_append_right _ (List.mem_of_getElem? (i := 321) (by decide +kernel))) rfl
set_option maxRecDepth 20000 in
theorem t_322 : (Jvm.Cond.methodLink "SketchCacheLaw" (21 : Nat) ({ cls := "SketchCache", name := "place", desc := "(III)I" } : Jvm.MethodName)) ∈ tk_tb := tk_in (List.mem_append_right _ (List.mem_of_getElem? (i := 322) (by decide +kernel))) rfl
set_option maxRecDepth 20000 in
theorem t_323 : (Jvm.Cond.instanceMethod ({ cls := "SketchCache", name := "place", desc := "(III)I" } : Jvm.MethodName)) ∈ tk_tb := tk_in (List.mem_append_right _ (List.mem_of_getElem? (i := 323) (by decide +kernel))) rfl
set_option maxRecDepth 20000 in
theorem t_324 : (Jvm.Cond.selects "SketchCache" ({ cls := "SketchCache", name := "place", desc := "(III)I" } : Jvm.MethodName) ({ cls := "SketchCache", name := "place", desc := "(III)I" } : Jvm.MethodName)) ∈ tk_tb := tk_in (List.mem_append_right _ (List.mem_of_getElem? (i := 324) (by decide +kernel))) rfl
set_option maxRecDepth 20000 in
theorem t_325 : (Jvm.Cond.code ({ cls := "SketchCache", name := "place", desc := "(III)I" } : Jvm.MethodName) prog_1_method_2_code (4 : Nat) (Option.some Jvm.ClassFile.FieldType.int)) ∈ tk_tb := tk_in (List.mem_append_right _ (List.mem_of_getElem? (i := 325) (rfl))) rfl
set_option maxRecDepth 20000 in
theorem t_326 : (Jvm.Cond.methodLink "SketchCache" (48 : Nat) ({ cls := "SketchCache", name := "isKey", desc := "(I)Z" } : Jvm.MethodName)) ∈ tk_tb := tk_in (List.mem_append_right _ (List.mem_of_getElem? (i := 326) (by decide +kernel))) rfl
set_option maxRecDepth 20000 in
theorem t_327 : (Jvm.Cond.static ({ cls := "SketchCache", name := "isKey", desc := "(I)Z" } : Jvm.MethodName)) ∈ tk_tb := tk_in (List.mem_append_right _ (List.mem_of_getElem? (i := 327) (by decide +kernel))) rfl
set_option maxRecDepth 20000 in
theorem t_328 : (Jvm.Cond.code ({ cls := "SketchCache", name := "isKey", desc := "(I)Z" } : Jvm.MethodName) prog_1_method_22_code (1 : Nat) (Option.some Jvm.ClassFile.FieldType.boolean)) ∈ tk_tb := tk_in (List.mem_append_right _ (List.mem_of_getElem? (i := 328) (rfl))) rfl
set_option maxRecDepth 20000 in
theorem t_329 : (Jvm.Cond.methodLink "SketchCache" (62 : Nat) ({ cls := "SketchCache$Sketch", name := "tellPlace", desc := "(III)I" } : Jvm.MethodName)) ∈ tk_tb := tk_in (List.mem_append_right _ (List.mem_of_getElem? (i := 329) (by decide +kernel))) rfl
set_option maxRecDepth 20000 in
theorem t_330 : (Jvm.Cond.instanceMethod ({ cls := "SketchCache$Sketch", name := "tellPlace", desc := "(III)I" } : Jvm.MethodName)) ∈ tk_tb := tk_in (List.mem_append_right _ (List.mem_of_getElem? (i := 330) (by decide +kernel))) rfl
set_option maxRecDepth 20000 in
theorem t_331 : (Jvm.Cond.selects "SketchCache$Sketch" ({ cls := "SketchCache$Sketch", name := "tellPlace", desc := "(III)I" } : Jvm.MethodName) ({ cls := "SketchCache$Sketch", name := "tellPlace", desc := "(III)I" } : Jvm.MethodName)) ∈ tk_tb := tk_in (List.mem_append_right _ (List.mem_of_getElem? (i := 331) (by decide +kernel))) rfl
set_option maxRecDepth 20000 in
theorem t_332 : (Jvm.Cond.code ({ cls := "SketchCache$Sketch", name := "tellPlace", desc := "(III)I" } : Jvm.MethodName) prog_9_method_2_code (5 : Nat) (Option.some Jvm.ClassFile.FieldType.int)) ∈ tk_tb := tk_in (List.mem_append_right _ (List.mem_of_getElem? (i := 332) (rfl))) rfl
set_option maxRecDepth 20000 in
theorem t_333 : (Jvm.Cond.methodLink "SketchCache$Sketch" (57 : Nat) ({ cls := "SketchCache$Sketch", name := "forgetIfChanged", desc := "(II)V" } : Jvm.MethodName)) ∈ tk_tb := tk_in (List.mem_append_right _ (List.mem_of_getElem? (i := 333) (by decide +kernel))) rfl
set_option maxRecDepth 20000 in
theorem q_334 : (Jvm.Cond.privateMethod ({ cls := "SketchCache$Sketch", name := "forgetIfChanged", desc := "(II)V" } : Jvm.MethodName)) ∈ lw_tbl := List.mem_append_right _ (List.mem_of_getElem? (i := 334) (by decide +kernel))
set_option maxRecDepth 20000 in
theorem t_335 : (Jvm.Cond.instanceMethod ({ cls := "SketchCache$Sketch", name := "forgetIfChanged", desc := "(II)V" } : Jvm.MethodName)) ∈ tk_tb := tk_in (List.mem_append_right _ (List.mem_of_getElem? (i := 335) (by decide +kernel))) rfl
set_option maxRecDepth 20000 in
theorem t_336 : (Jvm.Cond.code ({ cls := "SketchCache$Sketch", name := "forgetIfChanged", desc := "(II)V" } : Jvm.MethodName) prog_9_method_7_code (3 : Nat) (Option.none : Option Jvm.ClassFile.FieldType)) ∈ tk_tb := tk_in (List.mem_append_right _ (List.mem_of_getElem? (i := 336) (rfl))) rfl
set_option maxRecDepth 20000 in
theorem t_337 : (Jvm.Cond.methodLink "SketchCache$Sketch" (61 : Nat) ({ cls := "java/util/Arrays", name := "fill", desc := "([II)V" } : Jvm.MethodName)) ∈ tk_tb := tk_in (List.mem_append_right _ (List.mem_of_getElem? (i := 337) (by decide +kernel))) rfl
set_option maxRecDepth 20000 in
theorem t_338 : (Jvm.Cond.methodLink "SketchCacheLaw" (26 : Nat) ({ cls := "SketchCache", name := "door", desc := "(III)I" } : Jvm.MethodName)) ∈ tk_tb := tk_in (List.mem_append_right _ (List.mem_of_getElem? (i := 338) (by decide +kernel))) rfl
set_option maxRecDepth 20000 in
theorem t_339 : (Jvm.Cond.instanceMethod ({ cls := "SketchCache", name := "door", desc := "(III)I" } : Jvm.MethodName)) ∈ tk_tb := tk_in (List.mem_append_right _ (List.mem_of_getElem? (i := 339) (by decide +kernel))) rfl
set_option maxRecDepth 20000 in
theorem t_340 : (Jvm.Cond.selects "SketchCache" ({ cls := "SketchCache", name := "door", desc := "(III)I" } : Jvm.MethodName) ({ cls := "SketchCache", name := "door", desc := "(III)I" } : Jvm.MethodName)) ∈ tk_tb := tk_in (List.mem_append_right _ (List.mem_of_getElem? (i := 340) (by decide +kernel))) rfl
set_option maxRecDepth 20000 in
theorem t_341 : (Jvm.Cond.code ({ cls := "SketchCache", name := "door", desc := "(III)I" } : Jvm.MethodName) prog_1_method_3_code (4 : Nat) (Option.some Jvm.ClassFile.FieldType.int)) ∈ tk_tb := tk_in (List.mem_append_right _ (List.mem_of_getElem? (i := 341) (rfl))) rfl
set_option maxRecDepth 20000 in
theorem t_342 : (Jvm.Cond.methodLink "SketchCache" (68 : Nat) ({ cls := "SketchCache$Sketch", name := "tellBit", desc := "(III)I" } : Jvm.MethodName)) ∈ tk_tb := tk_in (List.mem_append_right _ (List.mem_of_getElem? (i := 342) (by decide +kernel))) rfl
set_option maxRecDepth 20000 in
theorem t_343 : (Jvm.Cond.instanceMethod ({ cls := "SketchCache$Sketch", name := "tellBit", desc := "(III)I" } : Jvm.MethodName)) ∈ tk_tb := tk_in (List.mem_append_right _ (List.mem_of_getElem? (i := 343) (by decide +kernel))) rfl
set_option maxRecDepth 20000 in
theorem t_344 : (Jvm.Cond.selects "SketchCache$Sketch" ({ cls := "SketchCache$Sketch", name := "tellBit", desc := "(III)I" } : Jvm.MethodName) ({ cls := "SketchCache$Sketch", name := "tellBit", desc := "(III)I" } : Jvm.MethodName)) ∈ tk_tb := tk_in (List.mem_append_right _ (List.mem_of_getElem? (i := 344) (by decide +kernel))) rfl
set_option maxRecDepth 20000 in
theorem t_345 : (Jvm.Cond.code ({ cls := "SketchCache$Sketch", name := "tellBit", desc := "(III)I" } : Jvm.MethodName) prog_9_method_3_code (5 : Nat) (Option.some Jvm.ClassFile.FieldType.int)) ∈ tk_tb := tk_in (List.mem_append_right _ (List.mem_of_getElem? (i := 345) (rfl))) rfl
set_option maxRecDepth 20000 in
theorem t_346 : (Jvm.Cond.methodLink "SketchCacheLaw" (30 : Nat) ({ cls := "SketchCache", name := "rule", desc := "(II)I" } : Jvm.MethodName)) ∈ tk_tb := tk_in (List.mem_append_right _ (List.mem_of_getElem? (i := 346) (by decide +kernel))) rfl
set_option maxRecDepth 20000 in
theorem t_347 : (Jvm.Cond.instanceMethod ({ cls := "SketchCache", name := "rule", desc := "(II)I" } : Jvm.MethodName)) ∈ tk_tb := tk_in (List.mem_append_right _ (List.mem_of_getElem? (i := 347) (by decide +kernel))) rfl
set_option maxRecDepth 20000 in
theorem t_348 : (Jvm.Cond.selects "SketchCache" ({ cls := "SketchCache", name := "rule", desc := "(II)I" } : Jvm.MethodName) ({ cls := "SketchCache", name := "rule", desc := "(II)I" } : Jvm.MethodName)) ∈ tk_tb := tk_in (List.mem_append_right _ (List.mem_of_getElem? (i := 348) (by decide +kernel))) rfl
set_option maxRecDepth 20000 in
theorem t_349 : (Jvm.Cond.code ({ cls := "SketchCache", name := "rule", desc := "(II)I" } : Jvm.MethodName) prog_1_method_4_code (3 : Nat) (Option.some Jvm.ClassFile.FieldType.int)) ∈ tk_tb := tk_in (List.mem_append_right _ (List.mem_of_getElem? (i := 349) (rfl))) rfl
set_option maxRecDepth 20000 in
theorem t_350 : (Jvm.Cond.fieldLink "SketchCache" (71 : Nat) "SketchCache" "LEAST_RULE" "[I") ∈ tk_tb := tk_in (List.mem_append_right _ (List.mem_of_getElem? (i := 350) (by decide +kernel))) rfl
set_option maxRecDepth 20000 in
theorem q_351 : (Jvm.Cond.laysStatic "SketchCache" "LEAST_RULE" "[I") ∈ lw_tbl := List.mem_append_right _ (List.mem_of_getElem? (i := 351) (by decide +kernel))
set_option maxRecDepth 20000 in
theorem t_352 : (Jvm.Cond.fieldLink "SketchCache" (75 : Nat) "SketchCache" "MOST_RULE" "[I") ∈ tk_tb := tk_in (List.mem_append_right _ (List.mem_of_getElem? (i := 352) (by decide +kernel))) rfl
set_option maxRecDepth 20000 in
theorem q_353 : (Jvm.Cond.laysStatic "SketchCache" "MOST_RULE" "[I") ∈ lw_tbl := List.mem_append_right _ (List.mem_of_getElem? (i := 353) (by decide +kernel))
set_option maxRecDepth 20000 in
theorem t_354 : (Jvm.Cond.methodLink "SketchCache" (78 : Nat) ({ cls := "SketchCache$State", name := "tellRule", desc := "(II)I" } : Jvm.MethodName)) ∈ tk_tb := tk_in (List.mem_append_right _ (List.mem_of_getElem? (i := 354) (by decide +kernel))) rfl
set_option maxRecDepth 20000 in
theorem t_355 : (Jvm.Cond.instanceMethod ({ cls := "SketchCache$State", name := "tellRule", desc := "(II)I" } : Jvm.MethodName)) ∈ tk_tb := tk_in (List.mem_append_right _ (List.mem_of_getElem? (i := 355) (by decide +kernel))) rfl
set_option maxRecDepth 20000 in
theorem t_356 : (Jvm.Cond.selects "SketchCache$State" ({ cls := "SketchCache$State", name := "tellRule", desc := "(II)I" } : Jvm.MethodName) ({ cls := "SketchCache$State", name := "tellRule", desc := "(II)I" } : Jvm.MethodName)) ∈ tk_tb := tk_in (List.mem_append_right _ (List.mem_of_getElem? (i := 356) (by decide +kernel))) rfl
set_option maxRecDepth 20000 in
theorem t_357 : (Jvm.Cond.code ({ cls := "SketchCache$State", name := "tellRule", desc := "(II)I" } : Jvm.MethodName) prog_10_method_3_code (3 : Nat) (Option.some Jvm.ClassFile.FieldType.int)) ∈ tk_tb := tk_in (List.mem_append_right _ (List.mem_of_getElem? (i := 357) (rfl))) rfl
set_option maxRecDepth 20000 in
theorem t_358 : (Jvm.Cond.methodLink "SketchCache$State" (83 : Nat) ({ cls := "SketchCache$Sketch", name := "tellDoorInUse", desc := "(I)I" } : Jvm.MethodName)) ∈ tk_tb := tk_in (List.mem_append_right _ (List.mem_of_getElem? (i := 358) (by decide +kernel))) rfl
set_option maxRecDepth 20000 in
theorem t_359 : (Jvm.Cond.instanceMethod ({ cls := "SketchCache$Sketch", name := "tellDoorInUse", desc := "(I)I" } : Jvm.MethodName)) ∈ tk_tb := tk_in (List.mem_append_right _ (List.mem_of_getElem? (i := 359) (by decide +kernel))) rfl
set_option maxRecDepth 20000 in
theorem t_360 : (Jvm.Cond.selects "SketchCache$Sketch" ({ cls := "SketchCache$Sketch", name := "tellDoorInUse", desc := "(I)I" } : Jvm.MethodName) ({ cls := "SketchCache$Sketch", name := "tellDoorInUse", desc := "(I)I" } : Jvm.MethodName)) ∈ tk_tb := tk_in (List.mem_append_right _ (List.mem_of_getElem? (i := 360) (by decide +kernel))) rfl
set_option maxRecDepth 20000 in
theorem t_361 : (Jvm.Cond.code ({ cls := "SketchCache$Sketch", name := "tellDoorInUse", desc := "(I)I" } : Jvm.MethodName) prog_9_method_4_code (3 : Nat) (Option.some Jvm.ClassFile.FieldType.int)) ∈ tk_tb := tk_in (List.mem_append_right _ (List.mem_of_getElem? (i := 361) (rfl))) rfl
set_option maxRecDepth 20000 in
theorem t_362 : (Jvm.Cond.methodLink "SketchCache$State" (87 : Nat) ({ cls := "SketchCache$Sketch", name := "tellCareful", desc := "(I)I" } : Jvm.MethodName)) ∈ tk_tb := tk_in (List.mem_append_right _ (List.mem_of_getElem? (i := 362) (by decide +kernel))) rfl
set_option maxRecDepth 20000 in
theorem t_363 : (Jvm.Cond.instanceMethod ({ cls := "SketchCache$Sketch", name := "tellCareful", desc := "(I)I" } : Jvm.MethodName)) ∈ tk_tb := tk_in (List.mem_append_right _ (List.mem_of_getElem? (i := 363) (by decide +kernel))) rfl
set_option maxRecDepth 20000 in
theorem t_364 : (Jvm.Cond.selects "SketchCache$Sketch" ({ cls := "SketchCache$Sketch", name := "tellCareful", desc := "(I)I" } : Jvm.MethodName) ({ cls := "SketchCache$Sketch", name := "tellCareful", desc := "(I)I" } : Jvm.MethodName)) ∈ tk_tb := tk_in (List.mem_append_right _ (List.mem_of_getElem? (i := 364) (by decide +kernel))) rfl
set_option maxRecDepth 20000 in
theorem t_365 : (Jvm.Cond.code ({ cls := "SketchCache$Sketch", name := "tellCareful", desc := "(I)I" } : Jvm.MethodName) prog_9_method_5_code (3 : Nat) (Option.some Jvm.ClassFile.FieldType.int)) ∈ tk_tb := tk_in (List.mem_append_right _ (List.mem_of_getElem? (i := 365) (rfl))) rfl
set_option maxRecDepth 20000 in
theorem t_366 : (Jvm.Cond.methodLink "SketchCache$State" (90 : Nat) ({ cls := "SketchCache$Sketch", name := "tellSample", desc := "(I)I" } : Jvm.MethodName)) ∈ tk_tb := tk_in (List.mem_append_right _ (List.mem_of_getElem? (i := 366) (by decide +kernel))) rfl
set_option maxRecDepth 20000 in
theorem t_367 : (Jvm.Cond.instanceMethod ({ cls := "SketchCache$Sketch", name := "tellSample", desc := "(I)I" } : Jvm.MethodName)) ∈ tk_tb := tk_in (List.mem_append_right _ (List.mem_of_getElem? (i := 367) (by decide +kernel))) rfl
set_option maxRecDepth 20000 in
theorem t_368 : (Jvm.Cond.selects "SketchCache$Sketch" ({ cls := "SketchCache$Sketch", name := "tellSample", desc := "(I)I" } : Jvm.MethodName) ({ cls := "SketchCache$Sketch", name := "tellSample", desc := "(I)I" } : Jvm.MethodName)) ∈ tk_tb := tk_in (List.mem_append_right _ (List.mem_of_getElem? (i := 368) (by decide +kernel))) rfl
set_option maxRecDepth 20000 in
theorem t_369 : (Jvm.Cond.code ({ cls := "SketchCache$Sketch", name := "tellSample", desc := "(I)I" } : Jvm.MethodName) prog_9_method_6_code (3 : Nat) (Option.some Jvm.ClassFile.FieldType.int)) ∈ tk_tb := tk_in (List.mem_append_right _ (List.mem_of_getElem? (i := 369) (rfl))) rfl
set_option maxRecDepth 20000 in
theorem t_370 : (Jvm.Cond.methodLink "SketchCache$State" (93 : Nat) ({ cls := "SketchCache$Cache", name := "tellMode", desc := "(I)I" } : Jvm.MethodName)) ∈ tk_tb := tk_in (List.mem_append_right _ (List.mem_of_getElem? (i := 370) (by decide +kernel))) rfl
set_option maxRecDepth 20000 in
theorem t_371 : (Jvm.Cond.instanceMethod ({ cls := "SketchCache$Cache", name := "tellMode", desc := "(I)I" } : Jvm.MethodName)) ∈ tk_tb := tk_in (List.mem_append_right _ (List.mem_of_getElem? (i := 371) (by decide +kernel))) rfl
set_option maxRecDepth 20000 in
theorem t_372 : (Jvm.Cond.selects "SketchCache$Cache" ({ cls := "SketchCache$Cache", name := "tellMode", desc := "(I)I" } : Jvm.MethodName) ({ cls := "SketchCache$Cache", name := "tellMode", desc := "(I)I" } : Jvm.MethodName)) ∈ tk_tb := tk_in (List.mem_append_right _ (List.mem_of_getElem? (i := 372) (by decide +kernel))) rfl
set_option maxRecDepth 20000 in
theorem t_373 : (Jvm.Cond.code ({ cls := "SketchCache$Cache", name := "tellMode", desc := "(I)I" } : Jvm.MethodName) prog_2_method_2_code (3 : Nat) (Option.some Jvm.ClassFile.FieldType.int)) ∈ tk_tb := tk_in (List.mem_append_right _ (List.mem_of_getElem? (i := 373) (rfl))) rfl
set_option maxRecDepth 20000 in
theorem t_374 : (Jvm.Cond.methodLink "SketchCache$State" (96 : Nat) ({ cls := "SketchCache$Climb", name := "tellStep", desc := "(I)I" } : Jvm.MethodName)) ∈ tk_tb := tk_in (List.mem_append_right _ (List.mem_of_getElem? (i := 374) (by decide +kernel))) rfl
set_option maxRecDepth 20000 in
theorem t_375 : (Jvm.Cond.instanceMethod ({ cls := "SketchCache$Climb", name := "tellStep", desc := "(I)I" } : Jvm.MethodName)) ∈ tk_tb := tk_in (List.mem_append_right _ (List.mem_of_getElem? (i := 375) (by decide +kernel))) rfl
set_option maxRecDepth 20000 in
theorem t_376 : (Jvm.Cond.selects "SketchCache$Climb" ({ cls := "SketchCache$Climb", name := "tellStep", desc := "(I)I" } : Jvm.MethodName) ({ cls := "SketchCache$Climb", name := "tellStep", desc := "(I)I" } : Jvm.MethodName)) ∈ tk_tb := tk_in (List.mem_append_right _ (List.mem_of_getElem? (i := 376) (by decide +kernel))) rfl
set_option maxRecDepth 20000 in
theorem t_377 : (Jvm.Cond.code ({ cls := "SketchCache$Climb", name := "tellStep", desc := "(I)I" } : Jvm.MethodName) prog_3_method_2_code (3 : Nat) (Option.some Jvm.ClassFile.FieldType.int)) ∈ tk_tb := tk_in (List.mem_append_right _ (List.mem_of_getElem? (i := 377) (rfl))) rfl
set_option maxRecDepth 20000 in
theorem t_378 : (Jvm.Cond.methodLink "SketchCache$Climb" (28 : Nat) ({ cls := "SketchCache$Climb", name := "beginAnew", desc := "()V" } : Jvm.MethodName)) ∈ tk_tb := tk_in (List.mem_append_right _ (List.mem_of_getElem? (i := 378) (by decide +kernel))) rfl
set_option maxRecDepth 20000 in
theorem q_379 : (Jvm.Cond.privateMethod ({ cls := "SketchCache$Climb", name := "beginAnew", desc := "()V" } : Jvm.MethodName)) ∈ lw_tbl := List.mem_append_right _ (List.mem_of_getElem? (i := 379) (by decide +kernel))
set_option maxRecDepth 20000 in
theorem t_380 : (Jvm.Cond.instanceMethod ({ cls := "SketchCache$Climb", name := "beginAnew", desc := "()V" } : Jvm.MethodName)) ∈ tk_tb := tk_in (List.mem_append_right _ (List.mem_of_getElem? (i := 380) (by decide +kernel))) rfl
set_option maxRecDepth 20000 in
theorem t_381 : (Jvm.Cond.code ({ cls := "SketchCache$Climb", name := "beginAnew", desc := "()V" } : Jvm.MethodName) prog_3_method_4_code (1 : Nat) (Option.none : Option Jvm.ClassFile.FieldType)) ∈ tk_tb := tk_in (List.mem_append_right _ (List.mem_of_getElem? (i := 381) (rfl))) rfl
set_option maxRecDepth 20000 in
theorem t_382 : (Jvm.Cond.methodLink "SketchCache$State" (99 : Nat) ({ cls := "SketchCache$Climb", name := "tellPeriod", desc := "(I)I" } : Jvm.MethodName)) ∈ tk_tb := tk_in (List.mem_append_right _ (List.mem_of_getElem? (i := 382) (by decide +kernel))) rfl
set_option maxRecDepth 20000 in
theorem t_383 : (Jvm.Cond.instanceMethod ({ cls := "SketchCache$Climb", name := "tellPeriod", desc := "(I)I" } : Jvm.MethodName)) ∈ tk_tb := tk_in (List.mem_append_right _ (List.mem_of_getElem? (i := 383) (by decide +kernel))) rfl
set_option maxRecDepth 20000 in
theorem t_384 : (Jvm.Cond.selects "SketchCache$Climb" ({ cls := "SketchCache$Climb", name := "tellPeriod", desc := "(I)I" } : Jvm.MethodName) ({ cls := "SketchCache$Climb", name := "tellPeriod", desc := "(I)I" } : Jvm.MethodName)) ∈ tk_tb := tk_in (List.mem_append_right _ (List.mem_of_getElem? (i := 384) (by decide +kernel))) rfl
set_option maxRecDepth 20000 in
theorem t_385 : (Jvm.Cond.code ({ cls := "SketchCache$Climb", name := "tellPeriod", desc := "(I)I" } : Jvm.MethodName) prog_3_method_3_code (3 : Nat) (Option.some Jvm.ClassFile.FieldType.int)) ∈ tk_tb := tk_in (List.mem_append_right _ (List.mem_of_getElem? (i := 385) (rfl))) rfl
set_option maxRecDepth 20000 in
theorem t_386 : (Jvm.Cond.methodLink "SketchCacheLaw" (35 : Nat) ({ cls := "SketchCache", name := "size", desc := "(II)I" } : Jvm.MethodName)) ∈ tk_tb := tk_in (List.mem_append_right _ (List.mem_of_getElem? (i := 386) (by decide +kernel))) rfl
set_option maxRecDepth 20000 in
theorem t_387 : (Jvm.Cond.instanceMethod ({ cls := "SketchCache", name := "size", desc := "(II)I" } : Jvm.MethodName)) ∈ tk_tb := tk_in (List.mem_append_right _ (List.mem_of_getElem? (i := 387) (by decide +kernel))) rfl
set_option maxRecDepth 20000 in
theorem t_388 : (Jvm.Cond.selects "SketchCache" ({ cls := "SketchCache", name := "size", desc := "(II)I" } : Jvm.MethodName) ({ cls := "SketchCache", name := "size", desc := "(II)I" } : Jvm.MethodName)) ∈ tk_tb := tk_in (List.mem_append_right _ (List.mem_of_getElem? (i := 388) (by decide +kernel))) rfl
set_option maxRecDepth 20000 in
theorem t_389 : (Jvm.Cond.code ({ cls := "SketchCache", name := "size", desc := "(II)I" } : Jvm.MethodName) prog_1_method_5_code (5 : Nat) (Option.some Jvm.ClassFile.FieldType.int)) ∈ tk_tb := tk_in (List.mem_append_right _ (List.mem_of_getElem? (i := 389) (rfl))) rfl
set_option maxRecDepth 20000 in
theorem t_390 : (Jvm.Cond.methodLink "SketchCacheLaw" (39 : Nat) ({ cls := "SketchCache", name := "access", desc := "(I)I" } : Jvm.MethodName)) ∈ tk_tb := tk_in (List.mem_append_right _ (List.mem_of_getElem? (i := 390) (by decide +kernel))) rfl
set_option maxRecDepth 20000 in
theorem t_391 : (Jvm.Cond.instanceMethod ({ cls := "SketchCache", name := "access", desc := "(I)I" } : Jvm.MethodName)) ∈ tk_tb := tk_in (List.mem_append_right _ (List.mem_of_getElem? (i := 391) (by decide +kernel))) rfl
set_option maxRecDepth 20000 in
theorem t_392 : (Jvm.Cond.selects "SketchCache" ({ cls := "SketchCache", name := "access", desc := "(I)I" } : Jvm.MethodName) ({ cls := "SketchCache", name := "access", desc := "(I)I" } : Jvm.MethodName)) ∈ tk_tb := tk_in (List.mem_append_right _ (List.mem_of_getElem? (i := 392) (by decide +kernel))) rfl
set_option maxRecDepth 20000 in
theorem t_393 : (Jvm.Cond.code ({ cls := "SketchCache", name := "access", desc := "(I)I" } : Jvm.MethodName) prog_1_method_6_code (2 : Nat) (Option.some Jvm.ClassFile.FieldType.int)) ∈ tk_tb := tk_in (List.mem_append_right _ (List.mem_of_getElem? (i := 393) (rfl))) rfl
set_option maxRecDepth 20000 in
theorem t_394 : (Jvm.Cond.methodLink "SketchCache" (93 : Nat) ({ cls := "SketchCache$State", name := "visit", desc := "(I)I" } : Jvm.MethodName)) ∈ tk_tb := tk_in (List.mem_append_right _ (List.mem_of_getElem? (i := 394) (by decide +kernel))) rfl
set_option maxRecDepth 20000 in
theorem t_395 : (Jvm.Cond.instanceMethod ({ cls := "SketchCache$State", name := "visit", desc := "(I)I" } : Jvm.MethodName)) ∈ tk_tb := tk_in (List.mem_append_right _ (List.mem_of_getElem? (i := 395) (by decide +kernel))) rfl
set_option maxRecDepth 20000 in
theorem t_396 : (Jvm.Cond.selects "SketchCache$State" ({ cls := "SketchCache$State", name := "visit", desc := "(I)I" } : Jvm.MethodName) ({ cls := "SketchCache$State", name := "visit", desc := "(I)I" } : Jvm.MethodName)) ∈ tk_tb := tk_in (List.mem_append_right _ (List.mem_of_getElem? (i := 396) (by decide +kernel))) rfl
set_option maxRecDepth 20000 in
theorem t_397 : (Jvm.Cond.code ({ cls := "SketchCache$State", name := "visit", desc := "(I)I" } : Jvm.MethodName) prog_10_method_2_code (5 : Nat) (Option.some Jvm.ClassFile.FieldType.int)) ∈ tk_tb := tk_in (List.mem_append_right _ (List.mem_of_getElem? (i := 397) (rfl))) rfl
set_option maxRecDepth 20000 in
theorem t_398 : (Jvm.Cond.methodLink "SketchCache$State" (41 : Nat) ({ cls := "SketchCache$Trace", name := "note", desc := "(I)V" } : Jvm.MethodName)) ∈ tk_tb := tk_in (List.mem_append_right _ (List.mem_of_getElem? (i := 398) (by decide +kernel))) rfl
set_option maxRecDepth 20000 in
theorem t_399 : (Jvm.Cond.instanceMethod ({ cls := "SketchCache$Trace", name := "note", desc := "(I)V" } : Jvm.MethodName)) ∈ tk_tb := tk_in (List.mem_append_right _ (List.mem_of_getElem? (i := 399) (by decide +kernel))) rfl
set_option maxRecDepth 20000 in
theorem t_400 : (Jvm.Cond.selects "SketchCache$Trace" ({ cls := "SketchCache$Trace", name := "note", desc := "(I)V" } : Jvm.MethodName) ({ cls := "SketchCache$Trace", name := "note", desc := "(I)V" } : Jvm.MethodName)) ∈ tk_tb := tk_in (List.mem_append_right _ (List.mem_of_getElem? (i := 400) (by decide +kernel))) rfl
set_option maxRecDepth 20000 in
theorem t_401 : (Jvm.Cond.code ({ cls := "SketchCache$Trace", name := "note", desc := "(I)V" } : Jvm.MethodName) prog_11_method_2_code (2 : Nat) (Option.none : Option Jvm.ClassFile.FieldType)) ∈ tk_tb := tk_in (List.mem_append_right _ (List.mem_of_getElem? (i := 401) (rfl))) rfl
set_option maxRecDepth 20000 in
theorem t_402 : (Jvm.Cond.methodLink "SketchCache$State" (49 : Nat) ({ cls := "SketchCache$Sketch", name := "put", desc := "(I)V" } : Jvm.MethodName)) ∈ tk_tb := tk_in (List.mem_append_right _ (List.mem_of_getElem? (i := 402) (by decide +kernel))) rfl
set_option maxRecDepth 20000 in
theorem t_403 : (Jvm.Cond.instanceMethod ({ cls := "SketchCache$Sketch", name := "put", desc := "(I)V" } : Jvm.MethodName)) ∈ tk_tb := tk_in (List.mem_append_right _ (List.mem_of_getElem? (i := 403) (by decide +kernel))) rfl
set_option maxRecDepth 20000 in
theorem t_404 : (Jvm.Cond.selects "SketchCache$Sketch" ({ cls := "SketchCache$Sketch", name := "put", desc := "(I)V" } : Jvm.MethodName) ({ cls := "SketchCache$Sketch", name := "put", desc := "(I)V" } : Jvm.MethodName)) ∈ tk_tb := tk_in (List.mem_append_right _ (List.mem_of_getElem? (i := 404) (by decide +kernel))) rfl
set_option maxRecDepth 20000 in
theorem t_405 : (Jvm.Cond.code ({ cls := "SketchCache$Sketch", name := "put", desc := "(I)V" } : Jvm.MethodName) prog_9_method_8_code (2 : Nat) (Option.none : Option Jvm.ClassFile.FieldType)) ∈ tk_tb := tk_in (List.mem_append_right _ (List.mem_of_getElem? (i := 405) (rfl))) rfl
set_option maxRecDepth 20000 in
theorem t_406 : (Jvm.Cond.methodLink "SketchCache$Sketch" (67 : Nat) ({ cls := "SketchCache$Sketch", name := "isPastDoor", desc := "(I)Z" } : Jvm.MethodName)) ∈ tk_tb := tk_in (List.mem_append_right _ (List.mem_of_getElem? (i := 406) (by decide +kernel))) rfl
set_option maxRecDepth 20000 in
theorem q_407 : (Jvm.Cond.privateMethod ({ cls := "SketchCache$Sketch", name := "isPastDoor", desc := "(I)Z" } : Jvm.MethodName)) ∈ lw_tbl := List.mem_append_right _ (List.mem_of_getElem? (i := 407) (by decide +kernel))
set_option maxRecDepth 20000 in
theorem t_408 : (Jvm.Cond.instanceMethod ({ cls := "SketchCache$Sketch", name := "isPastDoor", desc := "(I)Z" } : Jvm.MethodName)) ∈ tk_tb := tk_in (List.mem_append_right _ (List.mem_of_getElem? (i := 408) (by decide +kernel))) rfl
set_option maxRecDepth 20000 in
theorem t_409 : (Jvm.Cond.code ({ cls := "SketchCache$Sketch", name := "isPastDoor", desc := "(I)Z" } : Jvm.MethodName) prog_9_method_9_code (2 : Nat) (Option.some Jvm.ClassFile.FieldType.boolean)) ∈ tk_tb := tk_in (List.mem_append_right _ (List.mem_of_getElem? (i := 409) (rfl))) rfl
set_option maxRecDepth 20000 in
theorem t_410 : (Jvm.Cond.methodLink "SketchCache$Sketch" (71 : Nat) ({ cls := "SketchCache$Sketch", name := "growCounters", desc := "(I)V" } : Jvm.MethodName)) ∈ tk_tb := tk_in (List.mem_append_right _ (List.mem_of_getElem? (i := 410) (by decide +kernel))) rfl
set_option maxRecDepth 20000 in
theorem q_411 : (Jvm.Cond.privateMethod ({ cls := "SketchCache$Sketch", name := "growCounters", desc := "(I)V" } : Jvm.MethodName)) ∈ lw_tbl := List.mem_append_right _ (List.mem_of_getElem? (i := 411) (by decide +kernel))
set_option maxRecDepth 20000 in
theorem t_412 : (Jvm.Cond.instanceMethod ({ cls := "SketchCache$Sketch", name := "growCounters", desc := "(I)V" } : Jvm.MethodName)) ∈ tk_tb := tk_in (List.mem_append_right _ (List.mem_of_getElem? (i := 412) (by decide +kernel))) rfl
set_option maxRecDepth 20000 in
theorem t_413 : (Jvm.Cond.code ({ cls := "SketchCache$Sketch", name := "growCounters", desc := "(I)V" } : Jvm.MethodName) prog_9_method_10_code (6 : Nat) (Option.none : Option Jvm.ClassFile.FieldType)) ∈ tk_tb := tk_in (List.mem_append_right _ (List.mem_of_getElem? (i := 413) (rfl))) rfl
set_option maxRecDepth 20000 in
theorem t_414 : (Jvm.Cond.methodLink "SketchCache$Sketch" (78 : Nat) ({ cls := "SketchCache$Sketch", name := "smallestCounter", desc := "(I)I" } : Jvm.MethodName)) ∈ tk_tb := tk_in (List.mem_append_right _ (List.mem_of_getElem? (i := 414) (by decide +kernel))) rfl
set_option maxRecDepth 20000 in
theorem q_415 : (Jvm.Cond.privateMethod ({ cls := "SketchCache$Sketch", name := "smallestCounter", desc := "(I)I" } : Jvm.MethodName)) ∈ lw_tbl := List.mem_append_right _ (List.mem_of_getElem? (i := 415) (by decide +kernel))
set_option maxRecDepth 20000 in
theorem t_416 : (Jvm.Cond.instanceMethod ({ cls := "SketchCache$Sketch", name := "smallestCounter", desc := "(I)I" } : Jvm.MethodName)) ∈ tk_tb := tk_in (List.mem_append_right _ (List.mem_of_getElem? (i := 416) (by decide +kernel))) rfl
set_option maxRecDepth 20000 in
theorem t_417 : (Jvm.Cond.code ({ cls := "SketchCache$Sketch", name := "smallestCounter", desc := "(I)I" } : Jvm.MethodName) prog_9_method_11_code (4 : Nat) (Option.some Jvm.ClassFile.FieldType.int)) ∈ tk_tb := tk_in (List.mem_append_right _ (List.mem_of_getElem? (i := 417) (rfl))) rfl
set_option maxRecDepth 20000 in
theorem t_418 : (Jvm.Cond.methodLink "SketchCache$Sketch" (75 : Nat) ({ cls := "SketchCache$Sketch", name := "age", desc := "()V" } : Jvm.MethodName)) ∈ tk_tb := tk_in (List.mem_append_right _ (List.mem_of_getElem? (i := 418) (by decide +kernel))) rfl
set_option maxRecDepth 20000 in
theorem q_419 : (Jvm.Cond.privateMethod ({ cls := "SketchCache$Sketch", name := "age", desc := "()V" } : Jvm.MethodName)) ∈ lw_tbl := List.mem_append_right _ (List.mem_of_getElem? (i := 419) (by decide +kernel))
set_option maxRecDepth 20000 in
theorem t_420 : (Jvm.Cond.instanceMethod ({ cls := "SketchCache$Sketch", name := "age", desc := "()V" } : Jvm.MethodName)) ∈ tk_tb := tk_in (List.mem_append_right _ (List.mem_of_getElem? (i := 420) (by decide +kernel))) rfl
set_option maxRecDepth 20000 in
theorem t_421 : (Jvm.Cond.code ({ cls := "SketchCache$Sketch", name := "age", desc := "()V" } : Jvm.MethodName) prog_9_method_12_code (3 : Nat) (Option.none : Option Jvm.ClassFile.FieldType)) ∈ tk_tb := tk_in (List.mem_append_right _ (List.mem_of_getElem? (i := 421) (rfl))) rfl
set_option maxRecDepth 20000 in
theorem t_422 : (Jvm.Cond.methodLink "SketchCache$State" (64 : Nat) ({ cls := "SketchCache$Cache", name := "touch", desc := "(I)V" } : Jvm.MethodName)) ∈ tk_tb := tk_in (List.mem_append_right _ (List.mem_of_getElem? (i := 422) (by decide +kernel))) rfl
set_option maxRecDepth 20000 in
theorem t_423 : (Jvm.Cond.instanceMethod ({ cls := "SketchCache$Cache", name := "touch", desc := "(I)V" } : Jvm.MethodName)) ∈ tk_tb := tk_in (List.mem_append_right _ (List.mem_of_getElem? (i := 423) (by decide +kernel))) rfl
set_option maxRecDepth 20000 in
theorem t_424 : (Jvm.Cond.selects "SketchCache$Cache" ({ cls := "SketchCache$Cache", name := "touch", desc := "(I)V" } : Jvm.MethodName) ({ cls := "SketchCache$Cache", name := "touch", desc := "(I)V" } : Jvm.MethodName)) ∈ tk_tb := tk_in (List.mem_append_right _ (List.mem_of_getElem? (i := 424) (by decide +kernel))) rfl
set_option maxRecDepth 20000 in
theorem t_425 : (Jvm.Cond.code ({ cls := "SketchCache$Cache", name := "touch", desc := "(I)V" } : Jvm.MethodName) prog_2_method_7_code (3 : Nat) (Option.none : Option Jvm.ClassFile.FieldType)) ∈ tk_tb := tk_in (List.mem_append_right _ (List.mem_of_getElem? (i := 425) (rfl))) rfl
set_option maxRecDepth 20000 in
theorem t_426 : (Jvm.Cond.methodLink "SketchCache$Cache" (54 : Nat) ({ cls := "SketchCache$Rows", name := "moveToLast", desc := "(II)V" } : Jvm.MethodName)) ∈ tk_tb := tk_in (List.mem_append_right _ (List.mem_of_getElem? (i := 426) (by decide +kernel))) rfl
set_option maxRecDepth 20000 in
theorem t_427 : (Jvm.Cond.instanceMethod ({ cls := "SketchCache$Rows", name := "moveToLast", desc := "(II)V" } : Jvm.MethodName)) ∈ tk_tb := tk_in (List.mem_append_right _ (List.mem_of_getElem? (i := 427) (by decide +kernel))) rfl
set_option maxRecDepth 20000 in
theorem t_428 : (Jvm.Cond.selects "SketchCache$Rows" ({ cls := "SketchCache$Rows", name := "moveToLast", desc := "(II)V" } : Jvm.MethodName) ({ cls := "SketchCache$Rows", name := "moveToLast", desc := "(II)V" } : Jvm.MethodName)) ∈ tk_tb := tk_in (List.mem_append_right _ (List.mem_of_getElem? (i := 428) (by decide +kernel))) rfl
set_option maxRecDepth 20000 in
theorem t_429 : (Jvm.Cond.code ({ cls := "SketchCache$Rows", name := "moveToLast", desc := "(II)V" } : Jvm.MethodName) prog_7_method_6_code (3 : Nat) (Option.none : Option Jvm.ClassFile.FieldType)) ∈ tk_tb := tk_in (List.mem_append_right _ (List.mem_of_getElem? (i := 429) (rfl))) rfl
set_option maxRecDepth 20000 in
theorem t_430 : (Jvm.Cond.methodLink "SketchCache$Rows" (41 : Nat) ({ cls := "SketchCache$Rows", name := "takeOut", desc := "(I)V" } : Jvm.MethodName)) ∈ tk_tb := tk_in (List.mem_append_right _ (List.mem_of_getElem? (i := 430) (by decide +kernel))) rfl
set_option maxRecDepth 20000 in
theorem t_431 : (Jvm.Cond.instanceMethod ({ cls := "SketchCache$Rows", name := "takeOut", desc := "(I)V" } : Jvm.MethodName)) ∈ tk_tb := tk_in (List.mem_append_right _ (List.mem_of_getElem? (i := 431) (by decide +kernel))) rfl
set_option maxRecDepth 20000 in
theorem t_432 : (Jvm.Cond.selects "SketchCache$Rows" ({ cls := "SketchCache$Rows", name := "takeOut", desc := "(I)V" } : Jvm.MethodName) ({ cls := "SketchCache$Rows", name := "takeOut", desc := "(I)V" } : Jvm.MethodName)) ∈ tk_tb := tk_in (List.mem_append_right _ (List.mem_of_getElem? (i := 432) (by decide +kernel))) rfl
set_option maxRecDepth 20000 in
theorem t_433 : (Jvm.Cond.code ({ cls := "SketchCache$Rows", name := "takeOut", desc := "(I)V" } : Jvm.MethodName) prog_7_method_4_code (7 : Nat) (Option.none : Option Jvm.ClassFile.FieldType)) ∈ tk_tb := tk_in (List.mem_append_right _ (List.mem_of_getElem? (i := 433) (rfl))) rfl
set_option maxRecDepth 20000 in
theorem t_434 : (Jvm.Cond.methodLink "SketchCache$Rows" (45 : Nat) ({ cls := "SketchCache$Rows", name := "append", desc := "(II)V" } : Jvm.MethodName)) ∈ tk_tb := tk_in (List.mem_append_right _ (List.mem_of_getElem? (i := 434) (by decide +kernel))) rfl
set_option maxRecDepth 20000 in
theorem t_435 : (Jvm.Cond.instanceMethod ({ cls := "SketchCache$Rows", name := "append", desc := "(II)V" } : Jvm.MethodName)) ∈ tk_tb := tk_in (List.mem_append_right _ (List.mem_of_getElem? (i := 435) (by decide +kernel))) rfl
set_option maxRecDepth 20000 in
theorem t_436 : (Jvm.Cond.selects "SketchCache$Rows" ({ cls := "SketchCache$Rows", name := "append", desc := "(II)V" } : Jvm.MethodName) ({ cls := "SketchCache$Rows", name := "append", desc := "(II)V" } : Jvm.MethodName)) ∈ tk_tb := tk_in (List.mem_append_right _ (List.mem_of_getElem? (i := 436) (by decide +kernel))) rfl
set_option maxRecDepth 20000 in
theorem t_437 : (Jvm.Cond.code ({ cls := "SketchCache$Rows", name := "append", desc := "(II)V" } : Jvm.MethodName) prog_7_method_5_code (4 : Nat) (Option.none : Option Jvm.ClassFile.FieldType)) ∈ tk_tb := tk_in (List.mem_append_right _ (List.mem_of_getElem? (i := 437) (rfl))) rfl
set_option maxRecDepth 20000 in
theorem t_438 : (Jvm.Cond.methodLink "SketchCache$Cache" (58 : Nat) ({ cls := "SketchCache$Cache", name := "settle", desc := "()V" } : Jvm.MethodName)) ∈ tk_tb := tk_in (List.mem_append_right _ (List.mem_of_getElem? (i := 438) (by decide +kernel))) rfl
set_option maxRecDepth 20000 in
theorem q_439 : (Jvm.Cond.privateMethod ({ cls := "SketchCache$Cache", name := "settle", desc := "()V" } : Jvm.MethodName)) ∈ lw_tbl := List.mem_append_right _ (List.mem_of_getElem? (i := 439) (by decide +kernel))
set_option maxRecDepth 20000 in
theorem t_440 : (Jvm.Cond.instanceMethod ({ cls := "SketchCache$Cache", name := "settle", desc := "()V" } : Jvm.MethodName)) ∈ tk_tb := tk_in (List.mem_append_right _ (List.mem_of_getElem? (i := 440) (by decide +kernel))) rfl
set_option maxRecDepth 20000 in
theorem t_441 : (Jvm.Cond.code ({ cls := "SketchCache$Cache", name := "settle", desc := "()V" } : Jvm.MethodName) prog_2_method_8_code (3 : Nat) (Option.none : Option Jvm.ClassFile.FieldType)) ∈ tk_tb := tk_in (List.mem_append_right _ (List.mem_of_getElem? (i := 441) (rfl))) rfl
set_option maxRecDepth 20000 in
theorem t_442 : (Jvm.Cond.methodLink "SketchCache$Cache" (61 : Nat) ({ cls := "SketchCache$Cache", name := "protectedLimit", desc := "()I" } : Jvm.MethodName)) ∈ tk_tb := tk_in (List.mem_append_right _ (List.mem_of_getElem? (i := 442) (by decide +kernel))) rfl
set_option maxRecDepth 20000 in
theorem t_443 : (Jvm.Cond.instanceMethod ({ cls := "SketchCache$Cache", name := "protectedLimit", desc := "()I" } : Jvm.MethodName)) ∈ tk_tb := tk_in (List.mem_append_right _ (List.mem_of_getElem? (i := 443) (by decide +kernel))) rfl
set_option maxRecDepth 20000 in
theorem t_444 : (Jvm.Cond.selects "SketchCache$Cache" ({ cls := "SketchCache$Cache", name := "protectedLimit", desc := "()I" } : Jvm.MethodName) ({ cls := "SketchCache$Cache", name := "protectedLimit", desc := "()I" } : Jvm.MethodName)) ∈ tk_tb := tk_in (List.mem_append_right _ (List.mem_of_getElem? (i := 444) (by decide +kernel))) rfl
set_option maxRecDepth 20000 in
theorem t_445 : (Jvm.Cond.code ({ cls := "SketchCache$Cache", name := "protectedLimit", desc := "()I" } : Jvm.MethodName) prog_2_method_3_code (1 : Nat) (Option.some Jvm.ClassFile.FieldType.int)) ∈ tk_tb := tk_in (List.mem_append_right _ (List.mem_of_getElem? (i := 445) (rfl))) rfl
set_option maxRecDepth 20000 in
theorem t_446 : (Jvm.Cond.methodLink "SketchCache$State" (67 : Nat) ({ cls := "SketchCache$Cache", name := "bringIn", desc := "(I)V" } : Jvm.MethodName)) ∈ tk_tb := tk_in (List.mem_append_right _ (List.mem_of_getElem? (i := 446) (by decide +kernel))) rfl
set_option maxRecDepth 20000 in
theorem t_447 : (Jvm.Cond.instanceMethod ({ cls := "SketchCache$Cache", name := "bringIn", desc := "(I)V" } : Jvm.MethodName)) ∈ tk_tb := tk_in (List.mem_append_right _ (List.mem_of_getElem? (i := 447) (by decide +kernel))) rfl
set_option maxRecDepth 20000 in
theorem t_448 : (Jvm.Cond.selects "SketchCache$Cache" ({ cls := "SketchCache$Cache", name := "bringIn", desc := "(I)V" } : Jvm.MethodName) ({ cls := "SketchCache$Cache", name := "bringIn", desc := "(I)V" } : Jvm.MethodName)) ∈ tk_tb := tk_in (List.mem_append_right _ (List.mem_of_getElem? (i := 448) (by decide +kernel))) rfl
set_option maxRecDepth 20000 in
theorem t_449 : (Jvm.Cond.code ({ cls := "SketchCache$Cache", name := "bringIn", desc := "(I)V" } : Jvm.MethodName) prog_2_method_9_code (3 : Nat) (Option.none : Option Jvm.ClassFile.FieldType)) ∈ tk_tb := tk_in (List.mem_append_right _ (List.mem_of_getElem? (i := 449) (rfl))) rfl
set_option maxRecDepth 20000 in
theorem t_450 : (Jvm.Cond.methodLink "SketchCache$Cache" (71 : Nat) ({ cls := "SketchCache$Cache", name := "judge", desc := "(I)V" } : Jvm.MethodName)) ∈ tk_tb := tk_in (List.mem_append_right _ (List.mem_of_getElem? (i := 450) (by decide +kernel))) rfl
set_option maxRecDepth 20000 in
theorem q_451 : (Jvm.Cond.privateMethod ({ cls := "SketchCache$Cache", name := "judge", desc := "(I)V" } : Jvm.MethodName)) ∈ lw_tbl := List.mem_append_right _ (List.mem_of_getElem? (i := 451) (by decide +kernel))
set_option maxRecDepth 20000 in
theorem t_452 : (Jvm.Cond.instanceMethod ({ cls := "SketchCache$Cache", name := "judge", desc := "(I)V" } : Jvm.MethodName)) ∈ tk_tb := tk_in (List.mem_append_right _ (List.mem_of_getElem? (i := 452) (by decide +kernel))) rfl
set_option maxRecDepth 20000 in
theorem t_453 : (Jvm.Cond.code ({ cls := "SketchCache$Cache", name := "judge", desc := "(I)V" } : Jvm.MethodName) prog_2_method_11_code (5 : Nat) (Option.none : Option Jvm.ClassFile.FieldType)) ∈ tk_tb := tk_in (List.mem_append_right _ (List.mem_of_getElem? (i := 453) (rfl))) rfl
set_option maxRecDepth 20000 in
theorem t_454 : (Jvm.Cond.methodLink "SketchCache$Cache" (80 : Nat) ({ cls := "SketchCache$Cache", name := "victimsNeeded", desc := "(I)I" } : Jvm.MethodName)) ∈ tk_tb := tk_in (List.mem_append_right _ (List.mem_of_getElem? (i := 454) (by decide +kernel))) rfl
set_option maxRecDepth 20000 in
theorem q_455 : (Jvm.Cond.privateMethod ({ cls := "SketchCache$Cache", name := "victimsNeeded", desc := "(I)I" } : Jvm.MethodName)) ∈ lw_tbl := List.mem_append_right _ (List.mem_of_getElem? (i := 455) (by decide +kernel))
set_option maxRecDepth 20000 in
theorem t_456 : (Jvm.Cond.instanceMethod ({ cls := "SketchCache$Cache", name := "victimsNeeded", desc := "(I)I" } : Jvm.MethodName)) ∈ tk_tb := tk_in (List.mem_append_right _ (List.mem_of_getElem? (i := 456) (by decide +kernel))) rfl
set_option maxRecDepth 20000 in
theorem t_457 : (Jvm.Cond.code ({ cls := "SketchCache$Cache", name := "victimsNeeded", desc := "(I)I" } : Jvm.MethodName) prog_2_method_12_code (5 : Nat) (Option.some Jvm.ClassFile.FieldType.int)) ∈ tk_tb := tk_in (List.mem_append_right _ (List.mem_of_getElem? (i := 457) (rfl))) rfl
set_option maxRecDepth 20000 in
theorem t_458 : (Jvm.Cond.methodLink "SketchCache$Cache" (94 : Nat) ({ cls := "SketchCache$Cache", name := "unitsInMain", desc := "()I" } : Jvm.MethodName)) ∈ tk_tb := tk_in (List.mem_append_right _ (List.mem_of_getElem? (i := 458) (by decide +kernel))) rfl
set_option maxRecDepth 20000 in
theorem q_459 : (Jvm.Cond.privateMethod ({ cls := "SketchCache$Cache", name := "unitsInMain", desc := "()I" } : Jvm.MethodName)) ∈ lw_tbl := List.mem_append_right _ (List.mem_of_getElem? (i := 459) (by decide +kernel))
set_option maxRecDepth 20000 in
theorem t_460 : (Jvm.Cond.instanceMethod ({ cls := "SketchCache$Cache", name := "unitsInMain", desc := "()I" } : Jvm.MethodName)) ∈ tk_tb := tk_in (List.mem_append_right _ (List.mem_of_getElem? (i := 460) (by decide +kernel))) rfl
set_option maxRecDepth 20000 in
theorem t_461 : (Jvm.Cond.code ({ cls := "SketchCache$Cache", name := "unitsInMain", desc := "()I" } : Jvm.MethodName) prog_2_method_6_code (1 : Nat) (Option.some Jvm.ClassFile.FieldType.int)) ∈ tk_tb := tk_in (List.mem_append_right _ (List.mem_of_getElem? (i := 461) (rfl))) rfl
set_option maxRecDepth 20000 in
theorem t_462 : (Jvm.Cond.methodLink "SketchCache$Cache" (44 : Nat) ({ cls := "SketchCache$Cache", name := "keysInMain", desc := "()I" } : Jvm.MethodName)) ∈ tk_tb := tk_in (List.mem_append_right _ (List.mem_of_getElem? (i := 462) (by decide +kernel))) rfl
set_option maxRecDepth 20000 in
theorem q_463 : (Jvm.Cond.privateMethod ({ cls := "SketchCache$Cache", name := "keysInMain", desc := "()I" } : Jvm.MethodName)) ∈ lw_tbl := List.mem_append_right _ (List.mem_of_getElem? (i := 463) (by decide +kernel))
set_option maxRecDepth 20000 in
theorem t_464 : (Jvm.Cond.instanceMethod ({ cls := "SketchCache$Cache", name := "keysInMain", desc := "()I" } : Jvm.MethodName)) ∈ tk_tb := tk_in (List.mem_append_right _ (List.mem_of_getElem? (i := 464) (by decide +kernel))) rfl
set_option maxRecDepth 20000 in
theorem t_465 : (Jvm.Cond.code ({ cls := "SketchCache$Cache", name := "keysInMain", desc := "()I" } : Jvm.MethodName) prog_2_method_5_code (1 : Nat) (Option.some Jvm.ClassFile.FieldType.int)) ∈ tk_tb := tk_in (List.mem_append_right _ (List.mem_of_getElem? (i := 465) (rfl))) rfl
set_option maxRecDepth 20000 in
theorem t_466 : (Jvm.Cond.methodLink "SketchCache$Cache" (88 : Nat) ({ cls := "SketchCache$Cache", name := "victimAt", desc := "(I)I" } : Jvm.MethodName)) ∈ tk_tb := tk_in (List.mem_append_right _ (List.mem_of_getElem? (i := 466) (by decide +kernel))) rfl
set_option maxRecDepth 20000 in
theorem q_467 : (Jvm.Cond.privateMethod ({ cls := "SketchCache$Cache", name := "victimAt", desc := "(I)I" } : Jvm.MethodName)) ∈ lw_tbl := List.mem_append_right _ (List.mem_of_getElem? (i := 467) (by decide +kernel))
set_option maxRecDepth 20000 in
theorem t_468 : (Jvm.Cond.instanceMethod ({ cls := "SketchCache$Cache", name := "victimAt", desc := "(I)I" } : Jvm.MethodName)) ∈ tk_tb := tk_in (List.mem_append_right _ (List.mem_of_getElem? (i := 468) (by decide +kernel))) rfl
set_option maxRecDepth 20000 in
theorem t_469 : (Jvm.Cond.code ({ cls := "SketchCache$Cache", name := "victimAt", desc := "(I)I" } : Jvm.MethodName) prog_2_method_15_code (3 : Nat) (Option.some Jvm.ClassFile.FieldType.int)) ∈ tk_tb := tk_in (List.mem_append_right _ (List.mem_of_getElem? (i := 469) (rfl))) rfl
set_option maxRecDepth 20000 in
theorem t_470 : (Jvm.Cond.methodLink "SketchCache$Cache" (105 : Nat) ({ cls := "SketchCache$Rows", name := "keyAt", desc := "(II)I" } : Jvm.MethodName)) ∈ tk_tb := tk_in (List.mem_append_right _ (List.mem_of_getElem? (i := 470) (by decide +kernel))) rfl
set_option maxRecDepth 20000 in
theorem t_471 : (Jvm.Cond.instanceMethod ({ cls := "SketchCache$Rows", name := "keyAt", desc := "(II)I" } : Jvm.MethodName)) ∈ tk_tb := tk_in (List.mem_append_right _ (List.mem_of_getElem? (i := 471) (by decide +kernel))) rfl
set_option maxRecDepth 20000 in
theorem t_472 : (Jvm.Cond.selects "SketchCache$Rows" ({ cls := "SketchCache$Rows", name := "keyAt", desc := "(II)I" } : Jvm.MethodName) ({ cls := "SketchCache$Rows", name := "keyAt", desc := "(II)I" } : Jvm.MethodName)) ∈ tk_tb := tk_in (List.mem_append_right _ (List.mem_of_getElem? (i := 472) (by decide +kernel))) rfl
set_option maxRecDepth 20000 in
theorem t_473 : (Jvm.Cond.code ({ cls := "SketchCache$Rows", name := "keyAt", desc := "(II)I" } : Jvm.MethodName) prog_7_method_3_code (3 : Nat) (Option.some Jvm.ClassFile.FieldType.int)) ∈ tk_tb := tk_in (List.mem_append_right _ (List.mem_of_getElem? (i := 473) (rfl))) rfl
set_option maxRecDepth 20000 in
theorem t_474 : (Jvm.Cond.methodLink "SketchCache$Cache" (84 : Nat) ({ cls := "SketchCache$Cache", name := "victimsBeaten", desc := "(II)I" } : Jvm.MethodName)) ∈ tk_tb := tk_in (List.mem_append_right _ (List.mem_of_getElem? (i := 474) (by decide +kernel))) rfl
set_option maxRecDepth 20000 in
theorem q_475 : (Jvm.Cond.privateMethod ({ cls := "SketchCache$Cache", name := "victimsBeaten", desc := "(II)I" } : Jvm.MethodName)) ∈ lw_tbl := List.mem_append_right _ (List.mem_of_getElem? (i := 475) (by decide +kernel))
set_option maxRecDepth 20000 in
theorem t_476 : (Jvm.Cond.instanceMethod ({ cls := "SketchCache$Cache", name := "victimsBeaten", desc := "(II)I" } : Jvm.MethodName)) ∈ tk_tb := tk_in (List.mem_append_right _ (List.mem_of_getElem? (i := 476) (by decide +kernel))) rfl
set_option maxRecDepth 20000 in
theorem t_477 : (Jvm.Cond.code ({ cls := "SketchCache$Cache", name := "victimsBeaten", desc := "(II)I" } : Jvm.MethodName) prog_2_method_13_code (7 : Nat) (Option.some Jvm.ClassFile.FieldType.int)) ∈ tk_tb := tk_in (List.mem_append_right _ (List.mem_of_getElem? (i := 477) (rfl))) rfl
set_option maxRecDepth 20000 in
theorem t_478 : (Jvm.Cond.methodLink "SketchCache$Cache" (97 : Nat) ({ cls := "SketchCache$Sketch", name := "guess", desc := "(I)I" } : Jvm.MethodName)) ∈ tk_tb := tk_in (List.mem_append_right _ (List.mem_of_getElem? (i := 478) (by decide +kernel))) rfl
set_option maxRecDepth 20000 in
theorem t_479 : (Jvm.Cond.instanceMethod ({ cls := "SketchCache$Sketch", name := "guess", desc := "(I)I" } : Jvm.MethodName)) ∈ tk_tb := tk_in (List.mem_append_right _ (List.mem_of_getElem? (i := 479) (by decide +kernel))) rfl
set_option maxRecDepth 20000 in
theorem t_480 : (Jvm.Cond.selects "SketchCache$Sketch" ({ cls := "SketchCache$Sketch", name := "guess", desc := "(I)I" } : Jvm.MethodName) ({ cls := "SketchCache$Sketch", name := "guess", desc := "(I)I" } : Jvm.MethodName)) ∈ tk_tb := tk_in (List.mem_append_right _ (List.mem_of_getElem? (i := 480) (by decide +kernel))) rfl
set_option maxRecDepth 20000 in
theorem t_481 : (Jvm.Cond.code ({ cls := "SketchCache$Sketch", name := "guess", desc := "(I)I" } : Jvm.MethodName) prog_9_method_13_code (3 : Nat) (Option.some Jvm.ClassFile.FieldType.int)) ∈ tk_tb := tk_in (List.mem_append_right _ (List.mem_of_getElem? (i := 481) (rfl))) rfl
set_option maxRecDepth 20000 in
theorem t_482 : (Jvm.Cond.methodLink "SketchCache$Cache" (77 : Nat) ({ cls := "SketchCache$Rows", name := "takeOut", desc := "(I)V" } : Jvm.MethodName)) ∈ tk_tb := tk_in (List.mem_append_right _ (List.mem_of_getElem? (i := 482) (by decide +kernel))) rfl
set_option maxRecDepth 20000 in
theorem t_483 : (Jvm.Cond.methodLink "SketchCache$Cache" (74 : Nat) ({ cls := "SketchCache$Rows", name := "append", desc := "(II)V" } : Jvm.MethodName)) ∈ tk_tb := tk_in (List.mem_append_right _ (List.mem_of_getElem? (i := 483) (by decide +kernel))) rfl
set_option maxRecDepth 20000 in
theorem t_484 : (Jvm.Cond.methodLink "SketchCache$Cache" (91 : Nat) ({ cls := "SketchCache$Cache", name := "spare", desc := "(I)V" } : Jvm.MethodName)) ∈ tk_tb := tk_in (List.mem_append_right _ (List.mem_of_getElem? (i := 484) (by decide +kernel))) rfl
set_option maxRecDepth 20000 in
theorem q_485 : (Jvm.Cond.privateMethod ({ cls := "SketchCache$Cache", name := "spare", desc := "(I)V" } : Jvm.MethodName)) ∈ lw_tbl := List.mem_append_right _ (List.mem_of_getElem? (i := 485) (by decide +kernel))
set_option maxRecDepth 20000 in
theorem t_486 : (Jvm.Cond.instanceMethod ({ cls := "SketchCache$Cache", name := "spare", desc := "(I)V" } : Jvm.MethodName)) ∈ tk_tb := tk_in (List.mem_append_right _ (List.mem_of_getElem? (i := 486) (by decide +kernel))) rfl
set_option maxRecDepth 20000 in
theorem t_487 : (Jvm.Cond.code ({ cls := "SketchCache$Cache", name := "spare", desc := "(I)V" } : Jvm.MethodName) prog_2_method_14_code (5 : Nat) (Option.none : Option Jvm.ClassFile.FieldType)) ∈ tk_tb := tk_in (List.mem_append_right _ (List.mem_of_getElem? (i := 487) (rfl))) rfl
set_option maxRecDepth 20000 in
theorem t_488 : (Jvm.Cond.methodLink "SketchCache$Cache" (100 : Nat) ({ cls := "java/lang/Math", name := "min", desc := "(II)I" } : Jvm.MethodName)) ∈ tk_tb := tk_in (List.mem_append_right _ (List.mem_of_getElem? (i := 488) (by decide +kernel))) rfl
set_option maxRecDepth 20000 in
theorem t_489 : (Jvm.Cond.methodLink "SketchCache$State" (70 : Nat) ({ cls := "SketchCache$Cache", name := "overflow", desc := "()V" } : Jvm.MethodName)) ∈ tk_tb := tk_in (List.mem_append_right _ (List.mem_of_getElem? (i := 489) (by decide +kernel))) rfl
set_option maxRecDepth 20000 in
theorem t_490 : (Jvm.Cond.instanceMethod ({ cls := "SketchCache$Cache", name := "overflow", desc := "()V" } : Jvm.MethodName)) ∈ tk_tb := tk_in (List.mem_append_right _ (List.mem_of_getElem? (i := 490) (by decide +kernel))) rfl
set_option maxRecDepth 20000 in
theorem t_491 : (Jvm.Cond.selects "SketchCache$Cache" ({ cls := "SketchCache$Cache", name := "overflow", desc := "()V" } : Jvm.MethodName) ({ cls := "SketchCache$Cache", name := "overflow", desc := "()V" } : Jvm.MethodName)) ∈ tk_tb := tk_in (List.mem_append_right _ (List.mem_of_getElem? (i := 491) (by decide +kernel))) rfl
set_option maxRecDepth 20000 in
theorem t_492 : (Jvm.Cond.code ({ cls := "SketchCache$Cache", name := "overflow", desc := "()V" } : Jvm.MethodName) prog_2_method_10_code (3 : Nat) (Option.none : Option Jvm.ClassFile.FieldType)) ∈ tk_tb := tk_in (List.mem_append_right _ (List.mem_of_getElem? (i := 492) (rfl))) rfl
set_option maxRecDepth 20000 in
theorem t_493 : (Jvm.Cond.methodLink "SketchCache$State" (73 : Nat) ({ cls := "SketchCache$Climb", name := "growthAfter", desc := "(Z)I" } : Jvm.MethodName)) ∈ tk_tb := tk_in (List.mem_append_right _ (List.mem_of_getElem? (i := 493) (by decide +kernel))) rfl
set_option maxRecDepth 20000 in
theorem t_494 : (Jvm.Cond.instanceMethod ({ cls := "SketchCache$Climb", name := "growthAfter", desc := "(Z)I" } : Jvm.MethodName)) ∈ tk_tb := tk_in (List.mem_append_right _ (List.mem_of_getElem? (i := 494) (by decide +kernel))) rfl
set_option maxRecDepth 20000 in
theorem t_495 : (Jvm.Cond.selects "SketchCache$Climb" ({ cls := "SketchCache$Climb", name := "growthAfter", desc := "(Z)I" } : Jvm.MethodName) ({ cls := "SketchCache$Climb", name := "growthAfter", desc := "(Z)I" } : Jvm.MethodName)) ∈ tk_tb := tk_in (List.mem_append_right _ (List.mem_of_getElem? (i := 495) (by decide +kernel))) rfl
set_option maxRecDepth 20000 in
theorem t_496 : (Jvm.Cond.code ({ cls := "SketchCache$Climb", name := "growthAfter", desc := "(Z)I" } : Jvm.MethodName) prog_3_method_5_code (2 : Nat) (Option.some Jvm.ClassFile.FieldType.int)) ∈ tk_tb := tk_in (List.mem_append_right _ (List.mem_of_getElem? (i := 496) (rfl))) rfl
set_option maxRecDepth 20000 in
theorem t_497 : (Jvm.Cond.methodLink "SketchCache$State" (80 : Nat) ({ cls := "SketchCache$Cache", name := "resize", desc := "(I)V" } : Jvm.MethodName)) ∈ tk_tb := tk_in (List.mem_append_right _ (List.mem_of_getElem? (i := 497) (by decide +kernel))) rfl
set_option maxRecDepth 20000 in
theorem t_498 : (Jvm.Cond.instanceMethod ({ cls := "SketchCache$Cache", name := "resize", desc := "(I)V" } : Jvm.MethodName)) ∈ tk_tb := tk_in (List.mem_append_right _ (List.mem_of_getElem? (i := 498) (by decide +kernel))) rfl
set_option maxRecDepth 20000 in
theorem t_499 : (Jvm.Cond.selects "SketchCache$Cache" ({ cls := "SketchCache$Cache", name := "resize", desc := "(I)V" } : Jvm.MethodName) ({ cls := "SketchCache$Cache", name := "resize", desc := "(I)V" } : Jvm.MethodName)) ∈ tk_tb := tk_in (List.mem_append_right _ (List.mem_of_getElem? (i := 499) (by decide +kernel))) rfl
set_option maxRecDepth 20000 in
theorem t_500 : (Jvm.Cond.code ({ cls := "SketchCache$Cache", name := "resize", desc := "(I)V" } : Jvm.MethodName) prog_2_method_16_code (3 : Nat) (Option.none : Option Jvm.ClassFile.FieldType)) ∈ tk_tb := tk_in (List.mem_append_right _ (List.mem_of_getElem? (i := 500) (rfl))) rfl
set_option maxRecDepth 20000 in
theorem t_501 : (Jvm.Cond.methodLink "SketchCache$Cache" (108 : Nat) ({ cls := "java/lang/Math", name := "max", desc := "(II)I" } : Jvm.MethodName)) ∈ tk_tb := tk_in (List.mem_append_right _ (List.mem_of_getElem? (i := 501) (by decide +kernel))) rfl
set_option maxRecDepth 20000 in
theorem t_502 : (Jvm.Cond.methodLink "SketchCacheLaw" (44 : Nat) ({ cls := "SketchCache", name := "run", desc := "(III)I" } : Jvm.MethodName)) ∈ tk_tb := tk_in (List.mem_append_right _ (List.mem_of_getElem? (i := 502) (by decide +kernel))) rfl
set_option maxRecDepth 20000 in
theorem t_503 : (Jvm.Cond.instanceMethod ({ cls := "SketchCache", name := "run", desc := "(III)I" } : Jvm.MethodName)) ∈ tk_tb := tk_in (List.mem_append_right _ (List.mem_of_getElem? (i := 503) (by decide +kernel))) rfl
set_option maxRecDepth 20000 in
theorem t_504 : (Jvm.Cond.selects "SketchCache" ({ cls := "SketchCache", name := "run", desc := "(III)I" } : Jvm.MethodName) ({ cls := "SketchCache", name := "run", desc := "(III)I" } : Jvm.MethodName)) ∈ tk_tb := tk_in (List.mem_append_right _ (List.mem_of_getElem? (i := 504) (by decide +kernel))) rfl
set_option maxRecDepth 20000 in
theorem t_505 : (Jvm.Cond.code ({ cls := "SketchCache", name := "run", desc := "(III)I" } : Jvm.MethodName) prog_1_method_7_code (7 : Nat) (Option.some Jvm.ClassFile.FieldType.int)) ∈ tk_tb := tk_in (List.mem_append_right _ (List.mem_of_getElem? (i := 505) (rfl))) rfl
set_option maxRecDepth 20000 in
theorem t_506 : (Jvm.Cond.methodLink "SketchCacheLaw" (48 : Nat) ({ cls := "SketchCache", name := "add", desc := "(I)I" } : Jvm.MethodName)) ∈ tk_tb := tk_in (List.mem_append_right _ (List.mem_of_getElem? (i := 506) (by decide +kernel))) rfl
set_option maxRecDepth 20000 in
theorem t_507 : (Jvm.Cond.instanceMethod ({ cls := "SketchCache", name := "add", desc := "(I)I" } : Jvm.MethodName)) ∈ tk_tb := tk_in (List.mem_append_right _ (List.mem_of_getElem? (i := 507) (by decide +kernel))) rfl
set_option maxRecDepth 20000 in
theorem t_508 : (Jvm.Cond.selects "SketchCache" ({ cls := "SketchCache", name := "add", desc := "(I)I" } : Jvm.MethodName) ({ cls := "SketchCache", name := "add", desc := "(I)I" } : Jvm.MethodName)) ∈ tk_tb := tk_in (List.mem_append_right _ (List.mem_of_getElem? (i := 508) (by decide +kernel))) rfl
set_option maxRecDepth 20000 in
theorem t_509 : (Jvm.Cond.code ({ cls := "SketchCache", name := "add", desc := "(I)I" } : Jvm.MethodName) prog_1_method_8_code (2 : Nat) (Option.some Jvm.ClassFile.FieldType.int)) ∈ tk_tb := tk_in (List.mem_append_right _ (List.mem_of_getElem? (i := 509) (rfl))) rfl
set_option maxRecDepth 20000 in
theorem t_510 : (Jvm.Cond.methodLink "SketchCache" (97 : Nat) ({ cls := "SketchCache$Sketch", name := "put", desc := "(I)V" } : Jvm.MethodName)) ∈ tk_tb := tk_in (List.mem_append_right _ (List.mem_of_getElem? (i := 510) (by decide +kernel))) rfl
set_option maxRecDepth 20000 in
theorem t_511 : (Jvm.Cond.methodLink "SketchCache" (101 : Nat) ({ cls := "SketchCache$Sketch", name := "guess", desc := "(I)I" } : Jvm.MethodName)) ∈ tk_tb := tk_in (List.mem_append_right _ (List.mem_of_getElem? (i := 511) (by decide +kernel))) rfl
set_option maxRecDepth 20000 in
theorem t_512 : (Jvm.Cond.methodLink "SketchCacheLaw" (52 : Nat) ({ cls := "SketchCache", name := "estimate", desc := "(I)I" } : Jvm.MethodName)) ∈ tk_tb := tk_in (List.mem_append_right _ (List.mem_of_getElem? (i := 512) (by decide +kernel))) rfl
set_option maxRecDepth 20000 in
theorem t_513 : (Jvm.Cond.instanceMethod ({ cls := "SketchCache", name := "estimate", desc := "(I)I" } : Jvm.MethodName)) ∈ tk_tb := tk_in (List.mem_append_right _ (List.mem_of_getElem? (i := 513) (by decide +kernel))) rfl
set_option maxRecDepth 20000 in
theorem t_514 : (Jvm.Cond.selects "SketchCache" ({ cls := "SketchCache", name := "estimate", desc := "(I)I" } : Jvm.MethodName) ({ cls := "SketchCache", name := "estimate", desc := "(I)I" } : Jvm.MethodName)) ∈ tk_tb := tk_in (List.mem_append_right _ (List.mem_of_getElem? (i := 514) (by decide +kernel))) rfl
set_option maxRecDepth 20000 in
theorem t_515 : (Jvm.Cond.code ({ cls := "SketchCache", name := "estimate", desc := "(I)I" } : Jvm.MethodName) prog_1_method_9_code (2 : Nat) (Option.some Jvm.ClassFile.FieldType.int)) ∈ tk_tb := tk_in (List.mem_append_right _ (List.mem_of_getElem? (i := 515) (rfl))) rfl
set_option maxRecDepth 20000 in
theorem t_516 : (Jvm.Cond.methodLink "SketchCacheLaw" (56 : Nat) ({ cls := "SketchCache", name := "counter", desc := "(II)I" } : Jvm.MethodName)) ∈ tk_tb := tk_in (List.mem_append_right _ (List.mem_of_getElem? (i := 516) (by decide +kernel))) rfl
set_option maxRecDepth 20000 in
theorem t_517 : (Jvm.Cond.instanceMethod ({ cls := "SketchCache", name := "counter", desc := "(II)I" } : Jvm.MethodName)) ∈ tk_tb := tk_in (List.mem_append_right _ (List.mem_of_getElem? (i := 517) (by decide +kernel))) rfl
set_option maxRecDepth 20000 in
theorem t_518 : (Jvm.Cond.selects "SketchCache" ({ cls := "SketchCache", name := "counter", desc := "(II)I" } : Jvm.MethodName) ({ cls := "SketchCache", name := "counter", desc := "(II)I" } : Jvm.MethodName)) ∈ tk_tb := tk_in (List.mem_append_right _ (List.mem_of_getElem? (i := 518) (by decide +kernel))) rfl
set_option maxRecDepth 20000 in
theorem t_519 : (Jvm.Cond.code ({ cls := "SketchCache", name := "counter", desc := "(II)I" } : Jvm.MethodName) prog_1_method_10_code (3 : Nat) (Option.some Jvm.ClassFile.FieldType.int)) ∈ tk_tb := tk_in (List.mem_append_right _ (List.mem_of_getElem? (i := 519) (rfl))) rfl
set_option maxRecDepth 20000 in
theorem t_520 : (Jvm.Cond.methodLink "SketchCacheLaw" (60 : Nat) ({ cls := "SketchCache", name := "bit", desc := "(I)I" } : Jvm.MethodName)) ∈ tk_tb := tk_in (List.mem_append_right _ (List.mem_of_getElem? (i := 520) (by decide +kernel))) rfl
set_option maxRecDepth 20000 in
theorem t_521 : (Jvm.Cond.instanceMethod ({ cls := "SketchCache", name := "bit", desc := "(I)I" } : Jvm.MethodName)) ∈ tk_tb := tk_in (List.mem_append_right _ (List.mem_of_getElem? (i := 521) (by decide +kernel))) rfl
set_option maxRecDepth 20000 in
theorem t_522 : (Jvm.Cond.selects "SketchCache" ({ cls := "SketchCache", name := "bit", desc := "(I)I" } : Jvm.MethodName) ({ cls := "SketchCache", name := "bit", desc := "(I)I" } : Jvm.MethodName)) ∈ tk_tb := tk_in (List.mem_append_right _ (List.mem_of_getElem? (i := 522) (by decide +kernel))) rfl
set_option maxRecDepth 20000 in
theorem t_523 : (Jvm.Cond.code ({ cls := "SketchCache", name := "bit", desc := "(I)I" } : Jvm.MethodName) prog_1_method_11_code (2 : Nat) (Option.some Jvm.ClassFile.FieldType.int)) ∈ tk_tb := tk_in (List.mem_append_right _ (List.mem_of_getElem? (i := 523) (rfl))) rfl
set_option maxRecDepth 20000 in
theorem t_524 : (Jvm.Cond.methodLink "SketchCacheLaw" (64 : Nat) ({ cls := "SketchCache", name := "remove", desc := "(I)I" } : Jvm.MethodName)) ∈ tk_tb := tk_in (List.mem_append_right _ (List.mem_of_getElem? (i := 524) (by decide +kernel))) rfl
set_option maxRecDepth 20000 in
theorem t_525 : (Jvm.Cond.instanceMethod ({ cls := "SketchCache", name := "remove", desc := "(I)I" } : Jvm.MethodName)) ∈ tk_tb := tk_in (List.mem_append_right _ (List.mem_of_getElem? (i := 525) (by decide +kernel))) rfl
set_option maxRecDepth 20000 in
theorem t_526 : (Jvm.Cond.selects "SketchCache" ({ cls := "SketchCache", name := "remove", desc := "(I)I" } : Jvm.MethodName) ({ cls := "SketchCache", name := "remove", desc := "(I)I" } : Jvm.MethodName)) ∈ tk_tb := tk_in (List.mem_append_right _ (List.mem_of_getElem? (i := 526) (by decide +kernel))) rfl
set_option maxRecDepth 20000 in
theorem t_527 : (Jvm.Cond.code ({ cls := "SketchCache", name := "remove", desc := "(I)I" } : Jvm.MethodName) prog_1_method_12_code (3 : Nat) (Option.some Jvm.ClassFile.FieldType.int)) ∈ tk_tb := tk_in (List.mem_append_right _ (List.mem_of_getElem? (i := 527) (rfl))) rfl
set_option maxRecDepth 20000 in
theorem t_528 : (Jvm.Cond.methodLink "SketchCache" (111 : Nat) ({ cls := "SketchCache$Rows", name := "takeOut", desc := "(I)V" } : Jvm.MethodName)) ∈ tk_tb := tk_in (List.mem_append_right _ (List.mem_of_getElem? (i := 528) (by decide +kernel))) rfl
set_option maxRecDepth 20000 in
theorem t_529 : (Jvm.Cond.methodLink "SketchCacheLaw" (68 : Nat) ({ cls := "SketchCache", name := "where", desc := "(I)I" } : Jvm.MethodName)) ∈ tk_tb := tk_in (List.mem_append_right _ (List.mem_of_getElem? (i := 529) (by decide +kernel))) rfl
set_option maxRecDepth 20000 in
theorem t_530 : (Jvm.Cond.instanceMethod ({ cls := "SketchCache", name := "where", desc := "(I)I" } : Jvm.MethodName)) ∈ tk_tb := tk_in (List.mem_append_right _ (List.mem_of_getElem? (i := 530) (by decide +kernel))) rfl
set_option maxRecDepth 20000 in
theorem t_531 : (Jvm.Cond.selects "SketchCache" ({ cls := "SketchCache", name := "where", desc := "(I)I" } : Jvm.MethodName) ({ cls := "SketchCache", name := "where", desc := "(I)I" } : Jvm.MethodName)) ∈ tk_tb := tk_in (List.mem_append_right _ (List.mem_of_getElem? (i := 531) (by decide +kernel))) rfl
set_option maxRecDepth 20000 in
theorem t_532 : (Jvm.Cond.code ({ cls := "SketchCache", name := "where", desc := "(I)I" } : Jvm.MethodName) prog_1_method_13_code (2 : Nat) (Option.some Jvm.ClassFile.FieldType.int)) ∈ tk_tb := tk_in (List.mem_append_right _ (List.mem_of_getElem? (i := 532) (rfl))) rfl
set_option maxRecDepth 20000 in
theorem t_533 : (Jvm.Cond.methodLink "SketchCacheLaw" (72 : Nat) ({ cls := "SketchCache", name := "key", desc := "(II)I" } : Jvm.MethodName)) ∈ tk_tb := tk_in (List.mem_append_right _ (List.mem_of_getElem? (i := 533) (by decide +kernel))) rfl
set_option maxRecDepth 20000 in
theorem t_534 : (Jvm.Cond.instanceMethod ({ cls := "SketchCache", name := "key", desc := "(II)I" } : Jvm.MethodName)) ∈ tk_tb := tk_in (List.mem_append_right _ (List.mem_of_getElem? (i := 534) (by decide +kernel))) rfl
set_option maxRecDepth 20000 in
theorem t_535 : (Jvm.Cond.selects "SketchCache" ({ cls := "SketchCache", name := "key", desc := "(II)I" } : Jvm.MethodName) ({ cls := "SketchCache", name := "key", desc := "(II)I" } : Jvm.MethodName)) ∈ tk_tb := tk_in (List.mem_append_right _ (List.mem_of_getElem? (i := 535) (by decide +kernel))) rfl
set_option maxRecDepth 20000 in
theorem t_536 : (Jvm.Cond.code ({ cls := "SketchCache", name := "key", desc := "(II)I" } : Jvm.MethodName) prog_1_method_14_code (3 : Nat) (Option.some Jvm.ClassFile.FieldType.int)) ∈ tk_tb := tk_in (List.mem_append_right _ (List.mem_of_getElem? (i := 536) (rfl))) rfl
set_option maxRecDepth 20000 in
theorem t_537 : (Jvm.Cond.methodLink "SketchCache" (114 : Nat) ({ cls := "SketchCache$Rows", name := "keyAt", desc := "(II)I" } : Jvm.MethodName)) ∈ tk_tb := tk_in (List.mem_append_right _ (List.mem_of_getElem? (i := 537) (by decide +kernel))) rfl
set_option maxRecDepth 20000 in
theorem t_538 : (Jvm.Cond.methodLink "SketchCacheLaw" (76 : Nat) ({ cls := "SketchCache", name := "about", desc := "(I)I" } : Jvm.MethodName)) ∈ tk_tb := tk_in (List.mem_append_right _ (List.mem_of_getElem? (i := 538) (by decide +kernel))) rfl
set_option maxRecDepth 20000 in
theorem t_539 : (Jvm.Cond.instanceMethod ({ cls := "SketchCache", name := "about", desc := "(I)I" } : Jvm.MethodName)) ∈ tk_tb := tk_in (List.mem_append_right _ (List.mem_of_getElem? (i := 539) (by decide +kernel))) rfl
set_option maxRecDepth 20000 in
theorem t_540 : (Jvm.Cond.selects "SketchCache" ({ cls := "SketchCache", name := "about", desc := "(I)I" } : Jvm.MethodName) ({ cls := "SketchCache", name := "about", desc := "(I)I" } : Jvm.MethodName)) ∈ tk_tb := tk_in (List.mem_append_right _ (List.mem_of_getElem? (i := 540) (by decide +kernel))) rfl
set_option maxRecDepth 20000 in
theorem t_541 : (Jvm.Cond.code ({ cls := "SketchCache", name := "about", desc := "(I)I" } : Jvm.MethodName) prog_1_method_15_code (2 : Nat) (Option.some Jvm.ClassFile.FieldType.int)) ∈ tk_tb := tk_in (List.mem_append_right _ (List.mem_of_getElem? (i := 541) (rfl))) rfl
set_option maxRecDepth 20000 in
theorem t_542 : (Jvm.Cond.methodLink "SketchCache" (117 : Nat) ({ cls := "SketchCache$State", name := "tellAbout", desc := "(I)I" } : Jvm.MethodName)) ∈ tk_tb := tk_in (List.mem_append_right _ (List.mem_of_getElem? (i := 542) (by decide +kernel))) rfl
set_option maxRecDepth 20000 in
theorem t_543 : (Jvm.Cond.instanceMethod ({ cls := "SketchCache$State", name := "tellAbout", desc := "(I)I" } : Jvm.MethodName)) ∈ tk_tb := tk_in (List.mem_append_right _ (List.mem_of_getElem? (i := 543) (by decide +kernel))) rfl
set_option maxRecDepth 20000 in
theorem t_544 : (Jvm.Cond.selects "SketchCache$State" ({ cls := "SketchCache$State", name := "tellAbout", desc := "(I)I" } : Jvm.MethodName) ({ cls := "SketchCache$State", name := "tellAbout", desc := "(I)I" } : Jvm.MethodName)) ∈ tk_tb := tk_in (List.mem_append_right _ (List.mem_of_getElem? (i := 544) (by decide +kernel))) rfl
set_option maxRecDepth 20000 in
theorem t_545 : (Jvm.Cond.code ({ cls := "SketchCache$State", name := "tellAbout", desc := "(I)I" } : Jvm.MethodName) prog_10_method_4_code (2 : Nat) (Option.some Jvm.ClassFile.FieldType.int)) ∈ tk_tb := tk_in (List.mem_append_right _ (List.mem_of_getElem? (i := 545) (rfl))) rfl
set_option maxRecDepth 20000 in
theorem t_546 : (Jvm.Cond.methodLink "SketchCache$State" (102 : Nat) ({ cls := "SketchCache$Cache", name := "protectedLimit", desc := "()I" } : Jvm.MethodName)) ∈ tk_tb := tk_in (List.mem_append_right _ (List.mem_of_getElem? (i := 546) (by decide +kernel))) rfl
set_option maxRecDepth 20000 in
theorem t_547 : (Jvm.Cond.methodLink "SketchCache$State" (109 : Nat) ({ cls := "SketchCache$Cache", name := "keysThere", desc := "()I" } : Jvm.MethodName)) ∈ tk_tb := tk_in (List.mem_append_right _ (List.mem_of_getElem? (i := 547) (by decide +kernel))) rfl
set_option maxRecDepth 20000 in
theorem t_548 : (Jvm.Cond.instanceMethod ({ cls := "SketchCache$Cache", name := "keysThere", desc := "()I" } : Jvm.MethodName)) ∈ tk_tb := tk_in (List.mem_append_right _ (List.mem_of_getElem? (i := 548) (by decide +kernel))) rfl
set_option maxRecDepth 20000 in
theorem t_549 : (Jvm.Cond.selects "SketchCache$Cache" ({ cls := "SketchCache$Cache", name := "keysThere", desc := "()I" } : Jvm.MethodName) ({ cls := "SketchCache$Cache", name := "keysThere", desc := "()I" } : Jvm.MethodName)) ∈ tk_tb := tk_in (List.mem_append_right _ (List.mem_of_getElem? (i := 549) (by decide +kernel))) rfl
set_option maxRecDepth 20000 in
theorem t_550 : (Jvm.Cond.code ({ cls := "SketchCache$Cache", name := "keysThere", desc := "()I" } : Jvm.MethodName) prog_2_method_4_code (1 : Nat) (Option.some Jvm.ClassFile.FieldType.int)) ∈ tk_tb := tk_in (List.mem_append_right _ (List.mem_of_getElem? (i := 550) (rfl))) rfl
set_option maxRecDepth 20000 in
theorem t_551 : (Jvm.Cond.methodLink "SketchCacheLaw" (80 : Nat) ({ cls := "SketchCache", name := "trace", desc := "(I)I" } : Jvm.MethodName)) ∈ tk_tb := tk_in (List.mem_append_right _ (List.mem_of_getElem? (i := 551) (by decide +kernel))) rfl
set_option maxRecDepth 20000 in
theorem t_552 : (Jvm.Cond.instanceMethod ({ cls := "SketchCache", name := "trace", desc := "(I)I" } : Jvm.MethodName)) ∈ tk_tb := tk_in (List.mem_append_right _ (List.mem_of_getElem? (i := 552) (by decide +kernel))) rfl
set_option maxRecDepth 20000 in
theorem t_553 : (Jvm.Cond.selects "SketchCache" ({ cls := "SketchCache", name := "trace", desc := "(I)I" } : Jvm.MethodName) ({ cls := "SketchCache", name := "trace", desc := "(I)I" } : Jvm.MethodName)) ∈ tk_tb := tk_in (List.mem_append_right _ (List.mem_of_getElem? (i := 553) (by decide +kernel))) rfl
set_option maxRecDepth 20000 in
theorem t_554 : (Jvm.Cond.code ({ cls := "SketchCache", name := "trace", desc := "(I)I" } : Jvm.MethodName) prog_1_method_16_code (2 : Nat) (Option.some Jvm.ClassFile.FieldType.int)) ∈ tk_tb := tk_in (List.mem_append_right _ (List.mem_of_getElem? (i := 554) (rfl))) rfl
set_option maxRecDepth 20000 in
theorem t_555 : (Jvm.Cond.methodLink "SketchCache" (124 : Nat) ({ cls := "SketchCache$Trace", name := "keyAt", desc := "(I)I" } : Jvm.MethodName)) ∈ tk_tb := tk_in (List.mem_append_right _ (List.mem_of_getElem? (i := 555) (by decide +kernel))) rfl
set_option maxRecDepth 20000 in
theorem t_556 : (Jvm.Cond.instanceMethod ({ cls := "SketchCache$Trace", name := "keyAt", desc := "(I)I" } : Jvm.MethodName)) ∈ tk_tb := tk_in (List.mem_append_right _ (List.mem_of_getElem? (i := 556) (by decide +kernel))) rfl
set_option maxRecDepth 20000 in
theorem t_557 : (Jvm.Cond.selects "SketchCache$Trace" ({ cls := "SketchCache$Trace", name := "keyAt", desc := "(I)I" } : Jvm.MethodName) ({ cls := "SketchCache$Trace", name := "keyAt", desc := "(I)I" } : Jvm.MethodName)) ∈ tk_tb := tk_in (List.mem_append_right _ (List.mem_of_getElem? (i := 557) (by decide +kernel))) rfl
set_option maxRecDepth 20000 in
theorem t_558 : (Jvm.Cond.code ({ cls := "SketchCache$Trace", name := "keyAt", desc := "(I)I" } : Jvm.MethodName) prog_11_method_3_code (2 : Nat) (Option.some Jvm.ClassFile.FieldType.int)) ∈ tk_tb := tk_in (List.mem_append_right _ (List.mem_of_getElem? (i := 558) (rfl))) rfl
set_option maxRecDepth 20000 in
theorem t_559 : (Jvm.Cond.methodLink "SketchCacheLaw" (84 : Nat) ({ cls := "SketchCache", name := "replay", desc := "(IIII)I" } : Jvm.MethodName)) ∈ tk_tb := tk_in (List.mem_append_right _ (List.mem_of_getElem? (i := 559) (by decide +kernel))) rfl
set_option maxRecDepth 20000 in
theorem t_560 : (Jvm.Cond.instanceMethod ({ cls := "SketchCache", name := "replay", desc := "(IIII)I" } : Jvm.MethodName)) ∈ tk_tb := tk_in (List.mem_append_right _ (List.mem_of_getElem? (i := 560) (by decide +kernel))) rfl
set_option maxRecDepth 20000 in
theorem t_561 : (Jvm.Cond.selects "SketchCache" ({ cls := "SketchCache", name := "replay", desc := "(IIII)I" } : Jvm.MethodName) ({ cls := "SketchCache", name := "replay", desc := "(IIII)I" } : Jvm.MethodName)) ∈ tk_tb := tk_in (List.mem_append_right _ (List.mem_of_getElem? (i := 561) (by decide +kernel))) rfl
set_option maxRecDepth 20000 in
theorem t_562 : (Jvm.Cond.code ({ cls := "SketchCache", name := "replay", desc := "(IIII)I" } : Jvm.MethodName) prog_1_method_17_code (5 : Nat) (Option.some Jvm.ClassFile.FieldType.int)) ∈ tk_tb := tk_in (List.mem_append_right _ (List.mem_of_getElem? (i := 562) (rfl))) rfl
set_option maxRecDepth 20000 in
theorem t_563 : (Jvm.Cond.methodLink "SketchCache" (131 : Nat) ({ cls := "SketchCache$Player", name := "play", desc := "(IILSketchCache$Trace;II)I" } : Jvm.MethodName)) ∈ tk_tb := tk_in (List.mem_append_right _ (List.mem_of_getElem? (i := 563) (by decide +kernel))) rfl
set_option maxRecDepth 20000 in
theorem t_564 : (Jvm.Cond.instanceMethod ({ cls := "SketchCache$Player", name := "play", desc := "(IILSketchCache$Trace;II)I" } : Jvm.MethodName)) ∈ tk_tb := tk_in (List.mem_append_right _ (List.mem_of_getElem? (i := 564) (by decide +kernel))) rfl
set_option maxRecDepth 20000 in
theorem t_565 : (Jvm.Cond.selects "SketchCache$Player" ({ cls := "SketchCache$Player", name := "play", desc := "(IILSketchCache$Trace;II)I" } : Jvm.MethodName) ({ cls := "SketchCache$Player", name := "play", desc := "(IILSketchCache$Trace;II)I" } : Jvm.MethodName)) ∈ tk_tb := tk_in (List.mem_append_right _ (List.mem_of_getElem? (i := 565) (by decide +kernel))) rfl
set_option maxRecDepth 20000 in
theorem t_566 : (Jvm.Cond.code ({ cls := "SketchCache$Player", name := "play", desc := "(IILSketchCache$Trace;II)I" } : Jvm.MethodName) prog_5_method_2_code (9 : Nat) (Option.some Jvm.ClassFile.FieldType.int)) ∈ tk_tb := tk_in (List.mem_append_right _ (List.mem_of_getElem? (i := 566) (rfl))) rfl
set_option maxRecDepth 20000 in
theorem t_567 : (Jvm.Cond.methodLink "SketchCache$Player" (39 : Nat) ({ cls := "SketchCache$Player", name := "lookAhead", desc := "(LSketchCache$Trace;II)V" } : Jvm.MethodName)) ∈ tk_tb := tk_in (List.mem_append_right _ (List.mem_of_getElem? (i := 567) (by decide +kernel))) rfl
set_option maxRecDepth 20000 in
theorem q_568 : (Jvm.Cond.privateMethod ({ cls := "SketchCache$Player", name := "lookAhead", desc := "(LSketchCache$Trace;II)V" } : Jvm.MethodName)) ∈ lw_tbl := List.mem_append_right _ (List.mem_of_getElem? (i := 568) (by decide +kernel))
set_option maxRecDepth 20000 in
theorem t_569 : (Jvm.Cond.instanceMethod ({ cls := "SketchCache$Player", name := "lookAhead", desc := "(LSketchCache$Trace;II)V" } : Jvm.MethodName)) ∈ tk_tb := tk_in (List.mem_append_right _ (List.mem_of_getElem? (i := 569) (by decide +kernel))) rfl
set_option maxRecDepth 20000 in
theorem t_570 : (Jvm.Cond.code ({ cls := "SketchCache$Player", name := "lookAhead", desc := "(LSketchCache$Trace;II)V" } : Jvm.MethodName) prog_5_method_3_code (6 : Nat) (Option.none : Option Jvm.ClassFile.FieldType)) ∈ tk_tb := tk_in (List.mem_append_right _ (List.mem_of_getElem? (i := 570) (rfl))) rfl
set_option maxRecDepth 20000 in
theorem t_571 : (Jvm.Cond.methodLink "SketchCache$Player" (60 : Nat) ({ cls := "java/util/Arrays", name := "fill", desc := "([II)V" } : Jvm.MethodName)) ∈ tk_tb := tk_in (List.mem_append_right _ (List.mem_of_getElem? (i := 571) (by decide +kernel))) rfl
set_option maxRecDepth 20000 in
theorem t_572 : (Jvm.Cond.methodLink "SketchCache$Player" (46 : Nat) ({ cls := "SketchCache$Trace", name := "keyAt", desc := "(I)I" } : Jvm.MethodName)) ∈ tk_tb := tk_in (List.mem_append_right _ (List.mem_of_getElem? (i := 572) (by decide +kernel))) rfl
set_option maxRecDepth 20000 in
theorem t_573 : (Jvm.Cond.methodLink "SketchCache$Player" (43 : Nat) ({ cls := "SketchCache$Policy", name := "begin", desc := "(I)V" } : Jvm.MethodName)) ∈ tk_tb := tk_in (List.mem_append_right _ (List.mem_of_getElem? (i := 573) (by decide +kernel))) rfl
set_option maxRecDepth 20000 in
theorem q_574 : (Jvm.Cond.declares ({ cls := "SketchCache$Policy", name := "begin", desc := "(I)V" } : Jvm.MethodName)) ∈ lw_tbl := List.mem_append_right _ (List.mem_of_getElem? (i := 574) (by decide +kernel))
set_option maxRecDepth 20000 in
theorem t_575 : (Jvm.Cond.sameMethod "SketchCache$Policy" "SketchCache$Policy" "begin" "(I)V") ∈ tk_tb := tk_in (List.mem_append_right _ (List.mem_of_getElem? (i := 575) (by decide +kernel))) rfl
set_option maxRecDepth 20000 in
theorem t_576 : (Jvm.Cond.selects "SketchCache$FourRows" ({ cls := "SketchCache$Policy", name := "begin", desc := "(I)V" } : Jvm.MethodName) ({ cls := "SketchCache$FourRows", name := "begin", desc := "(I)V" } : Jvm.MethodName)) ∈ tk_tb := tk_in (List.mem_append_right _ (List.mem_of_getElem? (i := 576) (by decide +kernel))) rfl
set_option maxRecDepth 20000 in
theorem t_577 : (Jvm.Cond.instanceMethod ({ cls := "SketchCache$FourRows", name := "begin", desc := "(I)V" } : Jvm.MethodName)) ∈ tk_tb := tk_in (List.mem_append_right _ (List.mem_of_getElem? (i := 577) (by decide +kernel))) rfl
set_option maxRecDepth 20000 in
theorem t_578 : (Jvm.Cond.code ({ cls := "SketchCache$FourRows", name := "begin", desc := "(I)V" } : Jvm.MethodName) prog_4_method_2_code (2 : Nat) (Option.none : Option Jvm.ClassFile.FieldType)) ∈ tk_tb := tk_in (List.mem_append_right _ (List.mem_of_getElem? (i := 578) (rfl))) rfl
set_option maxRecDepth 20000 in
theorem t_579 : (Jvm.Cond.methodLink "SketchCache$FourRows" (27 : Nat) ({ cls := "SketchCache$Rows", name := "clear", desc := "()V" } : Jvm.MethodName)) ∈ tk_tb := tk_in (List.mem_append_right _ (List.mem_of_getElem? (i := 579) (by decide +kernel))) rfl
set_option maxRecDepth 20000 in
theorem t_580 : (Jvm.Cond.instanceMethod ({ cls := "SketchCache$Rows", name := "clear", desc := "()V" } : Jvm.MethodName)) ∈ tk_tb := tk_in (List.mem_append_right _ (List.mem_of_getElem? (i := 580) (by decide +kernel))) rfl
set_option maxRecDepth 20000 in
theorem t_581 : (Jvm.Cond.selects "SketchCache$Rows" ({ cls := "SketchCache$Rows", name := "clear", desc := "()V" } : Jvm.MethodName) ({ cls := "SketchCache$Rows", name := "clear", desc := "()V" } : Jvm.MethodName)) ∈ tk_tb := tk_in (List.mem_append_right _ (List.mem_of_getElem? (i := 581) (by decide +kernel))) rfl
set_option maxRecDepth 20000 in
theorem t_582 : (Jvm.Cond.code ({ cls := "SketchCache$Rows", name := "clear", desc := "()V" } : Jvm.MethodName) prog_7_method_2_code (1 : Nat) (Option.none : Option Jvm.ClassFile.FieldType)) ∈ tk_tb := tk_in (List.mem_append_right _ (List.mem_of_getElem? (i := 582) (rfl))) rfl
set_option maxRecDepth 20000 in
theorem t_583 : (Jvm.Cond.selects "SketchCache$Seats" ({ cls := "SketchCache$Policy", name := "begin", desc := "(I)V" } : Jvm.MethodName) ({ cls := "SketchCache$Seats", name := "begin", desc := "(I)V" } : Jvm.MethodName)) ∈ tk_tb := tk_in (List.mem_append_right _ (List.mem_of_getElem? (i := 583) (by decide +kernel))) rfl
set_option maxRecDepth 20000 in
theorem t_584 : (Jvm.Cond.instanceMethod ({ cls := "SketchCache$Seats", name := "begin", desc := "(I)V" } : Jvm.MethodName)) ∈ tk_tb := tk_in (List.mem_append_right _ (List.mem_of_getElem? (i := 584) (by decide +kernel))) rfl
set_option maxRecDepth 20000 in
theorem t_585 : (Jvm.Cond.code ({ cls := "SketchCache$Seats", name := "begin", desc := "(I)V" } : Jvm.MethodName) prog_8_method_2_code (2 : Nat) (Option.none : Option Jvm.ClassFile.FieldType)) ∈ tk_tb := tk_in (List.mem_append_right _ (List.mem_of_getElem? (i := 585) (rfl))) rfl
set_option maxRecDepth 20000 in
theorem t_586 : (Jvm.Cond.methodLink "SketchCache$Seats" (43 : Nat) ({ cls := "java/lang/Math", name := "min", desc := "(II)I" } : Jvm.MethodName)) ∈ tk_tb := tk_in (List.mem_append_right _ (List.mem_of_getElem? (i := 586) (by decide +kernel))) rfl
set_option maxRecDepth 20000 in
theorem t_587 : (Jvm.Cond.methodLink "SketchCache$Seats" (49 : Nat) ({ cls := "java/lang/Math", name := "max", desc := "(II)I" } : Jvm.MethodName)) ∈ tk_tb := tk_in (List.mem_append_right _ (List.mem_of_getElem? (i := 587) (by decide +kernel))) rfl
set_option maxRecDepth 20000 in
theorem t_588 : (Jvm.Cond.methodLink "SketchCache$Player" (52 : Nat) ({ cls := "SketchCache$Policy", name := "asks", desc := "(III)Z" } : Jvm.MethodName)) ∈ tk_tb := tk_in (List.mem_append_right _ (List.mem_of_getElem? (i := 588) (by decide +kernel))) rfl
set_option maxRecDepth 20000 in
theorem q_589 : (Jvm.Cond.declares ({ cls := "SketchCache$Policy", name := "asks", desc := "(III)Z" } : Jvm.MethodName)) ∈ lw_tbl := List.mem_append_right _ (List.mem_of_getElem? (i := 589) (by decide +kernel))
set_option maxRecDepth 20000 in
theorem t_590 : (Jvm.Cond.sameMethod "SketchCache$Policy" "SketchCache$Policy" "asks" "(III)Z") ∈ tk_tb := tk_in (List.mem_append_right _ (List.mem_of_getElem? (i := 590) (by decide +kernel))) rfl
set_option maxRecDepth 20000 in
theorem t_591 : (Jvm.Cond.selects "SketchCache$FourRows" ({ cls := "SketchCache$Policy", name := "asks", desc := "(III)Z" } : Jvm.MethodName) ({ cls := "SketchCache$FourRows", name := "asks", desc := "(III)Z" } : Jvm.MethodName)) ∈ tk_tb := tk_in (List.mem_append_right _ (List.mem_of_getElem? (i := 591) (by decide +kernel))) rfl
set_option maxRecDepth 20000 in
theorem t_592 : (Jvm.Cond.instanceMethod ({ cls := "SketchCache$FourRows", name := "asks", desc := "(III)Z" } : Jvm.MethodName)) ∈ tk_tb := tk_in (List.mem_append_right _ (List.mem_of_getElem? (i := 592) (by decide +kernel))) rfl
set_option maxRecDepth 20000 in
theorem t_593 : (Jvm.Cond.code ({ cls := "SketchCache$FourRows", name := "asks", desc := "(III)Z" } : Jvm.MethodName) prog_4_method_3_code (5 : Nat) (Option.some Jvm.ClassFile.FieldType.boolean)) ∈ tk_tb := tk_in (List.mem_append_right _ (List.mem_of_getElem? (i := 593) (rfl))) rfl
set_option maxRecDepth 20000 in
theorem t_594 : (Jvm.Cond.methodLink "SketchCache$FourRows" (34 : Nat) ({ cls := "SketchCache$FourRows", name := "makeRoomForNew", desc := "()V" } : Jvm.MethodName)) ∈ tk_tb := tk_in (List.mem_append_right _ (List.mem_of_getElem? (i := 594) (by decide +kernel))) rfl
set_option maxRecDepth 20000 in
theorem q_595 : (Jvm.Cond.privateMethod ({ cls := "SketchCache$FourRows", name := "makeRoomForNew", desc := "()V" } : Jvm.MethodName)) ∈ lw_tbl := List.mem_append_right _ (List.mem_of_getElem? (i := 595) (by decide +kernel))
set_option maxRecDepth 20000 in
theorem t_596 : (Jvm.Cond.instanceMethod ({ cls := "SketchCache$FourRows", name := "makeRoomForNew", desc := "()V" } : Jvm.MethodName)) ∈ tk_tb := tk_in (List.mem_append_right _ (List.mem_of_getElem? (i := 596) (by decide +kernel))) rfl
set_option maxRecDepth 20000 in
theorem t_597 : (Jvm.Cond.code ({ cls := "SketchCache$FourRows", name := "makeRoomForNew", desc := "()V" } : Jvm.MethodName) prog_4_method_6_code (4 : Nat) (Option.none : Option Jvm.ClassFile.FieldType)) ∈ tk_tb := tk_in (List.mem_append_right _ (List.mem_of_getElem? (i := 597) (rfl))) rfl
set_option maxRecDepth 20000 in
theorem t_598 : (Jvm.Cond.methodLink "SketchCache$FourRows" (63 : Nat) ({ cls := "SketchCache$Rows", name := "dropFirst", desc := "(I)V" } : Jvm.MethodName)) ∈ tk_tb := tk_in (List.mem_append_right _ (List.mem_of_getElem? (i := 598) (by decide +kernel))) rfl
set_option maxRecDepth 20000 in
theorem t_599 : (Jvm.Cond.instanceMethod ({ cls := "SketchCache$Rows", name := "dropFirst", desc := "(I)V" } : Jvm.MethodName)) ∈ tk_tb := tk_in (List.mem_append_right _ (List.mem_of_getElem? (i := 599) (by decide +kernel))) rfl
set_option maxRecDepth 20000 in
theorem t_600 : (Jvm.Cond.selects "SketchCache$Rows" ({ cls := "SketchCache$Rows", name := "dropFirst", desc := "(I)V" } : Jvm.MethodName) ({ cls := "SketchCache$Rows", name := "dropFirst", desc := "(I)V" } : Jvm.MethodName)) ∈ tk_tb := tk_in (List.mem_append_right _ (List.mem_of_getElem? (i := 600) (by decide +kernel))) rfl
set_option maxRecDepth 20000 in
theorem t_601 : (Jvm.Cond.code ({ cls := "SketchCache$Rows", name := "dropFirst", desc := "(I)V" } : Jvm.MethodName) prog_7_method_8_code (3 : Nat) (Option.none : Option Jvm.ClassFile.FieldType)) ∈ tk_tb := tk_in (List.mem_append_right _ (List.mem_of_getElem? (i := 601) (rfl))) rfl
set_option maxRecDepth 20000 in
theorem t_602 : (Jvm.Cond.methodLink "SketchCache$Rows" (49 : Nat) ({ cls := "SketchCache$Rows", name := "keyAt", desc := "(II)I" } : Jvm.MethodName)) ∈ tk_tb := tk_in (List.mem_append_right _ (List.mem_of_getElem? (i := 602) (by decide +kernel))) rfl
set_option maxRecDepth 20000 in
theorem t_603 : (Jvm.Cond.methodLink "SketchCache$FourRows" (53 : Nat) ({ cls := "SketchCache$FourRows", name := "makeRoom", desc := "(Z)V" } : Jvm.MethodName)) ∈ tk_tb := tk_in (List.mem_append_right _ (List.mem_of_getElem? (i := 603) (by decide +kernel))) rfl
set_option maxRecDepth 20000 in
theorem q_604 : (Jvm.Cond.privateMethod ({ cls := "SketchCache$FourRows", name := "makeRoom", desc := "(Z)V" } : Jvm.MethodName)) ∈ lw_tbl := List.mem_append_right _ (List.mem_of_getElem? (i := 604) (by decide +kernel))
set_option maxRecDepth 20000 in
theorem t_605 : (Jvm.Cond.instanceMethod ({ cls := "SketchCache$FourRows", name := "makeRoom", desc := "(Z)V" } : Jvm.MethodName)) ∈ tk_tb := tk_in (List.mem_append_right _ (List.mem_of_getElem? (i := 605) (by decide +kernel))) rfl
set_option maxRecDepth 20000 in
theorem t_606 : (Jvm.Cond.code ({ cls := "SketchCache$FourRows", name := "makeRoom", desc := "(Z)V" } : Jvm.MethodName) prog_4_method_7_code (4 : Nat) (Option.none : Option Jvm.ClassFile.FieldType)) ∈ tk_tb := tk_in (List.mem_append_right _ (List.mem_of_getElem? (i := 606) (rfl))) rfl
set_option maxRecDepth 20000 in
theorem t_607 : (Jvm.Cond.methodLink "SketchCache$FourRows" (66 : Nat) ({ cls := "SketchCache$Rows", name := "moveFirst", desc := "(II)V" } : Jvm.MethodName)) ∈ tk_tb := tk_in (List.mem_append_right _ (List.mem_of_getElem? (i := 607) (by decide +kernel))) rfl
set_option maxRecDepth 20000 in
theorem t_608 : (Jvm.Cond.instanceMethod ({ cls := "SketchCache$Rows", name := "moveFirst", desc := "(II)V" } : Jvm.MethodName)) ∈ tk_tb := tk_in (List.mem_append_right _ (List.mem_of_getElem? (i := 608) (by decide +kernel))) rfl
set_option maxRecDepth 20000 in
theorem t_609 : (Jvm.Cond.selects "SketchCache$Rows" ({ cls := "SketchCache$Rows", name := "moveFirst", desc := "(II)V" } : Jvm.MethodName) ({ cls := "SketchCache$Rows", name := "moveFirst", desc := "(II)V" } : Jvm.MethodName)) ∈ tk_tb := tk_in (List.mem_append_right _ (List.mem_of_getElem? (i := 609) (by decide +kernel))) rfl
set_option maxRecDepth 20000 in
theorem t_610 : (Jvm.Cond.code ({ cls := "SketchCache$Rows", name := "moveFirst", desc := "(II)V" } : Jvm.MethodName) prog_7_method_7_code (4 : Nat) (Option.none : Option Jvm.ClassFile.FieldType)) ∈ tk_tb := tk_in (List.mem_append_right _ (List.mem_of_getElem? (i := 610) (rfl))) rfl
set_option maxRecDepth 20000 in
theorem t_611 : (Jvm.Cond.methodLink "SketchCache$Rows" (52 : Nat) ({ cls := "SketchCache$Rows", name := "moveToLast", desc := "(II)V" } : Jvm.MethodName)) ∈ tk_tb := tk_in (List.mem_append_right _ (List.mem_of_getElem? (i := 611) (by decide +kernel))) rfl
set_option maxRecDepth 20000 in
theorem t_612 : (Jvm.Cond.methodLink "SketchCache$FourRows" (37 : Nat) ({ cls := "SketchCache$Rows", name := "append", desc := "(II)V" } : Jvm.MethodName)) ∈ tk_tb := tk_in (List.mem_append_right _ (List.mem_of_getElem? (i := 612) (by decide +kernel))) rfl
set_option maxRecDepth 20000 in
theorem t_613 : (Jvm.Cond.methodLink "SketchCache$FourRows" (44 : Nat) ({ cls := "SketchCache$FourRows", name := "ratio", desc := "(II)I" } : Jvm.MethodName)) ∈ tk_tb := tk_in (List.mem_append_right _ (List.mem_of_getElem? (i := 613) (by decide +kernel))) rfl
set_option maxRecDepth 20000 in
theorem t_614 : (Jvm.Cond.static ({ cls := "SketchCache$FourRows", name := "ratio", desc := "(II)I" } : Jvm.MethodName)) ∈ tk_tb := tk_in (List.mem_append_right _ (List.mem_of_getElem? (i := 614) (by decide +kernel))) rfl
set_option maxRecDepth 20000 in
theorem t_615 : (Jvm.Cond.code ({ cls := "SketchCache$FourRows", name := "ratio", desc := "(II)I" } : Jvm.MethodName) prog_4_method_5_code (2 : Nat) (Option.some Jvm.ClassFile.FieldType.int)) ∈ tk_tb := tk_in (List.mem_append_right _ (List.mem_of_getElem? (i := 615) (rfl))) rfl
set_option maxRecDepth 20000 in
theorem t_616 : (Jvm.Cond.methodLink "SketchCache$FourRows" (57 : Nat) ({ cls := "java/lang/Math", name := "max", desc := "(II)I" } : Jvm.MethodName)) ∈ tk_tb := tk_in (List.mem_append_right _ (List.mem_of_getElem? (i := 616) (by decide +kernel))) rfl
set_option maxRecDepth 20000 in
theorem t_617 : (Jvm.Cond.methodLink "SketchCache$FourRows" (48 : Nat) ({ cls := "java/lang/Math", name := "min", desc := "(II)I" } : Jvm.MethodName)) ∈ tk_tb := tk_in (List.mem_append_right _ (List.mem_of_getElem? (i := 617) (by decide +kernel))) rfl
set_option maxRecDepth 20000 in
theorem t_618 : (Jvm.Cond.methodLink "SketchCache$FourRows" (60 : Nat) ({ cls := "SketchCache$Rows", name := "moveToLast", desc := "(II)V" } : Jvm.MethodName)) ∈ tk_tb := tk_in (List.mem_append_right _ (List.mem_of_getElem? (i := 618) (by decide +kernel))) rfl
set_option maxRecDepth 20000 in
theorem t_619 : (Jvm.Cond.selects "SketchCache$Seats" ({ cls := "SketchCache$Policy", name := "asks", desc := "(III)Z" } : Jvm.MethodName) ({ cls := "SketchCache$Seats", name := "asks", desc := "(III)Z" } : Jvm.MethodName)) ∈ tk_tb := tk_in (List.mem_append_right _ (List.mem_of_getElem? (i := 619) (by decide +kernel))) rfl
set_option maxRecDepth 20000 in
theorem t_620 : (Jvm.Cond.instanceMethod ({ cls := "SketchCache$Seats", name := "asks", desc := "(III)Z" } : Jvm.MethodName)) ∈ tk_tb := tk_in (List.mem_append_right _ (List.mem_of_getElem? (i := 620) (by decide +kernel))) rfl
set_option maxRecDepth 20000 in
theorem t_621 : (Jvm.Cond.code ({ cls := "SketchCache$Seats", name := "asks", desc := "(III)Z" } : Jvm.MethodName) prog_8_method_3_code (6 : Nat) (Option.some Jvm.ClassFile.FieldType.boolean)) ∈ tk_tb := tk_in (List.mem_append_right _ (List.mem_of_getElem? (i := 621) (rfl))) rfl
set_option maxRecDepth 20000 in
theorem t_622 : (Jvm.Cond.methodLink "SketchCache$Seats" (52 : Nat) ({ cls := "SketchCache$Seats", name := "seatOf", desc := "(I)I" } : Jvm.MethodName)) ∈ tk_tb := tk_in (List.mem_append_right _ (List.mem_of_getElem? (i := 622) (by decide +kernel))) rfl
set_option maxRecDepth 20000 in
theorem q_623 : (Jvm.Cond.privateMethod ({ cls := "SketchCache$Seats", name := "seatOf", desc := "(I)I" } : Jvm.MethodName)) ∈ lw_tbl := List.mem_append_right _ (List.mem_of_getElem? (i := 623) (by decide +kernel))
set_option maxRecDepth 20000 in
theorem t_624 : (Jvm.Cond.instanceMethod ({ cls := "SketchCache$Seats", name := "seatOf", desc := "(I)I" } : Jvm.MethodName)) ∈ tk_tb := tk_in (List.mem_append_right _ (List.mem_of_getElem? (i := 624) (by decide +kernel))) rfl
set_option maxRecDepth 20000 in
theorem t_625 : (Jvm.Cond.code ({ cls := "SketchCache$Seats", name := "seatOf", desc := "(I)I" } : Jvm.MethodName) prog_8_method_5_code (3 : Nat) (Option.some Jvm.ClassFile.FieldType.int)) ∈ tk_tb := tk_in (List.mem_append_right _ (List.mem_of_getElem? (i := 625) (rfl))) rfl
set_option maxRecDepth 20000 in
theorem t_626 : (Jvm.Cond.methodLink "SketchCache$Seats" (56 : Nat) ({ cls := "SketchCache$Seats", name := "freeSeat", desc := "()I" } : Jvm.MethodName)) ∈ tk_tb := tk_in (List.mem_append_right _ (List.mem_of_getElem? (i := 626) (by decide +kernel))) rfl
set_option maxRecDepth 20000 in
theorem q_627 : (Jvm.Cond.privateMethod ({ cls := "SketchCache$Seats", name := "freeSeat", desc := "()I" } : Jvm.MethodName)) ∈ lw_tbl := List.mem_append_right _ (List.mem_of_getElem? (i := 627) (by decide +kernel))
set_option maxRecDepth 20000 in
theorem t_628 : (Jvm.Cond.instanceMethod ({ cls := "SketchCache$Seats", name := "freeSeat", desc := "()I" } : Jvm.MethodName)) ∈ tk_tb := tk_in (List.mem_append_right _ (List.mem_of_getElem? (i := 628) (by decide +kernel))) rfl
set_option maxRecDepth 20000 in
theorem t_629 : (Jvm.Cond.code ({ cls := "SketchCache$Seats", name := "freeSeat", desc := "()I" } : Jvm.MethodName) prog_8_method_6_code (1 : Nat) (Option.some Jvm.ClassFile.FieldType.int)) ∈ tk_tb := tk_in (List.mem_append_right _ (List.mem_of_getElem? (i := 629) (rfl))) rfl
set_option maxRecDepth 20000 in
theorem t_630 : (Jvm.Cond.methodLink "SketchCache$Seats" (60 : Nat) ({ cls := "SketchCache$Seats", name := "seatByHand", desc := "()I" } : Jvm.MethodName)) ∈ tk_tb := tk_in (List.mem_append_right _ (List.mem_of_getElem? (i := 630) (by decide +kernel))) rfl
set_option maxRecDepth 20000 in
theorem q_631 : (Jvm.Cond.privateMethod ({ cls := "SketchCache$Seats", name := "seatByHand", desc := "()I" } : Jvm.MethodName)) ∈ lw_tbl := List.mem_append_right _ (List.mem_of_getElem? (i := 631) (by decide +kernel))
set_option maxRecDepth 20000 in
theorem t_632 : (Jvm.Cond.instanceMethod ({ cls := "SketchCache$Seats", name := "seatByHand", desc := "()I" } : Jvm.MethodName)) ∈ tk_tb := tk_in (List.mem_append_right _ (List.mem_of_getElem? (i := 632) (by decide +kernel))) rfl
set_option maxRecDepth 20000 in
theorem t_633 : (Jvm.Cond.code ({ cls := "SketchCache$Seats", name := "seatByHand", desc := "()I" } : Jvm.MethodName) prog_8_method_7_code (2 : Nat) (Option.some Jvm.ClassFile.FieldType.int)) ∈ tk_tb := tk_in (List.mem_append_right _ (List.mem_of_getElem? (i := 633) (rfl))) rfl
set_option maxRecDepth 20000 in
theorem t_634 : (Jvm.Cond.methodLink "SketchCache$Seats" (66 : Nat) ({ cls := "SketchCache$Seats", name := "nextSeat", desc := "(I)I" } : Jvm.MethodName)) ∈ tk_tb := tk_in (List.mem_append_right _ (List.mem_of_getElem? (i := 634) (by decide +kernel))) rfl
set_option maxRecDepth 20000 in
theorem q_635 : (Jvm.Cond.privateMethod ({ cls := "SketchCache$Seats", name := "nextSeat", desc := "(I)I" } : Jvm.MethodName)) ∈ lw_tbl := List.mem_append_right _ (List.mem_of_getElem? (i := 635) (by decide +kernel))
set_option maxRecDepth 20000 in
theorem t_636 : (Jvm.Cond.instanceMethod ({ cls := "SketchCache$Seats", name := "nextSeat", desc := "(I)I" } : Jvm.MethodName)) ∈ tk_tb := tk_in (List.mem_append_right _ (List.mem_of_getElem? (i := 636) (by decide +kernel))) rfl
set_option maxRecDepth 20000 in
theorem t_637 : (Jvm.Cond.code ({ cls := "SketchCache$Seats", name := "nextSeat", desc := "(I)I" } : Jvm.MethodName) prog_8_method_8_code (2 : Nat) (Option.some Jvm.ClassFile.FieldType.int)) ∈ tk_tb := tk_in (List.mem_append_right _ (List.mem_of_getElem? (i := 637) (rfl))) rfl
set_option maxRecDepth 20000 in
theorem t_638 : (Jvm.Cond.methodLink "SketchCache$Seats" (63 : Nat) ({ cls := "SketchCache$Seats", name := "seatByRank", desc := "()I" } : Jvm.MethodName)) ∈ tk_tb := tk_in (List.mem_append_right _ (List.mem_of_getElem? (i := 638) (by decide +kernel))) rfl
set_option maxRecDepth 20000 in
theorem q_639 : (Jvm.Cond.privateMethod ({ cls := "SketchCache$Seats", name := "seatByRank", desc := "()I" } : Jvm.MethodName)) ∈ lw_tbl := List.mem_append_right _ (List.mem_of_getElem? (i := 639) (by decide +kernel))
set_option maxRecDepth 20000 in
theorem t_640 : (Jvm.Cond.instanceMethod ({ cls := "SketchCache$Seats", name := "seatByRank", desc := "()I" } : Jvm.MethodName)) ∈ tk_tb := tk_in (List.mem_append_right _ (List.mem_of_getElem? (i := 640) (by decide +kernel))) rfl
set_option maxRecDepth 20000 in
theorem t_641 : (Jvm.Cond.code ({ cls := "SketchCache$Seats", name := "seatByRank", desc := "()I" } : Jvm.MethodName) prog_8_method_9_code (3 : Nat) (Option.some Jvm.ClassFile.FieldType.int)) ∈ tk_tb := tk_in (List.mem_append_right _ (List.mem_of_getElem? (i := 641) (rfl))) rfl
set_option maxRecDepth 20000 in
theorem t_642 : (Jvm.Cond.methodLink "SketchCache$Seats" (69 : Nat) ({ cls := "SketchCache$Seats", name := "goesBefore", desc := "(II)Z" } : Jvm.MethodName)) ∈ tk_tb := tk_in (List.mem_append_right _ (List.mem_of_getElem? (i := 642) (by decide +kernel))) rfl
set_option maxRecDepth 20000 in
theorem q_643 : (Jvm.Cond.privateMethod ({ cls := "SketchCache$Seats", name := "goesBefore", desc := "(II)Z" } : Jvm.MethodName)) ∈ lw_tbl := List.mem_append_right _ (List.mem_of_getElem? (i := 643) (by decide +kernel))
set_option maxRecDepth 20000 in
theorem t_644 : (Jvm.Cond.instanceMethod ({ cls := "SketchCache$Seats", name := "goesBefore", desc := "(II)Z" } : Jvm.MethodName)) ∈ tk_tb := tk_in (List.mem_append_right _ (List.mem_of_getElem? (i := 644) (by decide +kernel))) rfl
set_option maxRecDepth 20000 in
theorem t_645 : (Jvm.Cond.code ({ cls := "SketchCache$Seats", name := "goesBefore", desc := "(II)Z" } : Jvm.MethodName) prog_8_method_10_code (3 : Nat) (Option.some Jvm.ClassFile.FieldType.boolean)) ∈ tk_tb := tk_in (List.mem_append_right _ (List.mem_of_getElem? (i := 645) (rfl))) rfl
set_option maxRecDepth 20000 in
theorem t_646 : (Jvm.Cond.methodLink "SketchCache$Player" (56 : Nat) ({ cls := "SketchCache$Player", name := "keepFrom", desc := "(LSketchCache$Policy;)V" } : Jvm.MethodName)) ∈ tk_tb := tk_in (List.mem_append_right _ (List.mem_of_getElem? (i := 646) (by decide +kernel))) rfl
set_option maxRecDepth 20000 in
theorem q_647 : (Jvm.Cond.privateMethod ({ cls := "SketchCache$Player", name := "keepFrom", desc := "(LSketchCache$Policy;)V" } : Jvm.MethodName)) ∈ lw_tbl := List.mem_append_right _ (List.mem_of_getElem? (i := 647) (by decide +kernel))
set_option maxRecDepth 20000 in
theorem t_648 : (Jvm.Cond.instanceMethod ({ cls := "SketchCache$Player", name := "keepFrom", desc := "(LSketchCache$Policy;)V" } : Jvm.MethodName)) ∈ tk_tb := tk_in (List.mem_append_right _ (List.mem_of_getElem? (i := 648) (by decide +kernel))) rfl
set_option maxRecDepth 20000 in
theorem t_649 : (Jvm.Cond.code ({ cls := "SketchCache$Player", name := "keepFrom", desc := "(LSketchCache$Policy;)V" } : Jvm.MethodName) prog_5_method_4_code (3 : Nat) (Option.none : Option Jvm.ClassFile.FieldType)) ∈ tk_tb := tk_in (List.mem_append_right _ (List.mem_of_getElem? (i := 649) (rfl))) rfl
set_option maxRecDepth 20000 in
theorem t_650 : (Jvm.Cond.methodLink "SketchCache$Player" (66 : Nat) ({ cls := "SketchCache$Policy", name := "holds", desc := "(I)Z" } : Jvm.MethodName)) ∈ tk_tb := tk_in (List.mem_append_right _ (List.mem_of_getElem? (i := 650) (by decide +kernel))) rfl
set_option maxRecDepth 20000 in
theorem q_651 : (Jvm.Cond.declares ({ cls := "SketchCache$Policy", name := "holds", desc := "(I)Z" } : Jvm.MethodName)) ∈ lw_tbl := List.mem_append_right _ (List.mem_of_getElem? (i := 651) (by decide +kernel))
set_option maxRecDepth 20000 in
theorem t_652 : (Jvm.Cond.sameMethod "SketchCache$Policy" "SketchCache$Policy" "holds" "(I)Z") ∈ tk_tb := tk_in (List.mem_append_right _ (List.mem_of_getElem? (i := 652) (by decide +kernel))) rfl
set_option maxRecDepth 20000 in
theorem t_653 : (Jvm.Cond.selects "SketchCache$FourRows" ({ cls := "SketchCache$Policy", name := "holds", desc := "(I)Z" } : Jvm.MethodName) ({ cls := "SketchCache$FourRows", name := "holds", desc := "(I)Z" } : Jvm.MethodName)) ∈ tk_tb := tk_in (List.mem_append_right _ (List.mem_of_getElem? (i := 653) (by decide +kernel))) rfl
set_option maxRecDepth 20000 in
theorem t_654 : (Jvm.Cond.instanceMethod ({ cls := "SketchCache$FourRows", name := "holds", desc := "(I)Z" } : Jvm.MethodName)) ∈ tk_tb := tk_in (List.mem_append_right _ (List.mem_of_getElem? (i := 654) (by decide +kernel))) rfl
set_option maxRecDepth 20000 in
theorem t_655 : (Jvm.Cond.code ({ cls := "SketchCache$FourRows", name := "holds", desc := "(I)Z" } : Jvm.MethodName) prog_4_method_4_code (2 : Nat) (Option.some Jvm.ClassFile.FieldType.boolean)) ∈ tk_tb := tk_in (List.mem_append_right _ (List.mem_of_getElem? (i := 655) (rfl))) rfl
set_option maxRecDepth 20000 in
theorem t_656 : (Jvm.Cond.selects "SketchCache$Seats" ({ cls := "SketchCache$Policy", name := "holds", desc := "(I)Z" } : Jvm.MethodName) ({ cls := "SketchCache$Seats", name := "holds", desc := "(I)Z" } : Jvm.MethodName)) ∈ tk_tb := tk_in (List.mem_append_right _ (List.mem_of_getElem? (i := 656) (by decide +kernel))) rfl
set_option maxRecDepth 20000 in
theorem t_657 : (Jvm.Cond.instanceMethod ({ cls := "SketchCache$Seats", name := "holds", desc := "(I)Z" } : Jvm.MethodName)) ∈ tk_tb := tk_in (List.mem_append_right _ (List.mem_of_getElem? (i := 657) (by decide +kernel))) rfl
set_option maxRecDepth 20000 in
theorem t_658 : (Jvm.Cond.code ({ cls := "SketchCache$Seats", name := "holds", desc := "(I)Z" } : Jvm.MethodName) prog_8_method_4_code (2 : Nat) (Option.some Jvm.ClassFile.FieldType.boolean)) ∈ tk_tb := tk_in (List.mem_append_right _ (List.mem_of_getElem? (i := 658) (rfl))) rfl
set_option maxRecDepth 20000 in
theorem t_659 : (Jvm.Cond.methodLink "SketchCacheLaw" (89 : Nat) ({ cls := "SketchCache", name := "kept", desc := "(I)I" } : Jvm.MethodName)) ∈ tk_tb := tk_in (List.mem_append_right _ (List.mem_of_getElem? (i := 659) (by decide +kernel))) rfl
set_option maxRecDepth 20000 in
theorem t_660 : (Jvm.Cond.instanceMethod ({ cls := "SketchCache", name := "kept", desc := "(I)I" } : Jvm.MethodName)) ∈ tk_tb := tk_in (List.mem_append_right _ (List.mem_of_getElem? (i := 660) (by decide +kernel))) rfl
set_option maxRecDepth 20000 in
theorem t_661 : (Jvm.Cond.selects "SketchCache" ({ cls := "SketchCache", name := "kept", desc := "(I)I" } : Jvm.MethodName) ({ cls := "SketchCache", name := "kept", desc := "(I)I" } : Jvm.MethodName)) ∈ tk_tb := tk_in (List.mem_append_right _ (List.mem_of_getElem? (i := 661) (by decide +kernel))) rfl
set_option maxRecDepth 20000 in
theorem t_662 : (Jvm.Cond.code ({ cls := "SketchCache", name := "kept", desc := "(I)I" } : Jvm.MethodName) prog_1_method_18_code (2 : Nat) (Option.some Jvm.ClassFile.FieldType.int)) ∈ tk_tb := tk_in (List.mem_append_right _ (List.mem_of_getElem? (i := 662) (rfl))) rfl
set_option maxRecDepth 20000 in
theorem t_663 : (Jvm.Cond.methodLink "SketchCache" (135 : Nat) ({ cls := "SketchCache$Player", name := "keptAt", desc := "(I)I" } : Jvm.MethodName)) ∈ tk_tb := tk_in (List.mem_append_right _ (List.mem_of_getElem? (i := 663) (by decide +kernel))) rfl
set_option maxRecDepth 20000 in
theorem t_664 : (Jvm.Cond.instanceMethod ({ cls := "SketchCache$Player", name := "keptAt", desc := "(I)I" } : Jvm.MethodName)) ∈ tk_tb := tk_in (List.mem_append_right _ (List.mem_of_getElem? (i := 664) (by decide +kernel))) rfl
set_option maxRecDepth 20000 in
theorem t_665 : (Jvm.Cond.selects "SketchCache$Player" ({ cls := "SketchCache$Player", name := "keptAt", desc := "(I)I" } : Jvm.MethodName) ({ cls := "SketchCache$Player", name := "keptAt", desc := "(I)I" } : Jvm.MethodName)) ∈ tk_tb := tk_in (List.mem_append_right _ (List.mem_of_getElem? (i := 665) (by decide +kernel))) rfl
set_option maxRecDepth 20000 in
theorem t_666 : (Jvm.Cond.code ({ cls := "SketchCache$Player", name := "keptAt", desc := "(I)I" } : Jvm.MethodName) prog_5_method_5_code (2 : Nat) (Option.some Jvm.ClassFile.FieldType.int)) ∈ tk_tb := tk_in (List.mem_append_right _ (List.mem_of_getElem? (i := 666) (rfl))) rfl
set_option maxRecDepth 20000 in
theorem t_667 : (Jvm.Cond.methodLink "SketchCacheLaw" (93 : Nat) ({ cls := "SketchCache", name := "save", desc := "(I)I" } : Jvm.MethodName)) ∈ tk_tb := tk_in (List.mem_append_right _ (List.mem_of_getElem? (i := 667) (by decide +kernel))) rfl
set_option maxRecDepth 20000 in
theorem t_668 : (Jvm.Cond.instanceMethod ({ cls := "SketchCache", name := "save", desc := "(I)I" } : Jvm.MethodName)) ∈ tk_tb := tk_in (List.mem_append_right _ (List.mem_of_getElem? (i := 668) (by decide +kernel))) rfl
set_option maxRecDepth 20000 in
theorem t_669 : (Jvm.Cond.selects "SketchCache" ({ cls := "SketchCache", name := "save", desc := "(I)I" } : Jvm.MethodName) ({ cls := "SketchCache", name := "save", desc := "(I)I" } : Jvm.MethodName)) ∈ tk_tb := tk_in (List.mem_append_right _ (List.mem_of_getElem? (i := 669) (by decide +kernel))) rfl
set_option maxRecDepth 20000 in
theorem t_670 : (Jvm.Cond.code ({ cls := "SketchCache", name := "save", desc := "(I)I" } : Jvm.MethodName) prog_1_method_19_code (2 : Nat) (Option.some Jvm.ClassFile.FieldType.int)) ∈ tk_tb := tk_in (List.mem_append_right _ (List.mem_of_getElem? (i := 670) (rfl))) rfl
set_option maxRecDepth 20000 in
theorem t_671 : (Jvm.Cond.methodLink "SketchCache" (138 : Nat) ({ cls := "SketchCache$State", name := "copyFrom", desc := "(LSketchCache$State;)V" } : Jvm.MethodName)) ∈ tk_tb := tk_in (List.mem_append_right _ (List.mem_of_getElem? (i := 671) (by decide +kernel))) rfl
set_option maxRecDepth 20000 in
theorem t_672 : (Jvm.Cond.instanceMethod ({ cls := "SketchCache$State", name := "copyFrom", desc := "(LSketchCache$State;)V" } : Jvm.MethodName)) ∈ tk_tb := tk_in (List.mem_append_right _ (List.mem_of_getElem? (i := 672) (by decide +kernel))) rfl
set_option maxRecDepth 20000 in
theorem t_673 : (Jvm.Cond.selects "SketchCache$State" ({ cls := "SketchCache$State", name := "copyFrom", desc := "(LSketchCache$State;)V" } : Jvm.MethodName) ({ cls := "SketchCache$State", name := "copyFrom", desc := "(LSketchCache$State;)V" } : Jvm.MethodName)) ∈ tk_tb := tk_in (List.mem_append_right _ (List.mem_of_getElem? (i := 673) (by decide +kernel))) rfl
set_option maxRecDepth 20000 in
theorem t_674 : (Jvm.Cond.code ({ cls := "SketchCache$State", name := "copyFrom", desc := "(LSketchCache$State;)V" } : Jvm.MethodName) prog_10_method_5_code (2 : Nat) (Option.none : Option Jvm.ClassFile.FieldType)) ∈ tk_tb := tk_in (List.mem_append_right _ (List.mem_of_getElem? (i := 674) (rfl))) rfl
set_option maxRecDepth 20000 in
theorem t_675 : (Jvm.Cond.methodLink "SketchCache$State" (132 : Nat) ({ cls := "SketchCache$Cache", name := "copyFrom", desc := "(LSketchCache$Cache;)V" } : Jvm.MethodName)) ∈ tk_tb := tk_in (List.mem_append_right _ (List.mem_of_getElem? (i := 675) (by decide +kernel))) rfl
set_option maxRecDepth 20000 in
theorem t_676 : (Jvm.Cond.instanceMethod ({ cls := "SketchCache$Cache", name := "copyFrom", desc := "(LSketchCache$Cache;)V" } : Jvm.MethodName)) ∈ tk_tb := tk_in (List.mem_append_right _ (List.mem_of_getElem? (i := 676) (by decide +kernel))) rfl
set_option maxRecDepth 20000 in
theorem t_677 : (Jvm.Cond.selects "SketchCache$Cache" ({ cls := "SketchCache$Cache", name := "copyFrom", desc := "(LSketchCache$Cache;)V" } : Jvm.MethodName) ({ cls := "SketchCache$Cache", name := "copyFrom", desc := "(LSketchCache$Cache;)V" } : Jvm.MethodName)) ∈ tk_tb := tk_in (List.mem_append_right _ (List.mem_of_getElem? (i := 677) (by decide +kernel))) rfl
set_option maxRecDepth 20000 in
theorem t_678 : (Jvm.Cond.code ({ cls := "SketchCache$Cache", name := "copyFrom", desc := "(LSketchCache$Cache;)V" } : Jvm.MethodName) prog_2_method_18_code (2 : Nat) (Option.none : Option Jvm.ClassFile.FieldType)) ∈ tk_tb := tk_in (List.mem_append_right _ (List.mem_of_getElem? (i := 678) (rfl))) rfl
set_option maxRecDepth 20000 in
theorem t_679 : (Jvm.Cond.methodLink "SketchCache$Cache" (117 : Nat) ({ cls := "SketchCache$Sketch", name := "copyFrom", desc := "(LSketchCache$Sketch;)V" } : Jvm.MethodName)) ∈ tk_tb := tk_in (List.mem_append_right _ (List.mem_of_getElem? (i := 679) (by decide +kernel))) rfl
set_option maxRecDepth 20000 in
theorem t_680 : (Jvm.Cond.instanceMethod ({ cls := "SketchCache$Sketch", name := "copyFrom", desc := "(LSketchCache$Sketch;)V" } : Jvm.MethodName)) ∈ tk_tb := tk_in (List.mem_append_right _ (List.mem_of_getElem? (i := 680) (by decide +kernel))) rfl
set_option maxRecDepth 20000 in
theorem t_681 : (Jvm.Cond.selects "SketchCache$Sketch" ({ cls := "SketchCache$Sketch", name := "copyFrom", desc := "(LSketchCache$Sketch;)V" } : Jvm.MethodName) ({ cls := "SketchCache$Sketch", name := "copyFrom", desc := "(LSketchCache$Sketch;)V" } : Jvm.MethodName)) ∈ tk_tb := tk_in (List.mem_append_right _ (List.mem_of_getElem? (i := 681) (by decide +kernel))) rfl
set_option maxRecDepth 20000 in
theorem t_682 : (Jvm.Cond.code ({ cls := "SketchCache$Sketch", name := "copyFrom", desc := "(LSketchCache$Sketch;)V" } : Jvm.MethodName) prog_9_method_15_code (3 : Nat) (Option.none : Option Jvm.ClassFile.FieldType)) ∈ tk_tb := tk_in (List.mem_append_right _ (List.mem_of_getElem? (i := 682) (rfl))) rfl
set_option maxRecDepth 20000 in
theorem t_683 : (Jvm.Cond.methodLink "SketchCache$Sketch" (85 : Nat) ({ cls := "java/lang/System", name := "arraycopy", desc := "(Ljava/lang/Object;ILjava/lang/Object;II)V" } : Jvm.MethodName)) ∈ tk_tb := tk_in (List.mem_append_right _ (List.mem_of_getElem? (i := 683) (by decide +kernel))) rfl
set_option maxRecDepth 20000 in
theorem t_684 : (Jvm.Cond.static ({ cls := "java/lang/System", name := "arraycopy", desc := "(Ljava/lang/Object;ILjava/lang/Object;II)V" } : Jvm.MethodName)) ∈ tk_tb := tk_in (List.mem_append_right _ (List.mem_of_getElem? (i := 684) (by decide +kernel))) rfl
set_option maxRecDepth 20000 in
theorem t_685 : (Jvm.Cond.native ({ cls := "java/lang/System", name := "arraycopy", desc := "(Ljava/lang/Object;ILjava/lang/Object;II)V" } : Jvm.MethodName)) ∈ tk_tb := tk_in (List.mem_append_right _ (List.mem_of_getElem? (i := 685) (by decide +kernel))) rfl
set_option maxRecDepth 20000 in
theorem t_686 : (Jvm.Cond.methodLink "SketchCache$Cache" (121 : Nat) ({ cls := "SketchCache$Rows", name := "copyFrom", desc := "(LSketchCache$Rows;)V" } : Jvm.MethodName)) ∈ tk_tb := tk_in (List.mem_append_right _ (List.mem_of_getElem? (i := 686) (by decide +kernel))) rfl
set_option maxRecDepth 20000 in
theorem t_687 : (Jvm.Cond.instanceMethod ({ cls := "SketchCache$Rows", name := "copyFrom", desc := "(LSketchCache$Rows;)V" } : Jvm.MethodName)) ∈ tk_tb := tk_in (List.mem_append_right _ (List.mem_of_getElem? (i := 687) (by decide +kernel))) rfl
set_option maxRecDepth 20000 in
theorem t_688 : (Jvm.Cond.selects "SketchCache$Rows" ({ cls := "SketchCache$Rows", name := "copyFrom", desc := "(LSketchCache$Rows;)V" } : Jvm.MethodName) ({ cls := "SketchCache$Rows", name := "copyFrom", desc := "(LSketchCache$Rows;)V" } : Jvm.MethodName)) ∈ tk_tb := tk_in (List.mem_append_right _ (List.mem_of_getElem? (i := 688) (by decide +kernel))) rfl
set_option maxRecDepth 20000 in
theorem t_689 : (Jvm.Cond.code ({ cls := "SketchCache$Rows", name := "copyFrom", desc := "(LSketchCache$Rows;)V" } : Jvm.MethodName) prog_7_method_11_code (3 : Nat) (Option.none : Option Jvm.ClassFile.FieldType)) ∈ tk_tb := tk_in (List.mem_append_right _ (List.mem_of_getElem? (i := 689) (rfl))) rfl
set_option maxRecDepth 20000 in
theorem t_690 : (Jvm.Cond.methodLink "SketchCache$Rows" (55 : Nat) ({ cls := "java/lang/System", name := "arraycopy", desc := "(Ljava/lang/Object;ILjava/lang/Object;II)V" } : Jvm.MethodName)) ∈ tk_tb := tk_in (List.mem_append_right _ (List.mem_of_getElem? (i := 690) (by decide +kernel))) rfl
set_option maxRecDepth 20000 in
theorem t_691 : (Jvm.Cond.methodLink "SketchCache$State" (136 : Nat) ({ cls := "SketchCache$Trace", name := "copyFrom", desc := "(LSketchCache$Trace;)V" } : Jvm.MethodName)) ∈ tk_tb := tk_in (List.mem_append_right _ (List.mem_of_getElem? (i := 691) (by decide +kernel))) rfl
set_option maxRecDepth 20000 in
theorem t_692 : (Jvm.Cond.instanceMethod ({ cls := "SketchCache$Trace", name := "copyFrom", desc := "(LSketchCache$Trace;)V" } : Jvm.MethodName)) ∈ tk_tb := tk_in (List.mem_append_right _ (List.mem_of_getElem? (i := 692) (by decide +kernel))) rfl
set_option maxRecDepth 20000 in
theorem t_693 : (Jvm.Cond.selects "SketchCache$Trace" ({ cls := "SketchCache$Trace", name := "copyFrom", desc := "(LSketchCache$Trace;)V" } : Jvm.MethodName) ({ cls := "SketchCache$Trace", name := "copyFrom", desc := "(LSketchCache$Trace;)V" } : Jvm.MethodName)) ∈ tk_tb := tk_in (List.mem_append_right _ (List.mem_of_getElem? (i := 693) (by decide +kernel))) rfl
set_option maxRecDepth 20000 in
theorem t_694 : (Jvm.Cond.code ({ cls := "SketchCache$Trace", name := "copyFrom", desc := "(LSketchCache$Trace;)V" } : Jvm.MethodName) prog_11_method_4_code (2 : Nat) (Option.none : Option Jvm.ClassFile.FieldType)) ∈ tk_tb := tk_in (List.mem_append_right _ (List.mem_of_getElem? (i := 694) (rfl))) rfl
set_option maxRecDepth 20000 in
theorem t_695 : (Jvm.Cond.methodLink "SketchCache$Trace" (22 : Nat) ({ cls := "java/lang/System", name := "arraycopy", desc := "(Ljava/lang/Object;ILjava/lang/Object;II)V" } : Jvm.MethodName)) ∈ tk_tb := tk_in (List.mem_append_right _ (List.mem_of_getElem? (i := 695) (by decide +kernel))) rfl
set_option maxRecDepth 20000 in
theorem t_696 : (Jvm.Cond.methodLink "SketchCache$State" (139 : Nat) ({ cls := "SketchCache$Climb", name := "copyFrom", desc := "(LSketchCache$Climb;)V" } : Jvm.MethodName)) ∈ tk_tb := tk_in (List.mem_append_right _ (List.mem_of_getElem? (i := 696) (by decide +kernel))) rfl
set_option maxRecDepth 20000 in
theorem t_697 : (Jvm.Cond.instanceMethod ({ cls := "SketchCache$Climb", name := "copyFrom", desc := "(LSketchCache$Climb;)V" } : Jvm.MethodName)) ∈ tk_tb := tk_in (List.mem_append_right _ (List.mem_of_getElem? (i := 697) (by decide +kernel))) rfl
set_option maxRecDepth 20000 in
theorem t_698 : (Jvm.Cond.selects "SketchCache$Climb" ({ cls := "SketchCache$Climb", name := "copyFrom", desc := "(LSketchCache$Climb;)V" } : Jvm.MethodName) ({ cls := "SketchCache$Climb", name := "copyFrom", desc := "(LSketchCache$Climb;)V" } : Jvm.MethodName)) ∈ tk_tb := tk_in (List.mem_append_right _ (List.mem_of_getElem? (i := 698) (by decide +kernel))) rfl
set_option maxRecDepth 20000 in
theorem t_699 : (Jvm.Cond.code ({ cls := "SketchCache$Climb", name := "copyFrom", desc := "(LSketchCache$Climb;)V" } : Jvm.MethodName) prog_3_method_6_code (2 : Nat) (Option.none : Option Jvm.ClassFile.FieldType)) ∈ tk_tb := tk_in (List.mem_append_right _ (List.mem_of_getElem? (i := 699) (rfl))) rfl
set_option maxRecDepth 20000 in
theorem t_700 : (Jvm.Cond.methodLink "SketchCacheLaw" (97 : Nat) ({ cls := "SketchCache", name := "load", desc := "(I)I" } : Jvm.MethodName)) ∈ tk_tb := tk_in (List.mem_append_right _ (List.mem_of_getElem? (i := 700) (by decide +kernel))) rfl
set_option maxRecDepth 20000 in
theorem t_701 : (Jvm.Cond.instanceMethod ({ cls := "SketchCache", name := "load", desc := "(I)I" } : Jvm.MethodName)) ∈ tk_tb := tk_in (List.mem_append_right _ (List.mem_of_getElem? (i := 701) (by decide +kernel))) rfl
set_option maxRecDepth 20000 in
theorem t_702 : (Jvm.Cond.selects "SketchCache" ({ cls := "SketchCache", name := "load", desc := "(I)I" } : Jvm.MethodName) ({ cls := "SketchCache", name := "load", desc := "(I)I" } : Jvm.MethodName)) ∈ tk_tb := tk_in (List.mem_append_right _ (List.mem_of_getElem? (i := 702) (by decide +kernel))) rfl
set_option maxRecDepth 20000 in
theorem t_703 : (Jvm.Cond.code ({ cls := "SketchCache", name := "load", desc := "(I)I" } : Jvm.MethodName) prog_1_method_20_code (2 : Nat) (Option.some Jvm.ClassFile.FieldType.int)) ∈ tk_tb := tk_in (List.mem_append_right _ (List.mem_of_getElem? (i := 703) (rfl))) rfl
set_option maxRecDepth 20000 in
theorem t_704 : (Jvm.Cond.methodLink "SketchCacheLaw" (101 : Nat) ({ cls := "SketchCache", name := "sound", desc := "()I" } : Jvm.MethodName)) ∈ tk_tb := tk_in (List.mem_append_right _ (List.mem_of_getElem? (i := 704) (by decide +kernel))) rfl
set_option maxRecDepth 20000 in
theorem t_705 : (Jvm.Cond.instanceMethod ({ cls := "SketchCache", name := "sound", desc := "()I" } : Jvm.MethodName)) ∈ tk_tb := tk_in (List.mem_append_right _ (List.mem_of_getElem? (i := 705) (by decide +kernel))) rfl
set_option maxRecDepth 20000 in
theorem t_706 : (Jvm.Cond.selects "SketchCache" ({ cls := "SketchCache", name := "sound", desc := "()I" } : Jvm.MethodName) ({ cls := "SketchCache", name := "sound", desc := "()I" } : Jvm.MethodName)) ∈ tk_tb := tk_in (List.mem_append_right _ (List.mem_of_getElem? (i := 706) (by decide +kernel))) rfl
set_option maxRecDepth 20000 in
theorem t_707 : (Jvm.Cond.code ({ cls := "SketchCache", name := "sound", desc := "()I" } : Jvm.MethodName) prog_1_method_21_code (1 : Nat) (Option.some Jvm.ClassFile.FieldType.int)) ∈ tk_tb := tk_in (List.mem_append_right _ (List.mem_of_getElem? (i := 707) (rfl))) rfl
set_option maxRecDepth 20000 in
theorem t_708 : (Jvm.Cond.methodLink "SketchCache" (145 : Nat) ({ cls := "SketchCache$Cache", name := "isSound", desc := "()Z" } : Jvm.MethodName)) ∈ tk_tb := tk_in (List.mem_append_right _ (List.mem_of_getElem? (i := 708) (by decide +kernel))) rfl
set_option maxRecDepth 20000 in
theorem t_709 : (Jvm.Cond.instanceMethod ({ cls := "SketchCache$Cache", name := "isSound", desc := "()Z" } : Jvm.MethodName)) ∈ tk_tb := tk_in (List.mem_append_right _ (List.mem_of_getElem? (i := 709) (by decide +kernel))) rfl
set_option maxRecDepth 20000 in
theorem t_710 : (Jvm.Cond.selects "SketchCache$Cache" ({ cls := "SketchCache$Cache", name := "isSound", desc := "()Z" } : Jvm.MethodName) ({ cls := "SketchCache$Cache", name := "isSound", desc := "()Z" } : Jvm.MethodName)) ∈ tk_tb := tk_in (List.mem_append_right _ (List.mem_of_getElem? (i := 710) (by decide +kernel))) rfl
set_option maxRecDepth 20000 in
theorem t_711 : (Jvm.Cond.code ({ cls := "SketchCache$Cache", name := "isSound", desc := "()Z" } : Jvm.MethodName) prog_2_method_17_code (2 : Nat) (Option.some Jvm.ClassFile.FieldType.boolean)) ∈ tk_tb := tk_in (List.mem_append_right _ (List.mem_of_getElem? (i := 711) (rfl))) rfl
set_option maxRecDepth 20000 in
theorem t_712 : (Jvm.Cond.methodLink "SketchCache$Cache" (111 : Nat) ({ cls := "SketchCache$Rows", name := "appearancesOf", desc := "(I)I" } : Jvm.MethodName)) ∈ tk_tb := tk_in (List.mem_append_right _ (List.mem_of_getElem? (i := 712) (by decide +kernel))) rfl
set_option maxRecDepth 20000 in
theorem t_713 : (Jvm.Cond.instanceMethod ({ cls := "SketchCache$Rows", name := "appearancesOf", desc := "(I)I" } : Jvm.MethodName)) ∈ tk_tb := tk_in (List.mem_append_right _ (List.mem_of_getElem? (i := 713) (by decide +kernel))) rfl
set_option maxRecDepth 20000 in
theorem t_714 : (Jvm.Cond.selects "SketchCache$Rows" ({ cls := "SketchCache$Rows", name := "appearancesOf", desc := "(I)I" } : Jvm.MethodName) ({ cls := "SketchCache$Rows", name := "appearancesOf", desc := "(I)I" } : Jvm.MethodName)) ∈ tk_tb := tk_in (List.mem_append_right _ (List.mem_of_getElem? (i := 714) (by decide +kernel))) rfl
set_option maxRecDepth 20000 in
theorem t_715 : (Jvm.Cond.code ({ cls := "SketchCache$Rows", name := "appearancesOf", desc := "(I)I" } : Jvm.MethodName) prog_7_method_9_code (5 : Nat) (Option.some Jvm.ClassFile.FieldType.int)) ∈ tk_tb := tk_in (List.mem_append_right _ (List.mem_of_getElem? (i := 715) (rfl))) rfl
set_option maxRecDepth 20000 in
theorem t_716 : (Jvm.Cond.methodLink "SketchCache$Cache" (114 : Nat) ({ cls := "SketchCache$Rows", name := "countedUnits", desc := "(I)I" } : Jvm.MethodName)) ∈ tk_tb := tk_in (List.mem_append_right _ (List.mem_of_getElem? (i := 716) (by decide +kernel))) rfl
set_option maxRecDepth 20000 in
theorem t_717 : (Jvm.Cond.instanceMethod ({ cls := "SketchCache$Rows", name := "countedUnits", desc := "(I)I" } : Jvm.MethodName)) ∈ tk_tb := tk_in (List.mem_append_right _ (List.mem_of_getElem? (i := 717) (by decide +kernel))) rfl
set_option maxRecDepth 20000 in
theorem t_718 : (Jvm.Cond.selects "SketchCache$Rows" ({ cls := "SketchCache$Rows", name := "countedUnits", desc := "(I)I" } : Jvm.MethodName) ({ cls := "SketchCache$Rows", name := "countedUnits", desc := "(I)I" } : Jvm.MethodName)) ∈ tk_tb := tk_in (List.mem_append_right _ (List.mem_of_getElem? (i := 718) (by decide +kernel))) rfl
set_option maxRecDepth 20000 in
theorem t_719 : (Jvm.Cond.code ({ cls := "SketchCache$Rows", name := "countedUnits", desc := "(I)I" } : Jvm.MethodName) prog_7_method_10_code (4 : Nat) (Option.some Jvm.ClassFile.FieldType.int)) ∈ tk_tb := tk_in (List.mem_append_right _ (List.mem_of_getElem? (i := 719) (rfl))) rfl
set_option maxRecDepth 20000 in
theorem t_720 : (Jvm.Cond.methodLink "SketchCache" (149 : Nat) ({ cls := "SketchCache$Sketch", name := "isSound", desc := "()Z" } : Jvm.MethodName)) ∈ tk_tb := tk_in (List.mem_append_right _ (List.mem_of_getElem? (i := 720) (by decide +kernel))) rfl
set_option maxRecDepth 20000 in
theorem t_721 : (Jvm.Cond.instanceMethod ({ cls := "SketchCache$Sketch", name := "isSound", desc := "()Z" } : Jvm.MethodName)) ∈ tk_tb := tk_in (List.mem_append_right _ (List.mem_of_getElem? (i := 721) (by decide +kernel))) rfl
set_option maxRecDepth 20000 in
theorem t_722 : (Jvm.Cond.selects "SketchCache$Sketch" ({ cls := "SketchCache$Sketch", name := "isSound", desc := "()Z" } : Jvm.MethodName) ({ cls := "SketchCache$Sketch", name := "isSound", desc := "()Z" } : Jvm.MethodName)) ∈ tk_tb := tk_in (List.mem_append_right _ (List.mem_of_getElem? (i := 722) (by decide +kernel))) rfl
set_option maxRecDepth 20000 in
theorem t_723 : (Jvm.Cond.code ({ cls := "SketchCache$Sketch", name := "isSound", desc := "()Z" } : Jvm.MethodName) prog_9_method_14_code (3 : Nat) (Option.some Jvm.ClassFile.FieldType.boolean)) ∈ tk_tb := tk_in (List.mem_append_right _ (List.mem_of_getElem? (i := 723) (rfl))) rfl
set_option maxRecDepth 20000 in
theorem t_724 : (Jvm.Cond.methodLink "SketchCache$Sketch" (82 : Nat) ({ cls := "SketchCache$Sketch", name := "guess", desc := "(I)I" } : Jvm.MethodName)) ∈ tk_tb := tk_in (List.mem_append_right _ (List.mem_of_getElem? (i := 724) (by decide +kernel))) rfl
set_option maxRecDepth 20000 in
theorem t_725 : (Jvm.Cond.methodLink "SketchCacheLaw" (9 : Nat) ({ cls := "SketchCacheLaw", name := "cell", desc := "([II)I" } : Jvm.MethodName)) ∈ tk_tb := tk_in (List.mem_append_right _ (List.mem_of_getElem? (i := 725) (by decide +kernel))) rfl
set_option maxRecDepth 20000 in
theorem t_726 : (Jvm.Cond.static ({ cls := "SketchCacheLaw", name := "cell", desc := "([II)I" } : Jvm.MethodName)) ∈ tk_tb := tk_in (List.mem_append_right _ (List.mem_of_getElem? (i := 726) (by decide +kernel))) rfl
set_option maxRecDepth 20000 in
theorem t_727 : (Jvm.Cond.code ({ cls := "SketchCacheLaw", name := "cell", desc := "([II)I" } : Jvm.MethodName) method_2_code (2 : Nat) (Option.some Jvm.ClassFile.FieldType.int)) ∈ tk_tb := tk_in (List.mem_append_right _ (List.mem_of_getElem? (i := 727) (rfl))) rfl
set_option maxRecDepth 20000 in
theorem t_728 : (Jvm.Cond.classLink "SketchCacheLaw" (18 : Nat) "SketchCacheModel") ∈ tk_tb := tk_in (List.mem_append_right _ (List.mem_of_getElem? (i := 728) (by decide +kernel))) rfl
set_option maxRecDepth 20000 in
theorem t_729 : (Jvm.Cond.instantiable "SketchCacheModel" (17 : Nat)) ∈ tk_tb := tk_in (List.mem_append_right _ (List.mem_of_getElem? (i := 729) (by decide +kernel))) rfl
set_option maxRecDepth 20000 in
theorem t_730 : (Jvm.Cond.methodLink "SketchCacheLaw" (20 : Nat) ({ cls := "SketchCacheModel", name := "<init>", desc := "(III)V" } : Jvm.MethodName)) ∈ tk_tb := tk_in (List.mem_append_right _ (List.mem_of_getElem? (i := 730) (by decide +kernel))) rfl
set_option maxRecDepth 20000 in
theorem t_731 : (Jvm.Cond.instanceMethod ({ cls := "SketchCacheModel", name := "<init>", desc := "(III)V" } : Jvm.MethodName)) ∈ tk_tb := tk_in (List.mem_append_right _ (List.mem_of_getElem? (i := 731) (by decide +kernel))) rfl
set_option maxRecDepth 20000 in
theorem t_732 : (Jvm.Cond.code ({ cls := "SketchCacheModel", name := "<init>", desc := "(III)V" } : Jvm.MethodName) prog_13_method_1_code (6 : Nat) (Option.none : Option Jvm.ClassFile.FieldType)) ∈ tk_tb := tk_in (List.mem_append_right _ (List.mem_of_getElem? (i := 732) (rfl))) rfl
set_option maxRecDepth 20000 in
theorem t_733 : (Jvm.Cond.methodLink "SketchCacheModel" (1 : Nat) ({ cls := "java/lang/Object", name := "<init>", desc := "()V" } : Jvm.MethodName)) ∈ tk_tb := tk_in (List.mem_append_right _ (List.mem_of_getElem? (i := 733) (by decide +kernel))) rfl
set_option maxRecDepth 20000 in
theorem t_734 : (Jvm.Cond.methodLink "SketchCacheModel" (44 : Nat) ({ cls := "SketchCacheModel", name := "within", desc := "(III)I" } : Jvm.MethodName)) ∈ tk_tb := tk_in (List.mem_append_right _ (List.mem_of_getElem? (i := 734) (by decide +kernel))) rfl
set_option maxRecDepth 20000 in
theorem t_735 : (Jvm.Cond.static ({ cls := "SketchCacheModel", name := "within", desc := "(III)I" } : Jvm.MethodName)) ∈ tk_tb := tk_in (List.mem_append_right _ (List.mem_of_getElem? (i := 735) (by decide +kernel))) rfl
set_option maxRecDepth 20000 in
theorem t_736 : (Jvm.Cond.code ({ cls := "SketchCacheModel", name := "within", desc := "(III)I" } : Jvm.MethodName) prog_13_method_2_code (3 : Nat) (Option.some Jvm.ClassFile.FieldType.int)) ∈ tk_tb := tk_in (List.mem_append_right _ (List.mem_of_getElem? (i := 736) (rfl))) rfl
set_option maxRecDepth 20000 in
theorem t_737 : (Jvm.Cond.methodLink "SketchCacheModel" (55 : Nat) ({ cls := "SketchCacheModel", name := "setWindow", desc := "(I)V" } : Jvm.MethodName)) ∈ tk_tb := tk_in (List.mem_append_right _ (List.mem_of_getElem? (i := 737) (by decide +kernel))) rfl
set_option maxRecDepth 20000 in
theorem q_738 : (Jvm.Cond.privateMethod ({ cls := "SketchCacheModel", name := "setWindow", desc := "(I)V" } : Jvm.MethodName)) ∈ lw_tbl := List.mem_append_right _ (List.mem_of_getElem? (i := 738) (by decide +kernel))
set_option maxRecDepth 20000 in
theorem t_739 : (Jvm.Cond.instanceMethod ({ cls := "SketchCacheModel", name := "setWindow", desc := "(I)V" } : Jvm.MethodName)) ∈ tk_tb := tk_in (List.mem_append_right _ (List.mem_of_getElem? (i := 739) (by decide +kernel))) rfl
set_option maxRecDepth 20000 in
theorem t_740 : (Jvm.Cond.code ({ cls := "SketchCacheModel", name := "setWindow", desc := "(I)V" } : Jvm.MethodName) prog_13_method_5_code (2 : Nat) (Option.none : Option Jvm.ClassFile.FieldType)) ∈ tk_tb := tk_in (List.mem_append_right _ (List.mem_of_getElem? (i := 740) (rfl))) rfl
set_option maxRecDepth 20000 in
theorem t_741 : (Jvm.Cond.fieldLink "SketchCacheModel" (48 : Nat) "SketchCacheModel" "rows" "I") ∈ tk_tb := tk_in (List.mem_append_right _ (List.mem_of_getElem? (i := 741) (by decide +kernel))) rfl
set_option maxRecDepth 20000 in
theorem t_742 : (Jvm.Cond.fieldLink "SketchCacheModel" (52 : Nat) "SketchCacheModel" "capacity" "I") ∈ tk_tb := tk_in (List.mem_append_right _ (List.mem_of_getElem? (i := 742) (by decide +kernel))) rfl
set_option maxRecDepth 20000 in
theorem t_743 : (Jvm.Cond.fieldLink "SketchCacheModel" (7 : Nat) "SketchCacheModel" "now" "[I") ∈ tk_tb := tk_in (List.mem_append_right _ (List.mem_of_getElem? (i := 743) (by decide +kernel))) rfl
set_option maxRecDepth 20000 in
theorem t_744 : (Jvm.Cond.fieldLink "SketchCacheModel" (13 : Nat) "SketchCacheModel" "saved" "[I") ∈ tk_tb := tk_in (List.mem_append_right _ (List.mem_of_getElem? (i := 744) (by decide +kernel))) rfl
set_option maxRecDepth 20000 in
theorem t_745 : (Jvm.Cond.fieldLink "SketchCacheModel" (16 : Nat) "SketchCacheModel" "isSaved" "[Z") ∈ tk_tb := tk_in (List.mem_append_right _ (List.mem_of_getElem? (i := 745) (by decide +kernel))) rfl
set_option maxRecDepth 20000 in
theorem t_746 : (Jvm.Cond.fieldLink "SketchCacheModel" (20 : Nat) "SketchCacheModel" "kept" "[I") ∈ tk_tb := tk_in (List.mem_append_right _ (List.mem_of_getElem? (i := 746) (by decide +kernel))) rfl
set_option maxRecDepth 20000 in
theorem t_747 : (Jvm.Cond.fieldLink "SketchCacheModel" (176 : Nat) "SketchCacheModel" "keptCount" "I") ∈ tk_tb := tk_in (List.mem_append_right _ (List.mem_of_getElem? (i := 747) (by decide +kernel))) rfl
set_option maxRecDepth 20000 in
theorem t_748 : (Jvm.Cond.fieldLink "SketchCacheModel" (23 : Nat) "SketchCacheModel" "seats" "[I") ∈ tk_tb := tk_in (List.mem_append_right _ (List.mem_of_getElem? (i := 748) (by decide +kernel))) rfl
set_option maxRecDepth 20000 in
theorem t_749 : (Jvm.Cond.fieldLink "SketchCacheModel" (26 : Nat) "SketchCacheModel" "marked" "[Z") ∈ tk_tb := tk_in (List.mem_append_right _ (List.mem_of_getElem? (i := 749) (by decide +kernel))) rfl
set_option maxRecDepth 20000 in
theorem t_750 : (Jvm.Cond.fieldLink "SketchCacheModel" (29 : Nat) "SketchCacheModel" "uses" "[I") ∈ tk_tb := tk_in (List.mem_append_right _ (List.mem_of_getElem? (i := 750) (by decide +kernel))) rfl
set_option maxRecDepth 20000 in
theorem t_751 : (Jvm.Cond.fieldLink "SketchCacheModel" (32 : Nat) "SketchCacheModel" "used" "[I") ∈ tk_tb := tk_in (List.mem_append_right _ (List.mem_of_getElem? (i := 751) (by decide +kernel))) rfl
set_option maxRecDepth 20000 in
theorem t_752 : (Jvm.Cond.fieldLink "SketchCacheModel" (35 : Nat) "SketchCacheModel" "came" "[I") ∈ tk_tb := tk_in (List.mem_append_right _ (List.mem_of_getElem? (i := 752) (by decide +kernel))) rfl
set_option maxRecDepth 20000 in
theorem t_753 : (Jvm.Cond.fieldLink "SketchCacheModel" (131 : Nat) "SketchCacheModel" "sitting" "I") ∈ tk_tb := tk_in (List.mem_append_right _ (List.mem_of_getElem? (i := 753) (by decide +kernel))) rfl
set_option maxRecDepth 20000 in
theorem t_754 : (Jvm.Cond.fieldLink "SketchCacheModel" (137 : Nat) "SketchCacheModel" "hand" "I") ∈ tk_tb := tk_in (List.mem_append_right _ (List.mem_of_getElem? (i := 754) (by decide +kernel))) rfl
set_option maxRecDepth 20000 in
theorem t_755 : (Jvm.Cond.fieldLink "SketchCacheModel" (38 : Nat) "SketchCacheModel" "four" "[I") ∈ tk_tb := tk_in (List.mem_append_right _ (List.mem_of_getElem? (i := 755) (by decide +kernel))) rfl
set_option maxRecDepth 20000 in
theorem t_756 : (Jvm.Cond.fieldLink "SketchCacheModel" (41 : Nat) "SketchCacheModel" "many" "[I") ∈ tk_tb := tk_in (List.mem_append_right _ (List.mem_of_getElem? (i := 756) (by decide +kernel))) rfl
set_option maxRecDepth 20000 in
theorem t_757 : (Jvm.Cond.fieldLink "SketchCacheModel" (151 : Nat) "SketchCacheModel" "goal" "I") ∈ tk_tb := tk_in (List.mem_append_right _ (List.mem_of_getElem? (i := 757) (by decide +kernel))) rfl
set_option maxRecDepth 20000 in
theorem t_758 : (Jvm.Cond.laysFinal "SketchCacheModel" "SketchCacheModel" "rows" "I") ∈ tk_tb := tk_in (List.mem_append_right _ (List.mem_of_getElem? (i := 758) (by decide +kernel))) rfl
set_option maxRecDepth 20000 in
theorem t_759 : (Jvm.Cond.soleField "SketchCacheModel" "rows") ∈ tk_tb := tk_in (List.mem_append_right _ (List.mem_of_getElem? (i := 759) (by decide +kernel))) rfl
set_option maxRecDepth 20000 in
theorem t_760 : (Jvm.Cond.laysFinal "SketchCacheModel" "SketchCacheModel" "capacity" "I") ∈ tk_tb := tk_in (List.mem_append_right _ (List.mem_of_getElem? (i := 760) (by decide +kernel))) rfl
set_option maxRecDepth 20000 in
theorem t_761 : (Jvm.Cond.soleField "SketchCacheModel" "capacity") ∈ tk_tb := tk_in (List.mem_append_right _ (List.mem_of_getElem? (i := 761) (by decide +kernel))) rfl
set_option maxRecDepth 20000 in
theorem t_762 : (Jvm.Cond.laysFinal "SketchCacheModel" "SketchCacheModel" "now" "[I") ∈ tk_tb := tk_in (List.mem_append_right _ (List.mem_of_getElem? (i := 762) (by decide +kernel))) rfl
set_option maxRecDepth 20000 in
theorem t_763 : (Jvm.Cond.soleField "SketchCacheModel" "now") ∈ tk_tb := tk_in (List.mem_append_right _ (List.mem_of_getElem? (i := 763) (by decide +kernel))) rfl
set_option maxRecDepth 20000 in
theorem t_764 : (Jvm.Cond.laysFinal "SketchCacheModel" "SketchCacheModel" "saved" "[I") ∈ tk_tb := tk_in (List.mem_append_right _ (List.mem_of_getElem? (i := 764) (by decide +kernel))) rfl
set_option maxRecDepth 20000 in
theorem t_765 : (Jvm.Cond.soleField "SketchCacheModel" "saved") ∈ tk_tb := tk_in (List.mem_append_right _ (List.mem_of_getElem? (i := 765) (by decide +kernel))) rfl
set_option maxRecDepth 20000 in
theorem t_766 : (Jvm.Cond.laysFinal "SketchCacheModel" "SketchCacheModel" "isSaved" "[Z") ∈ tk_tb := tk_in (List.mem_append_right _ (List.mem_of_getElem? (i := 766) (by decide +kernel))) rfl
set_option maxRecDepth 20000 in
theorem t_767 : (Jvm.Cond.soleField "SketchCacheModel" "isSaved") ∈ tk_tb := tk_in (List.mem_append_right _ (List.mem_of_getElem? (i := 767) (by decide +kernel))) rfl
set_option maxRecDepth 20000 in
theorem t_768 : (Jvm.Cond.laysFinal "SketchCacheModel" "SketchCacheModel" "kept" "[I") ∈ tk_tb := tk_in (List.mem_append_right _ (List.mem_of_getElem? (i := 768) (by decide +kernel))) rfl
set_option maxRecDepth 20000 in
theorem t_769 : (Jvm.Cond.soleField "SketchCacheModel" "kept") ∈ tk_tb := tk_in (List.mem_append_right _ (List.mem_of_getElem? (i := 769) (by decide +kernel))) rfl
set_option maxRecDepth 20000 in
theorem t_770 : (Jvm.Cond.lays "SketchCacheModel" "SketchCacheModel" "keptCount" "I") ∈ tk_tb := tk_in (List.mem_append_right _ (List.mem_of_getElem? (i := 770) (by decide +kernel))) rfl
set_option maxRecDepth 20000 in
theorem t_771 : (Jvm.Cond.soleField "SketchCacheModel" "keptCount") ∈ tk_tb := tk_in (List.mem_append_right _ (List.mem_of_getElem? (i := 771) (by decide +kernel))) rfl
set_option maxRecDepth 20000 in
theorem t_772 : (Jvm.Cond.laysFinal "SketchCacheModel" "SketchCacheModel" "seats" "[I") ∈ tk_tb := tk_in (List.mem_append_right _ (List.mem_of_getElem? (i := 772) (by decide +kernel))) rfl
set_option maxRecDepth 20000 in
theorem t_773 : (Jvm.Cond.soleField "SketchCacheModel" "seats") ∈ tk_tb := tk_in (List.mem_append_right _ (List.mem_of_getElem? (i := 773) (by decide +kernel))) rfl
set_option maxRecDepth 20000 in
theorem t_774 : (Jvm.Cond.laysFinal "SketchCacheModel" "SketchCacheModel" "marked" "[Z") ∈ tk_tb := tk_in (List.mem_append_right _ (List.mem_of_getElem? (i := 774) (by decide +kernel))) rfl
set_option maxRecDepth 20000 in
theorem t_775 : (Jvm.Cond.soleField "SketchCacheModel" "marked") ∈ tk_tb := tk_in (List.mem_append_right _ (List.mem_of_getElem? (i := 775) (by decide +kernel))) rfl
set_option maxRecDepth 20000 in
theorem t_776 : (Jvm.Cond.laysFinal "SketchCacheModel" "SketchCacheModel" "uses" "[I") ∈ tk_tb := tk_in (List.mem_append_right _ (List.mem_of_getElem? (i := 776) (by decide +kernel))) rfl
set_option maxRecDepth 20000 in
theorem t_777 : (Jvm.Cond.soleField "SketchCacheModel" "uses") ∈ tk_tb := tk_in (List.mem_append_right _ (List.mem_of_getElem? (i := 777) (by decide +kernel))) rfl
set_option maxRecDepth 20000 in
theorem t_778 : (Jvm.Cond.laysFinal "SketchCacheModel" "SketchCacheModel" "used" "[I") ∈ tk_tb := tk_in (List.mem_append_right _ (List.mem_of_getElem? (i := 778) (by decide +kernel))) rfl
set_option maxRecDepth 20000 in
theorem t_779 : (Jvm.Cond.soleField "SketchCacheModel" "used") ∈ tk_tb := tk_in (List.mem_append_right _ (List.mem_of_getElem? (i := 779) (by decide +kernel))) rfl
set_option maxRecDepth 20000 in
theorem t_780 : (Jvm.Cond.laysFinal "SketchCacheModel" "SketchCacheModel" "came" "[I") ∈ tk_tb := tk_in (List.mem_append_right _ (List.mem_of_getElem? (i := 780) (by decide +kernel))) rfl
set_option maxRecDepth 20000 in
theorem t_781 : (Jvm.Cond.soleField "SketchCacheModel" "came") ∈ tk_tb := tk_in (List.mem_append_right _ (List.mem_of_getElem? (i := 781) (by decide +kernel))) rfl
set_option maxRecDepth 20000 in
theorem t_782 : (Jvm.Cond.lays "SketchCacheModel" "SketchCacheModel" "sitting" "I") ∈ tk_tb := tk_in (List.mem_append_right _ (List.mem_of_getElem? (i := 782) (by decide +kernel))) rfl
set_option maxRecDepth 20000 in
theorem t_783 : (Jvm.Cond.soleField "SketchCacheModel" "sitting") ∈ tk_tb := tk_in (List.mem_append_right _ (List.mem_of_getElem? (i := 783) (by decide +kernel))) rfl
set_option maxRecDepth 20000 in
theorem t_784 : (Jvm.Cond.lays "SketchCacheModel" "SketchCacheModel" "hand" "I") ∈ tk_tb := tk_in (List.mem_append_right _ (List.mem_of_getElem? (i := 784) (by decide +kernel))) rfl
set_option maxRecDepth 20000 in
theorem t_785 : (Jvm.Cond.soleField "SketchCacheModel" "hand") ∈ tk_tb := tk_in (List.mem_append_right _ (List.mem_of_getElem? (i := 785) (by decide +kernel))) rfl
set_option maxRecDepth 20000 in
theorem t_786 : (Jvm.Cond.laysFinal "SketchCacheModel" "SketchCacheModel" "four" "[I") ∈ tk_tb := tk_in (List.mem_append_right _ (List.mem_of_getElem? (i := 786) (by decide +kernel))) rfl
set_option maxRecDepth 20000 in
theorem t_787 : (Jvm.Cond.soleField "SketchCacheModel" "four") ∈ tk_tb := tk_in (List.mem_append_right _ (List.mem_of_getElem? (i := 787) (by decide +kernel))) rfl
set_option maxRecDepth 20000 in
theorem t_788 : (Jvm.Cond.laysFinal "SketchCacheModel" "SketchCacheModel" "many" "[I") ∈ tk_tb := tk_in (List.mem_append_right _ (List.mem_of_getElem? (i := 788) (by decide +kernel))) rfl
set_option maxRecDepth 20000 in
theorem t_789 : (Jvm.Cond.soleField "SketchCacheModel" "many") ∈ tk_tb := tk_in (List.mem_append_right _ (List.mem_of_getElem? (i := 789) (by decide +kernel))) rfl
set_option maxRecDepth 20000 in
theorem t_790 : (Jvm.Cond.lays "SketchCacheModel" "SketchCacheModel" "goal" "I") ∈ tk_tb := tk_in (List.mem_append_right _ (List.mem_of_getElem? (i := 790) (by decide +kernel))) rfl
set_option maxRecDepth 20000 in
theorem t_791 : (Jvm.Cond.soleField "SketchCacheModel" "goal") ∈ tk_tb := tk_in (List.mem_append_right _ (List.mem_of_getElem? (i := 791) (by decide +kernel))) rfl
set_option maxRecDepth 20000 in
theorem t_792 : (Jvm.Cond.superclass "SketchCacheModel" "java/lang/Object") ∈ tk_tb := tk_in (List.mem_append_right _ (List.mem_of_getElem? (i := 792) (by decide +kernel))) rfl
set_option maxRecDepth 20000 in
theorem t_793 : (Jvm.Cond.arrayClass Jvm.ClassFile.FieldType.boolean) ∈ tk_tb := tk_in (List.mem_append_right _ (List.mem_of_getElem? (i := 793) (by decide +kernel))) rfl
set_option maxRecDepth 20000 in
theorem t_794 : (Jvm.Cond.methodLink "SketchCacheLaw" (25 : Nat) ({ cls := "SketchCacheModel", name := "place", desc := "(III)I" } : Jvm.MethodName)) ∈ tk_tb := tk_in (List.mem_append_right _ (List.mem_of_getElem? (i := 794) (by decide +kernel))) rfl
set_option maxRecDepth 20000 in
theorem t_795 : (Jvm.Cond.instanceMethod ({ cls := "SketchCacheModel", name := "place", desc := "(III)I" } : Jvm.MethodName)) ∈ tk_tb := tk_in (List.mem_append_right _ (List.mem_of_getElem? (i := 795) (by decide +kernel))) rfl
set_option maxRecDepth 20000 in
theorem t_796 : (Jvm.Cond.selects "SketchCacheModel" ({ cls := "SketchCacheModel", name := "place", desc := "(III)I" } : Jvm.MethodName) ({ cls := "SketchCacheModel", name := "place", desc := "(III)I" } : Jvm.MethodName)) ∈ tk_tb := tk_in (List.mem_append_right _ (List.mem_of_getElem? (i := 796) (by decide +kernel))) rfl
set_option maxRecDepth 20000 in
theorem t_797 : (Jvm.Cond.code ({ cls := "SketchCacheModel", name := "place", desc := "(III)I" } : Jvm.MethodName) prog_13_method_7_code (5 : Nat) (Option.some Jvm.ClassFile.FieldType.int)) ∈ tk_tb := tk_in (List.mem_append_right _ (List.mem_of_getElem? (i := 797) (rfl))) rfl
set_option maxRecDepth 20000 in
theorem t_798 : (Jvm.Cond.methodLink "SketchCacheModel" (59 : Nat) ({ cls := "SketchCacheModel", name := "in", desc := "(III)Z" } : Jvm.MethodName)) ∈ tk_tb := tk_in (List.mem_append_right _ (List.mem_of_getElem? (i := 798) (by decide +kernel))) rfl
set_option maxRecDepth 20000 in
theorem t_799 : (Jvm.Cond.static ({ cls := "SketchCacheModel", name := "in", desc := "(III)Z" } : Jvm.MethodName)) ∈ tk_tb := tk_in (List.mem_append_right _ (List.mem_of_getElem? (i := 799) (by decide +kernel))) rfl
set_option maxRecDepth 20000 in
theorem t_800 : (Jvm.Cond.code ({ cls := "SketchCacheModel", name := "in", desc := "(III)Z" } : Jvm.MethodName) prog_13_method_3_code (3 : Nat) (Option.some Jvm.ClassFile.FieldType.boolean)) ∈ tk_tb := tk_in (List.mem_append_right _ (List.mem_of_getElem? (i := 800) (rfl))) rfl
set_option maxRecDepth 20000 in
theorem t_801 : (Jvm.Cond.methodLink "SketchCacheModel" (63 : Nat) ({ cls := "SketchCacheModel", name := "isKey", desc := "(I)Z" } : Jvm.MethodName)) ∈ tk_tb := tk_in (List.mem_append_right _ (List.mem_of_getElem? (i := 801) (by decide +kernel))) rfl
set_option maxRecDepth 20000 in
theorem t_802 : (Jvm.Cond.static ({ cls := "SketchCacheModel", name := "isKey", desc := "(I)Z" } : Jvm.MethodName)) ∈ tk_tb := tk_in (List.mem_append_right _ (List.mem_of_getElem? (i := 802) (by decide +kernel))) rfl
set_option maxRecDepth 20000 in
theorem t_803 : (Jvm.Cond.code ({ cls := "SketchCacheModel", name := "isKey", desc := "(I)Z" } : Jvm.MethodName) prog_13_method_4_code (1 : Nat) (Option.some Jvm.ClassFile.FieldType.boolean)) ∈ tk_tb := tk_in (List.mem_append_right _ (List.mem_of_getElem? (i := 803) (rfl))) rfl
set_option maxRecDepth 20000 in
theorem t_804 : (Jvm.Cond.methodLink "SketchCacheModel" (67 : Nat) ({ cls := "SketchCacheModel", name := "forgetTimes", desc := "()V" } : Jvm.MethodName)) ∈ tk_tb := tk_in (List.mem_append_right _ (List.mem_of_getElem? (i := 804) (by decide +kernel))) rfl
set_option maxRecDepth 20000 in
theorem q_805 : (Jvm.Cond.privateMethod ({ cls := "SketchCacheModel", name := "forgetTimes", desc := "()V" } : Jvm.MethodName)) ∈ lw_tbl := List.mem_append_right _ (List.mem_of_getElem? (i := 805) (by decide +kernel))
set_option maxRecDepth 20000 in
theorem t_806 : (Jvm.Cond.instanceMethod ({ cls := "SketchCacheModel", name := "forgetTimes", desc := "()V" } : Jvm.MethodName)) ∈ tk_tb := tk_in (List.mem_append_right _ (List.mem_of_getElem? (i := 806) (by decide +kernel))) rfl
set_option maxRecDepth 20000 in
theorem t_807 : (Jvm.Cond.code ({ cls := "SketchCacheModel", name := "forgetTimes", desc := "()V" } : Jvm.MethodName) prog_13_method_6_code (2 : Nat) (Option.none : Option Jvm.ClassFile.FieldType)) ∈ tk_tb := tk_in (List.mem_append_right _ (List.mem_of_getElem? (i := 807) (rfl))) rfl
set_option maxRecDepth 20000 in
theorem t_808 : (Jvm.Cond.methodLink "SketchCacheLaw" (29 : Nat) ({ cls := "SketchCacheModel", name := "door", desc := "(III)I" } : Jvm.MethodName)) ∈ tk_tb := tk_in (List.mem_append_right _ (List.mem_of_getElem? (i := 808) (by decide +kernel))) rfl
set_option maxRecDepth 20000 in
theorem t_809 : (Jvm.Cond.instanceMethod ({ cls := "SketchCacheModel", name := "door", desc := "(III)I" } : Jvm.MethodName)) ∈ tk_tb := tk_in (List.mem_append_right _ (List.mem_of_getElem? (i := 809) (by decide +kernel))) rfl
set_option maxRecDepth 20000 in
theorem t_810 : (Jvm.Cond.selects "SketchCacheModel" ({ cls := "SketchCacheModel", name := "door", desc := "(III)I" } : Jvm.MethodName) ({ cls := "SketchCacheModel", name := "door", desc := "(III)I" } : Jvm.MethodName)) ∈ tk_tb := tk_in (List.mem_append_right _ (List.mem_of_getElem? (i := 810) (by decide +kernel))) rfl
set_option maxRecDepth 20000 in
theorem t_811 : (Jvm.Cond.code ({ cls := "SketchCacheModel", name := "door", desc := "(III)I" } : Jvm.MethodName) prog_13_method_8_code (5 : Nat) (Option.some Jvm.ClassFile.FieldType.int)) ∈ tk_tb := tk_in (List.mem_append_right _ (List.mem_of_getElem? (i := 811) (rfl))) rfl
set_option maxRecDepth 20000 in
theorem t_812 : (Jvm.Cond.methodLink "SketchCacheLaw" (34 : Nat) ({ cls := "SketchCacheModel", name := "rule", desc := "(II)I" } : Jvm.MethodName)) ∈ tk_tb := tk_in (List.mem_append_right _ (List.mem_of_getElem? (i := 812) (by decide +kernel))) rfl
set_option maxRecDepth 20000 in
theorem t_813 : (Jvm.Cond.instanceMethod ({ cls := "SketchCacheModel", name := "rule", desc := "(II)I" } : Jvm.MethodName)) ∈ tk_tb := tk_in (List.mem_append_right _ (List.mem_of_getElem? (i := 813) (by decide +kernel))) rfl
set_option maxRecDepth 20000 in
theorem t_814 : (Jvm.Cond.selects "SketchCacheModel" ({ cls := "SketchCacheModel", name := "rule", desc := "(II)I" } : Jvm.MethodName) ({ cls := "SketchCacheModel", name := "rule", desc := "(II)I" } : Jvm.MethodName)) ∈ tk_tb := tk_in (List.mem_append_right _ (List.mem_of_getElem? (i := 814) (by decide +kernel))) rfl
set_option maxRecDepth 20000 in
theorem t_815 : (Jvm.Cond.code ({ cls := "SketchCacheModel", name := "rule", desc := "(II)I" } : Jvm.MethodName) prog_13_method_9_code (5 : Nat) (Option.some Jvm.ClassFile.FieldType.int)) ∈ tk_tb := tk_in (List.mem_append_right _ (List.mem_of_getElem? (i := 815) (rfl))) rfl
set_option maxRecDepth 20000 in
theorem t_816 : (Jvm.Cond.methodLink "SketchCacheLaw" (38 : Nat) ({ cls := "SketchCacheModel", name := "size", desc := "(II)I" } : Jvm.MethodName)) ∈ tk_tb := tk_in (List.mem_append_right _ (List.mem_of_getElem? (i := 816) (by decide +kernel))) rfl
set_option maxRecDepth 20000 in
theorem t_817 : (Jvm.Cond.instanceMethod ({ cls := "SketchCacheModel", name := "size", desc := "(II)I" } : Jvm.MethodName)) ∈ tk_tb := tk_in (List.mem_append_right _ (List.mem_of_getElem? (i := 817) (by decide +kernel))) rfl
set_option maxRecDepth 20000 in
theorem t_818 : (Jvm.Cond.selects "SketchCacheModel" ({ cls := "SketchCacheModel", name := "size", desc := "(II)I" } : Jvm.MethodName) ({ cls := "SketchCacheModel", name := "size", desc := "(II)I" } : Jvm.MethodName)) ∈ tk_tb := tk_in (List.mem_append_right _ (List.mem_of_getElem? (i := 818) (by decide +kernel))) rfl
set_option maxRecDepth 20000 in
theorem t_819 : (Jvm.Cond.code ({ cls := "SketchCacheModel", name := "size", desc := "(II)I" } : Jvm.MethodName) prog_13_method_10_code (4 : Nat) (Option.some Jvm.ClassFile.FieldType.int)) ∈ tk_tb := tk_in (List.mem_append_right _ (List.mem_of_getElem? (i := 819) (rfl))) rfl
set_option maxRecDepth 20000 in
theorem t_820 : (Jvm.Cond.methodLink "SketchCacheModel" (70 : Nat) ({ cls := "SketchCacheModel", name := "partOf", desc := "(I)I" } : Jvm.MethodName)) ∈ tk_tb := tk_in (List.mem_append_right _ (List.mem_of_getElem? (i := 820) (by decide +kernel))) rfl
set_option maxRecDepth 20000 in
theorem q_821 : (Jvm.Cond.privateMethod ({ cls := "SketchCacheModel", name := "partOf", desc := "(I)I" } : Jvm.MethodName)) ∈ lw_tbl := List.mem_append_right _ (List.mem_of_getElem? (i := 821) (by decide +kernel))
set_option maxRecDepth 20000 in
theorem t_822 : (Jvm.Cond.instanceMethod ({ cls := "SketchCacheModel", name := "partOf", desc := "(I)I" } : Jvm.MethodName)) ∈ tk_tb := tk_in (List.mem_append_right _ (List.mem_of_getElem? (i := 822) (by decide +kernel))) rfl
set_option maxRecDepth 20000 in
theorem t_823 : (Jvm.Cond.code ({ cls := "SketchCacheModel", name := "partOf", desc := "(I)I" } : Jvm.MethodName) prog_13_method_19_code (3 : Nat) (Option.some Jvm.ClassFile.FieldType.int)) ∈ tk_tb := tk_in (List.mem_append_right _ (List.mem_of_getElem? (i := 823) (rfl))) rfl
set_option maxRecDepth 20000 in
theorem t_824 : (Jvm.Cond.methodLink "SketchCacheModel" (90 : Nat) ({ cls := "SketchCacheModel", name := "indexOf", desc := "(II)I" } : Jvm.MethodName)) ∈ tk_tb := tk_in (List.mem_append_right _ (List.mem_of_getElem? (i := 824) (by decide +kernel))) rfl
set_option maxRecDepth 20000 in
theorem q_825 : (Jvm.Cond.privateMethod ({ cls := "SketchCacheModel", name := "indexOf", desc := "(II)I" } : Jvm.MethodName)) ∈ lw_tbl := List.mem_append_right _ (List.mem_of_getElem? (i := 825) (by decide +kernel))
set_option maxRecDepth 20000 in
theorem t_826 : (Jvm.Cond.instanceMethod ({ cls := "SketchCacheModel", name := "indexOf", desc := "(II)I" } : Jvm.MethodName)) ∈ tk_tb := tk_in (List.mem_append_right _ (List.mem_of_getElem? (i := 826) (by decide +kernel))) rfl
set_option maxRecDepth 20000 in
theorem t_827 : (Jvm.Cond.code ({ cls := "SketchCacheModel", name := "indexOf", desc := "(II)I" } : Jvm.MethodName) prog_13_method_18_code (4 : Nat) (Option.some Jvm.ClassFile.FieldType.int)) ∈ tk_tb := tk_in (List.mem_append_right _ (List.mem_of_getElem? (i := 827) (rfl))) rfl
set_option maxRecDepth 20000 in
theorem t_828 : (Jvm.Cond.methodLink "SketchCacheModel" (84 : Nat) ({ cls := "SketchCacheModel", name := "length", desc := "(I)I" } : Jvm.MethodName)) ∈ tk_tb := tk_in (List.mem_append_right _ (List.mem_of_getElem? (i := 828) (by decide +kernel))) rfl
set_option maxRecDepth 20000 in
theorem q_829 : (Jvm.Cond.privateMethod ({ cls := "SketchCacheModel", name := "length", desc := "(I)I" } : Jvm.MethodName)) ∈ lw_tbl := List.mem_append_right _ (List.mem_of_getElem? (i := 829) (by decide +kernel))
set_option maxRecDepth 20000 in
theorem t_830 : (Jvm.Cond.instanceMethod ({ cls := "SketchCacheModel", name := "length", desc := "(I)I" } : Jvm.MethodName)) ∈ tk_tb := tk_in (List.mem_append_right _ (List.mem_of_getElem? (i := 830) (by decide +kernel))) rfl
set_option maxRecDepth 20000 in
theorem t_831 : (Jvm.Cond.code ({ cls := "SketchCacheModel", name := "length", desc := "(I)I" } : Jvm.MethodName) prog_13_method_16_code (2 : Nat) (Option.some Jvm.ClassFile.FieldType.int)) ∈ tk_tb := tk_in (List.mem_append_right _ (List.mem_of_getElem? (i := 831) (rfl))) rfl
set_option maxRecDepth 20000 in
theorem t_832 : (Jvm.Cond.methodLink "SketchCacheModel" (87 : Nat) ({ cls := "SketchCacheModel", name := "keyAt", desc := "(II)I" } : Jvm.MethodName)) ∈ tk_tb := tk_in (List.mem_append_right _ (List.mem_of_getElem? (i := 832) (by decide +kernel))) rfl
set_option maxRecDepth 20000 in
theorem q_833 : (Jvm.Cond.privateMethod ({ cls := "SketchCacheModel", name := "keyAt", desc := "(II)I" } : Jvm.MethodName)) ∈ lw_tbl := List.mem_append_right _ (List.mem_of_getElem? (i := 833) (by decide +kernel))
set_option maxRecDepth 20000 in
theorem t_834 : (Jvm.Cond.instanceMethod ({ cls := "SketchCacheModel", name := "keyAt", desc := "(II)I" } : Jvm.MethodName)) ∈ tk_tb := tk_in (List.mem_append_right _ (List.mem_of_getElem? (i := 834) (by decide +kernel))) rfl
set_option maxRecDepth 20000 in
theorem t_835 : (Jvm.Cond.code ({ cls := "SketchCacheModel", name := "keyAt", desc := "(II)I" } : Jvm.MethodName) prog_13_method_17_code (3 : Nat) (Option.some Jvm.ClassFile.FieldType.int)) ∈ tk_tb := tk_in (List.mem_append_right _ (List.mem_of_getElem? (i := 835) (rfl))) rfl
set_option maxRecDepth 20000 in
theorem t_836 : (Jvm.Cond.methodLink "SketchCacheLaw" (43 : Nat) ({ cls := "SketchCacheModel", name := "access", desc := "(I)I" } : Jvm.MethodName)) ∈ tk_tb := tk_in (List.mem_append_right _ (List.mem_of_getElem? (i := 836) (by decide +kernel))) rfl
set_option maxRecDepth 20000 in
theorem t_837 : (Jvm.Cond.instanceMethod ({ cls := "SketchCacheModel", name := "access", desc := "(I)I" } : Jvm.MethodName)) ∈ tk_tb := tk_in (List.mem_append_right _ (List.mem_of_getElem? (i := 837) (by decide +kernel))) rfl
set_option maxRecDepth 20000 in
theorem t_838 : (Jvm.Cond.selects "SketchCacheModel" ({ cls := "SketchCacheModel", name := "access", desc := "(I)I" } : Jvm.MethodName) ({ cls := "SketchCacheModel", name := "access", desc := "(I)I" } : Jvm.MethodName)) ∈ tk_tb := tk_in (List.mem_append_right _ (List.mem_of_getElem? (i := 838) (by decide +kernel))) rfl
set_option maxRecDepth 20000 in
theorem t_839 : (Jvm.Cond.code ({ cls := "SketchCacheModel", name := "access", desc := "(I)I" } : Jvm.MethodName) prog_13_method_30_code (2 : Nat) (Option.some Jvm.ClassFile.FieldType.int)) ∈ tk_tb := tk_in (List.mem_append_right _ (List.mem_of_getElem? (i := 839) (rfl))) rfl
set_option maxRecDepth 20000 in
theorem t_840 : (Jvm.Cond.methodLink "SketchCacheModel" (128 : Nat) ({ cls := "SketchCacheModel", name := "accessed", desc := "(I)I" } : Jvm.MethodName)) ∈ tk_tb := tk_in (List.mem_append_right _ (List.mem_of_getElem? (i := 840) (by decide +kernel))) rfl
set_option maxRecDepth 20000 in
theorem q_841 : (Jvm.Cond.privateMethod ({ cls := "SketchCacheModel", name := "accessed", desc := "(I)I" } : Jvm.MethodName)) ∈ lw_tbl := List.mem_append_right _ (List.mem_of_getElem? (i := 841) (by decide +kernel))
set_option maxRecDepth 20000 in
theorem t_842 : (Jvm.Cond.instanceMethod ({ cls := "SketchCacheModel", name := "accessed", desc := "(I)I" } : Jvm.MethodName)) ∈ tk_tb := tk_in (List.mem_append_right _ (List.mem_of_getElem? (i := 842) (by decide +kernel))) rfl
set_option maxRecDepth 20000 in
theorem t_843 : (Jvm.Cond.code ({ cls := "SketchCacheModel", name := "accessed", desc := "(I)I" } : Jvm.MethodName) prog_13_method_28_code (4 : Nat) (Option.some Jvm.ClassFile.FieldType.int)) ∈ tk_tb := tk_in (List.mem_append_right _ (List.mem_of_getElem? (i := 843) (rfl))) rfl
set_option maxRecDepth 20000 in
theorem t_844 : (Jvm.Cond.methodLink "SketchCacheModel" (116 : Nat) ({ cls := "SketchCacheModel", name := "count", desc := "(I)V" } : Jvm.MethodName)) ∈ tk_tb := tk_in (List.mem_append_right _ (List.mem_of_getElem? (i := 844) (by decide +kernel))) rfl
set_option maxRecDepth 20000 in
theorem q_845 : (Jvm.Cond.privateMethod ({ cls := "SketchCacheModel", name := "count", desc := "(I)V" } : Jvm.MethodName)) ∈ lw_tbl := List.mem_append_right _ (List.mem_of_getElem? (i := 845) (by decide +kernel))
set_option maxRecDepth 20000 in
theorem t_846 : (Jvm.Cond.instanceMethod ({ cls := "SketchCacheModel", name := "count", desc := "(I)V" } : Jvm.MethodName)) ∈ tk_tb := tk_in (List.mem_append_right _ (List.mem_of_getElem? (i := 846) (by decide +kernel))) rfl
set_option maxRecDepth 20000 in
theorem t_847 : (Jvm.Cond.code ({ cls := "SketchCacheModel", name := "count", desc := "(I)V" } : Jvm.MethodName) prog_13_method_15_code (5 : Nat) (Option.none : Option Jvm.ClassFile.FieldType)) ∈ tk_tb := tk_in (List.mem_append_right _ (List.mem_of_getElem? (i := 847) (rfl))) rfl
set_option maxRecDepth 20000 in
theorem t_848 : (Jvm.Cond.methodLink "SketchCacheModel" (81 : Nat) ({ cls := "SketchCacheModel", name := "isThrough", desc := "(I)Z" } : Jvm.MethodName)) ∈ tk_tb := tk_in (List.mem_append_right _ (List.mem_of_getElem? (i := 848) (by decide +kernel))) rfl
set_option maxRecDepth 20000 in
theorem q_849 : (Jvm.Cond.privateMethod ({ cls := "SketchCacheModel", name := "isThrough", desc := "(I)Z" } : Jvm.MethodName)) ∈ lw_tbl := List.mem_append_right _ (List.mem_of_getElem? (i := 849) (by decide +kernel))
set_option maxRecDepth 20000 in
theorem t_850 : (Jvm.Cond.instanceMethod ({ cls := "SketchCacheModel", name := "isThrough", desc := "(I)Z" } : Jvm.MethodName)) ∈ tk_tb := tk_in (List.mem_append_right _ (List.mem_of_getElem? (i := 850) (by decide +kernel))) rfl
set_option maxRecDepth 20000 in
theorem t_851 : (Jvm.Cond.code ({ cls := "SketchCacheModel", name := "isThrough", desc := "(I)Z" } : Jvm.MethodName) prog_13_method_12_code (2 : Nat) (Option.some Jvm.ClassFile.FieldType.boolean)) ∈ tk_tb := tk_in (List.mem_append_right _ (List.mem_of_getElem? (i := 851) (rfl))) rfl
set_option maxRecDepth 20000 in
theorem t_852 : (Jvm.Cond.methodLink "SketchCacheModel" (78 : Nat) ({ cls := "SketchCacheModel", name := "smallest", desc := "(I)I" } : Jvm.MethodName)) ∈ tk_tb := tk_in (List.mem_append_right _ (List.mem_of_getElem? (i := 852) (by decide +kernel))) rfl
set_option maxRecDepth 20000 in
theorem q_853 : (Jvm.Cond.privateMethod ({ cls := "SketchCacheModel", name := "smallest", desc := "(I)I" } : Jvm.MethodName)) ∈ lw_tbl := List.mem_append_right _ (List.mem_of_getElem? (i := 853) (by decide +kernel))
set_option maxRecDepth 20000 in
theorem t_854 : (Jvm.Cond.instanceMethod ({ cls := "SketchCacheModel", name := "smallest", desc := "(I)I" } : Jvm.MethodName)) ∈ tk_tb := tk_in (List.mem_append_right _ (List.mem_of_getElem? (i := 854) (by decide +kernel))) rfl
set_option maxRecDepth 20000 in
theorem t_855 : (Jvm.Cond.code ({ cls := "SketchCacheModel", name := "smallest", desc := "(I)I" } : Jvm.MethodName) prog_13_method_13_code (4 : Nat) (Option.some Jvm.ClassFile.FieldType.int)) ∈ tk_tb := tk_in (List.mem_append_right _ (List.mem_of_getElem? (i := 855) (rfl))) rfl
set_option maxRecDepth 20000 in
theorem t_856 : (Jvm.Cond.methodLink "SketchCacheModel" (74 : Nat) ({ cls := "SketchCacheModel", name := "cell", desc := "(II)I" } : Jvm.MethodName)) ∈ tk_tb := tk_in (List.mem_append_right _ (List.mem_of_getElem? (i := 856) (by decide +kernel))) rfl
set_option maxRecDepth 20000 in
theorem q_857 : (Jvm.Cond.privateMethod ({ cls := "SketchCacheModel", name := "cell", desc := "(II)I" } : Jvm.MethodName)) ∈ lw_tbl := List.mem_append_right _ (List.mem_of_getElem? (i := 857) (by decide +kernel))
set_option maxRecDepth 20000 in
theorem t_858 : (Jvm.Cond.instanceMethod ({ cls := "SketchCacheModel", name := "cell", desc := "(II)I" } : Jvm.MethodName)) ∈ tk_tb := tk_in (List.mem_append_right _ (List.mem_of_getElem? (i := 858) (by decide +kernel))) rfl
set_option maxRecDepth 20000 in
theorem t_859 : (Jvm.Cond.code ({ cls := "SketchCacheModel", name := "cell", desc := "(II)I" } : Jvm.MethodName) prog_13_method_11_code (3 : Nat) (Option.some Jvm.ClassFile.FieldType.int)) ∈ tk_tb := tk_in (List.mem_append_right _ (List.mem_of_getElem? (i := 859) (rfl))) rfl
set_option maxRecDepth 20000 in
theorem t_860 : (Jvm.Cond.methodLink "SketchCacheModel" (96 : Nat) ({ cls := "SketchCacheModel", name := "take", desc := "(II)I" } : Jvm.MethodName)) ∈ tk_tb := tk_in (List.mem_append_right _ (List.mem_of_getElem? (i := 860) (by decide +kernel))) rfl
set_option maxRecDepth 20000 in
theorem q_861 : (Jvm.Cond.privateMethod ({ cls := "SketchCacheModel", name := "take", desc := "(II)I" } : Jvm.MethodName)) ∈ lw_tbl := List.mem_append_right _ (List.mem_of_getElem? (i := 861) (by decide +kernel))
set_option maxRecDepth 20000 in
theorem t_862 : (Jvm.Cond.instanceMethod ({ cls := "SketchCacheModel", name := "take", desc := "(II)I" } : Jvm.MethodName)) ∈ tk_tb := tk_in (List.mem_append_right _ (List.mem_of_getElem? (i := 862) (by decide +kernel))) rfl
set_option maxRecDepth 20000 in
theorem t_863 : (Jvm.Cond.code ({ cls := "SketchCacheModel", name := "take", desc := "(II)I" } : Jvm.MethodName) prog_13_method_23_code (5 : Nat) (Option.some Jvm.ClassFile.FieldType.int)) ∈ tk_tb := tk_in (List.mem_append_right _ (List.mem_of_getElem? (i := 863) (rfl))) rfl
set_option maxRecDepth 20000 in
theorem t_864 : (Jvm.Cond.methodLink "SketchCacheModel" (99 : Nat) ({ cls := "SketchCacheModel", name := "append", desc := "(II)V" } : Jvm.MethodName)) ∈ tk_tb := tk_in (List.mem_append_right _ (List.mem_of_getElem? (i := 864) (by decide +kernel))) rfl
set_option maxRecDepth 20000 in
theorem q_865 : (Jvm.Cond.privateMethod ({ cls := "SketchCacheModel", name := "append", desc := "(II)V" } : Jvm.MethodName)) ∈ lw_tbl := List.mem_append_right _ (List.mem_of_getElem? (i := 865) (by decide +kernel))
set_option maxRecDepth 20000 in
theorem t_866 : (Jvm.Cond.instanceMethod ({ cls := "SketchCacheModel", name := "append", desc := "(II)V" } : Jvm.MethodName)) ∈ tk_tb := tk_in (List.mem_append_right _ (List.mem_of_getElem? (i := 866) (by decide +kernel))) rfl
set_option maxRecDepth 20000 in
theorem t_867 : (Jvm.Cond.code ({ cls := "SketchCacheModel", name := "append", desc := "(II)V" } : Jvm.MethodName) prog_13_method_22_code (3 : Nat) (Option.none : Option Jvm.ClassFile.FieldType)) ∈ tk_tb := tk_in (List.mem_append_right _ (List.mem_of_getElem? (i := 867) (rfl))) rfl
set_option maxRecDepth 20000 in
theorem t_868 : (Jvm.Cond.methodLink "SketchCacheModel" (119 : Nat) ({ cls := "SketchCacheModel", name := "settle", desc := "()V" } : Jvm.MethodName)) ∈ tk_tb := tk_in (List.mem_append_right _ (List.mem_of_getElem? (i := 868) (by decide +kernel))) rfl
set_option maxRecDepth 20000 in
theorem q_869 : (Jvm.Cond.privateMethod ({ cls := "SketchCacheModel", name := "settle", desc := "()V" } : Jvm.MethodName)) ∈ lw_tbl := List.mem_append_right _ (List.mem_of_getElem? (i := 869) (by decide +kernel))
set_option maxRecDepth 20000 in
theorem t_870 : (Jvm.Cond.instanceMethod ({ cls := "SketchCacheModel", name := "settle", desc := "()V" } : Jvm.MethodName)) ∈ tk_tb := tk_in (List.mem_append_right _ (List.mem_of_getElem? (i := 870) (by decide +kernel))) rfl
set_option maxRecDepth 20000 in
theorem t_871 : (Jvm.Cond.code ({ cls := "SketchCacheModel", name := "settle", desc := "()V" } : Jvm.MethodName) prog_13_method_24_code (1 : Nat) (Option.none : Option Jvm.ClassFile.FieldType)) ∈ tk_tb := tk_in (List.mem_append_right _ (List.mem_of_getElem? (i := 871) (rfl))) rfl
set_option maxRecDepth 20000 in
theorem t_872 : (Jvm.Cond.methodLink "SketchCacheModel" (93 : Nat) ({ cls := "SketchCacheModel", name := "units", desc := "(I)I" } : Jvm.MethodName)) ∈ tk_tb := tk_in (List.mem_append_right _ (List.mem_of_getElem? (i := 872) (by decide +kernel))) rfl
set_option maxRecDepth 20000 in
theorem q_873 : (Jvm.Cond.privateMethod ({ cls := "SketchCacheModel", name := "units", desc := "(I)I" } : Jvm.MethodName)) ∈ lw_tbl := List.mem_append_right _ (List.mem_of_getElem? (i := 873) (by decide +kernel))
set_option maxRecDepth 20000 in
theorem t_874 : (Jvm.Cond.instanceMethod ({ cls := "SketchCacheModel", name := "units", desc := "(I)I" } : Jvm.MethodName)) ∈ tk_tb := tk_in (List.mem_append_right _ (List.mem_of_getElem? (i := 874) (by decide +kernel))) rfl
set_option maxRecDepth 20000 in
theorem t_875 : (Jvm.Cond.code ({ cls := "SketchCacheModel", name := "units", desc := "(I)I" } : Jvm.MethodName) prog_13_method_20_code (4 : Nat) (Option.some Jvm.ClassFile.FieldType.int)) ∈ tk_tb := tk_in (List.mem_append_right _ (List.mem_of_getElem? (i := 875) (rfl))) rfl
set_option maxRecDepth 20000 in
theorem t_876 : (Jvm.Cond.methodLink "SketchCacheModel" (103 : Nat) ({ cls := "SketchCacheModel", name := "candidate", desc := "(I)V" } : Jvm.MethodName)) ∈ tk_tb := tk_in (List.mem_append_right _ (List.mem_of_getElem? (i := 876) (by decide +kernel))) rfl
set_option maxRecDepth 20000 in
theorem q_877 : (Jvm.Cond.privateMethod ({ cls := "SketchCacheModel", name := "candidate", desc := "(I)V" } : Jvm.MethodName)) ∈ lw_tbl := List.mem_append_right _ (List.mem_of_getElem? (i := 877) (by decide +kernel))
set_option maxRecDepth 20000 in
theorem t_878 : (Jvm.Cond.instanceMethod ({ cls := "SketchCacheModel", name := "candidate", desc := "(I)V" } : Jvm.MethodName)) ∈ tk_tb := tk_in (List.mem_append_right _ (List.mem_of_getElem? (i := 878) (by decide +kernel))) rfl
set_option maxRecDepth 20000 in
theorem t_879 : (Jvm.Cond.code ({ cls := "SketchCacheModel", name := "candidate", desc := "(I)V" } : Jvm.MethodName) prog_13_method_26_code (7 : Nat) (Option.none : Option Jvm.ClassFile.FieldType)) ∈ tk_tb := tk_in (List.mem_append_right _ (List.mem_of_getElem? (i := 879) (rfl))) rfl
set_option maxRecDepth 20000 in
theorem t_880 : (Jvm.Cond.methodLink "SketchCacheModel" (106 : Nat) ({ cls := "SketchCacheModel", name := "inMain", desc := "()I" } : Jvm.MethodName)) ∈ tk_tb := tk_in (List.mem_append_right _ (List.mem_of_getElem? (i := 880) (by decide +kernel))) rfl
set_option maxRecDepth 20000 in
theorem q_881 : (Jvm.Cond.privateMethod ({ cls := "SketchCacheModel", name := "inMain", desc := "()I" } : Jvm.MethodName)) ∈ lw_tbl := List.mem_append_right _ (List.mem_of_getElem? (i := 881) (by decide +kernel))
set_option maxRecDepth 20000 in
theorem t_882 : (Jvm.Cond.instanceMethod ({ cls := "SketchCacheModel", name := "inMain", desc := "()I" } : Jvm.MethodName)) ∈ tk_tb := tk_in (List.mem_append_right _ (List.mem_of_getElem? (i := 882) (by decide +kernel))) rfl
set_option maxRecDepth 20000 in
theorem t_883 : (Jvm.Cond.code ({ cls := "SketchCacheModel", name := "inMain", desc := "()I" } : Jvm.MethodName) prog_13_method_21_code (1 : Nat) (Option.some Jvm.ClassFile.FieldType.int)) ∈ tk_tb := tk_in (List.mem_append_right _ (List.mem_of_getElem? (i := 883) (rfl))) rfl
set_option maxRecDepth 20000 in
theorem t_884 : (Jvm.Cond.methodLink "SketchCacheModel" (110 : Nat) ({ cls := "SketchCacheModel", name := "together", desc := "(II)V" } : Jvm.MethodName)) ∈ tk_tb := tk_in (List.mem_append_right _ (List.mem_of_getElem? (i := 884) (by decide +kernel))) rfl
set_option maxRecDepth 20000 in
theorem q_885 : (Jvm.Cond.privateMethod ({ cls := "SketchCacheModel", name := "together", desc := "(II)V" } : Jvm.MethodName)) ∈ lw_tbl := List.mem_append_right _ (List.mem_of_getElem? (i := 885) (by decide +kernel))
set_option maxRecDepth 20000 in
theorem t_886 : (Jvm.Cond.instanceMethod ({ cls := "SketchCacheModel", name := "together", desc := "(II)V" } : Jvm.MethodName)) ∈ tk_tb := tk_in (List.mem_append_right _ (List.mem_of_getElem? (i := 886) (by decide +kernel))) rfl
set_option maxRecDepth 20000 in
theorem t_887 : (Jvm.Cond.code ({ cls := "SketchCacheModel", name := "together", desc := "(II)V" } : Jvm.MethodName) prog_13_method_27_code (11 : Nat) (Option.none : Option Jvm.ClassFile.FieldType)) ∈ tk_tb := tk_in (List.mem_append_right _ (List.mem_of_getElem? (i := 887) (rfl))) rfl
set_option maxRecDepth 20000 in
theorem t_888 : (Jvm.Cond.methodLink "SketchCacheModel" (113 : Nat) ({ cls := "SketchCacheModel", name := "estimated", desc := "(I)I" } : Jvm.MethodName)) ∈ tk_tb := tk_in (List.mem_append_right _ (List.mem_of_getElem? (i := 888) (by decide +kernel))) rfl
set_option maxRecDepth 20000 in
theorem q_889 : (Jvm.Cond.privateMethod ({ cls := "SketchCacheModel", name := "estimated", desc := "(I)I" } : Jvm.MethodName)) ∈ lw_tbl := List.mem_append_right _ (List.mem_of_getElem? (i := 889) (by decide +kernel))
set_option maxRecDepth 20000 in
theorem t_890 : (Jvm.Cond.instanceMethod ({ cls := "SketchCacheModel", name := "estimated", desc := "(I)I" } : Jvm.MethodName)) ∈ tk_tb := tk_in (List.mem_append_right _ (List.mem_of_getElem? (i := 890) (by decide +kernel))) rfl
set_option maxRecDepth 20000 in
theorem t_891 : (Jvm.Cond.code ({ cls := "SketchCacheModel", name := "estimated", desc := "(I)I" } : Jvm.MethodName) prog_13_method_14_code (2 : Nat) (Option.some Jvm.ClassFile.FieldType.int)) ∈ tk_tb := tk_in (List.mem_append_right _ (List.mem_of_getElem? (i := 891) (rfl))) rfl
set_option maxRecDepth 20000 in
theorem t_892 : (Jvm.Cond.methodLink "SketchCacheModel" (122 : Nat) ({ cls := "SketchCacheModel", name := "overflow", desc := "()V" } : Jvm.MethodName)) ∈ tk_tb := tk_in (List.mem_append_right _ (List.mem_of_getElem? (i := 892) (by decide +kernel))) rfl
set_option maxRecDepth 20000 in
theorem q_893 : (Jvm.Cond.privateMethod ({ cls := "SketchCacheModel", name := "overflow", desc := "()V" } : Jvm.MethodName)) ∈ lw_tbl := List.mem_append_right _ (List.mem_of_getElem? (i := 893) (by decide +kernel))
set_option maxRecDepth 20000 in
theorem t_894 : (Jvm.Cond.instanceMethod ({ cls := "SketchCacheModel", name := "overflow", desc := "()V" } : Jvm.MethodName)) ∈ tk_tb := tk_in (List.mem_append_right _ (List.mem_of_getElem? (i := 894) (by decide +kernel))) rfl
set_option maxRecDepth 20000 in
theorem t_895 : (Jvm.Cond.code ({ cls := "SketchCacheModel", name := "overflow", desc := "()V" } : Jvm.MethodName) prog_13_method_25_code (1 : Nat) (Option.none : Option Jvm.ClassFile.FieldType)) ∈ tk_tb := tk_in (List.mem_append_right _ (List.mem_of_getElem? (i := 895) (rfl))) rfl
set_option maxRecDepth 20000 in
theorem t_896 : (Jvm.Cond.methodLink "SketchCacheModel" (125 : Nat) ({ cls := "SketchCacheModel", name := "climb", desc := "()V" } : Jvm.MethodName)) ∈ tk_tb := tk_in (List.mem_append_right _ (List.mem_of_getElem? (i := 896) (by decide +kernel))) rfl
set_option maxRecDepth 20000 in
theorem q_897 : (Jvm.Cond.privateMethod ({ cls := "SketchCacheModel", name := "climb", desc := "()V" } : Jvm.MethodName)) ∈ lw_tbl := List.mem_append_right _ (List.mem_of_getElem? (i := 897) (by decide +kernel))
set_option maxRecDepth 20000 in
theorem t_898 : (Jvm.Cond.instanceMethod ({ cls := "SketchCacheModel", name := "climb", desc := "()V" } : Jvm.MethodName)) ∈ tk_tb := tk_in (List.mem_append_right _ (List.mem_of_getElem? (i := 898) (by decide +kernel))) rfl
set_option maxRecDepth 20000 in
theorem t_899 : (Jvm.Cond.code ({ cls := "SketchCacheModel", name := "climb", desc := "()V" } : Jvm.MethodName) prog_13_method_29_code (1 : Nat) (Option.none : Option Jvm.ClassFile.FieldType)) ∈ tk_tb := tk_in (List.mem_append_right _ (List.mem_of_getElem? (i := 899) (rfl))) rfl
set_option maxRecDepth 20000 in
theorem t_900 : (Jvm.Cond.methodLink "SketchCacheLaw" (47 : Nat) ({ cls := "SketchCacheModel", name := "run", desc := "(III)I" } : Jvm.MethodName)) ∈ tk_tb := tk_in (List.mem_append_right _ (List.mem_of_getElem? (i := 900) (by decide +kernel))) rfl
set_option maxRecDepth 20000 in
theorem t_901 : (Jvm.Cond.instanceMethod ({ cls := "SketchCacheModel", name := "run", desc := "(III)I" } : Jvm.MethodName)) ∈ tk_tb := tk_in (List.mem_append_right _ (List.mem_of_getElem? (i := 901) (by decide +kernel))) rfl
set_option maxRecDepth 20000 in
theorem t_902 : (Jvm.Cond.selects "SketchCacheModel" ({ cls := "SketchCacheModel", name := "run", desc := "(III)I" } : Jvm.MethodName) ({ cls := "SketchCacheModel", name := "run", desc := "(III)I" } : Jvm.MethodName)) ∈ tk_tb := tk_in (List.mem_append_right _ (List.mem_of_getElem? (i := 902) (by decide +kernel))) rfl
set_option maxRecDepth 20000 in
theorem t_903 : (Jvm.Cond.code ({ cls := "SketchCacheModel", name := "run", desc := "(III)I" } : Jvm.MethodName) prog_13_method_31_code (7 : Nat) (Option.some Jvm.ClassFile.FieldType.int)) ∈ tk_tb := tk_in (List.mem_append_right _ (List.mem_of_getElem? (i := 903) (rfl))) rfl
set_option maxRecDepth 20000 in
theorem t_904 : (Jvm.Cond.methodLink "SketchCacheLaw" (51 : Nat) ({ cls := "SketchCacheModel", name := "add", desc := "(I)I" } : Jvm.MethodName)) ∈ tk_tb := tk_in (List.mem_append_right _ (List.mem_of_getElem? (i := 904) (by decide +kernel))) rfl
set_option maxRecDepth 20000 in
theorem t_905 : (Jvm.Cond.instanceMethod ({ cls := "SketchCacheModel", name := "add", desc := "(I)I" } : Jvm.MethodName)) ∈ tk_tb := tk_in (List.mem_append_right _ (List.mem_of_getElem? (i := 905) (by decide +kernel))) rfl
set_option maxRecDepth 20000 in
theorem t_906 : (Jvm.Cond.selects "SketchCacheModel" ({ cls := "SketchCacheModel", name := "add", desc := "(I)I" } : Jvm.MethodName) ({ cls := "SketchCacheModel", name := "add", desc := "(I)I" } : Jvm.MethodName)) ∈ tk_tb := tk_in (List.mem_append_right _ (List.mem_of_getElem? (i := 906) (by decide +kernel))) rfl
set_option maxRecDepth 20000 in
theorem t_907 : (Jvm.Cond.code ({ cls := "SketchCacheModel", name := "add", desc := "(I)I" } : Jvm.MethodName) prog_13_method_32_code (2 : Nat) (Option.some Jvm.ClassFile.FieldType.int)) ∈ tk_tb := tk_in (List.mem_append_right _ (List.mem_of_getElem? (i := 907) (rfl))) rfl
set_option maxRecDepth 20000 in
theorem t_908 : (Jvm.Cond.methodLink "SketchCacheLaw" (55 : Nat) ({ cls := "SketchCacheModel", name := "estimate", desc := "(I)I" } : Jvm.MethodName)) ∈ tk_tb := tk_in (List.mem_append_right _ (List.mem_of_getElem? (i := 908) (by decide +kernel))) rfl
set_option maxRecDepth 20000 in
theorem t_909 : (Jvm.Cond.instanceMethod ({ cls := "SketchCacheModel", name := "estimate", desc := "(I)I" } : Jvm.MethodName)) ∈ tk_tb := tk_in (List.mem_append_right _ (List.mem_of_getElem? (i := 909) (by decide +kernel))) rfl
set_option maxRecDepth 20000 in
theorem t_910 : (Jvm.Cond.selects "SketchCacheModel" ({ cls := "SketchCacheModel", name := "estimate", desc := "(I)I" } : Jvm.MethodName) ({ cls := "SketchCacheModel", name := "estimate", desc := "(I)I" } : Jvm.MethodName)) ∈ tk_tb := tk_in (List.mem_append_right _ (List.mem_of_getElem? (i := 910) (by decide +kernel))) rfl
set_option maxRecDepth 20000 in
theorem t_911 : (Jvm.Cond.code ({ cls := "SketchCacheModel", name := "estimate", desc := "(I)I" } : Jvm.MethodName) prog_13_method_33_code (2 : Nat) (Option.some Jvm.ClassFile.FieldType.int)) ∈ tk_tb := tk_in (List.mem_append_right _ (List.mem_of_getElem? (i := 911) (rfl))) rfl
set_option maxRecDepth 20000 in
theorem t_912 : (Jvm.Cond.methodLink "SketchCacheLaw" (59 : Nat) ({ cls := "SketchCacheModel", name := "counter", desc := "(II)I" } : Jvm.MethodName)) ∈ tk_tb := tk_in (List.mem_append_right _ (List.mem_of_getElem? (i := 912) (by decide +kernel))) rfl
set_option maxRecDepth 20000 in
theorem t_913 : (Jvm.Cond.instanceMethod ({ cls := "SketchCacheModel", name := "counter", desc := "(II)I" } : Jvm.MethodName)) ∈ tk_tb := tk_in (List.mem_append_right _ (List.mem_of_getElem? (i := 913) (by decide +kernel))) rfl
set_option maxRecDepth 20000 in
theorem t_914 : (Jvm.Cond.selects "SketchCacheModel" ({ cls := "SketchCacheModel", name := "counter", desc := "(II)I" } : Jvm.MethodName) ({ cls := "SketchCacheModel", name := "counter", desc := "(II)I" } : Jvm.MethodName)) ∈ tk_tb := tk_in (List.mem_append_right _ (List.mem_of_getElem? (i := 914) (by decide +kernel))) rfl
set_option maxRecDepth 20000 in
theorem t_915 : (Jvm.Cond.code ({ cls := "SketchCacheModel", name := "counter", desc := "(II)I" } : Jvm.MethodName) prog_13_method_34_code (3 : Nat) (Option.some Jvm.ClassFile.FieldType.int)) ∈ tk_tb := tk_in (List.mem_append_right _ (List.mem_of_getElem? (i := 915) (rfl))) rfl
set_option maxRecDepth 20000 in
theorem t_916 : (Jvm.Cond.methodLink "SketchCacheLaw" (63 : Nat) ({ cls := "SketchCacheModel", name := "bit", desc := "(I)I" } : Jvm.MethodName)) ∈ tk_tb := tk_in (List.mem_append_right _ (List.mem_of_getElem? (i := 916) (by decide +kernel))) rfl
set_option maxRecDepth 20000 in
theorem t_917 : (Jvm.Cond.instanceMethod ({ cls := "SketchCacheModel", name := "bit", desc := "(I)I" } : Jvm.MethodName)) ∈ tk_tb := tk_in (List.mem_append_right _ (List.mem_of_getElem? (i := 917) (by decide +kernel))) rfl
set_option maxRecDepth 20000 in
theorem t_918 : (Jvm.Cond.selects "SketchCacheModel" ({ cls := "SketchCacheModel", name := "bit", desc := "(I)I" } : Jvm.MethodName) ({ cls := "SketchCacheModel", name := "bit", desc := "(I)I" } : Jvm.MethodName)) ∈ tk_tb := tk_in (List.mem_append_right _ (List.mem_of_getElem? (i := 918) (by decide +kernel))) rfl
set_option maxRecDepth 20000 in
theorem t_919 : (Jvm.Cond.code ({ cls := "SketchCacheModel", name := "bit", desc := "(I)I" } : Jvm.MethodName) prog_13_method_35_code (2 : Nat) (Option.some Jvm.ClassFile.FieldType.int)) ∈ tk_tb := tk_in (List.mem_append_right _ (List.mem_of_getElem? (i := 919) (rfl))) rfl
set_option maxRecDepth 20000 in
theorem t_920 : (Jvm.Cond.methodLink "SketchCacheLaw" (67 : Nat) ({ cls := "SketchCacheModel", name := "remove", desc := "(I)I" } : Jvm.MethodName)) ∈ tk_tb := tk_in (List.mem_append_right _ (List.mem_of_getElem? (i := 920) (by decide +kernel))) rfl
set_option maxRecDepth 20000 in
theorem t_921 : (Jvm.Cond.instanceMethod ({ cls := "SketchCacheModel", name := "remove", desc := "(I)I" } : Jvm.MethodName)) ∈ tk_tb := tk_in (List.mem_append_right _ (List.mem_of_getElem? (i := 921) (by decide +kernel))) rfl
set_option maxRecDepth 20000 in
theorem t_922 : (Jvm.Cond.selects "SketchCacheModel" ({ cls := "SketchCacheModel", name := "remove", desc := "(I)I" } : Jvm.MethodName) ({ cls := "SketchCacheModel", name := "remove", desc := "(I)I" } : Jvm.MethodName)) ∈ tk_tb := tk_in (List.mem_append_right _ (List.mem_of_getElem? (i := 922) (by decide +kernel))) rfl
set_option maxRecDepth 20000 in
theorem t_923 : (Jvm.Cond.code ({ cls := "SketchCacheModel", name := "remove", desc := "(I)I" } : Jvm.MethodName) prog_13_method_36_code (4 : Nat) (Option.some Jvm.ClassFile.FieldType.int)) ∈ tk_tb := tk_in (List.mem_append_right _ (List.mem_of_getElem? (i := 923) (rfl))) rfl
set_option maxRecDepth 20000 in
theorem t_924 : (Jvm.Cond.methodLink "SketchCacheLaw" (71 : Nat) ({ cls := "SketchCacheModel", name := "where", desc := "(I)I" } : Jvm.MethodName)) ∈ tk_tb := tk_in (List.mem_append_right _ (List.mem_of_getElem? (i := 924) (by decide +kernel))) rfl
set_option maxRecDepth 20000 in
theorem t_925 : (Jvm.Cond.instanceMethod ({ cls := "SketchCacheModel", name := "where", desc := "(I)I" } : Jvm.MethodName)) ∈ tk_tb := tk_in (List.mem_append_right _ (List.mem_of_getElem? (i := 925) (by decide +kernel))) rfl
set_option maxRecDepth 20000 in
theorem t_926 : (Jvm.Cond.selects "SketchCacheModel" ({ cls := "SketchCacheModel", name := "where", desc := "(I)I" } : Jvm.MethodName) ({ cls := "SketchCacheModel", name := "where", desc := "(I)I" } : Jvm.MethodName)) ∈ tk_tb := tk_in (List.mem_append_right _ (List.mem_of_getElem? (i := 926) (by decide +kernel))) rfl
set_option maxRecDepth 20000 in
theorem t_927 : (Jvm.Cond.code ({ cls := "SketchCacheModel", name := "where", desc := "(I)I" } : Jvm.MethodName) prog_13_method_37_code (2 : Nat) (Option.some Jvm.ClassFile.FieldType.int)) ∈ tk_tb := tk_in (List.mem_append_right _ (List.mem_of_getElem? (i := 927) (rfl))) rfl
set_option maxRecDepth 20000 in
theorem t_928 : (Jvm.Cond.methodLink "SketchCacheLaw" (75 : Nat) ({ cls := "SketchCacheModel", name := "key", desc := "(II)I" } : Jvm.MethodName)) ∈ tk_tb := tk_in (List.mem_append_right _ (List.mem_of_getElem? (i := 928) (by decide +kernel))) rfl
set_option maxRecDepth 20000 in
theorem t_929 : (Jvm.Cond.instanceMethod ({ cls := "SketchCacheModel", name := "key", desc := "(II)I" } : Jvm.MethodName)) ∈ tk_tb := tk_in (List.mem_append_right _ (List.mem_of_getElem? (i := 929) (by decide +kernel))) rfl
set_option maxRecDepth 20000 in
theorem t_930 : (Jvm.Cond.selects "SketchCacheModel" ({ cls := "SketchCacheModel", name := "key", desc := "(II)I" } : Jvm.MethodName) ({ cls := "SketchCacheModel", name := "key", desc := "(II)I" } : Jvm.MethodName)) ∈ tk_tb := tk_in (List.mem_append_right _ (List.mem_of_getElem? (i := 930) (by decide +kernel))) rfl
set_option maxRecDepth 20000 in
theorem t_931 : (Jvm.Cond.code ({ cls := "SketchCacheModel", name := "key", desc := "(II)I" } : Jvm.MethodName) prog_13_method_38_code (3 : Nat) (Option.some Jvm.ClassFile.FieldType.int)) ∈ tk_tb := tk_in (List.mem_append_right _ (List.mem_of_getElem? (i := 931) (rfl))) rfl
set_option maxRecDepth 20000 in
theorem t_932 : (Jvm.Cond.methodLink "SketchCacheLaw" (79 : Nat) ({ cls := "SketchCacheModel", name := "about", desc := "(I)I" } : Jvm.MethodName)) ∈ tk_tb := tk_in (List.mem_append_right _ (List.mem_of_getElem? (i := 932) (by decide +kernel))) rfl
set_option maxRecDepth 20000 in
theorem t_933 : (Jvm.Cond.instanceMethod ({ cls := "SketchCacheModel", name := "about", desc := "(I)I" } : Jvm.MethodName)) ∈ tk_tb := tk_in (List.mem_append_right _ (List.mem_of_getElem? (i := 933) (by decide +kernel))) rfl
set_option maxRecDepth 20000 in
theorem t_934 : (Jvm.Cond.selects "SketchCacheModel" ({ cls := "SketchCacheModel", name := "about", desc := "(I)I" } : Jvm.MethodName) ({ cls := "SketchCacheModel", name := "about", desc := "(I)I" } : Jvm.MethodName)) ∈ tk_tb := tk_in (List.mem_append_right _ (List.mem_of_getElem? (i := 934) (by decide +kernel))) rfl
set_option maxRecDepth 20000 in
theorem t_935 : (Jvm.Cond.code ({ cls := "SketchCacheModel", name := "about", desc := "(I)I" } : Jvm.MethodName) prog_13_method_39_code (2 : Nat) (Option.some Jvm.ClassFile.FieldType.int)) ∈ tk_tb := tk_in (List.mem_append_right _ (List.mem_of_getElem? (i := 935) (rfl))) rfl
set_option maxRecDepth 20000 in
theorem t_936 : (Jvm.Cond.methodLink "SketchCacheLaw" (83 : Nat) ({ cls := "SketchCacheModel", name := "trace", desc := "(I)I" } : Jvm.MethodName)) ∈ tk_tb := tk_in (List.mem_append_right _ (List.mem_of_getElem? (i := 936) (by decide +kernel))) rfl
set_option maxRecDepth 20000 in
theorem t_937 : (Jvm.Cond.instanceMethod ({ cls := "SketchCacheModel", name := "trace", desc := "(I)I" } : Jvm.MethodName)) ∈ tk_tb := tk_in (List.mem_append_right _ (List.mem_of_getElem? (i := 937) (by decide +kernel))) rfl
set_option maxRecDepth 20000 in
theorem t_938 : (Jvm.Cond.selects "SketchCacheModel" ({ cls := "SketchCacheModel", name := "trace", desc := "(I)I" } : Jvm.MethodName) ({ cls := "SketchCacheModel", name := "trace", desc := "(I)I" } : Jvm.MethodName)) ∈ tk_tb := tk_in (List.mem_append_right _ (List.mem_of_getElem? (i := 938) (by decide +kernel))) rfl
set_option maxRecDepth 20000 in
theorem t_939 : (Jvm.Cond.code ({ cls := "SketchCacheModel", name := "trace", desc := "(I)I" } : Jvm.MethodName) prog_13_method_40_code (2 : Nat) (Option.some Jvm.ClassFile.FieldType.int)) ∈ tk_tb := tk_in (List.mem_append_right _ (List.mem_of_getElem? (i := 939) (rfl))) rfl
set_option maxRecDepth 20000 in
theorem t_940 : (Jvm.Cond.methodLink "SketchCacheLaw" (88 : Nat) ({ cls := "SketchCacheModel", name := "replay", desc := "(IIII)I" } : Jvm.MethodName)) ∈ tk_tb := tk_in (List.mem_append_right _ (List.mem_of_getElem? (i := 940) (by decide +kernel))) rfl
set_option maxRecDepth 20000 in
theorem t_941 : (Jvm.Cond.instanceMethod ({ cls := "SketchCacheModel", name := "replay", desc := "(IIII)I" } : Jvm.MethodName)) ∈ tk_tb := tk_in (List.mem_append_right _ (List.mem_of_getElem? (i := 941) (by decide +kernel))) rfl
set_option maxRecDepth 20000 in
theorem t_942 : (Jvm.Cond.selects "SketchCacheModel" ({ cls := "SketchCacheModel", name := "replay", desc := "(IIII)I" } : Jvm.MethodName) ({ cls := "SketchCacheModel", name := "replay", desc := "(IIII)I" } : Jvm.MethodName)) ∈ tk_tb := tk_in (List.mem_append_right _ (List.mem_of_getElem? (i := 942) (by decide +kernel))) rfl
set_option maxRecDepth 20000 in
theorem t_943 : (Jvm.Cond.code ({ cls := "SketchCacheModel", name := "replay", desc := "(IIII)I" } : Jvm.MethodName) prog_13_method_52_code (8 : Nat) (Option.some Jvm.ClassFile.FieldType.int)) ∈ tk_tb := tk_in (List.mem_append_right _ (List.mem_of_getElem? (i := 943) (rfl))) rfl
set_option maxRecDepth 20000 in
theorem t_944 : (Jvm.Cond.methodLink "SketchCacheModel" (170 : Nat) ({ cls := "SketchCacheModel", name := "balanced", desc := "(III)I" } : Jvm.MethodName)) ∈ tk_tb := tk_in (List.mem_append_right _ (List.mem_of_getElem? (i := 944) (by decide +kernel))) rfl
set_option maxRecDepth 20000 in
theorem q_945 : (Jvm.Cond.privateMethod ({ cls := "SketchCacheModel", name := "balanced", desc := "(III)I" } : Jvm.MethodName)) ∈ lw_tbl := List.mem_append_right _ (List.mem_of_getElem? (i := 945) (by decide +kernel))
set_option maxRecDepth 20000 in
theorem t_946 : (Jvm.Cond.instanceMethod ({ cls := "SketchCacheModel", name := "balanced", desc := "(III)I" } : Jvm.MethodName)) ∈ tk_tb := tk_in (List.mem_append_right _ (List.mem_of_getElem? (i := 946) (by decide +kernel))) rfl
set_option maxRecDepth 20000 in
theorem t_947 : (Jvm.Cond.code ({ cls := "SketchCacheModel", name := "balanced", desc := "(III)I" } : Jvm.MethodName) prog_13_method_51_code (13 : Nat) (Option.some Jvm.ClassFile.FieldType.int)) ∈ tk_tb := tk_in (List.mem_append_right _ (List.mem_of_getElem? (i := 947) (rfl))) rfl
set_option maxRecDepth 20000 in
theorem t_948 : (Jvm.Cond.methodLink "SketchCacheModel" (164 : Nat) ({ cls := "SketchCacheModel", name := "indexIn", desc := "(II)I" } : Jvm.MethodName)) ∈ tk_tb := tk_in (List.mem_append_right _ (List.mem_of_getElem? (i := 948) (by decide +kernel))) rfl
set_option maxRecDepth 20000 in
theorem q_949 : (Jvm.Cond.privateMethod ({ cls := "SketchCacheModel", name := "indexIn", desc := "(II)I" } : Jvm.MethodName)) ∈ lw_tbl := List.mem_append_right _ (List.mem_of_getElem? (i := 949) (by decide +kernel))
set_option maxRecDepth 20000 in
theorem t_950 : (Jvm.Cond.instanceMethod ({ cls := "SketchCacheModel", name := "indexIn", desc := "(II)I" } : Jvm.MethodName)) ∈ tk_tb := tk_in (List.mem_append_right _ (List.mem_of_getElem? (i := 950) (by decide +kernel))) rfl
set_option maxRecDepth 20000 in
theorem t_951 : (Jvm.Cond.code ({ cls := "SketchCacheModel", name := "indexIn", desc := "(II)I" } : Jvm.MethodName) prog_13_method_46_code (4 : Nat) (Option.some Jvm.ClassFile.FieldType.int)) ∈ tk_tb := tk_in (List.mem_append_right _ (List.mem_of_getElem? (i := 951) (rfl))) rfl
set_option maxRecDepth 20000 in
theorem t_952 : (Jvm.Cond.methodLink "SketchCacheModel" (154 : Nat) ({ cls := "SketchCacheModel", name := "leave", desc := "(II)I" } : Jvm.MethodName)) ∈ tk_tb := tk_in (List.mem_append_right _ (List.mem_of_getElem? (i := 952) (by decide +kernel))) rfl
set_option maxRecDepth 20000 in
theorem q_953 : (Jvm.Cond.privateMethod ({ cls := "SketchCacheModel", name := "leave", desc := "(II)I" } : Jvm.MethodName)) ∈ lw_tbl := List.mem_append_right _ (List.mem_of_getElem? (i := 953) (by decide +kernel))
set_option maxRecDepth 20000 in
theorem t_954 : (Jvm.Cond.instanceMethod ({ cls := "SketchCacheModel", name := "leave", desc := "(II)I" } : Jvm.MethodName)) ∈ tk_tb := tk_in (List.mem_append_right _ (List.mem_of_getElem? (i := 954) (by decide +kernel))) rfl
set_option maxRecDepth 20000 in
theorem t_955 : (Jvm.Cond.code ({ cls := "SketchCacheModel", name := "leave", desc := "(II)I" } : Jvm.MethodName) prog_13_method_48_code (5 : Nat) (Option.some Jvm.ClassFile.FieldType.int)) ∈ tk_tb := tk_in (List.mem_append_right _ (List.mem_of_getElem? (i := 955) (rfl))) rfl
set_option maxRecDepth 20000 in
theorem t_956 : (Jvm.Cond.methodLink "SketchCacheModel" (157 : Nat) ({ cls := "SketchCacheModel", name := "join", desc := "(II)V" } : Jvm.MethodName)) ∈ tk_tb := tk_in (List.mem_append_right _ (List.mem_of_getElem? (i := 956) (by decide +kernel))) rfl
set_option maxRecDepth 20000 in
theorem q_957 : (Jvm.Cond.privateMethod ({ cls := "SketchCacheModel", name := "join", desc := "(II)V" } : Jvm.MethodName)) ∈ lw_tbl := List.mem_append_right _ (List.mem_of_getElem? (i := 957) (by decide +kernel))
set_option maxRecDepth 20000 in
theorem t_958 : (Jvm.Cond.instanceMethod ({ cls := "SketchCacheModel", name := "join", desc := "(II)V" } : Jvm.MethodName)) ∈ tk_tb := tk_in (List.mem_append_right _ (List.mem_of_getElem? (i := 958) (by decide +kernel))) rfl
set_option maxRecDepth 20000 in
theorem t_959 : (Jvm.Cond.code ({ cls := "SketchCacheModel", name := "join", desc := "(II)V" } : Jvm.MethodName) prog_13_method_47_code (3 : Nat) (Option.none : Option Jvm.ClassFile.FieldType)) ∈ tk_tb := tk_in (List.mem_append_right _ (List.mem_of_getElem? (i := 959) (rfl))) rfl
set_option maxRecDepth 20000 in
theorem t_960 : (Jvm.Cond.methodLink "SketchCacheModel" (160 : Nat) ({ cls := "SketchCacheModel", name := "makeRoom", desc := "(Z)V" } : Jvm.MethodName)) ∈ tk_tb := tk_in (List.mem_append_right _ (List.mem_of_getElem? (i := 960) (by decide +kernel))) rfl
set_option maxRecDepth 20000 in
theorem q_961 : (Jvm.Cond.privateMethod ({ cls := "SketchCacheModel", name := "makeRoom", desc := "(Z)V" } : Jvm.MethodName)) ∈ lw_tbl := List.mem_append_right _ (List.mem_of_getElem? (i := 961) (by decide +kernel))
set_option maxRecDepth 20000 in
theorem t_962 : (Jvm.Cond.instanceMethod ({ cls := "SketchCacheModel", name := "makeRoom", desc := "(Z)V" } : Jvm.MethodName)) ∈ tk_tb := tk_in (List.mem_append_right _ (List.mem_of_getElem? (i := 962) (by decide +kernel))) rfl
set_option maxRecDepth 20000 in
theorem t_963 : (Jvm.Cond.code ({ cls := "SketchCacheModel", name := "makeRoom", desc := "(Z)V" } : Jvm.MethodName) prog_13_method_49_code (3 : Nat) (Option.none : Option Jvm.ClassFile.FieldType)) ∈ tk_tb := tk_in (List.mem_append_right _ (List.mem_of_getElem? (i := 963) (rfl))) rfl
set_option maxRecDepth 20000 in
theorem t_964 : (Jvm.Cond.methodLink "SketchCacheModel" (167 : Nat) ({ cls := "SketchCacheModel", name := "otherKey", desc := "(II)V" } : Jvm.MethodName)) ∈ tk_tb := tk_in (List.mem_append_right _ (List.mem_of_getElem? (i := 964) (by decide +kernel))) rfl
set_option maxRecDepth 20000 in
theorem q_965 : (Jvm.Cond.privateMethod ({ cls := "SketchCacheModel", name := "otherKey", desc := "(II)V" } : Jvm.MethodName)) ∈ lw_tbl := List.mem_append_right _ (List.mem_of_getElem? (i := 965) (by decide +kernel))
set_option maxRecDepth 20000 in
theorem t_966 : (Jvm.Cond.instanceMethod ({ cls := "SketchCacheModel", name := "otherKey", desc := "(II)V" } : Jvm.MethodName)) ∈ tk_tb := tk_in (List.mem_append_right _ (List.mem_of_getElem? (i := 966) (by decide +kernel))) rfl
set_option maxRecDepth 20000 in
theorem t_967 : (Jvm.Cond.code ({ cls := "SketchCacheModel", name := "otherKey", desc := "(II)V" } : Jvm.MethodName) prog_13_method_50_code (4 : Nat) (Option.none : Option Jvm.ClassFile.FieldType)) ∈ tk_tb := tk_in (List.mem_append_right _ (List.mem_of_getElem? (i := 967) (rfl))) rfl
set_option maxRecDepth 20000 in
theorem t_968 : (Jvm.Cond.methodLink "SketchCacheModel" (173 : Nat) ({ cls := "SketchCacheModel", name := "played", desc := "(IIII)I" } : Jvm.MethodName)) ∈ tk_tb := tk_in (List.mem_append_right _ (List.mem_of_getElem? (i := 968) (by decide +kernel))) rfl
set_option maxRecDepth 20000 in
theorem q_969 : (Jvm.Cond.privateMethod ({ cls := "SketchCacheModel", name := "played", desc := "(IIII)I" } : Jvm.MethodName)) ∈ lw_tbl := List.mem_append_right _ (List.mem_of_getElem? (i := 969) (by decide +kernel))
set_option maxRecDepth 20000 in
theorem t_970 : (Jvm.Cond.instanceMethod ({ cls := "SketchCacheModel", name := "played", desc := "(IIII)I" } : Jvm.MethodName)) ∈ tk_tb := tk_in (List.mem_append_right _ (List.mem_of_getElem? (i := 970) (by decide +kernel))) rfl
set_option maxRecDepth 20000 in
theorem t_971 : (Jvm.Cond.code ({ cls := "SketchCacheModel", name := "played", desc := "(IIII)I" } : Jvm.MethodName) prog_13_method_45_code (9 : Nat) (Option.some Jvm.ClassFile.FieldType.int)) ∈ tk_tb := tk_in (List.mem_append_right _ (List.mem_of_getElem? (i := 971) (rfl))) rfl
set_option maxRecDepth 20000 in
theorem t_972 : (Jvm.Cond.methodLink "SketchCacheModel" (144 : Nat) ({ cls := "SketchCacheModel", name := "seatOf", desc := "(I)I" } : Jvm.MethodName)) ∈ tk_tb := tk_in (List.mem_append_right _ (List.mem_of_getElem? (i := 972) (by decide +kernel))) rfl
set_option maxRecDepth 20000 in
theorem q_973 : (Jvm.Cond.privateMethod ({ cls := "SketchCacheModel", name := "seatOf", desc := "(I)I" } : Jvm.MethodName)) ∈ lw_tbl := List.mem_append_right _ (List.mem_of_getElem? (i := 973) (by decide +kernel))
set_option maxRecDepth 20000 in
theorem t_974 : (Jvm.Cond.instanceMethod ({ cls := "SketchCacheModel", name := "seatOf", desc := "(I)I" } : Jvm.MethodName)) ∈ tk_tb := tk_in (List.mem_append_right _ (List.mem_of_getElem? (i := 974) (by decide +kernel))) rfl
set_option maxRecDepth 20000 in
theorem t_975 : (Jvm.Cond.code ({ cls := "SketchCacheModel", name := "seatOf", desc := "(I)I" } : Jvm.MethodName) prog_13_method_41_code (3 : Nat) (Option.some Jvm.ClassFile.FieldType.int)) ∈ tk_tb := tk_in (List.mem_append_right _ (List.mem_of_getElem? (i := 975) (rfl))) rfl
set_option maxRecDepth 20000 in
theorem t_976 : (Jvm.Cond.methodLink "SketchCacheModel" (147 : Nat) ({ cls := "SketchCacheModel", name := "seatThatGoes", desc := "(IIII)I" } : Jvm.MethodName)) ∈ tk_tb := tk_in (List.mem_append_right _ (List.mem_of_getElem? (i := 976) (by decide +kernel))) rfl
set_option maxRecDepth 20000 in
theorem q_977 : (Jvm.Cond.privateMethod ({ cls := "SketchCacheModel", name := "seatThatGoes", desc := "(IIII)I" } : Jvm.MethodName)) ∈ lw_tbl := List.mem_append_right _ (List.mem_of_getElem? (i := 977) (by decide +kernel))
set_option maxRecDepth 20000 in
theorem t_978 : (Jvm.Cond.instanceMethod ({ cls := "SketchCacheModel", name := "seatThatGoes", desc := "(IIII)I" } : Jvm.MethodName)) ∈ tk_tb := tk_in (List.mem_append_right _ (List.mem_of_getElem? (i := 978) (by decide +kernel))) rfl
set_option maxRecDepth 20000 in
theorem t_979 : (Jvm.Cond.code ({ cls := "SketchCacheModel", name := "seatThatGoes", desc := "(IIII)I" } : Jvm.MethodName) prog_13_method_44_code (7 : Nat) (Option.some Jvm.ClassFile.FieldType.int)) ∈ tk_tb := tk_in (List.mem_append_right _ (List.mem_of_getElem? (i := 979) (rfl))) rfl
set_option maxRecDepth 20000 in
theorem t_980 : (Jvm.Cond.methodLink "SketchCacheModel" (140 : Nat) ({ cls := "SketchCacheModel", name := "isSooner", desc := "(IIIII)Z" } : Jvm.MethodName)) ∈ tk_tb := tk_in (List.mem_append_right _ (List.mem_of_getElem? (i := 980) (by decide +kernel))) rfl
set_option maxRecDepth 20000 in
theorem q_981 : (Jvm.Cond.privateMethod ({ cls := "SketchCacheModel", name := "isSooner", desc := "(IIIII)Z" } : Jvm.MethodName)) ∈ lw_tbl := List.mem_append_right _ (List.mem_of_getElem? (i := 981) (by decide +kernel))
set_option maxRecDepth 20000 in
theorem t_982 : (Jvm.Cond.instanceMethod ({ cls := "SketchCacheModel", name := "isSooner", desc := "(IIIII)Z" } : Jvm.MethodName)) ∈ tk_tb := tk_in (List.mem_append_right _ (List.mem_of_getElem? (i := 982) (by decide +kernel))) rfl
set_option maxRecDepth 20000 in
theorem t_983 : (Jvm.Cond.code ({ cls := "SketchCacheModel", name := "isSooner", desc := "(IIIII)Z" } : Jvm.MethodName) prog_13_method_43_code (8 : Nat) (Option.some Jvm.ClassFile.FieldType.boolean)) ∈ tk_tb := tk_in (List.mem_append_right _ (List.mem_of_getElem? (i := 983) (rfl))) rfl
set_option maxRecDepth 20000 in
theorem t_984 : (Jvm.Cond.methodLink "SketchCacheModel" (134 : Nat) ({ cls := "SketchCacheModel", name := "again", desc := "(III)I" } : Jvm.MethodName)) ∈ tk_tb := tk_in (List.mem_append_right _ (List.mem_of_getElem? (i := 984) (by decide +kernel))) rfl
set_option maxRecDepth 20000 in
theorem q_985 : (Jvm.Cond.privateMethod ({ cls := "SketchCacheModel", name := "again", desc := "(III)I" } : Jvm.MethodName)) ∈ lw_tbl := List.mem_append_right _ (List.mem_of_getElem? (i := 985) (by decide +kernel))
set_option maxRecDepth 20000 in
theorem t_986 : (Jvm.Cond.instanceMethod ({ cls := "SketchCacheModel", name := "again", desc := "(III)I" } : Jvm.MethodName)) ∈ tk_tb := tk_in (List.mem_append_right _ (List.mem_of_getElem? (i := 986) (by decide +kernel))) rfl
set_option maxRecDepth 20000 in
theorem t_987 : (Jvm.Cond.code ({ cls := "SketchCacheModel", name := "again", desc := "(III)I" } : Jvm.MethodName) prog_13_method_42_code (5 : Nat) (Option.some Jvm.ClassFile.FieldType.int)) ∈ tk_tb := tk_in (List.mem_append_right _ (List.mem_of_getElem? (i := 987) (rfl))) rfl
set_option maxRecDepth 20000 in
theorem t_988 : (Jvm.Cond.methodLink "SketchCacheLaw" (92 : Nat) ({ cls := "SketchCacheModel", name := "kept", desc := "(I)I" } : Jvm.MethodName)) ∈ tk_tb := tk_in (List.mem_append_right _ (List.mem_of_getElem? (i := 988) (by decide +kernel))) rfl
set_option maxRecDepth 20000 in
theorem t_989 : (Jvm.Cond.instanceMethod ({ cls := "SketchCacheModel", name := "kept", desc := "(I)I" } : Jvm.MethodName)) ∈ tk_tb := tk_in (List.mem_append_right _ (List.mem_of_getElem? (i := 989) (by decide +kernel))) rfl
set_option maxRecDepth 20000 in
theorem t_990 : (Jvm.Cond.selects "SketchCacheModel" ({ cls := "SketchCacheModel", name := "kept", desc := "(I)I" } : Jvm.MethodName) ({ cls := "SketchCacheModel", name := "kept", desc := "(I)I" } : Jvm.MethodName)) ∈ tk_tb := tk_in (List.mem_append_right _ (List.mem_of_getElem? (i := 990) (by decide +kernel))) rfl
set_option maxRecDepth 20000 in
theorem t_991 : (Jvm.Cond.code ({ cls := "SketchCacheModel", name := "kept", desc := "(I)I" } : Jvm.MethodName) prog_13_method_53_code (2 : Nat) (Option.some Jvm.ClassFile.FieldType.int)) ∈ tk_tb := tk_in (List.mem_append_right _ (List.mem_of_getElem? (i := 991) (rfl))) rfl
set_option maxRecDepth 20000 in
theorem t_992 : (Jvm.Cond.methodLink "SketchCacheLaw" (96 : Nat) ({ cls := "SketchCacheModel", name := "save", desc := "(I)I" } : Jvm.MethodName)) ∈ tk_tb := tk_in (List.mem_append_right _ (List.mem_of_getElem? (i := 992) (by decide +kernel))) rfl
set_option maxRecDepth 20000 in
theorem t_993 : (Jvm.Cond.instanceMethod ({ cls := "SketchCacheModel", name := "save", desc := "(I)I" } : Jvm.MethodName)) ∈ tk_tb := tk_in (List.mem_append_right _ (List.mem_of_getElem? (i := 993) (by decide +kernel))) rfl
set_option maxRecDepth 20000 in
theorem t_994 : (Jvm.Cond.selects "SketchCacheModel" ({ cls := "SketchCacheModel", name := "save", desc := "(I)I" } : Jvm.MethodName) ({ cls := "SketchCacheModel", name := "save", desc := "(I)I" } : Jvm.MethodName)) ∈ tk_tb := tk_in (List.mem_append_right _ (List.mem_of_getElem? (i := 994) (by decide +kernel))) rfl
set_option maxRecDepth 20000 in
theorem t_995 : (Jvm.Cond.code ({ cls := "SketchCacheModel", name := "save", desc := "(I)I" } : Jvm.MethodName) prog_13_method_54_code (3 : Nat) (Option.some Jvm.ClassFile.FieldType.int)) ∈ tk_tb := tk_in (List.mem_append_right _ (List.mem_of_getElem? (i := 995) (rfl))) rfl
set_option maxRecDepth 20000 in
theorem t_996 : (Jvm.Cond.methodLink "SketchCacheLaw" (100 : Nat) ({ cls := "SketchCacheModel", name := "load", desc := "(I)I" } : Jvm.MethodName)) ∈ tk_tb := tk_in (List.mem_append_right _ (List.mem_of_getElem? (i := 996) (by decide +kernel))) rfl
set_option maxRecDepth 20000 in
theorem t_997 : (Jvm.Cond.instanceMethod ({ cls := "SketchCacheModel", name := "load", desc := "(I)I" } : Jvm.MethodName)) ∈ tk_tb := tk_in (List.mem_append_right _ (List.mem_of_getElem? (i := 997) (by decide +kernel))) rfl
set_option maxRecDepth 20000 in
theorem t_998 : (Jvm.Cond.selects "SketchCacheModel" ({ cls := "SketchCacheModel", name := "load", desc := "(I)I" } : Jvm.MethodName) ({ cls := "SketchCacheModel", name := "load", desc := "(I)I" } : Jvm.MethodName)) ∈ tk_tb := tk_in (List.mem_append_right _ (List.mem_of_getElem? (i := 998) (by decide +kernel))) rfl
set_option maxRecDepth 20000 in
theorem t_999 : (Jvm.Cond.code ({ cls := "SketchCacheModel", name := "load", desc := "(I)I" } : Jvm.MethodName) prog_13_method_55_code (3 : Nat) (Option.some Jvm.ClassFile.FieldType.int)) ∈ tk_tb := tk_in (List.mem_append_right _ (List.mem_of_getElem? (i := 999) (rfl))) rfl
set_option maxRecDepth 20000 in
theorem t_1000 : (Jvm.Cond.methodLink "SketchCacheLaw" (105 : Nat) ({ cls := "SketchCacheModel", name := "sound", desc := "()I" } : Jvm.MethodName)) ∈ tk_tb := tk_in (List.mem_append_right _ (List.mem_of_getElem? (i := 1000) (by decide +kernel))) rfl
set_option maxRecDepth 20000 in
theorem t_1001 : (Jvm.Cond.instanceMethod ({ cls := "SketchCacheModel", name := "sound", desc := "()I" } : Jvm.MethodName)) ∈ tk_tb := tk_in (List.mem_append_right _ (List.mem_of_getElem? (i := 1001) (by decide +kernel))) rfl
set_option maxRecDepth 20000 in
theorem t_1002 : (Jvm.Cond.selects "SketchCacheModel" ({ cls := "SketchCacheModel", name := "sound", desc := "()I" } : Jvm.MethodName) ({ cls := "SketchCacheModel", name := "sound", desc := "()I" } : Jvm.MethodName)) ∈ tk_tb := tk_in (List.mem_append_right _ (List.mem_of_getElem? (i := 1002) (by decide +kernel))) rfl
set_option maxRecDepth 20000 in
theorem t_1003 : (Jvm.Cond.code ({ cls := "SketchCacheModel", name := "sound", desc := "()I" } : Jvm.MethodName) prog_13_method_56_code (6 : Nat) (Option.some Jvm.ClassFile.FieldType.int)) ∈ tk_tb := tk_in (List.mem_append_right _ (List.mem_of_getElem? (i := 1003) (rfl))) rfl
set_option maxRecDepth 20000 in
theorem q_1004 : (Jvm.Cond.castable "SketchCache$FourRows" "SketchCache$Policy") ∈ lw_tbl := List.mem_append_right _ (List.mem_of_getElem? (i := 1004) (by decide +kernel))
set_option maxRecDepth 20000 in
theorem q_1005 : (Jvm.Cond.castable "SketchCache$Seats" "SketchCache$Policy") ∈ lw_tbl := List.mem_append_right _ (List.mem_of_getElem? (i := 1005) (by decide +kernel))
theorem p_0 : Cond.selects "SketchCache$Sketch" ⟨"SketchCache$Sketch", "forgetIfChanged", "(II)V"⟩ ⟨"SketchCache$Sketch", "forgetIfChanged", "(II)V"⟩ ∈ tk_tb := tk_in (List.mem_append_left _ (List.mem_of_getElem? (i := 0) (by decide +kernel))) rfl
theorem p_1 : Cond.selects "SketchCache$Climb" ⟨"SketchCache$Climb", "beginAnew", "()V"⟩ ⟨"SketchCache$Climb", "beginAnew", "()V"⟩ ∈ tk_tb := tk_in (List.mem_append_left _ (List.mem_of_getElem? (i := 1) (by decide +kernel))) rfl
theorem p_2 : Cond.selects "SketchCache$Sketch" ⟨"SketchCache$Sketch", "isPastDoor", "(I)Z"⟩ ⟨"SketchCache$Sketch", "isPastDoor", "(I)Z"⟩ ∈ tk_tb := tk_in (List.mem_append_left _ (List.mem_of_getElem? (i := 2) (by decide +kernel))) rfl
theorem p_3 : Cond.selects "SketchCache$Sketch" ⟨"SketchCache$Sketch", "growCounters", "(I)V"⟩ ⟨"SketchCache$Sketch", "growCounters", "(I)V"⟩ ∈ tk_tb := tk_in (List.mem_append_left _ (List.mem_of_getElem? (i := 3) (by decide +kernel))) rfl
theorem p_4 : Cond.selects "SketchCache$Sketch" ⟨"SketchCache$Sketch", "smallestCounter", "(I)I"⟩ ⟨"SketchCache$Sketch", "smallestCounter", "(I)I"⟩ ∈ tk_tb := tk_in (List.mem_append_left _ (List.mem_of_getElem? (i := 4) (by decide +kernel))) rfl
theorem p_5 : Cond.selects "SketchCache$Sketch" ⟨"SketchCache$Sketch", "age", "()V"⟩ ⟨"SketchCache$Sketch", "age", "()V"⟩ ∈ tk_tb := tk_in (List.mem_append_left _ (List.mem_of_getElem? (i := 5) (by decide +kernel))) rfl
theorem p_6 : Cond.selects "SketchCache$Cache" ⟨"SketchCache$Cache", "settle", "()V"⟩ ⟨"SketchCache$Cache", "settle", "()V"⟩ ∈ tk_tb := tk_in (List.mem_append_left _ (List.mem_of_getElem? (i := 6) (by decide +kernel))) rfl
theorem p_7 : Cond.selects "SketchCache$Cache" ⟨"SketchCache$Cache", "judge", "(I)V"⟩ ⟨"SketchCache$Cache", "judge", "(I)V"⟩ ∈ tk_tb := tk_in (List.mem_append_left _ (List.mem_of_getElem? (i := 7) (by decide +kernel))) rfl
theorem p_8 : Cond.selects "SketchCache$Cache" ⟨"SketchCache$Cache", "victimsNeeded", "(I)I"⟩ ⟨"SketchCache$Cache", "victimsNeeded", "(I)I"⟩ ∈ tk_tb := tk_in (List.mem_append_left _ (List.mem_of_getElem? (i := 8) (by decide +kernel))) rfl
theorem p_9 : Cond.selects "SketchCache$Cache" ⟨"SketchCache$Cache", "unitsInMain", "()I"⟩ ⟨"SketchCache$Cache", "unitsInMain", "()I"⟩ ∈ tk_tb := tk_in (List.mem_append_left _ (List.mem_of_getElem? (i := 9) (by decide +kernel))) rfl
theorem p_10 : Cond.selects "SketchCache$Cache" ⟨"SketchCache$Cache", "keysInMain", "()I"⟩ ⟨"SketchCache$Cache", "keysInMain", "()I"⟩ ∈ tk_tb := tk_in (List.mem_append_left _ (List.mem_of_getElem? (i := 10) (by decide +kernel))) rfl
theorem p_11 : Cond.selects "SketchCache$Cache" ⟨"SketchCache$Cache", "victimAt", "(I)I"⟩ ⟨"SketchCache$Cache", "victimAt", "(I)I"⟩ ∈ tk_tb := tk_in (List.mem_append_left _ (List.mem_of_getElem? (i := 11) (by decide +kernel))) rfl
theorem p_12 : Cond.selects "SketchCache$Cache" ⟨"SketchCache$Cache", "victimsBeaten", "(II)I"⟩ ⟨"SketchCache$Cache", "victimsBeaten", "(II)I"⟩ ∈ tk_tb := tk_in (List.mem_append_left _ (List.mem_of_getElem? (i := 12) (by decide +kernel))) rfl
theorem p_13 : Cond.selects "SketchCache$Cache" ⟨"SketchCache$Cache", "spare", "(I)V"⟩ ⟨"SketchCache$Cache", "spare", "(I)V"⟩ ∈ tk_tb := tk_in (List.mem_append_left _ (List.mem_of_getElem? (i := 13) (by decide +kernel))) rfl
theorem p_14 : Cond.selects "SketchCache$Player" ⟨"SketchCache$Player", "lookAhead", "(LSketchCache$Trace;II)V"⟩ ⟨"SketchCache$Player", "lookAhead", "(LSketchCache$Trace;II)V"⟩ ∈ tk_tb := tk_in (List.mem_append_left _ (List.mem_of_getElem? (i := 14) (by decide +kernel))) rfl
theorem p_15 : Cond.selects "SketchCache$FourRows" ⟨"SketchCache$FourRows", "makeRoomForNew", "()V"⟩ ⟨"SketchCache$FourRows", "makeRoomForNew", "()V"⟩ ∈ tk_tb := tk_in (List.mem_append_left _ (List.mem_of_getElem? (i := 15) (by decide +kernel))) rfl
theorem p_16 : Cond.selects "SketchCache$FourRows" ⟨"SketchCache$FourRows", "makeRoom", "(Z)V"⟩ ⟨"SketchCache$FourRows", "makeRoom", "(Z)V"⟩ ∈ tk_tb := tk_in (List.mem_append_left _ (List.mem_of_getElem? (i := 16) (by decide +kernel))) rfl
theorem p_17 : Cond.selects "SketchCache$Seats" ⟨"SketchCache$Seats", "seatOf", "(I)I"⟩ ⟨"SketchCache$Seats", "seatOf", "(I)I"⟩ ∈ tk_tb := tk_in (List.mem_append_left _ (List.mem_of_getElem? (i := 17) (by decide +kernel))) rfl
theorem p_18 : Cond.selects "SketchCache$Seats" ⟨"SketchCache$Seats", "freeSeat", "()I"⟩ ⟨"SketchCache$Seats", "freeSeat", "()I"⟩ ∈ tk_tb := tk_in (List.mem_append_left _ (List.mem_of_getElem? (i := 18) (by decide +kernel))) rfl
theorem p_19 : Cond.selects "SketchCache$Seats" ⟨"SketchCache$Seats", "seatByHand", "()I"⟩ ⟨"SketchCache$Seats", "seatByHand", "()I"⟩ ∈ tk_tb := tk_in (List.mem_append_left _ (List.mem_of_getElem? (i := 19) (by decide +kernel))) rfl
theorem p_20 : Cond.selects "SketchCache$Seats" ⟨"SketchCache$Seats", "nextSeat", "(I)I"⟩ ⟨"SketchCache$Seats", "nextSeat", "(I)I"⟩ ∈ tk_tb := tk_in (List.mem_append_left _ (List.mem_of_getElem? (i := 20) (by decide +kernel))) rfl
theorem p_21 : Cond.selects "SketchCache$Seats" ⟨"SketchCache$Seats", "seatByRank", "()I"⟩ ⟨"SketchCache$Seats", "seatByRank", "()I"⟩ ∈ tk_tb := tk_in (List.mem_append_left _ (List.mem_of_getElem? (i := 21) (by decide +kernel))) rfl
theorem p_22 : Cond.selects "SketchCache$Seats" ⟨"SketchCache$Seats", "goesBefore", "(II)Z"⟩ ⟨"SketchCache$Seats", "goesBefore", "(II)Z"⟩ ∈ tk_tb := tk_in (List.mem_append_left _ (List.mem_of_getElem? (i := 22) (by decide +kernel))) rfl
theorem p_23 : Cond.selects "SketchCache$Player" ⟨"SketchCache$Player", "keepFrom", "(LSketchCache$Policy;)V"⟩ ⟨"SketchCache$Player", "keepFrom", "(LSketchCache$Policy;)V"⟩ ∈ tk_tb := tk_in (List.mem_append_left _ (List.mem_of_getElem? (i := 23) (by decide +kernel))) rfl
theorem p_24 : Cond.selects "SketchCacheModel" ⟨"SketchCacheModel", "setWindow", "(I)V"⟩ ⟨"SketchCacheModel", "setWindow", "(I)V"⟩ ∈ tk_tb := tk_in (List.mem_append_left _ (List.mem_of_getElem? (i := 24) (by decide +kernel))) rfl
theorem p_25 : Cond.selects "SketchCacheModel" ⟨"SketchCacheModel", "forgetTimes", "()V"⟩ ⟨"SketchCacheModel", "forgetTimes", "()V"⟩ ∈ tk_tb := tk_in (List.mem_append_left _ (List.mem_of_getElem? (i := 25) (by decide +kernel))) rfl
theorem p_26 : Cond.selects "SketchCacheModel" ⟨"SketchCacheModel", "partOf", "(I)I"⟩ ⟨"SketchCacheModel", "partOf", "(I)I"⟩ ∈ tk_tb := tk_in (List.mem_append_left _ (List.mem_of_getElem? (i := 26) (by decide +kernel))) rfl
theorem p_27 : Cond.selects "SketchCacheModel" ⟨"SketchCacheModel", "indexOf", "(II)I"⟩ ⟨"SketchCacheModel", "indexOf", "(II)I"⟩ ∈ tk_tb := tk_in (List.mem_append_left _ (List.mem_of_getElem? (i := 27) (by decide +kernel))) rfl
theorem p_28 : Cond.selects "SketchCacheModel" ⟨"SketchCacheModel", "length", "(I)I"⟩ ⟨"SketchCacheModel", "length", "(I)I"⟩ ∈ tk_tb := tk_in (List.mem_append_left _ (List.mem_of_getElem? (i := 28) (by decide +kernel))) rfl
theorem p_29 : Cond.selects "SketchCacheModel" ⟨"SketchCacheModel", "keyAt", "(II)I"⟩ ⟨"SketchCacheModel", "keyAt", "(II)I"⟩ ∈ tk_tb := tk_in (List.mem_append_left _ (List.mem_of_getElem? (i := 29) (by decide +kernel))) rfl
theorem p_30 : Cond.selects "SketchCacheModel" ⟨"SketchCacheModel", "accessed", "(I)I"⟩ ⟨"SketchCacheModel", "accessed", "(I)I"⟩ ∈ tk_tb := tk_in (List.mem_append_left _ (List.mem_of_getElem? (i := 30) (by decide +kernel))) rfl
theorem p_31 : Cond.selects "SketchCacheModel" ⟨"SketchCacheModel", "count", "(I)V"⟩ ⟨"SketchCacheModel", "count", "(I)V"⟩ ∈ tk_tb := tk_in (List.mem_append_left _ (List.mem_of_getElem? (i := 31) (by decide +kernel))) rfl
theorem p_32 : Cond.selects "SketchCacheModel" ⟨"SketchCacheModel", "isThrough", "(I)Z"⟩ ⟨"SketchCacheModel", "isThrough", "(I)Z"⟩ ∈ tk_tb := tk_in (List.mem_append_left _ (List.mem_of_getElem? (i := 32) (by decide +kernel))) rfl
theorem p_33 : Cond.selects "SketchCacheModel" ⟨"SketchCacheModel", "smallest", "(I)I"⟩ ⟨"SketchCacheModel", "smallest", "(I)I"⟩ ∈ tk_tb := tk_in (List.mem_append_left _ (List.mem_of_getElem? (i := 33) (by decide +kernel))) rfl
theorem p_34 : Cond.selects "SketchCacheModel" ⟨"SketchCacheModel", "cell", "(II)I"⟩ ⟨"SketchCacheModel", "cell", "(II)I"⟩ ∈ tk_tb := tk_in (List.mem_append_left _ (List.mem_of_getElem? (i := 34) (by decide +kernel))) rfl
theorem p_35 : Cond.selects "SketchCacheModel" ⟨"SketchCacheModel", "take", "(II)I"⟩ ⟨"SketchCacheModel", "take", "(II)I"⟩ ∈ tk_tb := tk_in (List.mem_append_left _ (List.mem_of_getElem? (i := 35) (by decide +kernel))) rfl
theorem p_36 : Cond.selects "SketchCacheModel" ⟨"SketchCacheModel", "append", "(II)V"⟩ ⟨"SketchCacheModel", "append", "(II)V"⟩ ∈ tk_tb := tk_in (List.mem_append_left _ (List.mem_of_getElem? (i := 36) (by decide +kernel))) rfl
theorem p_37 : Cond.selects "SketchCacheModel" ⟨"SketchCacheModel", "settle", "()V"⟩ ⟨"SketchCacheModel", "settle", "()V"⟩ ∈ tk_tb := tk_in (List.mem_append_left _ (List.mem_of_getElem? (i := 37) (by decide +kernel))) rfl
theorem p_38 : Cond.selects "SketchCacheModel" ⟨"SketchCacheModel", "units", "(I)I"⟩ ⟨"SketchCacheModel", "units", "(I)I"⟩ ∈ tk_tb := tk_in (List.mem_append_left _ (List.mem_of_getElem? (i := 38) (by decide +kernel))) rfl
theorem p_39 : Cond.selects "SketchCacheModel" ⟨"SketchCacheModel", "candidate", "(I)V"⟩ ⟨"SketchCacheModel", "candidate", "(I)V"⟩ ∈ tk_tb := tk_in (List.mem_append_left _ (List.mem_of_getElem? (i := 39) (by decide +kernel))) rfl
theorem p_40 : Cond.selects "SketchCacheModel" ⟨"SketchCacheModel", "inMain", "()I"⟩ ⟨"SketchCacheModel", "inMain", "()I"⟩ ∈ tk_tb := tk_in (List.mem_append_left _ (List.mem_of_getElem? (i := 40) (by decide +kernel))) rfl
theorem p_41 : Cond.selects "SketchCacheModel" ⟨"SketchCacheModel", "together", "(II)V"⟩ ⟨"SketchCacheModel", "together", "(II)V"⟩ ∈ tk_tb := tk_in (List.mem_append_left _ (List.mem_of_getElem? (i := 41) (by decide +kernel))) rfl
theorem p_42 : Cond.selects "SketchCacheModel" ⟨"SketchCacheModel", "estimated", "(I)I"⟩ ⟨"SketchCacheModel", "estimated", "(I)I"⟩ ∈ tk_tb := tk_in (List.mem_append_left _ (List.mem_of_getElem? (i := 42) (by decide +kernel))) rfl
theorem p_43 : Cond.selects "SketchCacheModel" ⟨"SketchCacheModel", "overflow", "()V"⟩ ⟨"SketchCacheModel", "overflow", "()V"⟩ ∈ tk_tb := tk_in (List.mem_append_left _ (List.mem_of_getElem? (i := 43) (by decide +kernel))) rfl
theorem p_44 : Cond.selects "SketchCacheModel" ⟨"SketchCacheModel", "climb", "()V"⟩ ⟨"SketchCacheModel", "climb", "()V"⟩ ∈ tk_tb := tk_in (List.mem_append_left _ (List.mem_of_getElem? (i := 44) (by decide +kernel))) rfl
theorem p_45 : Cond.selects "SketchCacheModel" ⟨"SketchCacheModel", "balanced", "(III)I"⟩ ⟨"SketchCacheModel", "balanced", "(III)I"⟩ ∈ tk_tb := tk_in (List.mem_append_left _ (List.mem_of_getElem? (i := 45) (by decide +kernel))) rfl
theorem p_46 : Cond.selects "SketchCacheModel" ⟨"SketchCacheModel", "indexIn", "(II)I"⟩ ⟨"SketchCacheModel", "indexIn", "(II)I"⟩ ∈ tk_tb := tk_in (List.mem_append_left _ (List.mem_of_getElem? (i := 46) (by decide +kernel))) rfl
theorem p_47 : Cond.selects "SketchCacheModel" ⟨"SketchCacheModel", "leave", "(II)I"⟩ ⟨"SketchCacheModel", "leave", "(II)I"⟩ ∈ tk_tb := tk_in (List.mem_append_left _ (List.mem_of_getElem? (i := 47) (by decide +kernel))) rfl
theorem p_48 : Cond.selects "SketchCacheModel" ⟨"SketchCacheModel", "join", "(II)V"⟩ ⟨"SketchCacheModel", "join", "(II)V"⟩ ∈ tk_tb := tk_in (List.mem_append_left _ (List.mem_of_getElem? (i := 48) (by decide +kernel))) rfl
theorem p_49 : Cond.selects "SketchCacheModel" ⟨"SketchCacheModel", "makeRoom", "(Z)V"⟩ ⟨"SketchCacheModel", "makeRoom", "(Z)V"⟩ ∈ tk_tb := tk_in (List.mem_append_left _ (List.mem_of_getElem? (i := 49) (by decide +kernel))) rfl
theorem p_50 : Cond.selects "SketchCacheModel" ⟨"SketchCacheModel", "otherKey", "(II)V"⟩ ⟨"SketchCacheModel", "otherKey", "(II)V"⟩ ∈ tk_tb := tk_in (List.mem_append_left _ (List.mem_of_getElem? (i := 50) (by decide +kernel))) rfl
theorem p_51 : Cond.selects "SketchCacheModel" ⟨"SketchCacheModel", "played", "(IIII)I"⟩ ⟨"SketchCacheModel", "played", "(IIII)I"⟩ ∈ tk_tb := tk_in (List.mem_append_left _ (List.mem_of_getElem? (i := 51) (by decide +kernel))) rfl
theorem p_52 : Cond.selects "SketchCacheModel" ⟨"SketchCacheModel", "seatOf", "(I)I"⟩ ⟨"SketchCacheModel", "seatOf", "(I)I"⟩ ∈ tk_tb := tk_in (List.mem_append_left _ (List.mem_of_getElem? (i := 52) (by decide +kernel))) rfl
theorem p_53 : Cond.selects "SketchCacheModel" ⟨"SketchCacheModel", "seatThatGoes", "(IIII)I"⟩ ⟨"SketchCacheModel", "seatThatGoes", "(IIII)I"⟩ ∈ tk_tb := tk_in (List.mem_append_left _ (List.mem_of_getElem? (i := 53) (by decide +kernel))) rfl
theorem p_54 : Cond.selects "SketchCacheModel" ⟨"SketchCacheModel", "isSooner", "(IIIII)Z"⟩ ⟨"SketchCacheModel", "isSooner", "(IIIII)Z"⟩ ∈ tk_tb := tk_in (List.mem_append_left _ (List.mem_of_getElem? (i := 54) (by decide +kernel))) rfl
theorem p_55 : Cond.selects "SketchCacheModel" ⟨"SketchCacheModel", "again", "(III)I"⟩ ⟨"SketchCacheModel", "again", "(III)I"⟩ ∈ tk_tb := tk_in (List.mem_append_left _ (List.mem_of_getElem? (i := 55) (by decide +kernel))) rfl
theorem in_all {ws : List Cond} (h : ws.all (fun w => decide (w ∈ lw_tbl) && goodWord w) = true) : ∀ w ∈ ws, w ∈ tk_tb := fun w hw => by
  have h1 := List.all_eq_true.mp h w hw
  simp only [Bool.and_eq_true, decide_eq_true_eq] at h1
  exact tk_in h1.1 h1.2
theorem inX0 : ∀ w ∈ u_ws RX0 TX0 6, w ∈ tk_tb := in_all (by decide +kernel)
theorem inX1 : ∀ w ∈ u_ws RX1 TX1 6, w ∈ tk_tb := in_all (by decide +kernel)
theorem inX2 : ∀ w ∈ u_ws RX2 TX2 3, w ∈ tk_tb := in_all (by decide +kernel)
theorem inX3 : ∀ w ∈ u_ws RX3 TX3 5, w ∈ tk_tb := in_all (by decide +kernel)
theorem inX5 : ∀ w ∈ u_ws RX5 TX5 5, w ∈ tk_tb := in_all (by decide +kernel)
theorem inX6 : ∀ w ∈ u_ws RX6 TX6 10, w ∈ tk_tb := in_all (by decide +kernel)
theorem inX7 : ∀ w ∈ u_ws RX7 TX7 11, w ∈ tk_tb := in_all (by decide +kernel)
theorem inX8 : ∀ w ∈ u_ws RX8 TX8 5, w ∈ tk_tb := in_all (by decide +kernel)
theorem inX9 : ∀ w ∈ u_ws RX9 TX9 3, w ∈ tk_tb := in_all (by decide +kernel)
theorem inX10 : ∀ w ∈ u_ws RX10 TX10 6, w ∈ tk_tb := in_all (by decide +kernel)
theorem inX11 : ∀ w ∈ u_ws RX11 TX11 17, w ∈ tk_tb := in_all (by decide +kernel)
end
section
/-! THE WORLD OF THE SYSTEM: every cell has a name (t, i, o): t a group, i an instance in it, o a cell of the instance. Its data is M t i o : Nat → Int32 (the elements of an array, the int fields of an object by their slots); its references never change. -/
abbrev Sg : Type := Nat → Nat → Int32
abbrev Ob : Type := Nat → Nat → Nat → Int32
abbrev Me : Type := Nat → Nat → Nat → Nat → Int32
def uI (M : Me) (t i : Nat) (g : Sg) : Me := va_up M t (va_up (M t) i g)
def uC (M : Me) (t i o : Nat) (x : Nat → Int32) : Me := uI M t i (va_up (M t i) o x)
theorem up_uu {α : Type} (f : Nat → α) (k : Nat) (v w : α) : va_up (va_up f k v) k w = va_up f k w := by
  funext j
  by_cases h : j = k <;> simp [va_up, h]
theorem up_id {α : Type} (f : Nat → α) (k : Nat) : va_up f k (f k) = f := by
  funext j
  by_cases h : j = k <;> simp [va_up, h]
theorem uI_at {M : Me} {t i : Nat} {g : Sg} : uI M t i g t i = g := by simp [uI, va_up]
theorem uI_uI {M : Me} {t i : Nat} {g g2 : Sg} : uI (uI M t i g) t i g2 = uI M t i g2 := by
  unfold uI
  rw [va_up_self, up_uu, up_uu]
theorem uI_id {M : Me} {t i : Nat} : uI M t i (M t i) = M := by
  unfold uI
  rw [up_id, up_id]
theorem uI_ne {M : Me} {t i u : Nat} {g : Sg} (h : u ≠ t) : uI M t i g u = M u := by
  unfold uI
  rw [va_up_ne _ _ h]
theorem uI_grp {M : Me} {t i : Nat} {S : Ob} {g : Sg} : uI (va_up M t S) t i g = va_up M t (va_up S i g) := by
  unfold uI
  rw [va_up_self, up_uu]
theorem uC_leaf {M : Me} {t i o : Nat} {g : Sg} {x : Nat → Int32} : uC (uI M t i g) t i o x = uI M t i (va_up g o x) := by
  unfold uC
  rw [uI_uI, uI_at]
theorem uC_grp {M : Me} {t i o : Nat} {S : Ob} {x : Nat → Int32} : uC (va_up M t S) t i o x = va_up M t (va_up S i (va_up (S i) o x)) := by
  unfold uC
  rw [uI_grp, va_up_self]
theorem uC_at {M : Me} {t i o : Nat} {x : Nat → Int32} : uC M t i o x t i o = x := by simp [uC, uI, va_up]
theorem uC_ne {M : Me} {t i o t2 i2 o2 : Nat} {x : Nat → Int32} (h : (t2, i2, o2) ≠ (t, i, o)) : uC M t i o x t2 i2 o2 = M t2 i2 o2 := by
  unfold uC uI
  by_cases h1 : t2 = t
  · subst h1
    rw [va_up_self]
    by_cases h2 : i2 = i
    · subst h2
      rw [va_up_self, va_up_ne]
      intro h3
      subst h3
      exact h rfl
    · rw [va_up_ne _ _ h2]
  · rw [va_up_ne _ _ h1]
/-! what each cell is -/
abbrev rA (f : Nat → Option Nat) : (Nat → Int32) ⊕ (Nat → Int64) ⊕ (Nat → UInt32) ⊕ (Nat → UInt64) ⊕ (Nat → Option Nat) := .inr (.inr (.inr (.inr f)))
def rO (n : Nat) (f : Nat → Nat) : Nat → Option Nat := fun r => if r < n then some (f r) else none
def ctRows (cy : Nat → ClassId) (ad : Nat → Nat → Nat → Nat) (n t i o : Nat) (x : Nat → Int32) : va_E := match o with
  | 0 => .inr (4, [.ref (ad t i 1), .ref (ad t i 2), .ref (ad t i 3), .ref (ad t i 4), .ref (ad t i 5)])
  | 1 => .inl (cy 4, n, rA (rO n (fun r => ad t i (r + 6))))
  | 2 => .inl (cy 0, n, .inl x)
  | 3 => .inl (cy 0, n, .inl x)
  | _ + 4 => .inl (cy 0, 100, .inl x)
def ctSketch (cy : Nat → ClassId) (ad : Nat → Nat → Nat → Nat) (t i o : Nat) (x : Nat → Int32) : va_E := match o with
  | 0 => .inr (6, [.ref (ad t i 1), .ref (ad t i 2), .ref (ad t i 3), .ref (ad t i 4), .ref (ad t i 5), .int (x 5), .int (x 6), .int (x 7), .int (x 8), .int (x 9), .int (x 10)])
  | 1 => .inl (cy 4, 4, rA (rO 4 (fun r => ad t i (r + 6))))
  | 2 => .inl (cy 0, 128, .inl x)
  | 3 => .inl (cy 4, 4, rA (rO 4 (fun r => ad t i (r + 10))))
  | 4 => .inl (cy 4, 2, rA (rO 2 (fun r => ad t i (r + 14))))
  | 5 => .inl (cy 0, 100, .inl x)
  | k + 6 => .inl (cy 0, if k < 4 then 64 else 100, .inl x)
def ctCache (ad : Nat → Nat → Nat → Nat) (t : Nat) (x : Nat → Int32) : va_E := .inr (0, [.ref (ad t 2 0), .ref (ad t 3 0), .int (x 2), .int (x 3), .int (x 4), .int (x 5)])
def ctState (ad : Nat → Nat → Nat → Nat) (t : Nat) (x : Nat → Int32) : va_E := .inr (7, [.ref (ad t 1 0), .ref (ad t 4 0), .ref (ad t 5 0), .int (x 3), .int (x 4)])
def ctTrace (cy : Nat → ClassId) (ad : Nat → Nat → Nat → Nat) (t i o : Nat) (x : Nat → Int32) : va_E := match o with
  | 0 => .inr (8, [.ref (ad t i 1), .int (x 1), .int (x 2)])
  | _ + 1 => .inl (cy 0, 300, .inl x)
def ctClimb (x : Nat → Int32) : va_E := .inr (1, [.int (x 0), .int (x 1), .int (x 2), .int (x 3), .int (x 4), .int (x 5)])
def ctSeats (cy : Nat → ClassId) (ad : Nat → Nat → Nat → Nat) (t i o : Nat) (x : Nat → Int32) : va_E := match o with
  | 0 => .inr (5, [.int (x 0), .ref (ad t i 1), .ref (ad t i 2), .ref (ad t i 3), .ref (ad t i 4), .ref (ad t i 5), .ref (ad t i 6), .int (x 7), .int (x 8), .int (x 9)])
  | _ + 1 => .inl (cy 0, 30, .inl x)
def ctFour (ad : Nat → Nat → Nat → Nat) (t : Nat) (x : Nat → Int32) : va_E := .inr (2, [.ref (ad t 7 0), .int (x 1), .int (x 2)])
def ctPlayer (cy : Nat → ClassId) (ad : Nat → Nat → Nat → Nat) (t i o : Nat) (x : Nat → Int32) : va_E := match o with
  | 0 => .inr (3, [.ref (ad t i 1), .ref (ad t i 2), .ref (ad t i 3), .ref (ad t i 4), .int (x 4)])
  | 1 => .inl (cy 2, 6, rA (rO 6 (fun r => ad t (r + 1) 0)))
  | 2 => .inl (cy 0, 300, .inl x)
  | 3 => .inl (cy 0, 100, .inl x)
  | _ + 4 => .inl (cy 0, 30, .inl x)
def ctMain (cy : Nat → ClassId) (ad : Nat → Nat → Nat → Nat) (t i o : Nat) (x : Nat → Int32) : va_E := match o with
  | 0 => .inr (9, [.int (x 0), .int (x 1), .int (x 2), .ref (ad 0 0 0), .ref (ad t i 1), .ref (ad 5 0 0)])
  | _ + 1 => .inl (cy 3, 4, rA (fun r => if r < 4 then (if x r = 1 then some (ad (r + 1) 0 0) else none) else none))
def ctModel (cy : Nat → ClassId) (ad : Nat → Nat → Nat → Nat) (t i o : Nat) (x : Nat → Int32) : va_E := match o with
  | 0 => .inr (10, [.int (x 0), .int (x 1), .ref (ad t i 1), .ref (ad t i 2), .ref (ad t i 3), .ref (ad t i 4), .int (x 6), .ref (ad t i 5), .ref (ad t i 6), .ref (ad t i 7), .ref (ad t i 8), .ref (ad t i 9), .int (x 12), .int (x 13), .ref (ad t i 10), .ref (ad t i 11), .int (x 16)])
  | 1 => .inl (cy 0, 1805, .inl x)
  | 2 => .inl (cy 0, 7220, .inl x)
  | 3 => .inl (cy 1, 4, .inl x)
  | 4 => .inl (cy 0, 100, .inl x)
  | 5 => .inl (cy 0, 30, .inl x)
  | 6 => .inl (cy 1, 30, .inl x)
  | 7 => .inl (cy 0, 30, .inl x)
  | 8 => .inl (cy 0, 30, .inl x)
  | 9 => .inl (cy 0, 30, .inl x)
  | 10 => .inl (cy 0, 256, .inl x)
  | _ + 11 => .inl (cy 0, 4, .inl x)
/-- the cells of a State's group: 0 itself, 1 its cache, 2 the sketch, 3 the parts, 4 the trace, 5 the climb -/
def ctSt (cy : Nat → ClassId) (ad : Nat → Nat → Nat → Nat) (t i o : Nat) (x : Nat → Int32) : va_E := match i with
  | 0 => ctState ad t x
  | 1 => ctCache ad t x
  | 2 => ctSketch cy ad t 2 o x
  | 3 => ctRows cy ad 3 t 3 o x
  | 4 => ctTrace cy ad t 4 o x
  | _ + 5 => ctClimb x
def szSt (i : Nat) : Nat := match i with
  | 0 => 1
  | 1 => 1
  | 2 => 16
  | 3 => 9
  | 4 => 2
  | _ + 5 => 1
/-- the player's group: 0 itself, 1 to 5 the seats, 6 the four rows, 7 their rows -/
def ctPl (cy : Nat → ClassId) (ad : Nat → Nat → Nat → Nat) (t i o : Nat) (x : Nat → Int32) : va_E := match i with
  | 0 => ctPlayer cy ad t 0 o x
  | 6 => ctFour ad t x
  | 7 => ctRows cy ad 4 t 7 o x
  | k => ctSeats cy ad t k o x
def szPl (i : Nat) : Nat := match i with
  | 0 => 5
  | 6 => 1
  | 7 => 10
  | _ => 7
def ctA (cy : Nat → ClassId) (ad : Nat → Nat → Nat → Nat) (t i o : Nat) (x : Nat → Int32) : va_E :=
  if t < 5 then ctSt cy ad t i o x else if t = 5 then ctPl cy ad t i o x else if t = 6 then ctMain cy ad t i o x else ctModel cy ad t i o x
def wl (cy : Nat → ClassId) (ad : Nat → Nat → Nat → Nat) (ns : List (Nat × Nat × Nat)) (M : Me) : va_W := ns.map (fun n => (ad n.1 n.2.1 n.2.2, ctA cy ad n.1 n.2.1 n.2.2 (M n.1 n.2.1 n.2.2)))
abbrev tyl (cy : Nat → ClassId) : List (ClassId × FieldType) := [(cy 0, .int), (cy 1, .boolean), (cy 2, .object "SketchCache$Policy"), (cy 3, .object "SketchCache$State"), (cy 4, .array .int)]
theorem wl_get {cy : Nat → ClassId} {ad : Nat → Nat → Nat → Nat} {ns : List (Nat × Nat × Nat)} {M : Me} {t i o : Nat} (h : (t, i, o) ∈ ns) : ∃ q : Nat, (wl cy ad ns M)[q]? = some (ad t i o, ctA cy ad t i o (M t i o)) :=
  List.getElem?_of_mem (List.mem_map.mpr ⟨(t, i, o), h, rfl⟩)
theorem wl_at {cy : Nat → ClassId} {ad : Nat → Nat → Nat → Nat} {ns : List (Nat × Nat × Nat)} {M : Me} {q : Nat} {z : Nat × va_E} (h : (wl cy ad ns M)[q]? = some z) : ∃ n, ns[q]? = some n ∧ z = (ad n.1 n.2.1 n.2.2, ctA cy ad n.1 n.2.1 n.2.2 (M n.1 n.2.1 n.2.2)) := by
  unfold wl at h
  rw [List.getElem?_map] at h
  cases hn : ns[q]? with
  | none => rw [hn] at h; cases h
  | some n => rw [hn] at h; exact ⟨n, rfl, (Option.some.inj h).symm⟩
theorem wl_set {cy : Nat → ClassId} {ad : Nat → Nat → Nat → Nat} {ns : List (Nat × Nat × Nat)} {M : Me} {A : Nat → Prop} {t i o q : Nat} {e0 : va_E} {x : Nat → Int32} (hD : va_D A (wl cy ad ns M)) (hn : (t, i, o) ∈ ns) (hq : (wl cy ad ns M)[q]? = some (ad t i o, e0)) :
    (wl cy ad ns M).set q (ad t i o, ctA cy ad t i o x) = wl cy ad ns (uC M t i o x) := by
  have hl := (List.getElem?_eq_some_iff.mp hq).1
  obtain ⟨q2, hq2⟩ := List.getElem?_of_mem hn
  have hw2 : (wl cy ad ns M)[q2]? = some (ad t i o, ctA cy ad t i o (M t i o)) := by
    unfold wl
    rw [List.getElem?_map, hq2]
    rfl
  have hqq : q = q2 := hD.1 q q2 _ _ hq hw2 rfl
  subst hqq
  apply List.ext_getElem?
  intro j
  by_cases hj : j = q
  · subst hj
    rw [List.getElem?_set_self hl]
    unfold wl
    rw [List.getElem?_map, hq2]
    show _ = some (ad t i o, ctA cy ad t i o (uC M t i o x t i o))
    rw [uC_at]
  · rw [List.getElem?_set_ne (Ne.symm hj)]
    unfold wl
    rw [List.getElem?_map, List.getElem?_map]
    cases hb : ns[j]? with
    | none => rfl
    | some n =>
      show some (ad n.1 n.2.1 n.2.2, ctA cy ad n.1 n.2.1 n.2.2 (M n.1 n.2.1 n.2.2)) = some (ad n.1 n.2.1 n.2.2, ctA cy ad n.1 n.2.1 n.2.2 (uC M t i o x n.1 n.2.1 n.2.2))
      rw [uC_ne]
      intro hn2
      have hn3 : n = (t, i, o) := hn2
      subst hn3
      exact hj (hD.1 j q _ _ (show (wl cy ad ns M)[j]? = some (ad t i o, ctA cy ad t i o (M t i o)) by unfold wl; rw [List.getElem?_map, hb]; rfl) hq rfl)
/-- the cells that a method may change -/
def Aw (ad : Nat → Nat → Nat → Nat) (ns : List (Nat × Nat × Nat)) (sz : Nat) : Nat → Prop := fun q => (∃ n ∈ ns, q = ad n.1 n.2.1 n.2.2) ∨ sz ≤ q
/-- the world at a place of a walk -/
def Wl (D : va_G) (cy : Nat → ClassId) (ad : Nat → Nat → Nat → Nat) (ns : List (Nat × Nat × Nat)) (A : Nat → Prop) (H0 : Heap) (M : Me) (H : Heap) (locs : List Loc) : Prop :=
  va_P D vwCl (wl cy ad ns M) H ∧ va_D A (wl cy ad ns M) ∧ va_S A H0 H locs
def Wo (D : va_G) (cy : Nat → ClassId) (ad : Nat → Nat → Nat → Nat) (ns : List (Nat × Nat × Nat)) (M : Me) (U : State) : Prop :=
  va_P D vwCl (wl cy ad ns M) U.heap ∧ va_K D vwCl (tyl cy) U ∧ va_D (fun _ => True) (wl cy ad ns M)
def Ci (l : Launch) (y : MethodName) (ws : List Cond) (rm : Room) (D : va_G) (cy : Nat → ClassId) (ad : Nat → Nat → Nat → Nat) (ns : List (Nat × Nat × Nat)) (As : List Value) (M : Me) (r : Int32) (M2 : Me) : Prop :=
  ∀ sz : Nat, Met l y ws rm (va_Pc As (fun U => U.heap.size = sz ∧ Wo D cy ad ns M U)) (va_Qi (fun (r2 : Int32) (N : Me) => r2 = r ∧ N = M2) (fun N U => Wo D cy ad ns N U) (Aw ad ns sz)) 0 0 (Aw ad ns sz)
def Cv (l : Launch) (y : MethodName) (ws : List Cond) (rm : Room) (D : va_G) (cy : Nat → ClassId) (ad : Nat → Nat → Nat → Nat) (ns : List (Nat × Nat × Nat)) (As : List Value) (M : Me) (M2 : Me) : Prop :=
  ∀ sz : Nat, Met l y ws rm (va_Pc As (fun U => U.heap.size = sz ∧ Wo D cy ad ns M U)) (va_Qv (fun (N : Me) => N = M2) (fun N U => Wo D cy ad ns N U) (Aw ad ns sz)) 0 0 (Aw ad ns sz)
theorem wl_apart {cy : Nat → ClassId} {ad : Nat → Nat → Nat → Nat} {ns : List (Nat × Nat × Nat)} {M M2 : Me} {A B : Nat → Prop} (hD : va_D A (wl cy ad ns M)) (hB : ∀ n ∈ ns, B (ad n.1 n.2.1 n.2.2)) : va_D B (wl cy ad ns M2) := by
  refine ⟨fun a b x y hx hy hxy => ?_, fun k q hk => ?_⟩
  · obtain ⟨n1, h1, e1⟩ := wl_at hx
    obtain ⟨n2, h2, e2⟩ := wl_at hy
    subst e1
    subst e2
    exact hD.1 a b _ _ (show (wl cy ad ns M)[a]? = some (ad n1.1 n1.2.1 n1.2.2, ctA cy ad n1.1 n1.2.1 n1.2.2 (M n1.1 n1.2.1 n1.2.2)) by unfold wl; rw [List.getElem?_map, h1]; rfl) (show (wl cy ad ns M)[b]? = some (ad n2.1 n2.2.1 n2.2.2, ctA cy ad n2.1 n2.2.1 n2.2.2 (M n2.1 n2.2.1 n2.2.2)) by unfold wl; rw [List.getElem?_map, h2]; rfl) hxy
  · obtain ⟨n1, h1, e1⟩ := wl_at hk
    subst e1
    exact hB n1 (List.mem_of_getElem? h1)
theorem Wl.in {D : va_G} {cy : Nat → ClassId} {ad : Nat → Nat → Nat → Nat} {ns : List (Nat × Nat × Nat)} {A : Nat → Prop} {H0 : Heap} {M : Me} {H : Heap} {locs : List Loc} (h : Wl D cy ad ns A H0 M H locs) : ∀ n ∈ ns, A (ad n.1 n.2.1 n.2.2) := by
  intro n hn
  obtain ⟨q, hq⟩ := wl_get (cy := cy) (ad := ad) (M := M) (t := n.1) (i := n.2.1) (o := n.2.2) hn
  exact h.2.1.2 q _ hq
end
section
theorem tb_good : ∀ w ∈ tk_tb, w ∈ lw_tbl ∧ ((w.onTables && w.keeps) = true ∨ ∃ ty, w = .arrayClass ty) := tk_good
section XR
variable {p : Program} {l : Launch} {e : Env} {R : Room} {s : State} {m : MethodId} {args : Array Value} {below : List Frame} {meth : Method} {c : Code} {H : Heap} {locs : List Loc} {cells slots : Nat} {Q : State → Prop}
variable {cc : ByteArray} {pc : Nat} {ls : Array Slot} {rest : List Value} {D : va_G} {cy : Nat → ClassId} {ad : Nat → Nat → Nat → Nat} {ns : List (Nat × Nat × Nat)} {A : Nat → Prop} {H0 : Heap} {M : Me}
theorem x_get (hx : p.tables.exec = Jvm.exec) (hb : c.code = cc) (hts : ∀ w ∈ tk_tb, w.before args s = true) {own C : String} (hown : s.vm.findClass own = some m.cls) (hK : va_K D vwCl (tyl cy) s) (hW : Wl D cy ad ns A H0 M H locs) {T : u_T} {N ci index t i o : Nat} {fs : List Value} {v : Value} {x : Nat → Int32}
    (hn : (t, i, o) ∈ ns) (hM : M t i o = x) (hct : ctA cy ad t i o x = .inr (ci, fs)) (hc : vwCl[ci]? = some (C, T, N)) (hin : ∀ w ∈ u_ws C T N, w ∈ tk_tb) (k : Nat) (hk : k < N) (hq : Cond.fieldLink own index (T k).1 (T k).2.1 (T k).2.2.1 ∈ tk_tb) (hv : fs[k]? = some v) (hdg : decode cc pc = .ok (.getfield index, 3))
    (kk : W p l e R s m args below meth c H locs cells slots Q (F0 m (pc + 3) ls (v :: rest))) : W p l e R s m args below meth c H locs cells slots Q (F0 m pc ls (.ref (ad t i o) :: rest)) := by
  obtain ⟨q, h⟩ := wl_get (cy := cy) (ad := ad) (M := M) hn
  rw [hM, hct] at h
  exact va_get hx hb hts hin hown hK hW.1 q h hc k hk (hts _ hq) (fun _ h9 => h9) hv hdg kk
theorem x_put (hx : p.tables.exec = Jvm.exec) (hb : c.code = cc) (hts : ∀ w ∈ tk_tb, w.before args s = true) {own C : String} (hown : s.vm.findClass own = some m.cls) (hK : va_K D vwCl (tyl cy) s) (hW : Wl D cy ad ns A H0 M H locs) {T : u_T} {N ci index t i o : Nat} {fs : List Value} {v : Int32} {x : Nat → Int32} {M2 : Me}
    (hn : (t, i, o) ∈ ns) (hM : M t i o = x) (hct : ctA cy ad t i o x = .inr (ci, fs)) (hc : vwCl[ci]? = some (C, T, N)) (hin : ∀ w ∈ u_ws C T N, w ∈ tk_tb) (ty0 : Nat → FieldType) (hty : ∀ k, k < N → parseFieldDescriptor (T k).2.2.1 = some (ty0 k)) (hnm : ∀ a, a < N → ∀ b, b < N → a ≠ b → (T a).2.1 ≠ (T b).2.1)
    (k : Nat) (hk : k < N) (hq : Cond.fieldLink own index (T k).1 (T k).2.1 (T k).2.2.1 ∈ tk_tb) (hfin : (T k).2.2.2 = false) (hd : ty0 k = .int) (hl : k < fs.length) (hset : ctA cy ad t i o (upd x k v) = .inr (ci, fs.set k (.int v))) (hM2 : uC M t i o (upd x k v) = M2) (hdg : decode cc pc = .ok (.putfield index, 3))
    (kk : ∀ (H1 : Heap) (locs1 : List Loc), Wl D cy ad ns A H0 M2 H1 locs1 → W p l e R s m args below meth c H1 locs1 cells slots Q (F0 m (pc + 3) ls rest)) : W p l e R s m args below meth c H locs cells slots Q (F0 m pc ls (.int v :: .ref (ad t i o) :: rest)) := by
  obtain ⟨q, h⟩ := wl_get (cy := cy) (ad := ad) (M := M) hn
  rw [hM, hct] at h
  refine va_put (v := .int v) (ty := .int) hx hb hts hin ty0 hty hnm hown hK hW.1 hW.2.1 hW.2.2 q h hc k hk (hts _ hq) (fun _ h9 => h9) hfin (by rw [hty k hk, hd]) rfl rfl hl hdg (fun H1 locs1 hP hD hS => ?_)
  have e := wl_set (x := upd x k v) hW.2.1 hn h
  rw [hset] at e
  rw [e, hM2] at hP hD
  exact kk H1 locs1 ⟨hP, hD, hS⟩
theorem x_iald (hx : p.tables.exec = Jvm.exec) (hb : c.code = cc) (hK : va_K D vwCl (tyl cy) s) (hW : Wl D cy ad ns A H0 M H locs) {t i o n : Nat} {x : Nat → Int32} {j : Int32} (hn : (t, i, o) ∈ ns) (hM : M t i o = x) (hct : ctA cy ad t i o x = .inl (cy 0, n, .inl x)) (hin : vp_in j n) (hdg : decode cc pc = .ok (.iaload, 1))
    (kk : W p l e R s m args below meth c H locs cells slots Q (F0 m (pc + 1) ls (.int (x j.toNatClampNeg) :: rest))) : W p l e R s m args below meth c H locs cells slots Q (F0 m pc ls (.int j :: .ref (ad t i o) :: rest)) := by
  obtain ⟨q, h⟩ := wl_get (cy := cy) (ad := ad) (M := M) hn
  rw [hM, hct] at h
  exact va_iald hx hb hK hW.1 q 0 h rfl hin hdg kk
theorem x_iast (hx : p.tables.exec = Jvm.exec) (hb : c.code = cc) (hK : va_K D vwCl (tyl cy) s) (hW : Wl D cy ad ns A H0 M H locs) {t i o n : Nat} {x : Nat → Int32} {j v : Int32} {M2 : Me} (hn : (t, i, o) ∈ ns) (hM : M t i o = x) (hct : ∀ y, ctA cy ad t i o y = .inl (cy 0, n, .inl y)) (hin : vp_in j n) (hM2 : uC M t i o (upd x j.toNatClampNeg v) = M2) (hdg : decode cc pc = .ok (.iastore, 1))
    (kk : ∀ (H1 : Heap) (locs1 : List Loc), Wl D cy ad ns A H0 M2 H1 locs1 → W p l e R s m args below meth c H1 locs1 cells slots Q (F0 m (pc + 1) ls rest)) : W p l e R s m args below meth c H locs cells slots Q (F0 m pc ls (.int v :: .int j :: .ref (ad t i o) :: rest)) := by
  obtain ⟨q, h⟩ := wl_get (cy := cy) (ad := ad) (M := M) hn
  rw [hM, hct] at h
  refine va_iast hx hb hK hW.1 hW.2.1 hW.2.2 q 0 h rfl hin hdg (fun H1 locs1 hP hD hS => ?_)
  have e := wl_set (x := upd x j.toNatClampNeg v) hW.2.1 hn h
  rw [hct] at e
  rw [e, hM2] at hP hD
  exact kk H1 locs1 ⟨hP, hD, hS⟩
theorem x_zald (hx : p.tables.exec = Jvm.exec) (hb : c.code = cc) (hK : va_K D vwCl (tyl cy) s) (hW : Wl D cy ad ns A H0 M H locs) {t i o n : Nat} {x : Nat → Int32} {j : Int32} (hn : (t, i, o) ∈ ns) (hM : M t i o = x) (hct : ctA cy ad t i o x = .inl (cy 1, n, .inl x)) (hin : vp_in j n) (hdg : decode cc pc = .ok (.baload, 1))
    (kk : W p l e R s m args below meth c H locs cells slots Q (F0 m (pc + 1) ls (.int (x j.toNatClampNeg) :: rest))) : W p l e R s m args below meth c H locs cells slots Q (F0 m pc ls (.int j :: .ref (ad t i o) :: rest)) := by
  obtain ⟨q, h⟩ := wl_get (cy := cy) (ad := ad) (M := M) hn
  rw [hM, hct] at h
  exact va_zald hx hb hK hW.1 q 1 h rfl hin hdg kk
theorem x_zast (hx : p.tables.exec = Jvm.exec) (hb : c.code = cc) (hK : va_K D vwCl (tyl cy) s) (hW : Wl D cy ad ns A H0 M H locs) {t i o n : Nat} {x : Nat → Int32} {j v : Int32} {M2 : Me} (hn : (t, i, o) ∈ ns) (hM : M t i o = x) (hct : ∀ y, ctA cy ad t i o y = .inl (cy 1, n, .inl y)) (hin : vp_in j n) (hv : vp_nar .boolean v = v) (hM2 : uC M t i o (upd x j.toNatClampNeg v) = M2) (hdg : decode cc pc = .ok (.bastore, 1))
    (kk : ∀ (H1 : Heap) (locs1 : List Loc), Wl D cy ad ns A H0 M2 H1 locs1 → W p l e R s m args below meth c H1 locs1 cells slots Q (F0 m (pc + 1) ls rest)) : W p l e R s m args below meth c H locs cells slots Q (F0 m pc ls (.int v :: .int j :: .ref (ad t i o) :: rest)) := by
  obtain ⟨q, h⟩ := wl_get (cy := cy) (ad := ad) (M := M) hn
  rw [hM, hct] at h
  refine va_zast hx hb hK hW.1 hW.2.1 hW.2.2 q 1 h rfl hin hdg (fun H1 locs1 hP hD hS => ?_)
  rw [hv] at hP hD
  have e := wl_set (x := upd x j.toNatClampNeg v) hW.2.1 hn h
  rw [hct] at e
  rw [e, hM2] at hP hD
  exact kk H1 locs1 ⟨hP, hD, hS⟩
theorem x_aald (hx : p.tables.exec = Jvm.exec) (hb : c.code = cc) (hK : va_K D vwCl (tyl cy) s) (hW : Wl D cy ad ns A H0 M H locs) {t i o n : Nat} {x : Nat → Int32} {f : Nat → Nat} {j : Int32} (hn : (t, i, o) ∈ ns) (hM : M t i o = x) (hct : ctA cy ad t i o x = .inl (cy 4, n, rA (rO n f))) (hin : vp_in j n) (hdg : decode cc pc = .ok (.aaload, 1))
    (kk : W p l e R s m args below meth c H locs cells slots Q (F0 m (pc + 1) ls (.ref (f j.toNatClampNeg) :: rest))) : W p l e R s m args below meth c H locs cells slots Q (F0 m pc ls (.int j :: .ref (ad t i o) :: rest)) := by
  obtain ⟨q, h⟩ := wl_get (cy := cy) (ad := ad) (M := M) hn
  rw [hM, hct] at h
  have hlt : j.toNatClampNeg < n := Nat.not_le.mp fun z => hin (Or.inr z)
  have e : Value.ref (f j.toNatClampNeg) = va_rf (rO n f j.toNatClampNeg) := by simp [rO, hlt, va_rf]
  rw [e] at kk
  exact W.aald (v := va_rf (rO n f j.toNatClampNeg)) (ty := .array .int) hx hb (hW.1 q _ h) ((hK.2 4 _ rfl).1 n (fun z => va_rf (rO n f z))) rfl (fun z => by cases z) (by show ¬ (j < 0 ∨ (arrV _ _ _).slots.size ≤ _); rw [arrV_size]; exact hin) (by show (arrV _ _ _).slots[_]? = _; rw [arrV_read _ _ hlt]) rfl rfl hdg kk
theorem x_alen (hx : p.tables.exec = Jvm.exec) (hb : c.code = cc) (hK : va_K D vwCl (tyl cy) s) (hW : Wl D cy ad ns A H0 M H locs) {t i o n k : Nat} {x : Nat → Int32} {f : (Nat → Int32) ⊕ (Nat → Int64) ⊕ (Nat → UInt32) ⊕ (Nat → UInt64) ⊕ (Nat → Option Nat)} {v : Int32} (hn : (t, i, o) ∈ ns) (hM : M t i o = x) (hct : ctA cy ad t i o x = .inl (cy k, n, f)) (hk : k < 5) (hv : Int32.ofNat n = v) (hdg : decode cc pc = .ok (.arraylength, 1))
    (kk : W p l e R s m args below meth c H locs cells slots Q (F0 m (pc + 1) ls (.int v :: rest))) : W p l e R s m args below meth c H locs cells slots Q (F0 m pc ls (.ref (ad t i o) :: rest)) := by
  obtain ⟨q, h⟩ := wl_get (cy := cy) (ad := ad) (M := M) hn
  rw [hM, hct] at h
  rcases (show k = 0 ∨ k = 1 ∨ k = 2 ∨ k = 3 ∨ k = 4 by omega) with rfl | rfl | rfl | rfl | rfl
  · exact va_alen hx hb hK hW.1 q 0 h rfl hv hdg kk
  · exact va_alen hx hb hK hW.1 q 1 h rfl hv hdg kk
  · exact va_alen hx hb hK hW.1 q 2 h rfl hv hdg kk
  · exact va_alen hx hb hK hW.1 q 3 h rfl hv hdg kk
  · exact va_alen hx hb hK hW.1 q 4 h rfl hv hdg kk
theorem x_good {y : MethodName} {b : ByteArray} {n : Nat} {r : Option FieldType} (h : Cond.code y b n r ∈ tk_tb) : GoodIn tk_tb (.code y b n r :: tk_tb) := by
  intro w hw
  rcases List.mem_cons.mp hw with rfl | hw
  · exact ⟨h, Or.inl rfl⟩
  · exact ⟨hw, (tb_good w hw).2⟩
theorem x_pre {y : Array Value} {sz : Nat} {As : List Value} : FrameBlind (va_Pc As (fun U => U.heap.size = sz ∧ Wo D cy ad ns M U)) :=
  fun a U g mk q => by obtain ⟨q0, q1, qP, qK, qD⟩ := q; exact ⟨q0, q1, qP, va_K.moved (u := U) (U := U.calling g mk a) (Vm.Alike.refl U.vm) qK, qD⟩
theorem x_start (hK : va_K D vwCl (tyl cy) s) (hW : Wl D cy ad ns A H0 M H locs) {As : List Value} : ∀ U : State, U.heap = H → s.WarmedH U.vm → va_Pc As (fun U => U.heap.size = H.size ∧ Wo D cy ad ns M U) As.toArray U :=
  fun U hU hw => ⟨rfl, by rw [hU], by rw [hU]; exact hW.1, va_K.moved hw.alike hK, hW.2.1.weaken (fun _ _ _ _ => trivial)⟩
theorem x_aw (hW : Wl D cy ad ns A H0 M H locs) (hA : ∀ q, H0.size ≤ q → A q) : ∀ q, Aw ad ns H.size q → A q := by
  intro q h
  rcases h with ⟨n, hn, rfl⟩ | h
  · exact hW.in n hn
  · exact hA q (Nat.le_trans hW.2.2.1 h)
theorem x_back (hW : Wl D cy ad ns A H0 M H locs) {M2 : Me} {U : State} {H1 : Heap} {locs1 : List Loc} (hU : U.heap = H1) (h : Wo D cy ad ns M2 U) (hS : va_S A H0 H1 locs1) : Wl D cy ad ns A H0 M2 H1 locs1 := by
  refine ⟨by rw [← hU]; exact h.1, wl_apart hW.2.1 hW.in, hS⟩
section XC
variable {y : MethodName} {bytes : ByteArray} {maxL nL n index : Nat} {rm : Room} {own : String} {As : List Value} {st0 : List Value} {M2 : Me}
/-- a call of an instance method that answers an int -/
theorem x_vi {rt : Option FieldType} (hx : p.tables.exec = Jvm.exec) (hb : c.code = cc) (hml : c.maxLocals = nL) (hts : ∀ w ∈ tk_tb, w.before args s = true) (hown : s.vm.findClass own = some m.cls) (hK : va_K D vwCl (tyl cy) s) (hW : Wl D cy ad ns A H0 M H locs) (hA : ∀ q, H0.size ≤ q → A q) {t i ci : Nat} {fs : List Value} {x : Nat → Int32} {cq : vw_C} {r : Int32}
    (hC : Ci l y (.code y bytes maxL rt :: tk_tb) rm D cy ad ns (.ref (ad t i 0) :: As) M r M2) (hn : (t, i, 0) ∈ ns) (hM : M t i 0 = x) (hct : ctA cy ad t i 0 x = .inr (ci, fs)) (hc : vwCl[ci]? = some cq) (hcq : cq.1 = y.cls)
    (w1 : Cond.methodLink own index y ∈ tk_tb) (w2 : Cond.instanceMethod y ∈ tk_tb) (w3 : Cond.selects y.cls y y ∈ tk_tb) (w4 : Cond.initialized y.cls ∈ tk_tb) (w5 : Cond.code y bytes maxL rt ∈ tk_tb) (hnA : As.length = n) (hd : y.cls ≠ "java/lang/invoke/MethodHandle" ∧ y.cls ≠ "java/lang/invoke/VarHandle" ∧ (parseMethodDescriptor y.desc).map (fun d => d.parameters.length) = some n)
    (hrc : rm.cells = 0) (hrs : rm.slots = 0) (hR : rm.frames + 1 ≤ R.frames ∧ 8 + (maxL + 11) + rm.locals ≤ R.locals) (hls : ls.size = nL) (hst : st0 = As.reverse ++ .ref (ad t i 0) :: rest) (hroom : 2 * (F0 m pc ls st0).monitorRoom + (rest.map fun v => v.category).sum ≤ 8) (hdg : decode cc pc = .ok (.invokevirtual index, 3)) (hf : cells ≤ R.cells ∧ slots ≤ R.slots)
    (kk : ∀ (H1 : Heap) (locs1 : List Loc), Wl D cy ad ns A H0 M2 H1 locs1 → W p l e R s m args below meth c H1 locs1 cells slots Q (F0 m (pc + 3) ls (.int r :: rest))) : W p l e R s m args below meth c H locs cells slots Q (F0 m pc ls st0) := by
  obtain ⟨q, h⟩ := wl_get (cy := cy) (ad := ad) (M := M) hn
  rw [hM, hct] at h
  have hrv := va_recv hK hW.1 hc h
  rw [hcq] at hrv
  refine va_calli (va_runV (As := As) (rest := rest) ⟨hx, hb, hml, hown, hts⟩ (hC H.size) ⟨callB_of n hts (x_good w5) rfl hrc hrs (hts _ w4) (hts _ w1) hd hR, hts _ w2, hts _ w3⟩ ⟨x_pre (y := #[]), hrv, x_start hK hW⟩ rfl hnA hls hst hroom hdg hf) hW.2.2 (fun q _ h => x_aw hW hA q h) (x_aw hW hA) (fun r2 u U H1 locs1 ht hvm hw hB hz1 hk1 hS => ?_)
  obtain ⟨rfl, rfl⟩ := hw
  exact kk H1 locs1 (x_back hW ht hB hS)
theorem x_vv (hx : p.tables.exec = Jvm.exec) (hb : c.code = cc) (hml : c.maxLocals = nL) (hts : ∀ w ∈ tk_tb, w.before args s = true) (hown : s.vm.findClass own = some m.cls) (hK : va_K D vwCl (tyl cy) s) (hW : Wl D cy ad ns A H0 M H locs) (hA : ∀ q, H0.size ≤ q → A q) {t i ci : Nat} {fs : List Value} {x : Nat → Int32} {cq : vw_C}
    (hC : Cv l y (.code y bytes maxL none :: tk_tb) rm D cy ad ns (.ref (ad t i 0) :: As) M M2) (hn : (t, i, 0) ∈ ns) (hM : M t i 0 = x) (hct : ctA cy ad t i 0 x = .inr (ci, fs)) (hc : vwCl[ci]? = some cq) (hcq : cq.1 = y.cls)
    (w1 : Cond.methodLink own index y ∈ tk_tb) (w2 : Cond.instanceMethod y ∈ tk_tb) (w3 : Cond.selects y.cls y y ∈ tk_tb) (w4 : Cond.initialized y.cls ∈ tk_tb) (w5 : Cond.code y bytes maxL none ∈ tk_tb) (hnA : As.length = n) (hd : y.cls ≠ "java/lang/invoke/MethodHandle" ∧ y.cls ≠ "java/lang/invoke/VarHandle" ∧ (parseMethodDescriptor y.desc).map (fun d => d.parameters.length) = some n)
    (hrc : rm.cells = 0) (hrs : rm.slots = 0) (hR : rm.frames + 1 ≤ R.frames ∧ 8 + (maxL + 11) + rm.locals ≤ R.locals) (hls : ls.size = nL) (hst : st0 = As.reverse ++ .ref (ad t i 0) :: rest) (hroom : 2 * (F0 m pc ls st0).monitorRoom + (rest.map fun v => v.category).sum ≤ 8) (hdg : decode cc pc = .ok (.invokevirtual index, 3)) (hf : cells ≤ R.cells ∧ slots ≤ R.slots)
    (kk : ∀ (H1 : Heap) (locs1 : List Loc), Wl D cy ad ns A H0 M2 H1 locs1 → W p l e R s m args below meth c H1 locs1 cells slots Q (F0 m (pc + 3) ls rest)) : W p l e R s m args below meth c H locs cells slots Q (F0 m pc ls st0) := by
  obtain ⟨q, h⟩ := wl_get (cy := cy) (ad := ad) (M := M) hn
  rw [hM, hct] at h
  have hrv := va_recv hK hW.1 hc h
  rw [hcq] at hrv
  refine va_callv (va_runV (As := As) (rest := rest) ⟨hx, hb, hml, hown, hts⟩ (hC H.size) ⟨callB_of n hts (x_good w5) rfl hrc hrs (hts _ w4) (hts _ w1) hd hR, hts _ w2, hts _ w3⟩ ⟨x_pre (y := #[]), hrv, x_start hK hW⟩ rfl hnA hls hst hroom hdg hf) hW.2.2 (fun q _ h => x_aw hW hA q h) (x_aw hW hA) (fun u U H1 locs1 ht hvm hw hB hz1 hk1 hS => ?_)
  subst hw
  exact kk H1 locs1 (x_back hW ht hB hS)
theorem x_si {rt : Option FieldType} (hx : p.tables.exec = Jvm.exec) (hb : c.code = cc) (hml : c.maxLocals = nL) (hts : ∀ w ∈ tk_tb, w.before args s = true) (hown : s.vm.findClass own = some m.cls) (hK : va_K D vwCl (tyl cy) s) (hW : Wl D cy ad ns A H0 M H locs) (hA : ∀ q, H0.size ≤ q → A q) {r : Int32}
    (hC : Ci l y (.code y bytes maxL rt :: tk_tb) rm D cy ad ns As M r M2)
    (w1 : Cond.methodLink own index y ∈ tk_tb) (w2 : Cond.static y ∈ tk_tb) (w4 : Cond.initialized y.cls ∈ tk_tb) (w5 : Cond.code y bytes maxL rt ∈ tk_tb) (hnA : As.length = n) (hd : y.cls ≠ "java/lang/invoke/MethodHandle" ∧ y.cls ≠ "java/lang/invoke/VarHandle" ∧ (parseMethodDescriptor y.desc).map (fun d => d.parameters.length) = some n)
    (hrc : rm.cells = 0) (hrs : rm.slots = 0) (hR : rm.frames + 1 ≤ R.frames ∧ 8 + (maxL + 11) + rm.locals ≤ R.locals) (hls : ls.size = nL) (hst : st0 = As.reverse ++ rest) (hroom : 2 * (F0 m pc ls st0).monitorRoom + (rest.map fun v => v.category).sum ≤ 8) (hdg : decode cc pc = .ok (.invokestatic index, 3)) (hf : cells ≤ R.cells ∧ slots ≤ R.slots)
    (kk : ∀ (H1 : Heap) (locs1 : List Loc), Wl D cy ad ns A H0 M2 H1 locs1 → W p l e R s m args below meth c H1 locs1 cells slots Q (F0 m (pc + 3) ls (.int r :: rest))) : W p l e R s m args below meth c H locs cells slots Q (F0 m pc ls st0) := by
  refine va_calli (va_runS (As := As) (rest := rest) ⟨hx, hb, hml, hown, hts⟩ (hC H.size) ⟨callB_of n hts (x_good w5) rfl hrc hrs (hts _ w4) (hts _ w1) hd hR, hts _ w2⟩ ⟨x_pre (y := #[]), x_start hK hW⟩ rfl hnA hls hst hroom hdg hf) hW.2.2 (fun q _ h => x_aw hW hA q h) (x_aw hW hA) (fun r2 u U H1 locs1 ht hvm hw hB hz1 hk1 hS => ?_)
  obtain ⟨rfl, rfl⟩ := hw
  exact kk H1 locs1 (x_back hW ht hB hS)
theorem x_sv (hx : p.tables.exec = Jvm.exec) (hb : c.code = cc) (hml : c.maxLocals = nL) (hts : ∀ w ∈ tk_tb, w.before args s = true) (hown : s.vm.findClass own = some m.cls) (hK : va_K D vwCl (tyl cy) s) (hW : Wl D cy ad ns A H0 M H locs) (hA : ∀ q, H0.size ≤ q → A q)
    (hC : Cv l y (.code y bytes maxL none :: tk_tb) rm D cy ad ns As M M2)
    (w1 : Cond.methodLink own index y ∈ tk_tb) (w2 : Cond.static y ∈ tk_tb) (w4 : Cond.initialized y.cls ∈ tk_tb) (w5 : Cond.code y bytes maxL none ∈ tk_tb) (hnA : As.length = n) (hd : y.cls ≠ "java/lang/invoke/MethodHandle" ∧ y.cls ≠ "java/lang/invoke/VarHandle" ∧ (parseMethodDescriptor y.desc).map (fun d => d.parameters.length) = some n)
    (hrc : rm.cells = 0) (hrs : rm.slots = 0) (hR : rm.frames + 1 ≤ R.frames ∧ 8 + (maxL + 11) + rm.locals ≤ R.locals) (hls : ls.size = nL) (hst : st0 = As.reverse ++ rest) (hroom : 2 * (F0 m pc ls st0).monitorRoom + (rest.map fun v => v.category).sum ≤ 8) (hdg : decode cc pc = .ok (.invokestatic index, 3)) (hf : cells ≤ R.cells ∧ slots ≤ R.slots)
    (kk : ∀ (H1 : Heap) (locs1 : List Loc), Wl D cy ad ns A H0 M2 H1 locs1 → W p l e R s m args below meth c H1 locs1 cells slots Q (F0 m (pc + 3) ls rest)) : W p l e R s m args below meth c H locs cells slots Q (F0 m pc ls st0) := by
  refine va_callv (va_runS (As := As) (rest := rest) ⟨hx, hb, hml, hown, hts⟩ (hC H.size) ⟨callB_of n hts (x_good w5) rfl hrc hrs (hts _ w4) (hts _ w1) hd hR, hts _ w2⟩ ⟨x_pre (y := #[]), x_start hK hW⟩ rfl hnA hls hst hroom hdg hf) hW.2.2 (fun q _ h => x_aw hW hA q h) (x_aw hW hA) (fun u U H1 locs1 ht hvm hw hB hz1 hk1 hS => ?_)
  subst hw
  exact kk H1 locs1 (x_back hW ht hB hS)
end XC
end XR
/-- what a walk of a method aims at -/
abbrev QI (below : List Frame) (D : va_G) (cy : Nat → ClassId) (ad : Nat → Nat → Nat → Nat) (ns : List (Nat × Nat × Nat)) (As : List Value) (s : State) (r : Int32) (M2 : Me) : State → Prop := MQ below (va_Qi (fun (r2 : Int32) (N : Me) => r2 = r ∧ N = M2) (fun N U => Wo D cy ad ns N U) (Aw ad ns s.heap.size)) As.toArray s 0 0 (Aw ad ns s.heap.size)
abbrev QV (below : List Frame) (D : va_G) (cy : Nat → ClassId) (ad : Nat → Nat → Nat → Nat) (ns : List (Nat × Nat × Nat)) (As : List Value) (s : State) (M2 : Me) : State → Prop := MQ below (va_Qv (fun (N : Me) => N = M2) (fun N U => Wo D cy ad ns N U) (Aw ad ns s.heap.size)) As.toArray s 0 0 (Aw ad ns s.heap.size)
/-- what holds at a method's entry -/
def En (p : Program) (s : State) (m : MethodId) (meth : Method) (c : Code) (y : MethodName) (cc : ByteArray) (maxL : Nat) (rt : Option FieldType) (D : va_G) (cy : Nat → ClassId) (ad : Nat → Nat → Nat → Nat) (ns : List (Nat × Nat × Nat)) (As : List Value) : Prop :=
  p.tables.exec = Jvm.exec ∧ c.code = cc ∧ meth.sig.returnType = rt ∧ c.maxLocals = maxL ∧ s.vm.findClass y.cls = some m.cls ∧ (∀ w ∈ tk_tb, w.before As.toArray s = true) ∧ meth.locks = false ∧ va_K D vwCl (tyl cy) s
theorem Ci.of {l : Launch} {y : MethodName} {cc : ByteArray} {maxL : Nat} {rt : Option FieldType} {rm : Room} {D : va_G} {cy : Nat → ClassId} {ad : Nat → Nat → Nat → Nat} {ns : List (Nat × Nat × Nat)} {As : List Value} {M : Me} {r : Int32} {M2 : Me} (hy : plainName y.cls = true) (hlen : (lg_sl As).length ≤ maxL)
    (body : ∀ (p : Program) (e : Env) (s : State) (m : MethodId) (below : List Frame) (meth : Method) (c : Code) (ls : Array Slot), En p s m meth c y cc maxL rt D cy ad ns As → Wl D cy ad ns (Aw ad ns s.heap.size) s.heap M s.heap [] → lv_has ls maxL (lv_args 0 As) → W p l e rm s m As.toArray below meth c s.heap [] 0 0 (QI below D cy ad ns As s r M2) (F0 m 0 ls [])) :
    Ci l y (.code y cc maxL rt :: tk_tb) rm D cy ad ns As M r M2 := by
  intro sz
  refine Met.ofW (cc := cc) (maxL := maxL) (ret := rt) hy rfl ?_
  intro p e s m args below meth c s₁ B hml hv
  obtain ⟨rfl, hsz, hP, hK, hD0⟩ := hv
  subst hsz
  have hts := atoms_spec (ws := Cond.code y cc maxL rt :: tk_tb) B.pre
  have hl := lv_entry As (n := maxL) hlen
  rw [lg_entry_eq]
  exact body p e s m below meth c _ ⟨B.exec, B.bytes, B.returns, hml, findClass_of_methodNamed B.named, fun w h => hts w (List.mem_cons_of_mem _ h), B.notSynchronized, hK⟩ ⟨hP, wl_apart hD0 (fun n hn => Or.inl ⟨n, hn, rfl⟩), va_S.rf⟩ hl
theorem Cv.of {l : Launch} {y : MethodName} {cc : ByteArray} {maxL : Nat} {rm : Room} {D : va_G} {cy : Nat → ClassId} {ad : Nat → Nat → Nat → Nat} {ns : List (Nat × Nat × Nat)} {As : List Value} {M : Me} {M2 : Me} (hy : plainName y.cls = true) (hlen : (lg_sl As).length ≤ maxL)
    (body : ∀ (p : Program) (e : Env) (s : State) (m : MethodId) (below : List Frame) (meth : Method) (c : Code) (ls : Array Slot), En p s m meth c y cc maxL none D cy ad ns As → Wl D cy ad ns (Aw ad ns s.heap.size) s.heap M s.heap [] → lv_has ls maxL (lv_args 0 As) → W p l e rm s m As.toArray below meth c s.heap [] 0 0 (QV below D cy ad ns As s M2) (F0 m 0 ls [])) :
    Cv l y (.code y cc maxL none :: tk_tb) rm D cy ad ns As M M2 := by
  intro sz
  refine Met.ofW (cc := cc) (maxL := maxL) (ret := none) hy rfl ?_
  intro p e s m args below meth c s₁ B hml hv
  obtain ⟨rfl, hsz, hP, hK, hD0⟩ := hv
  subst hsz
  have hts := atoms_spec (ws := Cond.code y cc maxL none :: tk_tb) B.pre
  have hl := lv_entry As (n := maxL) hlen
  rw [lg_entry_eq]
  exact body p e s m below meth c _ ⟨B.exec, B.bytes, B.returns, hml, findClass_of_methodNamed B.named, fun w h => hts w (List.mem_cons_of_mem _ h), B.notSynchronized, hK⟩ ⟨hP, wl_apart hD0 (fun n hn => Or.inl ⟨n, hn, rfl⟩), va_S.rf⟩ hl
section XE
variable {p : Program} {l : Launch} {e : Env} {R : Room} {s : State} {m : MethodId} {below : List Frame} {meth : Method} {c : Code} {H : Heap} {locs : List Loc}
variable {cc : ByteArray} {pc : Nat} {ls : Array Slot} {D : va_G} {cy : Nat → ClassId} {ad : Nat → Nat → Nat → Nat} {ns : List (Nat × Nat × Nat)} {M M2 : Me} {As : List Value} {v r : Int32}
theorem x_iret (hx : p.tables.exec = Jvm.exec) (hb : c.code = cc) (hr : meth.sig.returnType = some .int) (hlocks : meth.locks = false) (hK : va_K D vwCl (tyl cy) s) (hW : Wl D cy ad ns (Aw ad ns s.heap.size) s.heap M H locs) (hv : v = r) (hM : M = M2) (hdg : decode cc pc = .ok (.ireturn, 1)) :
    W p l e R s m As.toArray below meth c H locs 0 0 (QI below D cy ad ns As s r M2) (F0 m pc ls [.int v]) := by
  subst hv
  subst hM
  exact W.iret hx hb hr (fun t ht hW2 => ⟨⟨v, M, rfl, ⟨rfl, rfl⟩, by rw [ht]; exact hW.1, va_K.moved hW2.alike hK, hW.2.1.weaken (fun _ _ _ _ => trivial)⟩, hW.2.2.F ht⟩) hW.2.2.2.2 hdg hlocks
theorem x_zret {ty : FieldType} (hx : p.tables.exec = Jvm.exec) (hb : c.code = cc) (hr : meth.sig.returnType = some ty) (hlocks : meth.locks = false) (hn : narrow ty (.int v) = .int v) (hK : va_K D vwCl (tyl cy) s) (hW : Wl D cy ad ns (Aw ad ns s.heap.size) s.heap M H locs) (hv : v = r) (hM : M = M2) (hdg : decode cc pc = .ok (.ireturn, 1)) :
    W p l e R s m As.toArray below meth c H locs 0 0 (QI below D cy ad ns As s r M2) (F0 m pc ls [.int v]) := by
  subst hv
  subst hM
  exact W.zret hx hb hr hn (fun t ht hW2 => ⟨⟨v, M, rfl, ⟨rfl, rfl⟩, by rw [ht]; exact hW.1, va_K.moved hW2.alike hK, hW.2.1.weaken (fun _ _ _ _ => trivial)⟩, hW.2.2.F ht⟩) hW.2.2.2.2 hdg hlocks
theorem x_vret (hx : p.tables.exec = Jvm.exec) (hb : c.code = cc) (hr : meth.sig.returnType = none) (hlocks : meth.locks = false) (hK : va_K D vwCl (tyl cy) s) (hW : Wl D cy ad ns (Aw ad ns s.heap.size) s.heap M H locs) (hM : M = M2) (hdg : decode cc pc = .ok (.return_, 1)) :
    W p l e R s m As.toArray below meth c H locs 0 0 (QV below D cy ad ns As s M2) (F0 m pc ls []) := by
  subst hM
  exact W.vret hx hb hr (fun t ht hW2 => ⟨⟨M, rfl, rfl, by rw [ht]; exact hW.1, va_K.moved hW2.alike hK, hW.2.1.weaken (fun _ _ _ _ => trivial)⟩, hW.2.2.F ht⟩) hW.2.2.2.2 hdg hlocks
end XE
/-! the words of the mirrored programs -/
def rd {α : Type} (n : Nat) (x : Nat → Int32) (j : Int32) (k : Int32 → Option α) : Option α := if j < 0 ∨ n ≤ j.toNatClampNeg then none else k (x j.toNatClampNeg)
def ck {α : Type} (n : Nat) (j : Int32) (k : Option α) : Option α := if j < 0 ∨ n ≤ j.toNatClampNeg then none else k
def nz {α : Type} (d : Int32) (k : Option α) : Option α := if d = 0 then none else k
theorem rd_some {α : Type} {n : Nat} {x : Nat → Int32} {j : Int32} {k : Int32 → Option α} {r : α} (h : rd n x j k = some r) : vp_in j n ∧ k (x j.toNatClampNeg) = some r := by
  unfold rd at h
  split at h
  · cases h
  · exact ⟨by assumption, h⟩
theorem ck_some {α : Type} {n : Nat} {j : Int32} {k : Option α} {r : α} (h : ck n j k = some r) : vp_in j n ∧ k = some r := by
  unfold ck at h
  split at h
  · cases h
  · exact ⟨by assumption, h⟩
theorem nz_some {α : Type} {d : Int32} {k : Option α} {r : α} (h : nz d k = some r) : ¬ d = 0 ∧ k = some r := by
  unfold nz at h
  split at h
  · cases h
  · exact ⟨by assumption, h⟩
theorem bd_some {α β : Type} {o : Option β} {k : β → Option α} {r : α} (h : o.bind k = some r) : ∃ b, o = some b ∧ k b = some r := by
  cases o with
  | none => cases h
  | some b => exact ⟨b, rfl, h⟩
theorem vp_lt {j : Int32} {n : Nat} (h : vp_in j n) : j.toNatClampNeg < n := Nat.not_le.mp fun z => h (Or.inr z)
end
section
theorem dJ7_fill_53178_0 : decode cJ7_fill_53178 0 = .ok (.iconst 0, 1) := by decide +kernel
theorem dJ7_fill_53178_1 : decode cJ7_fill_53178 1 = .ok (.istore_n 2, 1) := by decide +kernel
theorem dJ7_fill_53178_2 : decode cJ7_fill_53178 2 = .ok (.aload_n 0, 1) := by decide +kernel
theorem dJ7_fill_53178_3 : decode cJ7_fill_53178 3 = .ok (.arraylength, 1) := by decide +kernel
theorem dJ7_fill_53178_4 : decode cJ7_fill_53178 4 = .ok (.istore_n 3, 1) := by decide +kernel
theorem dJ7_fill_53178_5 : decode cJ7_fill_53178 5 = .ok (.iload_n 2, 1) := by decide +kernel
theorem dJ7_fill_53178_6 : decode cJ7_fill_53178 6 = .ok (.iload_n 3, 1) := by decide +kernel
theorem dJ7_fill_53178_7 : decode cJ7_fill_53178 7 = .ok (.if_icmp .ge 13, 3) := by decide +kernel
theorem dJ7_fill_53178_10 : decode cJ7_fill_53178 10 = .ok (.aload_n 0, 1) := by decide +kernel
theorem dJ7_fill_53178_11 : decode cJ7_fill_53178 11 = .ok (.iload_n 2, 1) := by decide +kernel
theorem dJ7_fill_53178_12 : decode cJ7_fill_53178 12 = .ok (.iload_n 1, 1) := by decide +kernel
theorem dJ7_fill_53178_13 : decode cJ7_fill_53178 13 = .ok (.iastore, 1) := by decide +kernel
theorem dJ7_fill_53178_14 : decode cJ7_fill_53178 14 = .ok (.iinc 2 1, 3) := by decide +kernel
theorem dJ7_fill_53178_17 : decode cJ7_fill_53178 17 = .ok (.goto (-12), 3) := by decide +kernel
theorem dJ7_fill_53178_20 : decode cJ7_fill_53178 20 = .ok (.return_, 1) := by decide +kernel
theorem dJ9_max_7cf53_0 : decode cJ9_max_7cf53 0 = .ok (.iload_n 0, 1) := by decide +kernel
theorem dJ9_max_7cf53_1 : decode cJ9_max_7cf53 1 = .ok (.iload_n 1, 1) := by decide +kernel
theorem dJ9_max_7cf53_2 : decode cJ9_max_7cf53 2 = .ok (.if_icmp .lt 7, 3) := by decide +kernel
theorem dJ9_max_7cf53_5 : decode cJ9_max_7cf53 5 = .ok (.iload_n 0, 1) := by decide +kernel
theorem dJ9_max_7cf53_6 : decode cJ9_max_7cf53 6 = .ok (.goto 4, 3) := by decide +kernel
theorem dJ9_max_7cf53_9 : decode cJ9_max_7cf53 9 = .ok (.iload_n 1, 1) := by decide +kernel
theorem dJ9_max_7cf53_10 : decode cJ9_max_7cf53 10 = .ok (.ireturn, 1) := by decide +kernel
theorem dJ9_min_7cf53_0 : decode cJ9_min_7cf53 0 = .ok (.iload_n 0, 1) := by decide +kernel
theorem dJ9_min_7cf53_1 : decode cJ9_min_7cf53 1 = .ok (.iload_n 1, 1) := by decide +kernel
theorem dJ9_min_7cf53_2 : decode cJ9_min_7cf53 2 = .ok (.if_icmp .gt 7, 3) := by decide +kernel
theorem dJ9_min_7cf53_5 : decode cJ9_min_7cf53 5 = .ok (.iload_n 0, 1) := by decide +kernel
theorem dJ9_min_7cf53_6 : decode cJ9_min_7cf53 6 = .ok (.goto 4, 3) := by decide +kernel
theorem dJ9_min_7cf53_9 : decode cJ9_min_7cf53 9 = .ok (.iload_n 1, 1) := by decide +kernel
theorem dJ9_min_7cf53_10 : decode cJ9_min_7cf53 10 = .ok (.ireturn, 1) := by decide +kernel
theorem dX0_init_0 : decode cX0_init 0 = .ok (.aload_n 0, 1) := by decide +kernel
theorem dX0_init_1 : decode cX0_init 1 = .ok (.invokespecial 3, 3) := by decide +kernel
theorem dX0_init_4 : decode cX0_init 4 = .ok (.aload_n 0, 1) := by decide +kernel
theorem dX0_init_5 : decode cX0_init 5 = .ok (.new 9, 3) := by decide +kernel
theorem dX0_init_8 : decode cX0_init 8 = .ok (.dup, 1) := by decide +kernel
theorem dX0_init_9 : decode cX0_init 9 = .ok (.iconst 3, 1) := by decide +kernel
theorem dX0_init_10 : decode cX0_init 10 = .ok (.invokespecial 11, 3) := by decide +kernel
theorem dX0_init_13 : decode cX0_init 13 = .ok (.putfield 14, 3) := by decide +kernel
theorem dX0_init_16 : decode cX0_init 16 = .ok (.aload_n 0, 1) := by decide +kernel
theorem dX0_init_17 : decode cX0_init 17 = .ok (.iconst 0, 1) := by decide +kernel
theorem dX0_init_18 : decode cX0_init 18 = .ok (.putfield 20, 3) := by decide +kernel
theorem dX0_init_21 : decode cX0_init 21 = .ok (.aload_n 0, 1) := by decide +kernel
theorem dX0_init_22 : decode cX0_init 22 = .ok (.iconst 0, 1) := by decide +kernel
theorem dX0_init_23 : decode cX0_init 23 = .ok (.putfield 24, 3) := by decide +kernel
theorem dX0_init_26 : decode cX0_init 26 = .ok (.aload_n 0, 1) := by decide +kernel
theorem dX0_init_27 : decode cX0_init 27 = .ok (.new 27, 3) := by decide +kernel
theorem dX0_init_30 : decode cX0_init 30 = .ok (.dup, 1) := by decide +kernel
theorem dX0_init_31 : decode cX0_init 31 = .ok (.iload_n 1, 1) := by decide +kernel
theorem dX0_init_32 : decode cX0_init 32 = .ok (.invokespecial 29, 3) := by decide +kernel
theorem dX0_init_35 : decode cX0_init 35 = .ok (.putfield 30, 3) := by decide +kernel
theorem dX0_init_38 : decode cX0_init 38 = .ok (.aload_n 0, 1) := by decide +kernel
theorem dX0_init_39 : decode cX0_init 39 = .ok (.iload_n 2, 1) := by decide +kernel
theorem dX0_init_40 : decode cX0_init 40 = .ok (.putfield 34, 3) := by decide +kernel
theorem dX0_init_43 : decode cX0_init 43 = .ok (.aload_n 0, 1) := by decide +kernel
theorem dX0_init_44 : decode cX0_init 44 = .ok (.iload_n 3, 1) := by decide +kernel
theorem dX0_init_45 : decode cX0_init 45 = .ok (.putfield 37, 3) := by decide +kernel
theorem dX0_init_48 : decode cX0_init 48 = .ok (.return_, 1) := by decide +kernel
theorem dX0_tellMode_0 : decode cX0_tellMode 0 = .ok (.aload_n 0, 1) := by decide +kernel
theorem dX0_tellMode_1 : decode cX0_tellMode 1 = .ok (.getfield 20, 3) := by decide +kernel
theorem dX0_tellMode_4 : decode cX0_tellMode 4 = .ok (.istore_n 2, 1) := by decide +kernel
theorem dX0_tellMode_5 : decode cX0_tellMode 5 = .ok (.aload_n 0, 1) := by decide +kernel
theorem dX0_tellMode_6 : decode cX0_tellMode 6 = .ok (.iload_n 1, 1) := by decide +kernel
theorem dX0_tellMode_7 : decode cX0_tellMode 7 = .ok (.putfield 20, 3) := by decide +kernel
theorem dX0_tellMode_10 : decode cX0_tellMode 10 = .ok (.iload_n 2, 1) := by decide +kernel
theorem dX0_tellMode_11 : decode cX0_tellMode 11 = .ok (.ireturn, 1) := by decide +kernel
theorem dX0_protectedLimit_0 : decode cX0_protectedLimit 0 = .ok (.aload_n 0, 1) := by decide +kernel
theorem dX0_protectedLimit_1 : decode cX0_protectedLimit 1 = .ok (.getfield 34, 3) := by decide +kernel
theorem dX0_protectedLimit_4 : decode cX0_protectedLimit 4 = .ok (.aload_n 0, 1) := by decide +kernel
theorem dX0_protectedLimit_5 : decode cX0_protectedLimit 5 = .ok (.getfield 37, 3) := by decide +kernel
theorem dX0_protectedLimit_8 : decode cX0_protectedLimit 8 = .ok (.isub, 1) := by decide +kernel
theorem dX0_protectedLimit_9 : decode cX0_protectedLimit 9 = .ok (.iconst 4, 1) := by decide +kernel
theorem dX0_protectedLimit_10 : decode cX0_protectedLimit 10 = .ok (.imul, 1) := by decide +kernel
theorem dX0_protectedLimit_11 : decode cX0_protectedLimit 11 = .ok (.iconst 5, 1) := by decide +kernel
theorem dX0_protectedLimit_12 : decode cX0_protectedLimit 12 = .ok (.idiv, 1) := by decide +kernel
theorem dX0_protectedLimit_13 : decode cX0_protectedLimit 13 = .ok (.ireturn, 1) := by decide +kernel
theorem dX0_keysThere_0 : decode cX0_keysThere 0 = .ok (.aload_n 0, 1) := by decide +kernel
theorem dX0_keysThere_1 : decode cX0_keysThere 1 = .ok (.getfield 14, 3) := by decide +kernel
theorem dX0_keysThere_4 : decode cX0_keysThere 4 = .ok (.getfield 40, 3) := by decide +kernel
theorem dX0_keysThere_7 : decode cX0_keysThere 7 = .ok (.iconst 0, 1) := by decide +kernel
theorem dX0_keysThere_8 : decode cX0_keysThere 8 = .ok (.iaload, 1) := by decide +kernel
theorem dX0_keysThere_9 : decode cX0_keysThere 9 = .ok (.aload_n 0, 1) := by decide +kernel
theorem dX0_keysThere_10 : decode cX0_keysThere 10 = .ok (.invokevirtual 44, 3) := by decide +kernel
theorem dX0_keysThere_13 : decode cX0_keysThere 13 = .ok (.iadd, 1) := by decide +kernel
theorem dX0_keysThere_14 : decode cX0_keysThere 14 = .ok (.ireturn, 1) := by decide +kernel
theorem dX0_keysInMain_0 : decode cX0_keysInMain 0 = .ok (.aload_n 0, 1) := by decide +kernel
theorem dX0_keysInMain_1 : decode cX0_keysInMain 1 = .ok (.getfield 14, 3) := by decide +kernel
theorem dX0_keysInMain_4 : decode cX0_keysInMain 4 = .ok (.getfield 40, 3) := by decide +kernel
theorem dX0_keysInMain_7 : decode cX0_keysInMain 7 = .ok (.iconst 1, 1) := by decide +kernel
theorem dX0_keysInMain_8 : decode cX0_keysInMain 8 = .ok (.iaload, 1) := by decide +kernel
theorem dX0_keysInMain_9 : decode cX0_keysInMain 9 = .ok (.aload_n 0, 1) := by decide +kernel
theorem dX0_keysInMain_10 : decode cX0_keysInMain 10 = .ok (.getfield 14, 3) := by decide +kernel
theorem dX0_keysInMain_13 : decode cX0_keysInMain 13 = .ok (.getfield 40, 3) := by decide +kernel
theorem dX0_keysInMain_16 : decode cX0_keysInMain 16 = .ok (.iconst 2, 1) := by decide +kernel
theorem dX0_keysInMain_17 : decode cX0_keysInMain 17 = .ok (.iaload, 1) := by decide +kernel
theorem dX0_keysInMain_18 : decode cX0_keysInMain 18 = .ok (.iadd, 1) := by decide +kernel
theorem dX0_keysInMain_19 : decode cX0_keysInMain 19 = .ok (.ireturn, 1) := by decide +kernel
theorem dX0_unitsInMain_0 : decode cX0_unitsInMain 0 = .ok (.aload_n 0, 1) := by decide +kernel
theorem dX0_unitsInMain_1 : decode cX0_unitsInMain 1 = .ok (.getfield 14, 3) := by decide +kernel
theorem dX0_unitsInMain_4 : decode cX0_unitsInMain 4 = .ok (.getfield 48, 3) := by decide +kernel
theorem dX0_unitsInMain_7 : decode cX0_unitsInMain 7 = .ok (.iconst 1, 1) := by decide +kernel
theorem dX0_unitsInMain_8 : decode cX0_unitsInMain 8 = .ok (.iaload, 1) := by decide +kernel
theorem dX0_unitsInMain_9 : decode cX0_unitsInMain 9 = .ok (.aload_n 0, 1) := by decide +kernel
theorem dX0_unitsInMain_10 : decode cX0_unitsInMain 10 = .ok (.getfield 14, 3) := by decide +kernel
theorem dX0_unitsInMain_13 : decode cX0_unitsInMain 13 = .ok (.getfield 48, 3) := by decide +kernel
theorem dX0_unitsInMain_16 : decode cX0_unitsInMain 16 = .ok (.iconst 2, 1) := by decide +kernel
theorem dX0_unitsInMain_17 : decode cX0_unitsInMain 17 = .ok (.iaload, 1) := by decide +kernel
theorem dX0_unitsInMain_18 : decode cX0_unitsInMain 18 = .ok (.iadd, 1) := by decide +kernel
theorem dX0_unitsInMain_19 : decode cX0_unitsInMain 19 = .ok (.ireturn, 1) := by decide +kernel
theorem dX0_touch_0 : decode cX0_touch 0 = .ok (.aload_n 0, 1) := by decide +kernel
theorem dX0_touch_1 : decode cX0_touch 1 = .ok (.getfield 14, 3) := by decide +kernel
theorem dX0_touch_4 : decode cX0_touch 4 = .ok (.getfield 51, 3) := by decide +kernel
theorem dX0_touch_7 : decode cX0_touch 7 = .ok (.iload_n 1, 1) := by decide +kernel
theorem dX0_touch_8 : decode cX0_touch 8 = .ok (.iaload, 1) := by decide +kernel
theorem dX0_touch_9 : decode cX0_touch 9 = .ok (.istore_n 2, 1) := by decide +kernel
theorem dX0_touch_10 : decode cX0_touch 10 = .ok (.iload_n 2, 1) := by decide +kernel
theorem dX0_touch_11 : decode cX0_touch 11 = .ok (.iconst 1, 1) := by decide +kernel
theorem dX0_touch_12 : decode cX0_touch 12 = .ok (.if_icmp .ne 19, 3) := by decide +kernel
theorem dX0_touch_15 : decode cX0_touch 15 = .ok (.aload_n 0, 1) := by decide +kernel
theorem dX0_touch_16 : decode cX0_touch 16 = .ok (.getfield 14, 3) := by decide +kernel
theorem dX0_touch_19 : decode cX0_touch 19 = .ok (.iconst 2, 1) := by decide +kernel
theorem dX0_touch_20 : decode cX0_touch 20 = .ok (.iload_n 1, 1) := by decide +kernel
theorem dX0_touch_21 : decode cX0_touch 21 = .ok (.invokevirtual 54, 3) := by decide +kernel
theorem dX0_touch_24 : decode cX0_touch 24 = .ok (.aload_n 0, 1) := by decide +kernel
theorem dX0_touch_25 : decode cX0_touch 25 = .ok (.invokevirtual 58, 3) := by decide +kernel
theorem dX0_touch_28 : decode cX0_touch 28 = .ok (.goto 17, 3) := by decide +kernel
theorem dX0_touch_31 : decode cX0_touch 31 = .ok (.iload_n 2, 1) := by decide +kernel
theorem dX0_touch_32 : decode cX0_touch 32 = .ok (.iconst (-1), 1) := by decide +kernel
theorem dX0_touch_33 : decode cX0_touch 33 = .ok (.if_icmp .eq 12, 3) := by decide +kernel
theorem dX0_touch_36 : decode cX0_touch 36 = .ok (.aload_n 0, 1) := by decide +kernel
theorem dX0_touch_37 : decode cX0_touch 37 = .ok (.getfield 14, 3) := by decide +kernel
theorem dX0_touch_40 : decode cX0_touch 40 = .ok (.iload_n 2, 1) := by decide +kernel
theorem dX0_touch_41 : decode cX0_touch 41 = .ok (.iload_n 1, 1) := by decide +kernel
theorem dX0_touch_42 : decode cX0_touch 42 = .ok (.invokevirtual 54, 3) := by decide +kernel
theorem dX0_touch_45 : decode cX0_touch 45 = .ok (.return_, 1) := by decide +kernel
theorem dX0_settle_0 : decode cX0_settle 0 = .ok (.aload_n 0, 1) := by decide +kernel
theorem dX0_settle_1 : decode cX0_settle 1 = .ok (.invokevirtual 61, 3) := by decide +kernel
theorem dX0_settle_4 : decode cX0_settle 4 = .ok (.istore_n 1, 1) := by decide +kernel
theorem dX0_settle_5 : decode cX0_settle 5 = .ok (.aload_n 0, 1) := by decide +kernel
theorem dX0_settle_6 : decode cX0_settle 6 = .ok (.getfield 14, 3) := by decide +kernel
theorem dX0_settle_9 : decode cX0_settle 9 = .ok (.getfield 40, 3) := by decide +kernel
theorem dX0_settle_12 : decode cX0_settle 12 = .ok (.iconst 2, 1) := by decide +kernel
theorem dX0_settle_13 : decode cX0_settle 13 = .ok (.iaload, 1) := by decide +kernel
theorem dX0_settle_14 : decode cX0_settle 14 = .ok (.istore_n 2, 1) := by decide +kernel
theorem dX0_settle_15 : decode cX0_settle 15 = .ok (.iload_n 2, 1) := by decide +kernel
theorem dX0_settle_16 : decode cX0_settle 16 = .ok (.ifCond .le 42, 3) := by decide +kernel
theorem dX0_settle_19 : decode cX0_settle 19 = .ok (.aload_n 0, 1) := by decide +kernel
theorem dX0_settle_20 : decode cX0_settle 20 = .ok (.getfield 14, 3) := by decide +kernel
theorem dX0_settle_23 : decode cX0_settle 23 = .ok (.getfield 48, 3) := by decide +kernel
theorem dX0_settle_26 : decode cX0_settle 26 = .ok (.iconst 2, 1) := by decide +kernel
theorem dX0_settle_27 : decode cX0_settle 27 = .ok (.iaload, 1) := by decide +kernel
theorem dX0_settle_28 : decode cX0_settle 28 = .ok (.iload_n 1, 1) := by decide +kernel
theorem dX0_settle_29 : decode cX0_settle 29 = .ok (.if_icmp .gt 4, 3) := by decide +kernel
theorem dX0_settle_32 : decode cX0_settle 32 = .ok (.return_, 1) := by decide +kernel
theorem dX0_settle_33 : decode cX0_settle 33 = .ok (.aload_n 0, 1) := by decide +kernel
theorem dX0_settle_34 : decode cX0_settle 34 = .ok (.getfield 14, 3) := by decide +kernel
theorem dX0_settle_37 : decode cX0_settle 37 = .ok (.iconst 1, 1) := by decide +kernel
theorem dX0_settle_38 : decode cX0_settle 38 = .ok (.aload_n 0, 1) := by decide +kernel
theorem dX0_settle_39 : decode cX0_settle 39 = .ok (.getfield 14, 3) := by decide +kernel
theorem dX0_settle_42 : decode cX0_settle 42 = .ok (.getfield 64, 3) := by decide +kernel
theorem dX0_settle_45 : decode cX0_settle 45 = .ok (.iconst 2, 1) := by decide +kernel
theorem dX0_settle_46 : decode cX0_settle 46 = .ok (.aaload, 1) := by decide +kernel
theorem dX0_settle_47 : decode cX0_settle 47 = .ok (.iconst 0, 1) := by decide +kernel
theorem dX0_settle_48 : decode cX0_settle 48 = .ok (.iaload, 1) := by decide +kernel
theorem dX0_settle_49 : decode cX0_settle 49 = .ok (.invokevirtual 54, 3) := by decide +kernel
theorem dX0_settle_52 : decode cX0_settle 52 = .ok (.iinc 2 (-1), 3) := by decide +kernel
theorem dX0_settle_55 : decode cX0_settle 55 = .ok (.goto (-40), 3) := by decide +kernel
theorem dX0_settle_58 : decode cX0_settle 58 = .ok (.return_, 1) := by decide +kernel
theorem dX0_bringIn_0 : decode cX0_bringIn 0 = .ok (.aload_n 0, 1) := by decide +kernel
theorem dX0_bringIn_1 : decode cX0_bringIn 1 = .ok (.getfield 14, 3) := by decide +kernel
theorem dX0_bringIn_4 : decode cX0_bringIn 4 = .ok (.getfield 68, 3) := by decide +kernel
theorem dX0_bringIn_7 : decode cX0_bringIn 7 = .ok (.iload_n 1, 1) := by decide +kernel
theorem dX0_bringIn_8 : decode cX0_bringIn 8 = .ok (.iaload, 1) := by decide +kernel
theorem dX0_bringIn_9 : decode cX0_bringIn 9 = .ok (.istore_n 2, 1) := by decide +kernel
theorem dX0_bringIn_10 : decode cX0_bringIn 10 = .ok (.iload_n 2, 1) := by decide +kernel
theorem dX0_bringIn_11 : decode cX0_bringIn 11 = .ok (.aload_n 0, 1) := by decide +kernel
theorem dX0_bringIn_12 : decode cX0_bringIn 12 = .ok (.getfield 34, 3) := by decide +kernel
theorem dX0_bringIn_15 : decode cX0_bringIn 15 = .ok (.if_icmp .le 4, 3) := by decide +kernel
theorem dX0_bringIn_18 : decode cX0_bringIn 18 = .ok (.return_, 1) := by decide +kernel
theorem dX0_bringIn_19 : decode cX0_bringIn 19 = .ok (.iload_n 2, 1) := by decide +kernel
theorem dX0_bringIn_20 : decode cX0_bringIn 20 = .ok (.aload_n 0, 1) := by decide +kernel
theorem dX0_bringIn_21 : decode cX0_bringIn 21 = .ok (.getfield 37, 3) := by decide +kernel
theorem dX0_bringIn_24 : decode cX0_bringIn 24 = .ok (.if_icmp .le 11, 3) := by decide +kernel
theorem dX0_bringIn_27 : decode cX0_bringIn 27 = .ok (.aload_n 0, 1) := by decide +kernel
theorem dX0_bringIn_28 : decode cX0_bringIn 28 = .ok (.iload_n 1, 1) := by decide +kernel
theorem dX0_bringIn_29 : decode cX0_bringIn 29 = .ok (.invokevirtual 71, 3) := by decide +kernel
theorem dX0_bringIn_32 : decode cX0_bringIn 32 = .ok (.goto 12, 3) := by decide +kernel
theorem dX0_bringIn_35 : decode cX0_bringIn 35 = .ok (.aload_n 0, 1) := by decide +kernel
theorem dX0_bringIn_36 : decode cX0_bringIn 36 = .ok (.getfield 14, 3) := by decide +kernel
theorem dX0_bringIn_39 : decode cX0_bringIn 39 = .ok (.iconst 0, 1) := by decide +kernel
theorem dX0_bringIn_40 : decode cX0_bringIn 40 = .ok (.iload_n 1, 1) := by decide +kernel
theorem dX0_bringIn_41 : decode cX0_bringIn 41 = .ok (.invokevirtual 74, 3) := by decide +kernel
theorem dX0_bringIn_44 : decode cX0_bringIn 44 = .ok (.return_, 1) := by decide +kernel
theorem dX0_overflow_0 : decode cX0_overflow 0 = .ok (.aload_n 0, 1) := by decide +kernel
theorem dX0_overflow_1 : decode cX0_overflow 1 = .ok (.getfield 14, 3) := by decide +kernel
theorem dX0_overflow_4 : decode cX0_overflow 4 = .ok (.getfield 40, 3) := by decide +kernel
theorem dX0_overflow_7 : decode cX0_overflow 7 = .ok (.iconst 0, 1) := by decide +kernel
theorem dX0_overflow_8 : decode cX0_overflow 8 = .ok (.iaload, 1) := by decide +kernel
theorem dX0_overflow_9 : decode cX0_overflow 9 = .ok (.istore_n 1, 1) := by decide +kernel
theorem dX0_overflow_10 : decode cX0_overflow 10 = .ok (.iload_n 1, 1) := by decide +kernel
theorem dX0_overflow_11 : decode cX0_overflow 11 = .ok (.ifCond .le 51, 3) := by decide +kernel
theorem dX0_overflow_14 : decode cX0_overflow 14 = .ok (.aload_n 0, 1) := by decide +kernel
theorem dX0_overflow_15 : decode cX0_overflow 15 = .ok (.getfield 14, 3) := by decide +kernel
theorem dX0_overflow_18 : decode cX0_overflow 18 = .ok (.getfield 48, 3) := by decide +kernel
theorem dX0_overflow_21 : decode cX0_overflow 21 = .ok (.iconst 0, 1) := by decide +kernel
theorem dX0_overflow_22 : decode cX0_overflow 22 = .ok (.iaload, 1) := by decide +kernel
theorem dX0_overflow_23 : decode cX0_overflow 23 = .ok (.aload_n 0, 1) := by decide +kernel
theorem dX0_overflow_24 : decode cX0_overflow 24 = .ok (.getfield 37, 3) := by decide +kernel
theorem dX0_overflow_27 : decode cX0_overflow 27 = .ok (.if_icmp .gt 4, 3) := by decide +kernel
theorem dX0_overflow_30 : decode cX0_overflow 30 = .ok (.return_, 1) := by decide +kernel
theorem dX0_overflow_31 : decode cX0_overflow 31 = .ok (.aload_n 0, 1) := by decide +kernel
theorem dX0_overflow_32 : decode cX0_overflow 32 = .ok (.getfield 14, 3) := by decide +kernel
theorem dX0_overflow_35 : decode cX0_overflow 35 = .ok (.getfield 64, 3) := by decide +kernel
theorem dX0_overflow_38 : decode cX0_overflow 38 = .ok (.iconst 0, 1) := by decide +kernel
theorem dX0_overflow_39 : decode cX0_overflow 39 = .ok (.aaload, 1) := by decide +kernel
theorem dX0_overflow_40 : decode cX0_overflow 40 = .ok (.iconst 0, 1) := by decide +kernel
theorem dX0_overflow_41 : decode cX0_overflow 41 = .ok (.iaload, 1) := by decide +kernel
theorem dX0_overflow_42 : decode cX0_overflow 42 = .ok (.istore_n 2, 1) := by decide +kernel
theorem dX0_overflow_43 : decode cX0_overflow 43 = .ok (.aload_n 0, 1) := by decide +kernel
theorem dX0_overflow_44 : decode cX0_overflow 44 = .ok (.getfield 14, 3) := by decide +kernel
theorem dX0_overflow_47 : decode cX0_overflow 47 = .ok (.iload_n 2, 1) := by decide +kernel
theorem dX0_overflow_48 : decode cX0_overflow 48 = .ok (.invokevirtual 77, 3) := by decide +kernel
theorem dX0_overflow_51 : decode cX0_overflow 51 = .ok (.aload_n 0, 1) := by decide +kernel
theorem dX0_overflow_52 : decode cX0_overflow 52 = .ok (.iload_n 2, 1) := by decide +kernel
theorem dX0_overflow_53 : decode cX0_overflow 53 = .ok (.invokevirtual 71, 3) := by decide +kernel
theorem dX0_overflow_56 : decode cX0_overflow 56 = .ok (.iinc 1 (-1), 3) := by decide +kernel
theorem dX0_overflow_59 : decode cX0_overflow 59 = .ok (.goto (-49), 3) := by decide +kernel
theorem dX0_overflow_62 : decode cX0_overflow 62 = .ok (.return_, 1) := by decide +kernel
theorem dX0_judge_0 : decode cX0_judge 0 = .ok (.aload_n 0, 1) := by decide +kernel
theorem dX0_judge_1 : decode cX0_judge 1 = .ok (.getfield 14, 3) := by decide +kernel
theorem dX0_judge_4 : decode cX0_judge 4 = .ok (.getfield 68, 3) := by decide +kernel
theorem dX0_judge_7 : decode cX0_judge 7 = .ok (.iload_n 1, 1) := by decide +kernel
theorem dX0_judge_8 : decode cX0_judge 8 = .ok (.iaload, 1) := by decide +kernel
theorem dX0_judge_9 : decode cX0_judge 9 = .ok (.aload_n 0, 1) := by decide +kernel
theorem dX0_judge_10 : decode cX0_judge 10 = .ok (.getfield 34, 3) := by decide +kernel
theorem dX0_judge_13 : decode cX0_judge 13 = .ok (.aload_n 0, 1) := by decide +kernel
theorem dX0_judge_14 : decode cX0_judge 14 = .ok (.getfield 37, 3) := by decide +kernel
theorem dX0_judge_17 : decode cX0_judge 17 = .ok (.isub, 1) := by decide +kernel
theorem dX0_judge_18 : decode cX0_judge 18 = .ok (.if_icmp .le 14, 3) := by decide +kernel
theorem dX0_judge_21 : decode cX0_judge 21 = .ok (.aload_n 0, 1) := by decide +kernel
theorem dX0_judge_22 : decode cX0_judge 22 = .ok (.dup, 1) := by decide +kernel
theorem dX0_judge_23 : decode cX0_judge 23 = .ok (.getfield 24, 3) := by decide +kernel
theorem dX0_judge_26 : decode cX0_judge 26 = .ok (.iconst 1, 1) := by decide +kernel
theorem dX0_judge_27 : decode cX0_judge 27 = .ok (.iadd, 1) := by decide +kernel
theorem dX0_judge_28 : decode cX0_judge 28 = .ok (.putfield 24, 3) := by decide +kernel
theorem dX0_judge_31 : decode cX0_judge 31 = .ok (.return_, 1) := by decide +kernel
theorem dX0_judge_32 : decode cX0_judge 32 = .ok (.aload_n 0, 1) := by decide +kernel
theorem dX0_judge_33 : decode cX0_judge 33 = .ok (.iload_n 1, 1) := by decide +kernel
theorem dX0_judge_34 : decode cX0_judge 34 = .ok (.invokevirtual 80, 3) := by decide +kernel
theorem dX0_judge_37 : decode cX0_judge 37 = .ok (.istore_n 2, 1) := by decide +kernel
theorem dX0_judge_38 : decode cX0_judge 38 = .ok (.aload_n 0, 1) := by decide +kernel
theorem dX0_judge_39 : decode cX0_judge 39 = .ok (.iload_n 1, 1) := by decide +kernel
theorem dX0_judge_40 : decode cX0_judge 40 = .ok (.iload_n 2, 1) := by decide +kernel
theorem dX0_judge_41 : decode cX0_judge 41 = .ok (.invokevirtual 84, 3) := by decide +kernel
theorem dX0_judge_44 : decode cX0_judge 44 = .ok (.istore_n 3, 1) := by decide +kernel
theorem dX0_judge_45 : decode cX0_judge 45 = .ok (.iconst 0, 1) := by decide +kernel
theorem dX0_judge_46 : decode cX0_judge 46 = .ok (.istore 4, 2) := by decide +kernel
theorem dX0_judge_48 : decode cX0_judge 48 = .ok (.iload 4, 2) := by decide +kernel
theorem dX0_judge_50 : decode cX0_judge 50 = .ok (.iload_n 3, 1) := by decide +kernel
theorem dX0_judge_51 : decode cX0_judge 51 = .ok (.if_icmp .ge 31, 3) := by decide +kernel
theorem dX0_judge_54 : decode cX0_judge 54 = .ok (.aload_n 0, 1) := by decide +kernel
theorem dX0_judge_55 : decode cX0_judge 55 = .ok (.getfield 14, 3) := by decide +kernel
theorem dX0_judge_58 : decode cX0_judge 58 = .ok (.aload_n 0, 1) := by decide +kernel
theorem dX0_judge_59 : decode cX0_judge 59 = .ok (.iconst 0, 1) := by decide +kernel
theorem dX0_judge_60 : decode cX0_judge 60 = .ok (.invokevirtual 88, 3) := by decide +kernel
theorem dX0_judge_63 : decode cX0_judge 63 = .ok (.invokevirtual 77, 3) := by decide +kernel
theorem dX0_judge_66 : decode cX0_judge 66 = .ok (.aload_n 0, 1) := by decide +kernel
theorem dX0_judge_67 : decode cX0_judge 67 = .ok (.dup, 1) := by decide +kernel
theorem dX0_judge_68 : decode cX0_judge 68 = .ok (.getfield 24, 3) := by decide +kernel
theorem dX0_judge_71 : decode cX0_judge 71 = .ok (.iconst 1, 1) := by decide +kernel
theorem dX0_judge_72 : decode cX0_judge 72 = .ok (.iadd, 1) := by decide +kernel
theorem dX0_judge_73 : decode cX0_judge 73 = .ok (.putfield 24, 3) := by decide +kernel
theorem dX0_judge_76 : decode cX0_judge 76 = .ok (.iinc 4 1, 3) := by decide +kernel
theorem dX0_judge_79 : decode cX0_judge 79 = .ok (.goto (-31), 3) := by decide +kernel
theorem dX0_judge_82 : decode cX0_judge 82 = .ok (.iload_n 3, 1) := by decide +kernel
theorem dX0_judge_83 : decode cX0_judge 83 = .ok (.iload_n 2, 1) := by decide +kernel
theorem dX0_judge_84 : decode cX0_judge 84 = .ok (.if_icmp .ne 13, 3) := by decide +kernel
theorem dX0_judge_87 : decode cX0_judge 87 = .ok (.aload_n 0, 1) := by decide +kernel
theorem dX0_judge_88 : decode cX0_judge 88 = .ok (.getfield 14, 3) := by decide +kernel
theorem dX0_judge_91 : decode cX0_judge 91 = .ok (.iconst 1, 1) := by decide +kernel
theorem dX0_judge_92 : decode cX0_judge 92 = .ok (.iload_n 1, 1) := by decide +kernel
theorem dX0_judge_93 : decode cX0_judge 93 = .ok (.invokevirtual 74, 3) := by decide +kernel
theorem dX0_judge_96 : decode cX0_judge 96 = .ok (.return_, 1) := by decide +kernel
theorem dX0_judge_97 : decode cX0_judge 97 = .ok (.aload_n 0, 1) := by decide +kernel
theorem dX0_judge_98 : decode cX0_judge 98 = .ok (.dup, 1) := by decide +kernel
theorem dX0_judge_99 : decode cX0_judge 99 = .ok (.getfield 24, 3) := by decide +kernel
theorem dX0_judge_102 : decode cX0_judge 102 = .ok (.iconst 1, 1) := by decide +kernel
theorem dX0_judge_103 : decode cX0_judge 103 = .ok (.iadd, 1) := by decide +kernel
theorem dX0_judge_104 : decode cX0_judge 104 = .ok (.putfield 24, 3) := by decide +kernel
theorem dX0_judge_107 : decode cX0_judge 107 = .ok (.aload_n 0, 1) := by decide +kernel
theorem dX0_judge_108 : decode cX0_judge 108 = .ok (.getfield 20, 3) := by decide +kernel
theorem dX0_judge_111 : decode cX0_judge 111 = .ok (.iconst 1, 1) := by decide +kernel
theorem dX0_judge_112 : decode cX0_judge 112 = .ok (.if_icmp .ne 8, 3) := by decide +kernel
theorem dX0_judge_115 : decode cX0_judge 115 = .ok (.aload_n 0, 1) := by decide +kernel
theorem dX0_judge_116 : decode cX0_judge 116 = .ok (.iload_n 2, 1) := by decide +kernel
theorem dX0_judge_117 : decode cX0_judge 117 = .ok (.invokevirtual 91, 3) := by decide +kernel
theorem dX0_judge_120 : decode cX0_judge 120 = .ok (.return_, 1) := by decide +kernel
theorem dX0_victimsNeeded_0 : decode cX0_victimsNeeded 0 = .ok (.aload_n 0, 1) := by decide +kernel
theorem dX0_victimsNeeded_1 : decode cX0_victimsNeeded 1 = .ok (.invokevirtual 94, 3) := by decide +kernel
theorem dX0_victimsNeeded_4 : decode cX0_victimsNeeded 4 = .ok (.aload_n 0, 1) := by decide +kernel
theorem dX0_victimsNeeded_5 : decode cX0_victimsNeeded 5 = .ok (.getfield 14, 3) := by decide +kernel
theorem dX0_victimsNeeded_8 : decode cX0_victimsNeeded 8 = .ok (.getfield 68, 3) := by decide +kernel
theorem dX0_victimsNeeded_11 : decode cX0_victimsNeeded 11 = .ok (.iload_n 1, 1) := by decide +kernel
theorem dX0_victimsNeeded_12 : decode cX0_victimsNeeded 12 = .ok (.iaload, 1) := by decide +kernel
theorem dX0_victimsNeeded_13 : decode cX0_victimsNeeded 13 = .ok (.iadd, 1) := by decide +kernel
theorem dX0_victimsNeeded_14 : decode cX0_victimsNeeded 14 = .ok (.aload_n 0, 1) := by decide +kernel
theorem dX0_victimsNeeded_15 : decode cX0_victimsNeeded 15 = .ok (.getfield 34, 3) := by decide +kernel
theorem dX0_victimsNeeded_18 : decode cX0_victimsNeeded 18 = .ok (.aload_n 0, 1) := by decide +kernel
theorem dX0_victimsNeeded_19 : decode cX0_victimsNeeded 19 = .ok (.getfield 37, 3) := by decide +kernel
theorem dX0_victimsNeeded_22 : decode cX0_victimsNeeded 22 = .ok (.isub, 1) := by decide +kernel
theorem dX0_victimsNeeded_23 : decode cX0_victimsNeeded 23 = .ok (.isub, 1) := by decide +kernel
theorem dX0_victimsNeeded_24 : decode cX0_victimsNeeded 24 = .ok (.istore_n 2, 1) := by decide +kernel
theorem dX0_victimsNeeded_25 : decode cX0_victimsNeeded 25 = .ok (.aload_n 0, 1) := by decide +kernel
theorem dX0_victimsNeeded_26 : decode cX0_victimsNeeded 26 = .ok (.invokevirtual 44, 3) := by decide +kernel
theorem dX0_victimsNeeded_29 : decode cX0_victimsNeeded 29 = .ok (.istore_n 3, 1) := by decide +kernel
theorem dX0_victimsNeeded_30 : decode cX0_victimsNeeded 30 = .ok (.iconst 0, 1) := by decide +kernel
theorem dX0_victimsNeeded_31 : decode cX0_victimsNeeded 31 = .ok (.istore 4, 2) := by decide +kernel
theorem dX0_victimsNeeded_33 : decode cX0_victimsNeeded 33 = .ok (.iload 4, 2) := by decide +kernel
theorem dX0_victimsNeeded_35 : decode cX0_victimsNeeded 35 = .ok (.iload_n 3, 1) := by decide +kernel
theorem dX0_victimsNeeded_36 : decode cX0_victimsNeeded 36 = .ok (.if_icmp .ge 30, 3) := by decide +kernel
theorem dX0_victimsNeeded_39 : decode cX0_victimsNeeded 39 = .ok (.iload_n 2, 1) := by decide +kernel
theorem dX0_victimsNeeded_40 : decode cX0_victimsNeeded 40 = .ok (.ifCond .le 26, 3) := by decide +kernel
theorem dX0_victimsNeeded_43 : decode cX0_victimsNeeded 43 = .ok (.iload_n 2, 1) := by decide +kernel
theorem dX0_victimsNeeded_44 : decode cX0_victimsNeeded 44 = .ok (.aload_n 0, 1) := by decide +kernel
theorem dX0_victimsNeeded_45 : decode cX0_victimsNeeded 45 = .ok (.getfield 14, 3) := by decide +kernel
theorem dX0_victimsNeeded_48 : decode cX0_victimsNeeded 48 = .ok (.getfield 68, 3) := by decide +kernel
theorem dX0_victimsNeeded_51 : decode cX0_victimsNeeded 51 = .ok (.aload_n 0, 1) := by decide +kernel
theorem dX0_victimsNeeded_52 : decode cX0_victimsNeeded 52 = .ok (.iload 4, 2) := by decide +kernel
theorem dX0_victimsNeeded_54 : decode cX0_victimsNeeded 54 = .ok (.invokevirtual 88, 3) := by decide +kernel
theorem dX0_victimsNeeded_57 : decode cX0_victimsNeeded 57 = .ok (.iaload, 1) := by decide +kernel
theorem dX0_victimsNeeded_58 : decode cX0_victimsNeeded 58 = .ok (.isub, 1) := by decide +kernel
theorem dX0_victimsNeeded_59 : decode cX0_victimsNeeded 59 = .ok (.istore_n 2, 1) := by decide +kernel
theorem dX0_victimsNeeded_60 : decode cX0_victimsNeeded 60 = .ok (.iinc 4 1, 3) := by decide +kernel
theorem dX0_victimsNeeded_63 : decode cX0_victimsNeeded 63 = .ok (.goto (-30), 3) := by decide +kernel
theorem dX0_victimsNeeded_66 : decode cX0_victimsNeeded 66 = .ok (.iload 4, 2) := by decide +kernel
theorem dX0_victimsNeeded_68 : decode cX0_victimsNeeded 68 = .ok (.ireturn, 1) := by decide +kernel
theorem dX0_victimsBeaten_0 : decode cX0_victimsBeaten 0 = .ok (.aload_n 0, 1) := by decide +kernel
theorem dX0_victimsBeaten_1 : decode cX0_victimsBeaten 1 = .ok (.getfield 20, 3) := by decide +kernel
theorem dX0_victimsBeaten_4 : decode cX0_victimsBeaten 4 = .ok (.iconst 2, 1) := by decide +kernel
theorem dX0_victimsBeaten_5 : decode cX0_victimsBeaten 5 = .ok (.if_icmp .ne 5, 3) := by decide +kernel
theorem dX0_victimsBeaten_8 : decode cX0_victimsBeaten 8 = .ok (.iload_n 2, 1) := by decide +kernel
theorem dX0_victimsBeaten_9 : decode cX0_victimsBeaten 9 = .ok (.ireturn, 1) := by decide +kernel
theorem dX0_victimsBeaten_10 : decode cX0_victimsBeaten 10 = .ok (.aload_n 0, 1) := by decide +kernel
theorem dX0_victimsBeaten_11 : decode cX0_victimsBeaten 11 = .ok (.getfield 30, 3) := by decide +kernel
theorem dX0_victimsBeaten_14 : decode cX0_victimsBeaten 14 = .ok (.iload_n 1, 1) := by decide +kernel
theorem dX0_victimsBeaten_15 : decode cX0_victimsBeaten 15 = .ok (.invokevirtual 97, 3) := by decide +kernel
theorem dX0_victimsBeaten_18 : decode cX0_victimsBeaten 18 = .ok (.istore_n 3, 1) := by decide +kernel
theorem dX0_victimsBeaten_19 : decode cX0_victimsBeaten 19 = .ok (.iconst 0, 1) := by decide +kernel
theorem dX0_victimsBeaten_20 : decode cX0_victimsBeaten 20 = .ok (.istore 4, 2) := by decide +kernel
theorem dX0_victimsBeaten_22 : decode cX0_victimsBeaten 22 = .ok (.iconst 0, 1) := by decide +kernel
theorem dX0_victimsBeaten_23 : decode cX0_victimsBeaten 23 = .ok (.istore 5, 2) := by decide +kernel
theorem dX0_victimsBeaten_25 : decode cX0_victimsBeaten 25 = .ok (.iload 5, 2) := by decide +kernel
theorem dX0_victimsBeaten_27 : decode cX0_victimsBeaten 27 = .ok (.iload_n 2, 1) := by decide +kernel
theorem dX0_victimsBeaten_28 : decode cX0_victimsBeaten 28 = .ok (.if_icmp .ge 47, 3) := by decide +kernel
theorem dX0_victimsBeaten_31 : decode cX0_victimsBeaten 31 = .ok (.aload_n 0, 1) := by decide +kernel
theorem dX0_victimsBeaten_32 : decode cX0_victimsBeaten 32 = .ok (.getfield 30, 3) := by decide +kernel
theorem dX0_victimsBeaten_35 : decode cX0_victimsBeaten 35 = .ok (.aload_n 0, 1) := by decide +kernel
theorem dX0_victimsBeaten_36 : decode cX0_victimsBeaten 36 = .ok (.iload 5, 2) := by decide +kernel
theorem dX0_victimsBeaten_38 : decode cX0_victimsBeaten 38 = .ok (.invokevirtual 88, 3) := by decide +kernel
theorem dX0_victimsBeaten_41 : decode cX0_victimsBeaten 41 = .ok (.invokevirtual 97, 3) := by decide +kernel
theorem dX0_victimsBeaten_44 : decode cX0_victimsBeaten 44 = .ok (.istore 6, 2) := by decide +kernel
theorem dX0_victimsBeaten_46 : decode cX0_victimsBeaten 46 = .ok (.iload 4, 2) := by decide +kernel
theorem dX0_victimsBeaten_48 : decode cX0_victimsBeaten 48 = .ok (.iload 6, 2) := by decide +kernel
theorem dX0_victimsBeaten_50 : decode cX0_victimsBeaten 50 = .ok (.iadd, 1) := by decide +kernel
theorem dX0_victimsBeaten_51 : decode cX0_victimsBeaten 51 = .ok (.istore 4, 2) := by decide +kernel
theorem dX0_victimsBeaten_53 : decode cX0_victimsBeaten 53 = .ok (.aload_n 0, 1) := by decide +kernel
theorem dX0_victimsBeaten_54 : decode cX0_victimsBeaten 54 = .ok (.getfield 20, 3) := by decide +kernel
theorem dX0_victimsBeaten_57 : decode cX0_victimsBeaten 57 = .ok (.ifCond .ne 12, 3) := by decide +kernel
theorem dX0_victimsBeaten_60 : decode cX0_victimsBeaten 60 = .ok (.iload_n 3, 1) := by decide +kernel
theorem dX0_victimsBeaten_61 : decode cX0_victimsBeaten 61 = .ok (.iload 6, 2) := by decide +kernel
theorem dX0_victimsBeaten_63 : decode cX0_victimsBeaten 63 = .ok (.if_icmp .gt 6, 3) := by decide +kernel
theorem dX0_victimsBeaten_66 : decode cX0_victimsBeaten 66 = .ok (.iload 5, 2) := by decide +kernel
theorem dX0_victimsBeaten_68 : decode cX0_victimsBeaten 68 = .ok (.ireturn, 1) := by decide +kernel
theorem dX0_victimsBeaten_69 : decode cX0_victimsBeaten 69 = .ok (.iinc 5 1, 3) := by decide +kernel
theorem dX0_victimsBeaten_72 : decode cX0_victimsBeaten 72 = .ok (.goto (-47), 3) := by decide +kernel
theorem dX0_victimsBeaten_75 : decode cX0_victimsBeaten 75 = .ok (.aload_n 0, 1) := by decide +kernel
theorem dX0_victimsBeaten_76 : decode cX0_victimsBeaten 76 = .ok (.getfield 20, 3) := by decide +kernel
theorem dX0_victimsBeaten_79 : decode cX0_victimsBeaten 79 = .ok (.ifCond .eq 9, 3) := by decide +kernel
theorem dX0_victimsBeaten_82 : decode cX0_victimsBeaten 82 = .ok (.iload_n 3, 1) := by decide +kernel
theorem dX0_victimsBeaten_83 : decode cX0_victimsBeaten 83 = .ok (.iload 4, 2) := by decide +kernel
theorem dX0_victimsBeaten_85 : decode cX0_victimsBeaten 85 = .ok (.if_icmp .le 7, 3) := by decide +kernel
theorem dX0_victimsBeaten_88 : decode cX0_victimsBeaten 88 = .ok (.iload_n 2, 1) := by decide +kernel
theorem dX0_victimsBeaten_89 : decode cX0_victimsBeaten 89 = .ok (.goto 4, 3) := by decide +kernel
theorem dX0_victimsBeaten_92 : decode cX0_victimsBeaten 92 = .ok (.iconst 0, 1) := by decide +kernel
theorem dX0_victimsBeaten_93 : decode cX0_victimsBeaten 93 = .ok (.ireturn, 1) := by decide +kernel
theorem dX0_spare_0 : decode cX0_spare 0 = .ok (.iload_n 1, 1) := by decide +kernel
theorem dX0_spare_1 : decode cX0_spare 1 = .ok (.aload_n 0, 1) := by decide +kernel
theorem dX0_spare_2 : decode cX0_spare 2 = .ok (.getfield 14, 3) := by decide +kernel
theorem dX0_spare_5 : decode cX0_spare 5 = .ok (.getfield 40, 3) := by decide +kernel
theorem dX0_spare_8 : decode cX0_spare 8 = .ok (.iconst 1, 1) := by decide +kernel
theorem dX0_spare_9 : decode cX0_spare 9 = .ok (.iaload, 1) := by decide +kernel
theorem dX0_spare_10 : decode cX0_spare 10 = .ok (.invokestatic 100, 3) := by decide +kernel
theorem dX0_spare_13 : decode cX0_spare 13 = .ok (.istore_n 2, 1) := by decide +kernel
theorem dX0_spare_14 : decode cX0_spare 14 = .ok (.iconst 0, 1) := by decide +kernel
theorem dX0_spare_15 : decode cX0_spare 15 = .ok (.istore_n 3, 1) := by decide +kernel
theorem dX0_spare_16 : decode cX0_spare 16 = .ok (.iload_n 3, 1) := by decide +kernel
theorem dX0_spare_17 : decode cX0_spare 17 = .ok (.iload_n 1, 1) := by decide +kernel
theorem dX0_spare_18 : decode cX0_spare 18 = .ok (.if_icmp .ge 42, 3) := by decide +kernel
theorem dX0_spare_21 : decode cX0_spare 21 = .ok (.iload_n 3, 1) := by decide +kernel
theorem dX0_spare_22 : decode cX0_spare 22 = .ok (.iload_n 2, 1) := by decide +kernel
theorem dX0_spare_23 : decode cX0_spare 23 = .ok (.if_icmp .ge 7, 3) := by decide +kernel
theorem dX0_spare_26 : decode cX0_spare 26 = .ok (.iconst 1, 1) := by decide +kernel
theorem dX0_spare_27 : decode cX0_spare 27 = .ok (.goto 4, 3) := by decide +kernel
theorem dX0_spare_30 : decode cX0_spare 30 = .ok (.iconst 2, 1) := by decide +kernel
theorem dX0_spare_31 : decode cX0_spare 31 = .ok (.istore 4, 2) := by decide +kernel
theorem dX0_spare_33 : decode cX0_spare 33 = .ok (.aload_n 0, 1) := by decide +kernel
theorem dX0_spare_34 : decode cX0_spare 34 = .ok (.getfield 14, 3) := by decide +kernel
theorem dX0_spare_37 : decode cX0_spare 37 = .ok (.iload 4, 2) := by decide +kernel
theorem dX0_spare_39 : decode cX0_spare 39 = .ok (.aload_n 0, 1) := by decide +kernel
theorem dX0_spare_40 : decode cX0_spare 40 = .ok (.getfield 14, 3) := by decide +kernel
theorem dX0_spare_43 : decode cX0_spare 43 = .ok (.getfield 64, 3) := by decide +kernel
theorem dX0_spare_46 : decode cX0_spare 46 = .ok (.iload 4, 2) := by decide +kernel
theorem dX0_spare_48 : decode cX0_spare 48 = .ok (.aaload, 1) := by decide +kernel
theorem dX0_spare_49 : decode cX0_spare 49 = .ok (.iconst 0, 1) := by decide +kernel
theorem dX0_spare_50 : decode cX0_spare 50 = .ok (.iaload, 1) := by decide +kernel
theorem dX0_spare_51 : decode cX0_spare 51 = .ok (.invokevirtual 54, 3) := by decide +kernel
theorem dX0_spare_54 : decode cX0_spare 54 = .ok (.iinc 3 1, 3) := by decide +kernel
theorem dX0_spare_57 : decode cX0_spare 57 = .ok (.goto (-41), 3) := by decide +kernel
theorem dX0_spare_60 : decode cX0_spare 60 = .ok (.return_, 1) := by decide +kernel
theorem dX0_victimAt_0 : decode cX0_victimAt 0 = .ok (.aload_n 0, 1) := by decide +kernel
theorem dX0_victimAt_1 : decode cX0_victimAt 1 = .ok (.getfield 14, 3) := by decide +kernel
theorem dX0_victimAt_4 : decode cX0_victimAt 4 = .ok (.getfield 40, 3) := by decide +kernel
theorem dX0_victimAt_7 : decode cX0_victimAt 7 = .ok (.iconst 1, 1) := by decide +kernel
theorem dX0_victimAt_8 : decode cX0_victimAt 8 = .ok (.iaload, 1) := by decide +kernel
theorem dX0_victimAt_9 : decode cX0_victimAt 9 = .ok (.istore_n 2, 1) := by decide +kernel
theorem dX0_victimAt_10 : decode cX0_victimAt 10 = .ok (.iload_n 1, 1) := by decide +kernel
theorem dX0_victimAt_11 : decode cX0_victimAt 11 = .ok (.iload_n 2, 1) := by decide +kernel
theorem dX0_victimAt_12 : decode cX0_victimAt 12 = .ok (.if_icmp .ge 15, 3) := by decide +kernel
theorem dX0_victimAt_15 : decode cX0_victimAt 15 = .ok (.aload_n 0, 1) := by decide +kernel
theorem dX0_victimAt_16 : decode cX0_victimAt 16 = .ok (.getfield 14, 3) := by decide +kernel
theorem dX0_victimAt_19 : decode cX0_victimAt 19 = .ok (.iconst 1, 1) := by decide +kernel
theorem dX0_victimAt_20 : decode cX0_victimAt 20 = .ok (.iload_n 1, 1) := by decide +kernel
theorem dX0_victimAt_21 : decode cX0_victimAt 21 = .ok (.invokevirtual 105, 3) := by decide +kernel
theorem dX0_victimAt_24 : decode cX0_victimAt 24 = .ok (.goto 14, 3) := by decide +kernel
theorem dX0_victimAt_27 : decode cX0_victimAt 27 = .ok (.aload_n 0, 1) := by decide +kernel
theorem dX0_victimAt_28 : decode cX0_victimAt 28 = .ok (.getfield 14, 3) := by decide +kernel
theorem dX0_victimAt_31 : decode cX0_victimAt 31 = .ok (.iconst 2, 1) := by decide +kernel
theorem dX0_victimAt_32 : decode cX0_victimAt 32 = .ok (.iload_n 1, 1) := by decide +kernel
theorem dX0_victimAt_33 : decode cX0_victimAt 33 = .ok (.iload_n 2, 1) := by decide +kernel
theorem dX0_victimAt_34 : decode cX0_victimAt 34 = .ok (.isub, 1) := by decide +kernel
theorem dX0_victimAt_35 : decode cX0_victimAt 35 = .ok (.invokevirtual 105, 3) := by decide +kernel
theorem dX0_victimAt_38 : decode cX0_victimAt 38 = .ok (.ireturn, 1) := by decide +kernel
theorem dX0_resize_0 : decode cX0_resize 0 = .ok (.aload_n 0, 1) := by decide +kernel
theorem dX0_resize_1 : decode cX0_resize 1 = .ok (.iconst 1, 1) := by decide +kernel
theorem dX0_resize_2 : decode cX0_resize 2 = .ok (.aload_n 0, 1) := by decide +kernel
theorem dX0_resize_3 : decode cX0_resize 3 = .ok (.getfield 34, 3) := by decide +kernel
theorem dX0_resize_6 : decode cX0_resize 6 = .ok (.iconst 1, 1) := by decide +kernel
theorem dX0_resize_7 : decode cX0_resize 7 = .ok (.isub, 1) := by decide +kernel
theorem dX0_resize_8 : decode cX0_resize 8 = .ok (.iload_n 1, 1) := by decide +kernel
theorem dX0_resize_9 : decode cX0_resize 9 = .ok (.invokestatic 100, 3) := by decide +kernel
theorem dX0_resize_12 : decode cX0_resize 12 = .ok (.invokestatic 108, 3) := by decide +kernel
theorem dX0_resize_15 : decode cX0_resize 15 = .ok (.putfield 37, 3) := by decide +kernel
theorem dX0_resize_18 : decode cX0_resize 18 = .ok (.aload_n 0, 1) := by decide +kernel
theorem dX0_resize_19 : decode cX0_resize 19 = .ok (.invokevirtual 58, 3) := by decide +kernel
theorem dX0_resize_22 : decode cX0_resize 22 = .ok (.aload_n 0, 1) := by decide +kernel
theorem dX0_resize_23 : decode cX0_resize 23 = .ok (.invokevirtual 44, 3) := by decide +kernel
theorem dX0_resize_26 : decode cX0_resize 26 = .ok (.istore_n 2, 1) := by decide +kernel
theorem dX0_resize_27 : decode cX0_resize 27 = .ok (.iload_n 2, 1) := by decide +kernel
theorem dX0_resize_28 : decode cX0_resize 28 = .ok (.ifCond .le 39, 3) := by decide +kernel
theorem dX0_resize_31 : decode cX0_resize 31 = .ok (.aload_n 0, 1) := by decide +kernel
theorem dX0_resize_32 : decode cX0_resize 32 = .ok (.invokevirtual 94, 3) := by decide +kernel
theorem dX0_resize_35 : decode cX0_resize 35 = .ok (.aload_n 0, 1) := by decide +kernel
theorem dX0_resize_36 : decode cX0_resize 36 = .ok (.getfield 34, 3) := by decide +kernel
theorem dX0_resize_39 : decode cX0_resize 39 = .ok (.aload_n 0, 1) := by decide +kernel
theorem dX0_resize_40 : decode cX0_resize 40 = .ok (.getfield 37, 3) := by decide +kernel
theorem dX0_resize_43 : decode cX0_resize 43 = .ok (.isub, 1) := by decide +kernel
theorem dX0_resize_44 : decode cX0_resize 44 = .ok (.if_icmp .gt 4, 3) := by decide +kernel
theorem dX0_resize_47 : decode cX0_resize 47 = .ok (.return_, 1) := by decide +kernel
theorem dX0_resize_48 : decode cX0_resize 48 = .ok (.aload_n 0, 1) := by decide +kernel
theorem dX0_resize_49 : decode cX0_resize 49 = .ok (.getfield 14, 3) := by decide +kernel
theorem dX0_resize_52 : decode cX0_resize 52 = .ok (.iconst 0, 1) := by decide +kernel
theorem dX0_resize_53 : decode cX0_resize 53 = .ok (.aload_n 0, 1) := by decide +kernel
theorem dX0_resize_54 : decode cX0_resize 54 = .ok (.iconst 0, 1) := by decide +kernel
theorem dX0_resize_55 : decode cX0_resize 55 = .ok (.invokevirtual 88, 3) := by decide +kernel
theorem dX0_resize_58 : decode cX0_resize 58 = .ok (.invokevirtual 54, 3) := by decide +kernel
theorem dX0_resize_61 : decode cX0_resize 61 = .ok (.iinc 2 (-1), 3) := by decide +kernel
theorem dX0_resize_64 : decode cX0_resize 64 = .ok (.goto (-37), 3) := by decide +kernel
theorem dX0_resize_67 : decode cX0_resize 67 = .ok (.return_, 1) := by decide +kernel
theorem dX0_isSound_0 : decode cX0_isSound 0 = .ok (.iconst 0, 1) := by decide +kernel
theorem dX0_isSound_1 : decode cX0_isSound 1 = .ok (.istore_n 1, 1) := by decide +kernel
theorem dX0_isSound_2 : decode cX0_isSound 2 = .ok (.iload_n 1, 1) := by decide +kernel
theorem dX0_isSound_3 : decode cX0_isSound 3 = .ok (.bipush 100, 2) := by decide +kernel
theorem dX0_isSound_5 : decode cX0_isSound 5 = .ok (.if_icmp .ge 23, 3) := by decide +kernel
theorem dX0_isSound_8 : decode cX0_isSound 8 = .ok (.aload_n 0, 1) := by decide +kernel
theorem dX0_isSound_9 : decode cX0_isSound 9 = .ok (.getfield 14, 3) := by decide +kernel
theorem dX0_isSound_12 : decode cX0_isSound 12 = .ok (.iload_n 1, 1) := by decide +kernel
theorem dX0_isSound_13 : decode cX0_isSound 13 = .ok (.invokevirtual 111, 3) := by decide +kernel
theorem dX0_isSound_16 : decode cX0_isSound 16 = .ok (.iconst 1, 1) := by decide +kernel
theorem dX0_isSound_17 : decode cX0_isSound 17 = .ok (.if_icmp .le 5, 3) := by decide +kernel
theorem dX0_isSound_20 : decode cX0_isSound 20 = .ok (.iconst 0, 1) := by decide +kernel
theorem dX0_isSound_21 : decode cX0_isSound 21 = .ok (.ireturn, 1) := by decide +kernel
theorem dX0_isSound_22 : decode cX0_isSound 22 = .ok (.iinc 1 1, 3) := by decide +kernel
theorem dX0_isSound_25 : decode cX0_isSound 25 = .ok (.goto (-23), 3) := by decide +kernel
theorem dX0_isSound_28 : decode cX0_isSound 28 = .ok (.aload_n 0, 1) := by decide +kernel
theorem dX0_isSound_29 : decode cX0_isSound 29 = .ok (.getfield 14, 3) := by decide +kernel
theorem dX0_isSound_32 : decode cX0_isSound 32 = .ok (.iconst 2, 1) := by decide +kernel
theorem dX0_isSound_33 : decode cX0_isSound 33 = .ok (.invokevirtual 114, 3) := by decide +kernel
theorem dX0_isSound_36 : decode cX0_isSound 36 = .ok (.istore_n 1, 1) := by decide +kernel
theorem dX0_isSound_37 : decode cX0_isSound 37 = .ok (.aload_n 0, 1) := by decide +kernel
theorem dX0_isSound_38 : decode cX0_isSound 38 = .ok (.getfield 14, 3) := by decide +kernel
theorem dX0_isSound_41 : decode cX0_isSound 41 = .ok (.iconst 0, 1) := by decide +kernel
theorem dX0_isSound_42 : decode cX0_isSound 42 = .ok (.invokevirtual 114, 3) := by decide +kernel
theorem dX0_isSound_45 : decode cX0_isSound 45 = .ok (.aload_n 0, 1) := by decide +kernel
theorem dX0_isSound_46 : decode cX0_isSound 46 = .ok (.getfield 37, 3) := by decide +kernel
theorem dX0_isSound_49 : decode cX0_isSound 49 = .ok (.if_icmp .gt 37, 3) := by decide +kernel
theorem dX0_isSound_52 : decode cX0_isSound 52 = .ok (.aload_n 0, 1) := by decide +kernel
theorem dX0_isSound_53 : decode cX0_isSound 53 = .ok (.getfield 14, 3) := by decide +kernel
theorem dX0_isSound_56 : decode cX0_isSound 56 = .ok (.iconst 1, 1) := by decide +kernel
theorem dX0_isSound_57 : decode cX0_isSound 57 = .ok (.invokevirtual 114, 3) := by decide +kernel
theorem dX0_isSound_60 : decode cX0_isSound 60 = .ok (.iload_n 1, 1) := by decide +kernel
theorem dX0_isSound_61 : decode cX0_isSound 61 = .ok (.iadd, 1) := by decide +kernel
theorem dX0_isSound_62 : decode cX0_isSound 62 = .ok (.aload_n 0, 1) := by decide +kernel
theorem dX0_isSound_63 : decode cX0_isSound 63 = .ok (.getfield 34, 3) := by decide +kernel
theorem dX0_isSound_66 : decode cX0_isSound 66 = .ok (.aload_n 0, 1) := by decide +kernel
theorem dX0_isSound_67 : decode cX0_isSound 67 = .ok (.getfield 37, 3) := by decide +kernel
theorem dX0_isSound_70 : decode cX0_isSound 70 = .ok (.isub, 1) := by decide +kernel
theorem dX0_isSound_71 : decode cX0_isSound 71 = .ok (.if_icmp .gt 15, 3) := by decide +kernel
theorem dX0_isSound_74 : decode cX0_isSound 74 = .ok (.iload_n 1, 1) := by decide +kernel
theorem dX0_isSound_75 : decode cX0_isSound 75 = .ok (.aload_n 0, 1) := by decide +kernel
theorem dX0_isSound_76 : decode cX0_isSound 76 = .ok (.invokevirtual 61, 3) := by decide +kernel
theorem dX0_isSound_79 : decode cX0_isSound 79 = .ok (.if_icmp .gt 7, 3) := by decide +kernel
theorem dX0_isSound_82 : decode cX0_isSound 82 = .ok (.iconst 1, 1) := by decide +kernel
theorem dX0_isSound_83 : decode cX0_isSound 83 = .ok (.goto 4, 3) := by decide +kernel
theorem dX0_isSound_86 : decode cX0_isSound 86 = .ok (.iconst 0, 1) := by decide +kernel
theorem dX0_isSound_87 : decode cX0_isSound 87 = .ok (.ireturn, 1) := by decide +kernel
theorem dX0_copyFrom_0 : decode cX0_copyFrom 0 = .ok (.aload_n 0, 1) := by decide +kernel
theorem dX0_copyFrom_1 : decode cX0_copyFrom 1 = .ok (.getfield 30, 3) := by decide +kernel
theorem dX0_copyFrom_4 : decode cX0_copyFrom 4 = .ok (.aload_n 1, 1) := by decide +kernel
theorem dX0_copyFrom_5 : decode cX0_copyFrom 5 = .ok (.getfield 30, 3) := by decide +kernel
theorem dX0_copyFrom_8 : decode cX0_copyFrom 8 = .ok (.invokevirtual 117, 3) := by decide +kernel
theorem dX0_copyFrom_11 : decode cX0_copyFrom 11 = .ok (.aload_n 0, 1) := by decide +kernel
theorem dX0_copyFrom_12 : decode cX0_copyFrom 12 = .ok (.getfield 14, 3) := by decide +kernel
theorem dX0_copyFrom_15 : decode cX0_copyFrom 15 = .ok (.aload_n 1, 1) := by decide +kernel
theorem dX0_copyFrom_16 : decode cX0_copyFrom 16 = .ok (.getfield 14, 3) := by decide +kernel
theorem dX0_copyFrom_19 : decode cX0_copyFrom 19 = .ok (.invokevirtual 121, 3) := by decide +kernel
theorem dX0_copyFrom_22 : decode cX0_copyFrom 22 = .ok (.aload_n 0, 1) := by decide +kernel
theorem dX0_copyFrom_23 : decode cX0_copyFrom 23 = .ok (.aload_n 1, 1) := by decide +kernel
theorem dX0_copyFrom_24 : decode cX0_copyFrom 24 = .ok (.getfield 20, 3) := by decide +kernel
theorem dX0_copyFrom_27 : decode cX0_copyFrom 27 = .ok (.putfield 20, 3) := by decide +kernel
theorem dX0_copyFrom_30 : decode cX0_copyFrom 30 = .ok (.aload_n 0, 1) := by decide +kernel
theorem dX0_copyFrom_31 : decode cX0_copyFrom 31 = .ok (.aload_n 1, 1) := by decide +kernel
theorem dX0_copyFrom_32 : decode cX0_copyFrom 32 = .ok (.getfield 37, 3) := by decide +kernel
theorem dX0_copyFrom_35 : decode cX0_copyFrom 35 = .ok (.putfield 37, 3) := by decide +kernel
theorem dX0_copyFrom_38 : decode cX0_copyFrom 38 = .ok (.aload_n 0, 1) := by decide +kernel
theorem dX0_copyFrom_39 : decode cX0_copyFrom 39 = .ok (.aload_n 1, 1) := by decide +kernel
theorem dX0_copyFrom_40 : decode cX0_copyFrom 40 = .ok (.getfield 24, 3) := by decide +kernel
theorem dX0_copyFrom_43 : decode cX0_copyFrom 43 = .ok (.putfield 24, 3) := by decide +kernel
theorem dX0_copyFrom_46 : decode cX0_copyFrom 46 = .ok (.return_, 1) := by decide +kernel
theorem dX1_init_0 : decode cX1_init 0 = .ok (.aload_n 0, 1) := by decide +kernel
theorem dX1_init_1 : decode cX1_init 1 = .ok (.invokespecial 1, 3) := by decide +kernel
theorem dX1_init_4 : decode cX1_init 4 = .ok (.aload_n 0, 1) := by decide +kernel
theorem dX1_init_5 : decode cX1_init 5 = .ok (.iconst 0, 1) := by decide +kernel
theorem dX1_init_6 : decode cX1_init 6 = .ok (.putfield 7, 3) := by decide +kernel
theorem dX1_init_9 : decode cX1_init 9 = .ok (.aload_n 0, 1) := by decide +kernel
theorem dX1_init_10 : decode cX1_init 10 = .ok (.bipush 20, 2) := by decide +kernel
theorem dX1_init_12 : decode cX1_init 12 = .ok (.putfield 13, 3) := by decide +kernel
theorem dX1_init_15 : decode cX1_init 15 = .ok (.aload_n 0, 1) := by decide +kernel
theorem dX1_init_16 : decode cX1_init 16 = .ok (.iconst 1, 1) := by decide +kernel
theorem dX1_init_17 : decode cX1_init 17 = .ok (.putfield 16, 3) := by decide +kernel
theorem dX1_init_20 : decode cX1_init 20 = .ok (.aload_n 0, 1) := by decide +kernel
theorem dX1_init_21 : decode cX1_init 21 = .ok (.iconst 0, 1) := by decide +kernel
theorem dX1_init_22 : decode cX1_init 22 = .ok (.putfield 19, 3) := by decide +kernel
theorem dX1_init_25 : decode cX1_init 25 = .ok (.aload_n 0, 1) := by decide +kernel
theorem dX1_init_26 : decode cX1_init 26 = .ok (.iconst 0, 1) := by decide +kernel
theorem dX1_init_27 : decode cX1_init 27 = .ok (.putfield 22, 3) := by decide +kernel
theorem dX1_init_30 : decode cX1_init 30 = .ok (.aload_n 0, 1) := by decide +kernel
theorem dX1_init_31 : decode cX1_init 31 = .ok (.iconst 0, 1) := by decide +kernel
theorem dX1_init_32 : decode cX1_init 32 = .ok (.putfield 25, 3) := by decide +kernel
theorem dX1_init_35 : decode cX1_init 35 = .ok (.return_, 1) := by decide +kernel
theorem dX1_tellStep_0 : decode cX1_tellStep 0 = .ok (.aload_n 0, 1) := by decide +kernel
theorem dX1_tellStep_1 : decode cX1_tellStep 1 = .ok (.getfield 7, 3) := by decide +kernel
theorem dX1_tellStep_4 : decode cX1_tellStep 4 = .ok (.istore_n 2, 1) := by decide +kernel
theorem dX1_tellStep_5 : decode cX1_tellStep 5 = .ok (.aload_n 0, 1) := by decide +kernel
theorem dX1_tellStep_6 : decode cX1_tellStep 6 = .ok (.iload_n 1, 1) := by decide +kernel
theorem dX1_tellStep_7 : decode cX1_tellStep 7 = .ok (.putfield 7, 3) := by decide +kernel
theorem dX1_tellStep_10 : decode cX1_tellStep 10 = .ok (.aload_n 0, 1) := by decide +kernel
theorem dX1_tellStep_11 : decode cX1_tellStep 11 = .ok (.invokevirtual 28, 3) := by decide +kernel
theorem dX1_tellStep_14 : decode cX1_tellStep 14 = .ok (.iload_n 2, 1) := by decide +kernel
theorem dX1_tellStep_15 : decode cX1_tellStep 15 = .ok (.ireturn, 1) := by decide +kernel
theorem dX1_tellPeriod_0 : decode cX1_tellPeriod 0 = .ok (.aload_n 0, 1) := by decide +kernel
theorem dX1_tellPeriod_1 : decode cX1_tellPeriod 1 = .ok (.getfield 13, 3) := by decide +kernel
theorem dX1_tellPeriod_4 : decode cX1_tellPeriod 4 = .ok (.istore_n 2, 1) := by decide +kernel
theorem dX1_tellPeriod_5 : decode cX1_tellPeriod 5 = .ok (.aload_n 0, 1) := by decide +kernel
theorem dX1_tellPeriod_6 : decode cX1_tellPeriod 6 = .ok (.iload_n 1, 1) := by decide +kernel
theorem dX1_tellPeriod_7 : decode cX1_tellPeriod 7 = .ok (.putfield 13, 3) := by decide +kernel
theorem dX1_tellPeriod_10 : decode cX1_tellPeriod 10 = .ok (.aload_n 0, 1) := by decide +kernel
theorem dX1_tellPeriod_11 : decode cX1_tellPeriod 11 = .ok (.invokevirtual 28, 3) := by decide +kernel
theorem dX1_tellPeriod_14 : decode cX1_tellPeriod 14 = .ok (.iload_n 2, 1) := by decide +kernel
theorem dX1_tellPeriod_15 : decode cX1_tellPeriod 15 = .ok (.ireturn, 1) := by decide +kernel
theorem dX1_beginAnew_0 : decode cX1_beginAnew 0 = .ok (.aload_n 0, 1) := by decide +kernel
theorem dX1_beginAnew_1 : decode cX1_beginAnew 1 = .ok (.iconst 0, 1) := by decide +kernel
theorem dX1_beginAnew_2 : decode cX1_beginAnew 2 = .ok (.putfield 19, 3) := by decide +kernel
theorem dX1_beginAnew_5 : decode cX1_beginAnew 5 = .ok (.aload_n 0, 1) := by decide +kernel
theorem dX1_beginAnew_6 : decode cX1_beginAnew 6 = .ok (.iconst 0, 1) := by decide +kernel
theorem dX1_beginAnew_7 : decode cX1_beginAnew 7 = .ok (.putfield 22, 3) := by decide +kernel
theorem dX1_beginAnew_10 : decode cX1_beginAnew 10 = .ok (.aload_n 0, 1) := by decide +kernel
theorem dX1_beginAnew_11 : decode cX1_beginAnew 11 = .ok (.iconst 0, 1) := by decide +kernel
theorem dX1_beginAnew_12 : decode cX1_beginAnew 12 = .ok (.putfield 25, 3) := by decide +kernel
theorem dX1_beginAnew_15 : decode cX1_beginAnew 15 = .ok (.return_, 1) := by decide +kernel
theorem dX1_growthAfter_0 : decode cX1_growthAfter 0 = .ok (.aload_n 0, 1) := by decide +kernel
theorem dX1_growthAfter_1 : decode cX1_growthAfter 1 = .ok (.getfield 7, 3) := by decide +kernel
theorem dX1_growthAfter_4 : decode cX1_growthAfter 4 = .ok (.ifCond .ne 5, 3) := by decide +kernel
theorem dX1_growthAfter_7 : decode cX1_growthAfter 7 = .ok (.iconst 0, 1) := by decide +kernel
theorem dX1_growthAfter_8 : decode cX1_growthAfter 8 = .ok (.ireturn, 1) := by decide +kernel
theorem dX1_growthAfter_9 : decode cX1_growthAfter 9 = .ok (.aload_n 0, 1) := by decide +kernel
theorem dX1_growthAfter_10 : decode cX1_growthAfter 10 = .ok (.dup, 1) := by decide +kernel
theorem dX1_growthAfter_11 : decode cX1_growthAfter 11 = .ok (.getfield 22, 3) := by decide +kernel
theorem dX1_growthAfter_14 : decode cX1_growthAfter 14 = .ok (.iconst 1, 1) := by decide +kernel
theorem dX1_growthAfter_15 : decode cX1_growthAfter 15 = .ok (.iadd, 1) := by decide +kernel
theorem dX1_growthAfter_16 : decode cX1_growthAfter 16 = .ok (.putfield 22, 3) := by decide +kernel
theorem dX1_growthAfter_19 : decode cX1_growthAfter 19 = .ok (.iload_n 1, 1) := by decide +kernel
theorem dX1_growthAfter_20 : decode cX1_growthAfter 20 = .ok (.ifCond .eq 13, 3) := by decide +kernel
theorem dX1_growthAfter_23 : decode cX1_growthAfter 23 = .ok (.aload_n 0, 1) := by decide +kernel
theorem dX1_growthAfter_24 : decode cX1_growthAfter 24 = .ok (.dup, 1) := by decide +kernel
theorem dX1_growthAfter_25 : decode cX1_growthAfter 25 = .ok (.getfield 19, 3) := by decide +kernel
theorem dX1_growthAfter_28 : decode cX1_growthAfter 28 = .ok (.iconst 1, 1) := by decide +kernel
theorem dX1_growthAfter_29 : decode cX1_growthAfter 29 = .ok (.iadd, 1) := by decide +kernel
theorem dX1_growthAfter_30 : decode cX1_growthAfter 30 = .ok (.putfield 19, 3) := by decide +kernel
theorem dX1_growthAfter_33 : decode cX1_growthAfter 33 = .ok (.aload_n 0, 1) := by decide +kernel
theorem dX1_growthAfter_34 : decode cX1_growthAfter 34 = .ok (.getfield 22, 3) := by decide +kernel
theorem dX1_growthAfter_37 : decode cX1_growthAfter 37 = .ok (.aload_n 0, 1) := by decide +kernel
theorem dX1_growthAfter_38 : decode cX1_growthAfter 38 = .ok (.getfield 13, 3) := by decide +kernel
theorem dX1_growthAfter_41 : decode cX1_growthAfter 41 = .ok (.if_icmp .ge 5, 3) := by decide +kernel
theorem dX1_growthAfter_44 : decode cX1_growthAfter 44 = .ok (.iconst 0, 1) := by decide +kernel
theorem dX1_growthAfter_45 : decode cX1_growthAfter 45 = .ok (.ireturn, 1) := by decide +kernel
theorem dX1_growthAfter_46 : decode cX1_growthAfter 46 = .ok (.aload_n 0, 1) := by decide +kernel
theorem dX1_growthAfter_47 : decode cX1_growthAfter 47 = .ok (.getfield 19, 3) := by decide +kernel
theorem dX1_growthAfter_50 : decode cX1_growthAfter 50 = .ok (.aload_n 0, 1) := by decide +kernel
theorem dX1_growthAfter_51 : decode cX1_growthAfter 51 = .ok (.getfield 25, 3) := by decide +kernel
theorem dX1_growthAfter_54 : decode cX1_growthAfter 54 = .ok (.if_icmp .ge 12, 3) := by decide +kernel
theorem dX1_growthAfter_57 : decode cX1_growthAfter 57 = .ok (.aload_n 0, 1) := by decide +kernel
theorem dX1_growthAfter_58 : decode cX1_growthAfter 58 = .ok (.aload_n 0, 1) := by decide +kernel
theorem dX1_growthAfter_59 : decode cX1_growthAfter 59 = .ok (.getfield 16, 3) := by decide +kernel
theorem dX1_growthAfter_62 : decode cX1_growthAfter 62 = .ok (.ineg, 1) := by decide +kernel
theorem dX1_growthAfter_63 : decode cX1_growthAfter 63 = .ok (.putfield 16, 3) := by decide +kernel
theorem dX1_growthAfter_66 : decode cX1_growthAfter 66 = .ok (.aload_n 0, 1) := by decide +kernel
theorem dX1_growthAfter_67 : decode cX1_growthAfter 67 = .ok (.aload_n 0, 1) := by decide +kernel
theorem dX1_growthAfter_68 : decode cX1_growthAfter 68 = .ok (.getfield 19, 3) := by decide +kernel
theorem dX1_growthAfter_71 : decode cX1_growthAfter 71 = .ok (.putfield 25, 3) := by decide +kernel
theorem dX1_growthAfter_74 : decode cX1_growthAfter 74 = .ok (.aload_n 0, 1) := by decide +kernel
theorem dX1_growthAfter_75 : decode cX1_growthAfter 75 = .ok (.iconst 0, 1) := by decide +kernel
theorem dX1_growthAfter_76 : decode cX1_growthAfter 76 = .ok (.putfield 19, 3) := by decide +kernel
theorem dX1_growthAfter_79 : decode cX1_growthAfter 79 = .ok (.aload_n 0, 1) := by decide +kernel
theorem dX1_growthAfter_80 : decode cX1_growthAfter 80 = .ok (.iconst 0, 1) := by decide +kernel
theorem dX1_growthAfter_81 : decode cX1_growthAfter 81 = .ok (.putfield 22, 3) := by decide +kernel
theorem dX1_growthAfter_84 : decode cX1_growthAfter 84 = .ok (.aload_n 0, 1) := by decide +kernel
theorem dX1_growthAfter_85 : decode cX1_growthAfter 85 = .ok (.getfield 16, 3) := by decide +kernel
theorem dX1_growthAfter_88 : decode cX1_growthAfter 88 = .ok (.aload_n 0, 1) := by decide +kernel
theorem dX1_growthAfter_89 : decode cX1_growthAfter 89 = .ok (.getfield 7, 3) := by decide +kernel
theorem dX1_growthAfter_92 : decode cX1_growthAfter 92 = .ok (.imul, 1) := by decide +kernel
theorem dX1_growthAfter_93 : decode cX1_growthAfter 93 = .ok (.ireturn, 1) := by decide +kernel
theorem dX1_copyFrom_0 : decode cX1_copyFrom 0 = .ok (.aload_n 0, 1) := by decide +kernel
theorem dX1_copyFrom_1 : decode cX1_copyFrom 1 = .ok (.aload_n 1, 1) := by decide +kernel
theorem dX1_copyFrom_2 : decode cX1_copyFrom 2 = .ok (.getfield 7, 3) := by decide +kernel
theorem dX1_copyFrom_5 : decode cX1_copyFrom 5 = .ok (.putfield 7, 3) := by decide +kernel
theorem dX1_copyFrom_8 : decode cX1_copyFrom 8 = .ok (.aload_n 0, 1) := by decide +kernel
theorem dX1_copyFrom_9 : decode cX1_copyFrom 9 = .ok (.aload_n 1, 1) := by decide +kernel
theorem dX1_copyFrom_10 : decode cX1_copyFrom 10 = .ok (.getfield 13, 3) := by decide +kernel
theorem dX1_copyFrom_13 : decode cX1_copyFrom 13 = .ok (.putfield 13, 3) := by decide +kernel
theorem dX1_copyFrom_16 : decode cX1_copyFrom 16 = .ok (.aload_n 0, 1) := by decide +kernel
theorem dX1_copyFrom_17 : decode cX1_copyFrom 17 = .ok (.aload_n 1, 1) := by decide +kernel
theorem dX1_copyFrom_18 : decode cX1_copyFrom 18 = .ok (.getfield 16, 3) := by decide +kernel
theorem dX1_copyFrom_21 : decode cX1_copyFrom 21 = .ok (.putfield 16, 3) := by decide +kernel
theorem dX1_copyFrom_24 : decode cX1_copyFrom 24 = .ok (.aload_n 0, 1) := by decide +kernel
theorem dX1_copyFrom_25 : decode cX1_copyFrom 25 = .ok (.aload_n 1, 1) := by decide +kernel
theorem dX1_copyFrom_26 : decode cX1_copyFrom 26 = .ok (.getfield 19, 3) := by decide +kernel
theorem dX1_copyFrom_29 : decode cX1_copyFrom 29 = .ok (.putfield 19, 3) := by decide +kernel
theorem dX1_copyFrom_32 : decode cX1_copyFrom 32 = .ok (.aload_n 0, 1) := by decide +kernel
theorem dX1_copyFrom_33 : decode cX1_copyFrom 33 = .ok (.aload_n 1, 1) := by decide +kernel
theorem dX1_copyFrom_34 : decode cX1_copyFrom 34 = .ok (.getfield 22, 3) := by decide +kernel
theorem dX1_copyFrom_37 : decode cX1_copyFrom 37 = .ok (.putfield 22, 3) := by decide +kernel
theorem dX1_copyFrom_40 : decode cX1_copyFrom 40 = .ok (.aload_n 0, 1) := by decide +kernel
theorem dX1_copyFrom_41 : decode cX1_copyFrom 41 = .ok (.aload_n 1, 1) := by decide +kernel
theorem dX1_copyFrom_42 : decode cX1_copyFrom 42 = .ok (.getfield 25, 3) := by decide +kernel
theorem dX1_copyFrom_45 : decode cX1_copyFrom 45 = .ok (.putfield 25, 3) := by decide +kernel
theorem dX1_copyFrom_48 : decode cX1_copyFrom 48 = .ok (.return_, 1) := by decide +kernel
theorem dX2_init_0 : decode cX2_init 0 = .ok (.aload_n 0, 1) := by decide +kernel
theorem dX2_init_1 : decode cX2_init 1 = .ok (.invokespecial 3, 3) := by decide +kernel
theorem dX2_init_4 : decode cX2_init 4 = .ok (.aload_n 0, 1) := by decide +kernel
theorem dX2_init_5 : decode cX2_init 5 = .ok (.new 9, 3) := by decide +kernel
theorem dX2_init_8 : decode cX2_init 8 = .ok (.dup, 1) := by decide +kernel
theorem dX2_init_9 : decode cX2_init 9 = .ok (.iconst 4, 1) := by decide +kernel
theorem dX2_init_10 : decode cX2_init 10 = .ok (.invokespecial 11, 3) := by decide +kernel
theorem dX2_init_13 : decode cX2_init 13 = .ok (.putfield 14, 3) := by decide +kernel
theorem dX2_init_16 : decode cX2_init 16 = .ok (.aload_n 0, 1) := by decide +kernel
theorem dX2_init_17 : decode cX2_init 17 = .ok (.iconst 1, 1) := by decide +kernel
theorem dX2_init_18 : decode cX2_init 18 = .ok (.putfield 20, 3) := by decide +kernel
theorem dX2_init_21 : decode cX2_init 21 = .ok (.aload_n 0, 1) := by decide +kernel
theorem dX2_init_22 : decode cX2_init 22 = .ok (.iconst 0, 1) := by decide +kernel
theorem dX2_init_23 : decode cX2_init 23 = .ok (.putfield 24, 3) := by decide +kernel
theorem dX2_init_26 : decode cX2_init 26 = .ok (.return_, 1) := by decide +kernel
theorem dX2_begin_0 : decode cX2_begin 0 = .ok (.aload_n 0, 1) := by decide +kernel
theorem dX2_begin_1 : decode cX2_begin 1 = .ok (.getfield 14, 3) := by decide +kernel
theorem dX2_begin_4 : decode cX2_begin 4 = .ok (.invokevirtual 27, 3) := by decide +kernel
theorem dX2_begin_7 : decode cX2_begin 7 = .ok (.aload_n 0, 1) := by decide +kernel
theorem dX2_begin_8 : decode cX2_begin 8 = .ok (.iload_n 1, 1) := by decide +kernel
theorem dX2_begin_9 : decode cX2_begin 9 = .ok (.putfield 20, 3) := by decide +kernel
theorem dX2_begin_12 : decode cX2_begin 12 = .ok (.aload_n 0, 1) := by decide +kernel
theorem dX2_begin_13 : decode cX2_begin 13 = .ok (.iconst 0, 1) := by decide +kernel
theorem dX2_begin_14 : decode cX2_begin 14 = .ok (.putfield 24, 3) := by decide +kernel
theorem dX2_begin_17 : decode cX2_begin 17 = .ok (.return_, 1) := by decide +kernel
theorem dX2_asks_0 : decode cX2_asks 0 = .ok (.aload_n 0, 1) := by decide +kernel
theorem dX2_asks_1 : decode cX2_asks 1 = .ok (.getfield 14, 3) := by decide +kernel
theorem dX2_asks_4 : decode cX2_asks 4 = .ok (.getfield 30, 3) := by decide +kernel
theorem dX2_asks_7 : decode cX2_asks 7 = .ok (.iload_n 1, 1) := by decide +kernel
theorem dX2_asks_8 : decode cX2_asks 8 = .ok (.iaload, 1) := by decide +kernel
theorem dX2_asks_9 : decode cX2_asks 9 = .ok (.istore 4, 2) := by decide +kernel
theorem dX2_asks_11 : decode cX2_asks 11 = .ok (.iload 4, 2) := by decide +kernel
theorem dX2_asks_13 : decode cX2_asks 13 = .ok (.iconst (-1), 1) := by decide +kernel
theorem dX2_asks_14 : decode cX2_asks 14 = .ok (.if_icmp .ne 18, 3) := by decide +kernel
theorem dX2_asks_17 : decode cX2_asks 17 = .ok (.aload_n 0, 1) := by decide +kernel
theorem dX2_asks_18 : decode cX2_asks 18 = .ok (.invokevirtual 34, 3) := by decide +kernel
theorem dX2_asks_21 : decode cX2_asks 21 = .ok (.aload_n 0, 1) := by decide +kernel
theorem dX2_asks_22 : decode cX2_asks 22 = .ok (.getfield 14, 3) := by decide +kernel
theorem dX2_asks_25 : decode cX2_asks 25 = .ok (.iconst 0, 1) := by decide +kernel
theorem dX2_asks_26 : decode cX2_asks 26 = .ok (.iload_n 1, 1) := by decide +kernel
theorem dX2_asks_27 : decode cX2_asks 27 = .ok (.invokevirtual 37, 3) := by decide +kernel
theorem dX2_asks_30 : decode cX2_asks 30 = .ok (.iconst 0, 1) := by decide +kernel
theorem dX2_asks_31 : decode cX2_asks 31 = .ok (.ireturn, 1) := by decide +kernel
theorem dX2_asks_32 : decode cX2_asks 32 = .ok (.iload 4, 2) := by decide +kernel
theorem dX2_asks_34 : decode cX2_asks 34 = .ok (.iconst 2, 1) := by decide +kernel
theorem dX2_asks_35 : decode cX2_asks 35 = .ok (.if_icmp .ne 48, 3) := by decide +kernel
theorem dX2_asks_38 : decode cX2_asks 38 = .ok (.aload_n 0, 1) := by decide +kernel
theorem dX2_asks_39 : decode cX2_asks 39 = .ok (.aload_n 0, 1) := by decide +kernel
theorem dX2_asks_40 : decode cX2_asks 40 = .ok (.getfield 20, 3) := by decide +kernel
theorem dX2_asks_43 : decode cX2_asks 43 = .ok (.aload_n 0, 1) := by decide +kernel
theorem dX2_asks_44 : decode cX2_asks 44 = .ok (.getfield 24, 3) := by decide +kernel
theorem dX2_asks_47 : decode cX2_asks 47 = .ok (.aload_n 0, 1) := by decide +kernel
theorem dX2_asks_48 : decode cX2_asks 48 = .ok (.getfield 14, 3) := by decide +kernel
theorem dX2_asks_51 : decode cX2_asks 51 = .ok (.getfield 41, 3) := by decide +kernel
theorem dX2_asks_54 : decode cX2_asks 54 = .ok (.iconst 3, 1) := by decide +kernel
theorem dX2_asks_55 : decode cX2_asks 55 = .ok (.iaload, 1) := by decide +kernel
theorem dX2_asks_56 : decode cX2_asks 56 = .ok (.aload_n 0, 1) := by decide +kernel
theorem dX2_asks_57 : decode cX2_asks 57 = .ok (.getfield 14, 3) := by decide +kernel
theorem dX2_asks_60 : decode cX2_asks 60 = .ok (.getfield 41, 3) := by decide +kernel
theorem dX2_asks_63 : decode cX2_asks 63 = .ok (.iconst 2, 1) := by decide +kernel
theorem dX2_asks_64 : decode cX2_asks 64 = .ok (.iaload, 1) := by decide +kernel
theorem dX2_asks_65 : decode cX2_asks 65 = .ok (.invokestatic 44, 3) := by decide +kernel
theorem dX2_asks_68 : decode cX2_asks 68 = .ok (.iadd, 1) := by decide +kernel
theorem dX2_asks_69 : decode cX2_asks 69 = .ok (.invokestatic 48, 3) := by decide +kernel
theorem dX2_asks_72 : decode cX2_asks 72 = .ok (.putfield 24, 3) := by decide +kernel
theorem dX2_asks_75 : decode cX2_asks 75 = .ok (.aload_n 0, 1) := by decide +kernel
theorem dX2_asks_76 : decode cX2_asks 76 = .ok (.iconst 0, 1) := by decide +kernel
theorem dX2_asks_77 : decode cX2_asks 77 = .ok (.invokevirtual 53, 3) := by decide +kernel
theorem dX2_asks_80 : decode cX2_asks 80 = .ok (.goto 48, 3) := by decide +kernel
theorem dX2_asks_83 : decode cX2_asks 83 = .ok (.iload 4, 2) := by decide +kernel
theorem dX2_asks_85 : decode cX2_asks 85 = .ok (.iconst 3, 1) := by decide +kernel
theorem dX2_asks_86 : decode cX2_asks 86 = .ok (.if_icmp .ne 42, 3) := by decide +kernel
theorem dX2_asks_89 : decode cX2_asks 89 = .ok (.aload_n 0, 1) := by decide +kernel
theorem dX2_asks_90 : decode cX2_asks 90 = .ok (.iconst 0, 1) := by decide +kernel
theorem dX2_asks_91 : decode cX2_asks 91 = .ok (.aload_n 0, 1) := by decide +kernel
theorem dX2_asks_92 : decode cX2_asks 92 = .ok (.getfield 24, 3) := by decide +kernel
theorem dX2_asks_95 : decode cX2_asks 95 = .ok (.aload_n 0, 1) := by decide +kernel
theorem dX2_asks_96 : decode cX2_asks 96 = .ok (.getfield 14, 3) := by decide +kernel
theorem dX2_asks_99 : decode cX2_asks 99 = .ok (.getfield 41, 3) := by decide +kernel
theorem dX2_asks_102 : decode cX2_asks 102 = .ok (.iconst 2, 1) := by decide +kernel
theorem dX2_asks_103 : decode cX2_asks 103 = .ok (.iaload, 1) := by decide +kernel
theorem dX2_asks_104 : decode cX2_asks 104 = .ok (.aload_n 0, 1) := by decide +kernel
theorem dX2_asks_105 : decode cX2_asks 105 = .ok (.getfield 14, 3) := by decide +kernel
theorem dX2_asks_108 : decode cX2_asks 108 = .ok (.getfield 41, 3) := by decide +kernel
theorem dX2_asks_111 : decode cX2_asks 111 = .ok (.iconst 3, 1) := by decide +kernel
theorem dX2_asks_112 : decode cX2_asks 112 = .ok (.iaload, 1) := by decide +kernel
theorem dX2_asks_113 : decode cX2_asks 113 = .ok (.invokestatic 44, 3) := by decide +kernel
theorem dX2_asks_116 : decode cX2_asks 116 = .ok (.isub, 1) := by decide +kernel
theorem dX2_asks_117 : decode cX2_asks 117 = .ok (.invokestatic 57, 3) := by decide +kernel
theorem dX2_asks_120 : decode cX2_asks 120 = .ok (.putfield 24, 3) := by decide +kernel
theorem dX2_asks_123 : decode cX2_asks 123 = .ok (.aload_n 0, 1) := by decide +kernel
theorem dX2_asks_124 : decode cX2_asks 124 = .ok (.iconst 1, 1) := by decide +kernel
theorem dX2_asks_125 : decode cX2_asks 125 = .ok (.invokevirtual 53, 3) := by decide +kernel
theorem dX2_asks_128 : decode cX2_asks 128 = .ok (.aload_n 0, 1) := by decide +kernel
theorem dX2_asks_129 : decode cX2_asks 129 = .ok (.getfield 14, 3) := by decide +kernel
theorem dX2_asks_132 : decode cX2_asks 132 = .ok (.iconst 1, 1) := by decide +kernel
theorem dX2_asks_133 : decode cX2_asks 133 = .ok (.iload_n 1, 1) := by decide +kernel
theorem dX2_asks_134 : decode cX2_asks 134 = .ok (.invokevirtual 60, 3) := by decide +kernel
theorem dX2_asks_137 : decode cX2_asks 137 = .ok (.iload 4, 2) := by decide +kernel
theorem dX2_asks_139 : decode cX2_asks 139 = .ok (.ifCond .eq 9, 3) := by decide +kernel
theorem dX2_asks_142 : decode cX2_asks 142 = .ok (.iload 4, 2) := by decide +kernel
theorem dX2_asks_144 : decode cX2_asks 144 = .ok (.iconst 1, 1) := by decide +kernel
theorem dX2_asks_145 : decode cX2_asks 145 = .ok (.if_icmp .ne 7, 3) := by decide +kernel
theorem dX2_asks_148 : decode cX2_asks 148 = .ok (.iconst 1, 1) := by decide +kernel
theorem dX2_asks_149 : decode cX2_asks 149 = .ok (.goto 4, 3) := by decide +kernel
theorem dX2_asks_152 : decode cX2_asks 152 = .ok (.iconst 0, 1) := by decide +kernel
theorem dX2_asks_153 : decode cX2_asks 153 = .ok (.ireturn, 1) := by decide +kernel
theorem dX2_holds_0 : decode cX2_holds 0 = .ok (.aload_n 0, 1) := by decide +kernel
theorem dX2_holds_1 : decode cX2_holds 1 = .ok (.getfield 14, 3) := by decide +kernel
theorem dX2_holds_4 : decode cX2_holds 4 = .ok (.getfield 30, 3) := by decide +kernel
theorem dX2_holds_7 : decode cX2_holds 7 = .ok (.iload_n 1, 1) := by decide +kernel
theorem dX2_holds_8 : decode cX2_holds 8 = .ok (.iaload, 1) := by decide +kernel
theorem dX2_holds_9 : decode cX2_holds 9 = .ok (.ifCond .eq 16, 3) := by decide +kernel
theorem dX2_holds_12 : decode cX2_holds 12 = .ok (.aload_n 0, 1) := by decide +kernel
theorem dX2_holds_13 : decode cX2_holds 13 = .ok (.getfield 14, 3) := by decide +kernel
theorem dX2_holds_16 : decode cX2_holds 16 = .ok (.getfield 30, 3) := by decide +kernel
theorem dX2_holds_19 : decode cX2_holds 19 = .ok (.iload_n 1, 1) := by decide +kernel
theorem dX2_holds_20 : decode cX2_holds 20 = .ok (.iaload, 1) := by decide +kernel
theorem dX2_holds_21 : decode cX2_holds 21 = .ok (.iconst 1, 1) := by decide +kernel
theorem dX2_holds_22 : decode cX2_holds 22 = .ok (.if_icmp .ne 7, 3) := by decide +kernel
theorem dX2_holds_25 : decode cX2_holds 25 = .ok (.iconst 1, 1) := by decide +kernel
theorem dX2_holds_26 : decode cX2_holds 26 = .ok (.goto 4, 3) := by decide +kernel
theorem dX2_holds_29 : decode cX2_holds 29 = .ok (.iconst 0, 1) := by decide +kernel
theorem dX2_holds_30 : decode cX2_holds 30 = .ok (.ireturn, 1) := by decide +kernel
theorem dX2_ratio_0 : decode cX2_ratio 0 = .ok (.iload_n 1, 1) := by decide +kernel
theorem dX2_ratio_1 : decode cX2_ratio 1 = .ok (.ifCond .le 13, 3) := by decide +kernel
theorem dX2_ratio_4 : decode cX2_ratio 4 = .ok (.iconst 1, 1) := by decide +kernel
theorem dX2_ratio_5 : decode cX2_ratio 5 = .ok (.iload_n 0, 1) := by decide +kernel
theorem dX2_ratio_6 : decode cX2_ratio 6 = .ok (.iload_n 1, 1) := by decide +kernel
theorem dX2_ratio_7 : decode cX2_ratio 7 = .ok (.idiv, 1) := by decide +kernel
theorem dX2_ratio_8 : decode cX2_ratio 8 = .ok (.invokestatic 57, 3) := by decide +kernel
theorem dX2_ratio_11 : decode cX2_ratio 11 = .ok (.goto 4, 3) := by decide +kernel
theorem dX2_ratio_14 : decode cX2_ratio 14 = .ok (.iconst 1, 1) := by decide +kernel
theorem dX2_ratio_15 : decode cX2_ratio 15 = .ok (.ireturn, 1) := by decide +kernel
theorem dX2_makeRoomForNew_0 : decode cX2_makeRoomForNew 0 = .ok (.aload_n 0, 1) := by decide +kernel
theorem dX2_makeRoomForNew_1 : decode cX2_makeRoomForNew 1 = .ok (.getfield 14, 3) := by decide +kernel
theorem dX2_makeRoomForNew_4 : decode cX2_makeRoomForNew 4 = .ok (.getfield 41, 3) := by decide +kernel
theorem dX2_makeRoomForNew_7 : decode cX2_makeRoomForNew 7 = .ok (.iconst 0, 1) := by decide +kernel
theorem dX2_makeRoomForNew_8 : decode cX2_makeRoomForNew 8 = .ok (.iaload, 1) := by decide +kernel
theorem dX2_makeRoomForNew_9 : decode cX2_makeRoomForNew 9 = .ok (.istore_n 1, 1) := by decide +kernel
theorem dX2_makeRoomForNew_10 : decode cX2_makeRoomForNew 10 = .ok (.iload_n 1, 1) := by decide +kernel
theorem dX2_makeRoomForNew_11 : decode cX2_makeRoomForNew 11 = .ok (.aload_n 0, 1) := by decide +kernel
theorem dX2_makeRoomForNew_12 : decode cX2_makeRoomForNew 12 = .ok (.getfield 14, 3) := by decide +kernel
theorem dX2_makeRoomForNew_15 : decode cX2_makeRoomForNew 15 = .ok (.getfield 41, 3) := by decide +kernel
theorem dX2_makeRoomForNew_18 : decode cX2_makeRoomForNew 18 = .ok (.iconst 2, 1) := by decide +kernel
theorem dX2_makeRoomForNew_19 : decode cX2_makeRoomForNew 19 = .ok (.iaload, 1) := by decide +kernel
theorem dX2_makeRoomForNew_20 : decode cX2_makeRoomForNew 20 = .ok (.iadd, 1) := by decide +kernel
theorem dX2_makeRoomForNew_21 : decode cX2_makeRoomForNew 21 = .ok (.istore_n 2, 1) := by decide +kernel
theorem dX2_makeRoomForNew_22 : decode cX2_makeRoomForNew 22 = .ok (.iload_n 2, 1) := by decide +kernel
theorem dX2_makeRoomForNew_23 : decode cX2_makeRoomForNew 23 = .ok (.aload_n 0, 1) := by decide +kernel
theorem dX2_makeRoomForNew_24 : decode cX2_makeRoomForNew 24 = .ok (.getfield 14, 3) := by decide +kernel
theorem dX2_makeRoomForNew_27 : decode cX2_makeRoomForNew 27 = .ok (.getfield 41, 3) := by decide +kernel
theorem dX2_makeRoomForNew_30 : decode cX2_makeRoomForNew 30 = .ok (.iconst 1, 1) := by decide +kernel
theorem dX2_makeRoomForNew_31 : decode cX2_makeRoomForNew 31 = .ok (.iaload, 1) := by decide +kernel
theorem dX2_makeRoomForNew_32 : decode cX2_makeRoomForNew 32 = .ok (.iadd, 1) := by decide +kernel
theorem dX2_makeRoomForNew_33 : decode cX2_makeRoomForNew 33 = .ok (.aload_n 0, 1) := by decide +kernel
theorem dX2_makeRoomForNew_34 : decode cX2_makeRoomForNew 34 = .ok (.getfield 14, 3) := by decide +kernel
theorem dX2_makeRoomForNew_37 : decode cX2_makeRoomForNew 37 = .ok (.getfield 41, 3) := by decide +kernel
theorem dX2_makeRoomForNew_40 : decode cX2_makeRoomForNew 40 = .ok (.iconst 3, 1) := by decide +kernel
theorem dX2_makeRoomForNew_41 : decode cX2_makeRoomForNew 41 = .ok (.iaload, 1) := by decide +kernel
theorem dX2_makeRoomForNew_42 : decode cX2_makeRoomForNew 42 = .ok (.iadd, 1) := by decide +kernel
theorem dX2_makeRoomForNew_43 : decode cX2_makeRoomForNew 43 = .ok (.istore_n 3, 1) := by decide +kernel
theorem dX2_makeRoomForNew_44 : decode cX2_makeRoomForNew 44 = .ok (.iload_n 2, 1) := by decide +kernel
theorem dX2_makeRoomForNew_45 : decode cX2_makeRoomForNew 45 = .ok (.aload_n 0, 1) := by decide +kernel
theorem dX2_makeRoomForNew_46 : decode cX2_makeRoomForNew 46 = .ok (.getfield 20, 3) := by decide +kernel
theorem dX2_makeRoomForNew_49 : decode cX2_makeRoomForNew 49 = .ok (.if_icmp .lt 38, 3) := by decide +kernel
theorem dX2_makeRoomForNew_52 : decode cX2_makeRoomForNew 52 = .ok (.iload_n 1, 1) := by decide +kernel
theorem dX2_makeRoomForNew_53 : decode cX2_makeRoomForNew 53 = .ok (.aload_n 0, 1) := by decide +kernel
theorem dX2_makeRoomForNew_54 : decode cX2_makeRoomForNew 54 = .ok (.getfield 20, 3) := by decide +kernel
theorem dX2_makeRoomForNew_57 : decode cX2_makeRoomForNew 57 = .ok (.if_icmp .ge 19, 3) := by decide +kernel
theorem dX2_makeRoomForNew_60 : decode cX2_makeRoomForNew 60 = .ok (.aload_n 0, 1) := by decide +kernel
theorem dX2_makeRoomForNew_61 : decode cX2_makeRoomForNew 61 = .ok (.getfield 14, 3) := by decide +kernel
theorem dX2_makeRoomForNew_64 : decode cX2_makeRoomForNew 64 = .ok (.iconst 2, 1) := by decide +kernel
theorem dX2_makeRoomForNew_65 : decode cX2_makeRoomForNew 65 = .ok (.invokevirtual 63, 3) := by decide +kernel
theorem dX2_makeRoomForNew_68 : decode cX2_makeRoomForNew 68 = .ok (.aload_n 0, 1) := by decide +kernel
theorem dX2_makeRoomForNew_69 : decode cX2_makeRoomForNew 69 = .ok (.iconst 0, 1) := by decide +kernel
theorem dX2_makeRoomForNew_70 : decode cX2_makeRoomForNew 70 = .ok (.invokevirtual 53, 3) := by decide +kernel
theorem dX2_makeRoomForNew_73 : decode cX2_makeRoomForNew 73 = .ok (.goto 45, 3) := by decide +kernel
theorem dX2_makeRoomForNew_76 : decode cX2_makeRoomForNew 76 = .ok (.aload_n 0, 1) := by decide +kernel
theorem dX2_makeRoomForNew_77 : decode cX2_makeRoomForNew 77 = .ok (.getfield 14, 3) := by decide +kernel
theorem dX2_makeRoomForNew_80 : decode cX2_makeRoomForNew 80 = .ok (.iconst 0, 1) := by decide +kernel
theorem dX2_makeRoomForNew_81 : decode cX2_makeRoomForNew 81 = .ok (.invokevirtual 63, 3) := by decide +kernel
theorem dX2_makeRoomForNew_84 : decode cX2_makeRoomForNew 84 = .ok (.goto 34, 3) := by decide +kernel
theorem dX2_makeRoomForNew_87 : decode cX2_makeRoomForNew 87 = .ok (.iload_n 3, 1) := by decide +kernel
theorem dX2_makeRoomForNew_88 : decode cX2_makeRoomForNew 88 = .ok (.aload_n 0, 1) := by decide +kernel
theorem dX2_makeRoomForNew_89 : decode cX2_makeRoomForNew 89 = .ok (.getfield 20, 3) := by decide +kernel
theorem dX2_makeRoomForNew_92 : decode cX2_makeRoomForNew 92 = .ok (.if_icmp .lt 26, 3) := by decide +kernel
theorem dX2_makeRoomForNew_95 : decode cX2_makeRoomForNew 95 = .ok (.iload_n 3, 1) := by decide +kernel
theorem dX2_makeRoomForNew_96 : decode cX2_makeRoomForNew 96 = .ok (.iconst 2, 1) := by decide +kernel
theorem dX2_makeRoomForNew_97 : decode cX2_makeRoomForNew 97 = .ok (.aload_n 0, 1) := by decide +kernel
theorem dX2_makeRoomForNew_98 : decode cX2_makeRoomForNew 98 = .ok (.getfield 20, 3) := by decide +kernel
theorem dX2_makeRoomForNew_101 : decode cX2_makeRoomForNew 101 = .ok (.imul, 1) := by decide +kernel
theorem dX2_makeRoomForNew_102 : decode cX2_makeRoomForNew 102 = .ok (.if_icmp .lt 11, 3) := by decide +kernel
theorem dX2_makeRoomForNew_105 : decode cX2_makeRoomForNew 105 = .ok (.aload_n 0, 1) := by decide +kernel
theorem dX2_makeRoomForNew_106 : decode cX2_makeRoomForNew 106 = .ok (.getfield 14, 3) := by decide +kernel
theorem dX2_makeRoomForNew_109 : decode cX2_makeRoomForNew 109 = .ok (.iconst 3, 1) := by decide +kernel
theorem dX2_makeRoomForNew_110 : decode cX2_makeRoomForNew 110 = .ok (.invokevirtual 63, 3) := by decide +kernel
theorem dX2_makeRoomForNew_113 : decode cX2_makeRoomForNew 113 = .ok (.aload_n 0, 1) := by decide +kernel
theorem dX2_makeRoomForNew_114 : decode cX2_makeRoomForNew 114 = .ok (.iconst 0, 1) := by decide +kernel
theorem dX2_makeRoomForNew_115 : decode cX2_makeRoomForNew 115 = .ok (.invokevirtual 53, 3) := by decide +kernel
theorem dX2_makeRoomForNew_118 : decode cX2_makeRoomForNew 118 = .ok (.return_, 1) := by decide +kernel
theorem dX2_makeRoom_0 : decode cX2_makeRoom 0 = .ok (.aload_n 0, 1) := by decide +kernel
theorem dX2_makeRoom_1 : decode cX2_makeRoom 1 = .ok (.getfield 14, 3) := by decide +kernel
theorem dX2_makeRoom_4 : decode cX2_makeRoom 4 = .ok (.getfield 41, 3) := by decide +kernel
theorem dX2_makeRoom_7 : decode cX2_makeRoom 7 = .ok (.iconst 0, 1) := by decide +kernel
theorem dX2_makeRoom_8 : decode cX2_makeRoom 8 = .ok (.iaload, 1) := by decide +kernel
theorem dX2_makeRoom_9 : decode cX2_makeRoom 9 = .ok (.istore_n 2, 1) := by decide +kernel
theorem dX2_makeRoom_10 : decode cX2_makeRoom 10 = .ok (.iload_n 2, 1) := by decide +kernel
theorem dX2_makeRoom_11 : decode cX2_makeRoom 11 = .ok (.ifCond .le 27, 3) := by decide +kernel
theorem dX2_makeRoom_14 : decode cX2_makeRoom 14 = .ok (.iload_n 2, 1) := by decide +kernel
theorem dX2_makeRoom_15 : decode cX2_makeRoom 15 = .ok (.aload_n 0, 1) := by decide +kernel
theorem dX2_makeRoom_16 : decode cX2_makeRoom 16 = .ok (.getfield 24, 3) := by decide +kernel
theorem dX2_makeRoom_19 : decode cX2_makeRoom 19 = .ok (.if_icmp .gt 15, 3) := by decide +kernel
theorem dX2_makeRoom_22 : decode cX2_makeRoom 22 = .ok (.iload_n 2, 1) := by decide +kernel
theorem dX2_makeRoom_23 : decode cX2_makeRoom 23 = .ok (.aload_n 0, 1) := by decide +kernel
theorem dX2_makeRoom_24 : decode cX2_makeRoom 24 = .ok (.getfield 24, 3) := by decide +kernel
theorem dX2_makeRoom_27 : decode cX2_makeRoom 27 = .ok (.if_icmp .ne 11, 3) := by decide +kernel
theorem dX2_makeRoom_30 : decode cX2_makeRoom 30 = .ok (.iload_n 1, 1) := by decide +kernel
theorem dX2_makeRoom_31 : decode cX2_makeRoom 31 = .ok (.ifCond .eq 7, 3) := by decide +kernel
theorem dX2_makeRoom_34 : decode cX2_makeRoom 34 = .ok (.iconst 1, 1) := by decide +kernel
theorem dX2_makeRoom_35 : decode cX2_makeRoom 35 = .ok (.goto 4, 3) := by decide +kernel
theorem dX2_makeRoom_38 : decode cX2_makeRoom 38 = .ok (.iconst 0, 1) := by decide +kernel
theorem dX2_makeRoom_39 : decode cX2_makeRoom 39 = .ok (.istore_n 3, 1) := by decide +kernel
theorem dX2_makeRoom_40 : decode cX2_makeRoom 40 = .ok (.iload_n 3, 1) := by decide +kernel
theorem dX2_makeRoom_41 : decode cX2_makeRoom 41 = .ok (.ifCond .ne 15, 3) := by decide +kernel
theorem dX2_makeRoom_44 : decode cX2_makeRoom 44 = .ok (.aload_n 0, 1) := by decide +kernel
theorem dX2_makeRoom_45 : decode cX2_makeRoom 45 = .ok (.getfield 14, 3) := by decide +kernel
theorem dX2_makeRoom_48 : decode cX2_makeRoom 48 = .ok (.getfield 41, 3) := by decide +kernel
theorem dX2_makeRoom_51 : decode cX2_makeRoom 51 = .ok (.iconst 1, 1) := by decide +kernel
theorem dX2_makeRoom_52 : decode cX2_makeRoom 52 = .ok (.iaload, 1) := by decide +kernel
theorem dX2_makeRoom_53 : decode cX2_makeRoom 53 = .ok (.ifCond .ne 15, 3) := by decide +kernel
theorem dX2_makeRoom_56 : decode cX2_makeRoom 56 = .ok (.aload_n 0, 1) := by decide +kernel
theorem dX2_makeRoom_57 : decode cX2_makeRoom 57 = .ok (.getfield 14, 3) := by decide +kernel
theorem dX2_makeRoom_60 : decode cX2_makeRoom 60 = .ok (.iconst 0, 1) := by decide +kernel
theorem dX2_makeRoom_61 : decode cX2_makeRoom 61 = .ok (.iconst 2, 1) := by decide +kernel
theorem dX2_makeRoom_62 : decode cX2_makeRoom 62 = .ok (.invokevirtual 66, 3) := by decide +kernel
theorem dX2_makeRoom_65 : decode cX2_makeRoom 65 = .ok (.goto 12, 3) := by decide +kernel
theorem dX2_makeRoom_68 : decode cX2_makeRoom 68 = .ok (.aload_n 0, 1) := by decide +kernel
theorem dX2_makeRoom_69 : decode cX2_makeRoom 69 = .ok (.getfield 14, 3) := by decide +kernel
theorem dX2_makeRoom_72 : decode cX2_makeRoom 72 = .ok (.iconst 1, 1) := by decide +kernel
theorem dX2_makeRoom_73 : decode cX2_makeRoom 73 = .ok (.iconst 3, 1) := by decide +kernel
theorem dX2_makeRoom_74 : decode cX2_makeRoom 74 = .ok (.invokevirtual 66, 3) := by decide +kernel
theorem dX2_makeRoom_77 : decode cX2_makeRoom 77 = .ok (.return_, 1) := by decide +kernel
theorem dX3_init_0 : decode cX3_init 0 = .ok (.aload_n 0, 1) := by decide +kernel
theorem dX3_init_1 : decode cX3_init 1 = .ok (.invokespecial 3, 3) := by decide +kernel
theorem dX3_init_4 : decode cX3_init 4 = .ok (.aload_n 0, 1) := by decide +kernel
theorem dX3_init_5 : decode cX3_init 5 = .ok (.bipush 6, 2) := by decide +kernel
theorem dX3_init_7 : decode cX3_init 7 = .ok (.anewarray 11, 3) := by decide +kernel
theorem dX3_init_10 : decode cX3_init 10 = .ok (.putfield 13, 3) := by decide +kernel
theorem dX3_init_13 : decode cX3_init 13 = .ok (.aload_n 0, 1) := by decide +kernel
theorem dX3_init_14 : decode cX3_init 14 = .ok (.sipush 300, 3) := by decide +kernel
theorem dX3_init_17 : decode cX3_init 17 = .ok (.newarray .int, 2) := by decide +kernel
theorem dX3_init_19 : decode cX3_init 19 = .ok (.putfield 17, 3) := by decide +kernel
theorem dX3_init_22 : decode cX3_init 22 = .ok (.aload_n 0, 1) := by decide +kernel
theorem dX3_init_23 : decode cX3_init 23 = .ok (.bipush 100, 2) := by decide +kernel
theorem dX3_init_25 : decode cX3_init 25 = .ok (.newarray .int, 2) := by decide +kernel
theorem dX3_init_27 : decode cX3_init 27 = .ok (.putfield 21, 3) := by decide +kernel
theorem dX3_init_30 : decode cX3_init 30 = .ok (.aload_n 0, 1) := by decide +kernel
theorem dX3_init_31 : decode cX3_init 31 = .ok (.bipush 30, 2) := by decide +kernel
theorem dX3_init_33 : decode cX3_init 33 = .ok (.newarray .int, 2) := by decide +kernel
theorem dX3_init_35 : decode cX3_init 35 = .ok (.putfield 24, 3) := by decide +kernel
theorem dX3_init_38 : decode cX3_init 38 = .ok (.aload_n 0, 1) := by decide +kernel
theorem dX3_init_39 : decode cX3_init 39 = .ok (.iconst 0, 1) := by decide +kernel
theorem dX3_init_40 : decode cX3_init 40 = .ok (.putfield 27, 3) := by decide +kernel
theorem dX3_init_43 : decode cX3_init 43 = .ok (.aload_n 0, 1) := by decide +kernel
theorem dX3_init_44 : decode cX3_init 44 = .ok (.getfield 13, 3) := by decide +kernel
theorem dX3_init_47 : decode cX3_init 47 = .ok (.iconst 0, 1) := by decide +kernel
theorem dX3_init_48 : decode cX3_init 48 = .ok (.new 31, 3) := by decide +kernel
theorem dX3_init_51 : decode cX3_init 51 = .ok (.dup, 1) := by decide +kernel
theorem dX3_init_52 : decode cX3_init 52 = .ok (.iconst 0, 1) := by decide +kernel
theorem dX3_init_53 : decode cX3_init 53 = .ok (.invokespecial 33, 3) := by decide +kernel
theorem dX3_init_56 : decode cX3_init 56 = .ok (.aastore, 1) := by decide +kernel
theorem dX3_init_57 : decode cX3_init 57 = .ok (.aload_n 0, 1) := by decide +kernel
theorem dX3_init_58 : decode cX3_init 58 = .ok (.getfield 13, 3) := by decide +kernel
theorem dX3_init_61 : decode cX3_init 61 = .ok (.iconst 1, 1) := by decide +kernel
theorem dX3_init_62 : decode cX3_init 62 = .ok (.new 31, 3) := by decide +kernel
theorem dX3_init_65 : decode cX3_init 65 = .ok (.dup, 1) := by decide +kernel
theorem dX3_init_66 : decode cX3_init 66 = .ok (.iconst 1, 1) := by decide +kernel
theorem dX3_init_67 : decode cX3_init 67 = .ok (.invokespecial 33, 3) := by decide +kernel
theorem dX3_init_70 : decode cX3_init 70 = .ok (.aastore, 1) := by decide +kernel
theorem dX3_init_71 : decode cX3_init 71 = .ok (.aload_n 0, 1) := by decide +kernel
theorem dX3_init_72 : decode cX3_init 72 = .ok (.getfield 13, 3) := by decide +kernel
theorem dX3_init_75 : decode cX3_init 75 = .ok (.iconst 2, 1) := by decide +kernel
theorem dX3_init_76 : decode cX3_init 76 = .ok (.new 31, 3) := by decide +kernel
theorem dX3_init_79 : decode cX3_init 79 = .ok (.dup, 1) := by decide +kernel
theorem dX3_init_80 : decode cX3_init 80 = .ok (.iconst 2, 1) := by decide +kernel
theorem dX3_init_81 : decode cX3_init 81 = .ok (.invokespecial 33, 3) := by decide +kernel
theorem dX3_init_84 : decode cX3_init 84 = .ok (.aastore, 1) := by decide +kernel
theorem dX3_init_85 : decode cX3_init 85 = .ok (.aload_n 0, 1) := by decide +kernel
theorem dX3_init_86 : decode cX3_init 86 = .ok (.getfield 13, 3) := by decide +kernel
theorem dX3_init_89 : decode cX3_init 89 = .ok (.iconst 3, 1) := by decide +kernel
theorem dX3_init_90 : decode cX3_init 90 = .ok (.new 31, 3) := by decide +kernel
theorem dX3_init_93 : decode cX3_init 93 = .ok (.dup, 1) := by decide +kernel
theorem dX3_init_94 : decode cX3_init 94 = .ok (.iconst 3, 1) := by decide +kernel
theorem dX3_init_95 : decode cX3_init 95 = .ok (.invokespecial 33, 3) := by decide +kernel
theorem dX3_init_98 : decode cX3_init 98 = .ok (.aastore, 1) := by decide +kernel
theorem dX3_init_99 : decode cX3_init 99 = .ok (.aload_n 0, 1) := by decide +kernel
theorem dX3_init_100 : decode cX3_init 100 = .ok (.getfield 13, 3) := by decide +kernel
theorem dX3_init_103 : decode cX3_init 103 = .ok (.iconst 4, 1) := by decide +kernel
theorem dX3_init_104 : decode cX3_init 104 = .ok (.new 31, 3) := by decide +kernel
theorem dX3_init_107 : decode cX3_init 107 = .ok (.dup, 1) := by decide +kernel
theorem dX3_init_108 : decode cX3_init 108 = .ok (.iconst 4, 1) := by decide +kernel
theorem dX3_init_109 : decode cX3_init 109 = .ok (.invokespecial 33, 3) := by decide +kernel
theorem dX3_init_112 : decode cX3_init 112 = .ok (.aastore, 1) := by decide +kernel
theorem dX3_init_113 : decode cX3_init 113 = .ok (.aload_n 0, 1) := by decide +kernel
theorem dX3_init_114 : decode cX3_init 114 = .ok (.getfield 13, 3) := by decide +kernel
theorem dX3_init_117 : decode cX3_init 117 = .ok (.iconst 5, 1) := by decide +kernel
theorem dX3_init_118 : decode cX3_init 118 = .ok (.new 36, 3) := by decide +kernel
theorem dX3_init_121 : decode cX3_init 121 = .ok (.dup, 1) := by decide +kernel
theorem dX3_init_122 : decode cX3_init 122 = .ok (.invokespecial 38, 3) := by decide +kernel
theorem dX3_init_125 : decode cX3_init 125 = .ok (.aastore, 1) := by decide +kernel
theorem dX3_init_126 : decode cX3_init 126 = .ok (.return_, 1) := by decide +kernel
theorem dX3_play_0 : decode cX3_play 0 = .ok (.aload_n 0, 1) := by decide +kernel
theorem dX3_play_1 : decode cX3_play 1 = .ok (.getfield 13, 3) := by decide +kernel
theorem dX3_play_4 : decode cX3_play 4 = .ok (.iload_n 1, 1) := by decide +kernel
theorem dX3_play_5 : decode cX3_play 5 = .ok (.aaload, 1) := by decide +kernel
theorem dX3_play_6 : decode cX3_play 6 = .ok (.astore 6, 2) := by decide +kernel
theorem dX3_play_8 : decode cX3_play 8 = .ok (.aload_n 0, 1) := by decide +kernel
theorem dX3_play_9 : decode cX3_play 9 = .ok (.aload_n 3, 1) := by decide +kernel
theorem dX3_play_10 : decode cX3_play 10 = .ok (.iload 4, 2) := by decide +kernel
theorem dX3_play_12 : decode cX3_play 12 = .ok (.iload 5, 2) := by decide +kernel
theorem dX3_play_14 : decode cX3_play 14 = .ok (.invokevirtual 39, 3) := by decide +kernel
theorem dX3_play_17 : decode cX3_play 17 = .ok (.aload 6, 2) := by decide +kernel
theorem dX3_play_19 : decode cX3_play 19 = .ok (.iload_n 2, 1) := by decide +kernel
theorem dX3_play_20 : decode cX3_play 20 = .ok (.invokevirtual 43, 3) := by decide +kernel
theorem dX3_play_23 : decode cX3_play 23 = .ok (.iconst 0, 1) := by decide +kernel
theorem dX3_play_24 : decode cX3_play 24 = .ok (.istore 7, 2) := by decide +kernel
theorem dX3_play_26 : decode cX3_play 26 = .ok (.iload 4, 2) := by decide +kernel
theorem dX3_play_28 : decode cX3_play 28 = .ok (.istore 8, 2) := by decide +kernel
theorem dX3_play_30 : decode cX3_play 30 = .ok (.iload 8, 2) := by decide +kernel
theorem dX3_play_32 : decode cX3_play 32 = .ok (.iload 5, 2) := by decide +kernel
theorem dX3_play_34 : decode cX3_play 34 = .ok (.if_icmp .ge 35, 3) := by decide +kernel
theorem dX3_play_37 : decode cX3_play 37 = .ok (.aload 6, 2) := by decide +kernel
theorem dX3_play_39 : decode cX3_play 39 = .ok (.aload_n 3, 1) := by decide +kernel
theorem dX3_play_40 : decode cX3_play 40 = .ok (.iload 8, 2) := by decide +kernel
theorem dX3_play_42 : decode cX3_play 42 = .ok (.invokevirtual 46, 3) := by decide +kernel
theorem dX3_play_45 : decode cX3_play 45 = .ok (.iload 8, 2) := by decide +kernel
theorem dX3_play_47 : decode cX3_play 47 = .ok (.aload_n 0, 1) := by decide +kernel
theorem dX3_play_48 : decode cX3_play 48 = .ok (.getfield 17, 3) := by decide +kernel
theorem dX3_play_51 : decode cX3_play 51 = .ok (.iload 8, 2) := by decide +kernel
theorem dX3_play_53 : decode cX3_play 53 = .ok (.iaload, 1) := by decide +kernel
theorem dX3_play_54 : decode cX3_play 54 = .ok (.invokevirtual 52, 3) := by decide +kernel
theorem dX3_play_57 : decode cX3_play 57 = .ok (.ifCond .eq 6, 3) := by decide +kernel
theorem dX3_play_60 : decode cX3_play 60 = .ok (.iinc 7 1, 3) := by decide +kernel
theorem dX3_play_63 : decode cX3_play 63 = .ok (.iinc 8 1, 3) := by decide +kernel
theorem dX3_play_66 : decode cX3_play 66 = .ok (.goto (-36), 3) := by decide +kernel
theorem dX3_play_69 : decode cX3_play 69 = .ok (.aload_n 0, 1) := by decide +kernel
theorem dX3_play_70 : decode cX3_play 70 = .ok (.aload 6, 2) := by decide +kernel
theorem dX3_play_72 : decode cX3_play 72 = .ok (.invokevirtual 56, 3) := by decide +kernel
theorem dX3_play_75 : decode cX3_play 75 = .ok (.iload 7, 2) := by decide +kernel
theorem dX3_play_77 : decode cX3_play 77 = .ok (.ireturn, 1) := by decide +kernel
theorem dX3_lookAhead_0 : decode cX3_lookAhead 0 = .ok (.aload_n 0, 1) := by decide +kernel
theorem dX3_lookAhead_1 : decode cX3_lookAhead 1 = .ok (.getfield 21, 3) := by decide +kernel
theorem dX3_lookAhead_4 : decode cX3_lookAhead 4 = .ok (.sipush 300, 3) := by decide +kernel
theorem dX3_lookAhead_7 : decode cX3_lookAhead 7 = .ok (.invokestatic 60, 3) := by decide +kernel
theorem dX3_lookAhead_10 : decode cX3_lookAhead 10 = .ok (.iload_n 3, 1) := by decide +kernel
theorem dX3_lookAhead_11 : decode cX3_lookAhead 11 = .ok (.iconst 1, 1) := by decide +kernel
theorem dX3_lookAhead_12 : decode cX3_lookAhead 12 = .ok (.isub, 1) := by decide +kernel
theorem dX3_lookAhead_13 : decode cX3_lookAhead 13 = .ok (.istore 4, 2) := by decide +kernel
theorem dX3_lookAhead_15 : decode cX3_lookAhead 15 = .ok (.iload 4, 2) := by decide +kernel
theorem dX3_lookAhead_17 : decode cX3_lookAhead 17 = .ok (.iload_n 2, 1) := by decide +kernel
theorem dX3_lookAhead_18 : decode cX3_lookAhead 18 = .ok (.if_icmp .lt 40, 3) := by decide +kernel
theorem dX3_lookAhead_21 : decode cX3_lookAhead 21 = .ok (.aload_n 1, 1) := by decide +kernel
theorem dX3_lookAhead_22 : decode cX3_lookAhead 22 = .ok (.iload 4, 2) := by decide +kernel
theorem dX3_lookAhead_24 : decode cX3_lookAhead 24 = .ok (.invokevirtual 46, 3) := by decide +kernel
theorem dX3_lookAhead_27 : decode cX3_lookAhead 27 = .ok (.istore 5, 2) := by decide +kernel
theorem dX3_lookAhead_29 : decode cX3_lookAhead 29 = .ok (.aload_n 0, 1) := by decide +kernel
theorem dX3_lookAhead_30 : decode cX3_lookAhead 30 = .ok (.getfield 17, 3) := by decide +kernel
theorem dX3_lookAhead_33 : decode cX3_lookAhead 33 = .ok (.iload 4, 2) := by decide +kernel
theorem dX3_lookAhead_35 : decode cX3_lookAhead 35 = .ok (.aload_n 0, 1) := by decide +kernel
theorem dX3_lookAhead_36 : decode cX3_lookAhead 36 = .ok (.getfield 21, 3) := by decide +kernel
theorem dX3_lookAhead_39 : decode cX3_lookAhead 39 = .ok (.iload 5, 2) := by decide +kernel
theorem dX3_lookAhead_41 : decode cX3_lookAhead 41 = .ok (.iaload, 1) := by decide +kernel
theorem dX3_lookAhead_42 : decode cX3_lookAhead 42 = .ok (.iastore, 1) := by decide +kernel
theorem dX3_lookAhead_43 : decode cX3_lookAhead 43 = .ok (.aload_n 0, 1) := by decide +kernel
theorem dX3_lookAhead_44 : decode cX3_lookAhead 44 = .ok (.getfield 21, 3) := by decide +kernel
theorem dX3_lookAhead_47 : decode cX3_lookAhead 47 = .ok (.iload 5, 2) := by decide +kernel
theorem dX3_lookAhead_49 : decode cX3_lookAhead 49 = .ok (.iload 4, 2) := by decide +kernel
theorem dX3_lookAhead_51 : decode cX3_lookAhead 51 = .ok (.iastore, 1) := by decide +kernel
theorem dX3_lookAhead_52 : decode cX3_lookAhead 52 = .ok (.iinc 4 (-1), 3) := by decide +kernel
theorem dX3_lookAhead_55 : decode cX3_lookAhead 55 = .ok (.goto (-40), 3) := by decide +kernel
theorem dX3_lookAhead_58 : decode cX3_lookAhead 58 = .ok (.return_, 1) := by decide +kernel
theorem dX3_keepFrom_0 : decode cX3_keepFrom 0 = .ok (.aload_n 0, 1) := by decide +kernel
theorem dX3_keepFrom_1 : decode cX3_keepFrom 1 = .ok (.iconst 0, 1) := by decide +kernel
theorem dX3_keepFrom_2 : decode cX3_keepFrom 2 = .ok (.putfield 27, 3) := by decide +kernel
theorem dX3_keepFrom_5 : decode cX3_keepFrom 5 = .ok (.iconst 0, 1) := by decide +kernel
theorem dX3_keepFrom_6 : decode cX3_keepFrom 6 = .ok (.istore_n 2, 1) := by decide +kernel
theorem dX3_keepFrom_7 : decode cX3_keepFrom 7 = .ok (.iload_n 2, 1) := by decide +kernel
theorem dX3_keepFrom_8 : decode cX3_keepFrom 8 = .ok (.bipush 100, 2) := by decide +kernel
theorem dX3_keepFrom_10 : decode cX3_keepFrom 10 = .ok (.if_icmp .ge 46, 3) := by decide +kernel
theorem dX3_keepFrom_13 : decode cX3_keepFrom 13 = .ok (.aload_n 0, 1) := by decide +kernel
theorem dX3_keepFrom_14 : decode cX3_keepFrom 14 = .ok (.getfield 27, 3) := by decide +kernel
theorem dX3_keepFrom_17 : decode cX3_keepFrom 17 = .ok (.bipush 30, 2) := by decide +kernel
theorem dX3_keepFrom_19 : decode cX3_keepFrom 19 = .ok (.if_icmp .ge 37, 3) := by decide +kernel
theorem dX3_keepFrom_22 : decode cX3_keepFrom 22 = .ok (.aload_n 1, 1) := by decide +kernel
theorem dX3_keepFrom_23 : decode cX3_keepFrom 23 = .ok (.iload_n 2, 1) := by decide +kernel
theorem dX3_keepFrom_24 : decode cX3_keepFrom 24 = .ok (.invokevirtual 66, 3) := by decide +kernel
theorem dX3_keepFrom_27 : decode cX3_keepFrom 27 = .ok (.ifCond .eq 23, 3) := by decide +kernel
theorem dX3_keepFrom_30 : decode cX3_keepFrom 30 = .ok (.aload_n 0, 1) := by decide +kernel
theorem dX3_keepFrom_31 : decode cX3_keepFrom 31 = .ok (.getfield 24, 3) := by decide +kernel
theorem dX3_keepFrom_34 : decode cX3_keepFrom 34 = .ok (.aload_n 0, 1) := by decide +kernel
theorem dX3_keepFrom_35 : decode cX3_keepFrom 35 = .ok (.getfield 27, 3) := by decide +kernel
theorem dX3_keepFrom_38 : decode cX3_keepFrom 38 = .ok (.iload_n 2, 1) := by decide +kernel
theorem dX3_keepFrom_39 : decode cX3_keepFrom 39 = .ok (.iastore, 1) := by decide +kernel
theorem dX3_keepFrom_40 : decode cX3_keepFrom 40 = .ok (.aload_n 0, 1) := by decide +kernel
theorem dX3_keepFrom_41 : decode cX3_keepFrom 41 = .ok (.dup, 1) := by decide +kernel
theorem dX3_keepFrom_42 : decode cX3_keepFrom 42 = .ok (.getfield 27, 3) := by decide +kernel
theorem dX3_keepFrom_45 : decode cX3_keepFrom 45 = .ok (.iconst 1, 1) := by decide +kernel
theorem dX3_keepFrom_46 : decode cX3_keepFrom 46 = .ok (.iadd, 1) := by decide +kernel
theorem dX3_keepFrom_47 : decode cX3_keepFrom 47 = .ok (.putfield 27, 3) := by decide +kernel
theorem dX3_keepFrom_50 : decode cX3_keepFrom 50 = .ok (.iinc 2 1, 3) := by decide +kernel
theorem dX3_keepFrom_53 : decode cX3_keepFrom 53 = .ok (.goto (-46), 3) := by decide +kernel
theorem dX3_keepFrom_56 : decode cX3_keepFrom 56 = .ok (.return_, 1) := by decide +kernel
theorem dX3_keptAt_0 : decode cX3_keptAt 0 = .ok (.iload_n 1, 1) := by decide +kernel
theorem dX3_keptAt_1 : decode cX3_keptAt 1 = .ok (.ifCond .lt 20, 3) := by decide +kernel
theorem dX3_keptAt_4 : decode cX3_keptAt 4 = .ok (.iload_n 1, 1) := by decide +kernel
theorem dX3_keptAt_5 : decode cX3_keptAt 5 = .ok (.aload_n 0, 1) := by decide +kernel
theorem dX3_keptAt_6 : decode cX3_keptAt 6 = .ok (.getfield 27, 3) := by decide +kernel
theorem dX3_keptAt_9 : decode cX3_keptAt 9 = .ok (.if_icmp .ge 12, 3) := by decide +kernel
theorem dX3_keptAt_12 : decode cX3_keptAt 12 = .ok (.aload_n 0, 1) := by decide +kernel
theorem dX3_keptAt_13 : decode cX3_keptAt 13 = .ok (.getfield 24, 3) := by decide +kernel
theorem dX3_keptAt_16 : decode cX3_keptAt 16 = .ok (.iload_n 1, 1) := by decide +kernel
theorem dX3_keptAt_17 : decode cX3_keptAt 17 = .ok (.iaload, 1) := by decide +kernel
theorem dX3_keptAt_18 : decode cX3_keptAt 18 = .ok (.goto 4, 3) := by decide +kernel
theorem dX3_keptAt_21 : decode cX3_keptAt 21 = .ok (.iconst (-1), 1) := by decide +kernel
theorem dX3_keptAt_22 : decode cX3_keptAt 22 = .ok (.ireturn, 1) := by decide +kernel
theorem dX4_init_0 : decode cX4_init 0 = .ok (.aload_n 0, 1) := by decide +kernel
theorem dX4_init_1 : decode cX4_init 1 = .ok (.invokespecial 1, 3) := by decide +kernel
theorem dX4_init_4 : decode cX4_init 4 = .ok (.return_, 1) := by decide +kernel
theorem dX5_init_0 : decode cX5_init 0 = .ok (.aload_n 0, 1) := by decide +kernel
theorem dX5_init_1 : decode cX5_init 1 = .ok (.invokespecial 3, 3) := by decide +kernel
theorem dX5_init_4 : decode cX5_init 4 = .ok (.aload_n 0, 1) := by decide +kernel
theorem dX5_init_5 : decode cX5_init 5 = .ok (.bipush 100, 2) := by decide +kernel
theorem dX5_init_7 : decode cX5_init 7 = .ok (.newarray .int, 2) := by decide +kernel
theorem dX5_init_9 : decode cX5_init 9 = .ok (.putfield 9, 3) := by decide +kernel
theorem dX5_init_12 : decode cX5_init 12 = .ok (.aload_n 0, 1) := by decide +kernel
theorem dX5_init_13 : decode cX5_init 13 = .ok (.bipush 100, 2) := by decide +kernel
theorem dX5_init_15 : decode cX5_init 15 = .ok (.newarray .int, 2) := by decide +kernel
theorem dX5_init_17 : decode cX5_init 17 = .ok (.putfield 15, 3) := by decide +kernel
theorem dX5_init_20 : decode cX5_init 20 = .ok (.iconst 1, 1) := by decide +kernel
theorem dX5_init_21 : decode cX5_init 21 = .ok (.iload_n 1, 1) := by decide +kernel
theorem dX5_init_22 : decode cX5_init 22 = .ok (.invokestatic 18, 3) := by decide +kernel
theorem dX5_init_25 : decode cX5_init 25 = .ok (.istore_n 2, 1) := by decide +kernel
theorem dX5_init_26 : decode cX5_init 26 = .ok (.aload_n 0, 1) := by decide +kernel
theorem dX5_init_27 : decode cX5_init 27 = .ok (.iload_n 2, 1) := by decide +kernel
theorem dX5_init_28 : decode cX5_init 28 = .ok (.bipush 100, 2) := by decide +kernel
theorem dX5_init_30 : decode cX5_init 30 = .ok (.multianewarray 24 2, 4) := by decide +kernel
theorem dX5_init_34 : decode cX5_init 34 = .ok (.putfield 26, 3) := by decide +kernel
theorem dX5_init_37 : decode cX5_init 37 = .ok (.aload_n 0, 1) := by decide +kernel
theorem dX5_init_38 : decode cX5_init 38 = .ok (.iload_n 2, 1) := by decide +kernel
theorem dX5_init_39 : decode cX5_init 39 = .ok (.newarray .int, 2) := by decide +kernel
theorem dX5_init_41 : decode cX5_init 41 = .ok (.putfield 29, 3) := by decide +kernel
theorem dX5_init_44 : decode cX5_init 44 = .ok (.aload_n 0, 1) := by decide +kernel
theorem dX5_init_45 : decode cX5_init 45 = .ok (.iload_n 2, 1) := by decide +kernel
theorem dX5_init_46 : decode cX5_init 46 = .ok (.newarray .int, 2) := by decide +kernel
theorem dX5_init_48 : decode cX5_init 48 = .ok (.putfield 32, 3) := by decide +kernel
theorem dX5_init_51 : decode cX5_init 51 = .ok (.aload_n 0, 1) := by decide +kernel
theorem dX5_init_52 : decode cX5_init 52 = .ok (.getfield 9, 3) := by decide +kernel
theorem dX5_init_55 : decode cX5_init 55 = .ok (.iconst (-1), 1) := by decide +kernel
theorem dX5_init_56 : decode cX5_init 56 = .ok (.invokestatic 35, 3) := by decide +kernel
theorem dX5_init_59 : decode cX5_init 59 = .ok (.aload_n 0, 1) := by decide +kernel
theorem dX5_init_60 : decode cX5_init 60 = .ok (.getfield 15, 3) := by decide +kernel
theorem dX5_init_63 : decode cX5_init 63 = .ok (.iconst 1, 1) := by decide +kernel
theorem dX5_init_64 : decode cX5_init 64 = .ok (.invokestatic 35, 3) := by decide +kernel
theorem dX5_init_67 : decode cX5_init 67 = .ok (.return_, 1) := by decide +kernel
theorem dX5_clear_0 : decode cX5_clear 0 = .ok (.aload_n 0, 1) := by decide +kernel
theorem dX5_clear_1 : decode cX5_clear 1 = .ok (.getfield 29, 3) := by decide +kernel
theorem dX5_clear_4 : decode cX5_clear 4 = .ok (.iconst 0, 1) := by decide +kernel
theorem dX5_clear_5 : decode cX5_clear 5 = .ok (.invokestatic 35, 3) := by decide +kernel
theorem dX5_clear_8 : decode cX5_clear 8 = .ok (.aload_n 0, 1) := by decide +kernel
theorem dX5_clear_9 : decode cX5_clear 9 = .ok (.getfield 32, 3) := by decide +kernel
theorem dX5_clear_12 : decode cX5_clear 12 = .ok (.iconst 0, 1) := by decide +kernel
theorem dX5_clear_13 : decode cX5_clear 13 = .ok (.invokestatic 35, 3) := by decide +kernel
theorem dX5_clear_16 : decode cX5_clear 16 = .ok (.aload_n 0, 1) := by decide +kernel
theorem dX5_clear_17 : decode cX5_clear 17 = .ok (.getfield 9, 3) := by decide +kernel
theorem dX5_clear_20 : decode cX5_clear 20 = .ok (.iconst (-1), 1) := by decide +kernel
theorem dX5_clear_21 : decode cX5_clear 21 = .ok (.invokestatic 35, 3) := by decide +kernel
theorem dX5_clear_24 : decode cX5_clear 24 = .ok (.return_, 1) := by decide +kernel
theorem dX5_keyAt_0 : decode cX5_keyAt 0 = .ok (.iload_n 2, 1) := by decide +kernel
theorem dX5_keyAt_1 : decode cX5_keyAt 1 = .ok (.ifCond .lt 24, 3) := by decide +kernel
theorem dX5_keyAt_4 : decode cX5_keyAt 4 = .ok (.iload_n 2, 1) := by decide +kernel
theorem dX5_keyAt_5 : decode cX5_keyAt 5 = .ok (.aload_n 0, 1) := by decide +kernel
theorem dX5_keyAt_6 : decode cX5_keyAt 6 = .ok (.getfield 29, 3) := by decide +kernel
theorem dX5_keyAt_9 : decode cX5_keyAt 9 = .ok (.iload_n 1, 1) := by decide +kernel
theorem dX5_keyAt_10 : decode cX5_keyAt 10 = .ok (.iaload, 1) := by decide +kernel
theorem dX5_keyAt_11 : decode cX5_keyAt 11 = .ok (.if_icmp .ge 14, 3) := by decide +kernel
theorem dX5_keyAt_14 : decode cX5_keyAt 14 = .ok (.aload_n 0, 1) := by decide +kernel
theorem dX5_keyAt_15 : decode cX5_keyAt 15 = .ok (.getfield 26, 3) := by decide +kernel
theorem dX5_keyAt_18 : decode cX5_keyAt 18 = .ok (.iload_n 1, 1) := by decide +kernel
theorem dX5_keyAt_19 : decode cX5_keyAt 19 = .ok (.aaload, 1) := by decide +kernel
theorem dX5_keyAt_20 : decode cX5_keyAt 20 = .ok (.iload_n 2, 1) := by decide +kernel
theorem dX5_keyAt_21 : decode cX5_keyAt 21 = .ok (.iaload, 1) := by decide +kernel
theorem dX5_keyAt_22 : decode cX5_keyAt 22 = .ok (.goto 4, 3) := by decide +kernel
theorem dX5_keyAt_25 : decode cX5_keyAt 25 = .ok (.iconst (-1), 1) := by decide +kernel
theorem dX5_keyAt_26 : decode cX5_keyAt 26 = .ok (.ireturn, 1) := by decide +kernel
theorem dX5_takeOut_0 : decode cX5_takeOut 0 = .ok (.aload_n 0, 1) := by decide +kernel
theorem dX5_takeOut_1 : decode cX5_takeOut 1 = .ok (.getfield 9, 3) := by decide +kernel
theorem dX5_takeOut_4 : decode cX5_takeOut 4 = .ok (.iload_n 1, 1) := by decide +kernel
theorem dX5_takeOut_5 : decode cX5_takeOut 5 = .ok (.iaload, 1) := by decide +kernel
theorem dX5_takeOut_6 : decode cX5_takeOut 6 = .ok (.istore_n 2, 1) := by decide +kernel
theorem dX5_takeOut_7 : decode cX5_takeOut 7 = .ok (.iload_n 2, 1) := by decide +kernel
theorem dX5_takeOut_8 : decode cX5_takeOut 8 = .ok (.iconst (-1), 1) := by decide +kernel
theorem dX5_takeOut_9 : decode cX5_takeOut 9 = .ok (.if_icmp .ne 4, 3) := by decide +kernel
theorem dX5_takeOut_12 : decode cX5_takeOut 12 = .ok (.return_, 1) := by decide +kernel
theorem dX5_takeOut_13 : decode cX5_takeOut 13 = .ok (.aload_n 0, 1) := by decide +kernel
theorem dX5_takeOut_14 : decode cX5_takeOut 14 = .ok (.getfield 26, 3) := by decide +kernel
theorem dX5_takeOut_17 : decode cX5_takeOut 17 = .ok (.iload_n 2, 1) := by decide +kernel
theorem dX5_takeOut_18 : decode cX5_takeOut 18 = .ok (.aaload, 1) := by decide +kernel
theorem dX5_takeOut_19 : decode cX5_takeOut 19 = .ok (.astore_n 3, 1) := by decide +kernel
theorem dX5_takeOut_20 : decode cX5_takeOut 20 = .ok (.aload_n 0, 1) := by decide +kernel
theorem dX5_takeOut_21 : decode cX5_takeOut 21 = .ok (.getfield 29, 3) := by decide +kernel
theorem dX5_takeOut_24 : decode cX5_takeOut 24 = .ok (.iload_n 2, 1) := by decide +kernel
theorem dX5_takeOut_25 : decode cX5_takeOut 25 = .ok (.iaload, 1) := by decide +kernel
theorem dX5_takeOut_26 : decode cX5_takeOut 26 = .ok (.iconst 1, 1) := by decide +kernel
theorem dX5_takeOut_27 : decode cX5_takeOut 27 = .ok (.isub, 1) := by decide +kernel
theorem dX5_takeOut_28 : decode cX5_takeOut 28 = .ok (.istore 4, 2) := by decide +kernel
theorem dX5_takeOut_30 : decode cX5_takeOut 30 = .ok (.iconst 0, 1) := by decide +kernel
theorem dX5_takeOut_31 : decode cX5_takeOut 31 = .ok (.istore 5, 2) := by decide +kernel
theorem dX5_takeOut_33 : decode cX5_takeOut 33 = .ok (.iconst 0, 1) := by decide +kernel
theorem dX5_takeOut_34 : decode cX5_takeOut 34 = .ok (.istore 6, 2) := by decide +kernel
theorem dX5_takeOut_36 : decode cX5_takeOut 36 = .ok (.iload 6, 2) := by decide +kernel
theorem dX5_takeOut_38 : decode cX5_takeOut 38 = .ok (.iload 4, 2) := by decide +kernel
theorem dX5_takeOut_40 : decode cX5_takeOut 40 = .ok (.if_icmp .ge 44, 3) := by decide +kernel
theorem dX5_takeOut_43 : decode cX5_takeOut 43 = .ok (.iload 5, 2) := by decide +kernel
theorem dX5_takeOut_45 : decode cX5_takeOut 45 = .ok (.ifCond .ne 11, 3) := by decide +kernel
theorem dX5_takeOut_48 : decode cX5_takeOut 48 = .ok (.aload_n 3, 1) := by decide +kernel
theorem dX5_takeOut_49 : decode cX5_takeOut 49 = .ok (.iload 6, 2) := by decide +kernel
theorem dX5_takeOut_51 : decode cX5_takeOut 51 = .ok (.iaload, 1) := by decide +kernel
theorem dX5_takeOut_52 : decode cX5_takeOut 52 = .ok (.iload_n 1, 1) := by decide +kernel
theorem dX5_takeOut_53 : decode cX5_takeOut 53 = .ok (.if_icmp .ne 7, 3) := by decide +kernel
theorem dX5_takeOut_56 : decode cX5_takeOut 56 = .ok (.iconst 1, 1) := by decide +kernel
theorem dX5_takeOut_57 : decode cX5_takeOut 57 = .ok (.goto 4, 3) := by decide +kernel
theorem dX5_takeOut_60 : decode cX5_takeOut 60 = .ok (.iconst 0, 1) := by decide +kernel
theorem dX5_takeOut_61 : decode cX5_takeOut 61 = .ok (.istore 5, 2) := by decide +kernel
theorem dX5_takeOut_63 : decode cX5_takeOut 63 = .ok (.iload 5, 2) := by decide +kernel
theorem dX5_takeOut_65 : decode cX5_takeOut 65 = .ok (.ifCond .eq 13, 3) := by decide +kernel
theorem dX5_takeOut_68 : decode cX5_takeOut 68 = .ok (.aload_n 3, 1) := by decide +kernel
theorem dX5_takeOut_69 : decode cX5_takeOut 69 = .ok (.iload 6, 2) := by decide +kernel
theorem dX5_takeOut_71 : decode cX5_takeOut 71 = .ok (.aload_n 3, 1) := by decide +kernel
theorem dX5_takeOut_72 : decode cX5_takeOut 72 = .ok (.iload 6, 2) := by decide +kernel
theorem dX5_takeOut_74 : decode cX5_takeOut 74 = .ok (.iconst 1, 1) := by decide +kernel
theorem dX5_takeOut_75 : decode cX5_takeOut 75 = .ok (.iadd, 1) := by decide +kernel
theorem dX5_takeOut_76 : decode cX5_takeOut 76 = .ok (.iaload, 1) := by decide +kernel
theorem dX5_takeOut_77 : decode cX5_takeOut 77 = .ok (.iastore, 1) := by decide +kernel
theorem dX5_takeOut_78 : decode cX5_takeOut 78 = .ok (.iinc 6 1, 3) := by decide +kernel
theorem dX5_takeOut_81 : decode cX5_takeOut 81 = .ok (.goto (-45), 3) := by decide +kernel
theorem dX5_takeOut_84 : decode cX5_takeOut 84 = .ok (.aload_n 0, 1) := by decide +kernel
theorem dX5_takeOut_85 : decode cX5_takeOut 85 = .ok (.getfield 29, 3) := by decide +kernel
theorem dX5_takeOut_88 : decode cX5_takeOut 88 = .ok (.iload_n 2, 1) := by decide +kernel
theorem dX5_takeOut_89 : decode cX5_takeOut 89 = .ok (.iload 4, 2) := by decide +kernel
theorem dX5_takeOut_91 : decode cX5_takeOut 91 = .ok (.iastore, 1) := by decide +kernel
theorem dX5_takeOut_92 : decode cX5_takeOut 92 = .ok (.aload_n 0, 1) := by decide +kernel
theorem dX5_takeOut_93 : decode cX5_takeOut 93 = .ok (.getfield 32, 3) := by decide +kernel
theorem dX5_takeOut_96 : decode cX5_takeOut 96 = .ok (.iload_n 2, 1) := by decide +kernel
theorem dX5_takeOut_97 : decode cX5_takeOut 97 = .ok (.dup2, 1) := by decide +kernel
theorem dX5_takeOut_98 : decode cX5_takeOut 98 = .ok (.iaload, 1) := by decide +kernel
theorem dX5_takeOut_99 : decode cX5_takeOut 99 = .ok (.aload_n 0, 1) := by decide +kernel
theorem dX5_takeOut_100 : decode cX5_takeOut 100 = .ok (.getfield 15, 3) := by decide +kernel
theorem dX5_takeOut_103 : decode cX5_takeOut 103 = .ok (.iload_n 1, 1) := by decide +kernel
theorem dX5_takeOut_104 : decode cX5_takeOut 104 = .ok (.iaload, 1) := by decide +kernel
theorem dX5_takeOut_105 : decode cX5_takeOut 105 = .ok (.isub, 1) := by decide +kernel
theorem dX5_takeOut_106 : decode cX5_takeOut 106 = .ok (.iastore, 1) := by decide +kernel
theorem dX5_takeOut_107 : decode cX5_takeOut 107 = .ok (.aload_n 0, 1) := by decide +kernel
theorem dX5_takeOut_108 : decode cX5_takeOut 108 = .ok (.getfield 9, 3) := by decide +kernel
theorem dX5_takeOut_111 : decode cX5_takeOut 111 = .ok (.iload_n 1, 1) := by decide +kernel
theorem dX5_takeOut_112 : decode cX5_takeOut 112 = .ok (.iconst (-1), 1) := by decide +kernel
theorem dX5_takeOut_113 : decode cX5_takeOut 113 = .ok (.iastore, 1) := by decide +kernel
theorem dX5_takeOut_114 : decode cX5_takeOut 114 = .ok (.return_, 1) := by decide +kernel
theorem dX5_append_0 : decode cX5_append 0 = .ok (.aload_n 0, 1) := by decide +kernel
theorem dX5_append_1 : decode cX5_append 1 = .ok (.getfield 29, 3) := by decide +kernel
theorem dX5_append_4 : decode cX5_append 4 = .ok (.iload_n 1, 1) := by decide +kernel
theorem dX5_append_5 : decode cX5_append 5 = .ok (.iaload, 1) := by decide +kernel
theorem dX5_append_6 : decode cX5_append 6 = .ok (.istore_n 3, 1) := by decide +kernel
theorem dX5_append_7 : decode cX5_append 7 = .ok (.iload_n 3, 1) := by decide +kernel
theorem dX5_append_8 : decode cX5_append 8 = .ok (.bipush 100, 2) := by decide +kernel
theorem dX5_append_10 : decode cX5_append 10 = .ok (.if_icmp .lt 4, 3) := by decide +kernel
theorem dX5_append_13 : decode cX5_append 13 = .ok (.return_, 1) := by decide +kernel
theorem dX5_append_14 : decode cX5_append 14 = .ok (.aload_n 0, 1) := by decide +kernel
theorem dX5_append_15 : decode cX5_append 15 = .ok (.getfield 26, 3) := by decide +kernel
theorem dX5_append_18 : decode cX5_append 18 = .ok (.iload_n 1, 1) := by decide +kernel
theorem dX5_append_19 : decode cX5_append 19 = .ok (.aaload, 1) := by decide +kernel
theorem dX5_append_20 : decode cX5_append 20 = .ok (.iload_n 3, 1) := by decide +kernel
theorem dX5_append_21 : decode cX5_append 21 = .ok (.iload_n 2, 1) := by decide +kernel
theorem dX5_append_22 : decode cX5_append 22 = .ok (.iastore, 1) := by decide +kernel
theorem dX5_append_23 : decode cX5_append 23 = .ok (.aload_n 0, 1) := by decide +kernel
theorem dX5_append_24 : decode cX5_append 24 = .ok (.getfield 29, 3) := by decide +kernel
theorem dX5_append_27 : decode cX5_append 27 = .ok (.iload_n 1, 1) := by decide +kernel
theorem dX5_append_28 : decode cX5_append 28 = .ok (.iload_n 3, 1) := by decide +kernel
theorem dX5_append_29 : decode cX5_append 29 = .ok (.iconst 1, 1) := by decide +kernel
theorem dX5_append_30 : decode cX5_append 30 = .ok (.iadd, 1) := by decide +kernel
theorem dX5_append_31 : decode cX5_append 31 = .ok (.iastore, 1) := by decide +kernel
theorem dX5_append_32 : decode cX5_append 32 = .ok (.aload_n 0, 1) := by decide +kernel
theorem dX5_append_33 : decode cX5_append 33 = .ok (.getfield 32, 3) := by decide +kernel
theorem dX5_append_36 : decode cX5_append 36 = .ok (.iload_n 1, 1) := by decide +kernel
theorem dX5_append_37 : decode cX5_append 37 = .ok (.dup2, 1) := by decide +kernel
theorem dX5_append_38 : decode cX5_append 38 = .ok (.iaload, 1) := by decide +kernel
theorem dX5_append_39 : decode cX5_append 39 = .ok (.aload_n 0, 1) := by decide +kernel
theorem dX5_append_40 : decode cX5_append 40 = .ok (.getfield 15, 3) := by decide +kernel
theorem dX5_append_43 : decode cX5_append 43 = .ok (.iload_n 2, 1) := by decide +kernel
theorem dX5_append_44 : decode cX5_append 44 = .ok (.iaload, 1) := by decide +kernel
theorem dX5_append_45 : decode cX5_append 45 = .ok (.iadd, 1) := by decide +kernel
theorem dX5_append_46 : decode cX5_append 46 = .ok (.iastore, 1) := by decide +kernel
theorem dX5_append_47 : decode cX5_append 47 = .ok (.aload_n 0, 1) := by decide +kernel
theorem dX5_append_48 : decode cX5_append 48 = .ok (.getfield 9, 3) := by decide +kernel
theorem dX5_append_51 : decode cX5_append 51 = .ok (.iload_n 2, 1) := by decide +kernel
theorem dX5_append_52 : decode cX5_append 52 = .ok (.iload_n 1, 1) := by decide +kernel
theorem dX5_append_53 : decode cX5_append 53 = .ok (.iastore, 1) := by decide +kernel
theorem dX5_append_54 : decode cX5_append 54 = .ok (.return_, 1) := by decide +kernel
theorem dX5_moveToLast_0 : decode cX5_moveToLast 0 = .ok (.aload_n 0, 1) := by decide +kernel
theorem dX5_moveToLast_1 : decode cX5_moveToLast 1 = .ok (.iload_n 2, 1) := by decide +kernel
theorem dX5_moveToLast_2 : decode cX5_moveToLast 2 = .ok (.invokevirtual 41, 3) := by decide +kernel
theorem dX5_moveToLast_5 : decode cX5_moveToLast 5 = .ok (.aload_n 0, 1) := by decide +kernel
theorem dX5_moveToLast_6 : decode cX5_moveToLast 6 = .ok (.iload_n 1, 1) := by decide +kernel
theorem dX5_moveToLast_7 : decode cX5_moveToLast 7 = .ok (.iload_n 2, 1) := by decide +kernel
theorem dX5_moveToLast_8 : decode cX5_moveToLast 8 = .ok (.invokevirtual 45, 3) := by decide +kernel
theorem dX5_moveToLast_11 : decode cX5_moveToLast 11 = .ok (.return_, 1) := by decide +kernel
theorem dX5_moveFirst_0 : decode cX5_moveFirst 0 = .ok (.aload_n 0, 1) := by decide +kernel
theorem dX5_moveFirst_1 : decode cX5_moveFirst 1 = .ok (.iload_n 1, 1) := by decide +kernel
theorem dX5_moveFirst_2 : decode cX5_moveFirst 2 = .ok (.iconst 0, 1) := by decide +kernel
theorem dX5_moveFirst_3 : decode cX5_moveFirst 3 = .ok (.invokevirtual 49, 3) := by decide +kernel
theorem dX5_moveFirst_6 : decode cX5_moveFirst 6 = .ok (.istore_n 3, 1) := by decide +kernel
theorem dX5_moveFirst_7 : decode cX5_moveFirst 7 = .ok (.iload_n 3, 1) := by decide +kernel
theorem dX5_moveFirst_8 : decode cX5_moveFirst 8 = .ok (.iconst (-1), 1) := by decide +kernel
theorem dX5_moveFirst_9 : decode cX5_moveFirst 9 = .ok (.if_icmp .eq 9, 3) := by decide +kernel
theorem dX5_moveFirst_12 : decode cX5_moveFirst 12 = .ok (.aload_n 0, 1) := by decide +kernel
theorem dX5_moveFirst_13 : decode cX5_moveFirst 13 = .ok (.iload_n 2, 1) := by decide +kernel
theorem dX5_moveFirst_14 : decode cX5_moveFirst 14 = .ok (.iload_n 3, 1) := by decide +kernel
theorem dX5_moveFirst_15 : decode cX5_moveFirst 15 = .ok (.invokevirtual 52, 3) := by decide +kernel
theorem dX5_moveFirst_18 : decode cX5_moveFirst 18 = .ok (.return_, 1) := by decide +kernel
theorem dX5_dropFirst_0 : decode cX5_dropFirst 0 = .ok (.aload_n 0, 1) := by decide +kernel
theorem dX5_dropFirst_1 : decode cX5_dropFirst 1 = .ok (.iload_n 1, 1) := by decide +kernel
theorem dX5_dropFirst_2 : decode cX5_dropFirst 2 = .ok (.iconst 0, 1) := by decide +kernel
theorem dX5_dropFirst_3 : decode cX5_dropFirst 3 = .ok (.invokevirtual 49, 3) := by decide +kernel
theorem dX5_dropFirst_6 : decode cX5_dropFirst 6 = .ok (.istore_n 2, 1) := by decide +kernel
theorem dX5_dropFirst_7 : decode cX5_dropFirst 7 = .ok (.iload_n 2, 1) := by decide +kernel
theorem dX5_dropFirst_8 : decode cX5_dropFirst 8 = .ok (.iconst (-1), 1) := by decide +kernel
theorem dX5_dropFirst_9 : decode cX5_dropFirst 9 = .ok (.if_icmp .eq 8, 3) := by decide +kernel
theorem dX5_dropFirst_12 : decode cX5_dropFirst 12 = .ok (.aload_n 0, 1) := by decide +kernel
theorem dX5_dropFirst_13 : decode cX5_dropFirst 13 = .ok (.iload_n 2, 1) := by decide +kernel
theorem dX5_dropFirst_14 : decode cX5_dropFirst 14 = .ok (.invokevirtual 41, 3) := by decide +kernel
theorem dX5_dropFirst_17 : decode cX5_dropFirst 17 = .ok (.return_, 1) := by decide +kernel
theorem dX5_appearancesOf_0 : decode cX5_appearancesOf 0 = .ok (.iconst 0, 1) := by decide +kernel
theorem dX5_appearancesOf_1 : decode cX5_appearancesOf 1 = .ok (.istore_n 2, 1) := by decide +kernel
theorem dX5_appearancesOf_2 : decode cX5_appearancesOf 2 = .ok (.iconst 0, 1) := by decide +kernel
theorem dX5_appearancesOf_3 : decode cX5_appearancesOf 3 = .ok (.istore_n 3, 1) := by decide +kernel
theorem dX5_appearancesOf_4 : decode cX5_appearancesOf 4 = .ok (.iload_n 3, 1) := by decide +kernel
theorem dX5_appearancesOf_5 : decode cX5_appearancesOf 5 = .ok (.aload_n 0, 1) := by decide +kernel
theorem dX5_appearancesOf_6 : decode cX5_appearancesOf 6 = .ok (.getfield 26, 3) := by decide +kernel
theorem dX5_appearancesOf_9 : decode cX5_appearancesOf 9 = .ok (.arraylength, 1) := by decide +kernel
theorem dX5_appearancesOf_10 : decode cX5_appearancesOf 10 = .ok (.if_icmp .ge 45, 3) := by decide +kernel
theorem dX5_appearancesOf_13 : decode cX5_appearancesOf 13 = .ok (.iconst 0, 1) := by decide +kernel
theorem dX5_appearancesOf_14 : decode cX5_appearancesOf 14 = .ok (.istore 4, 2) := by decide +kernel
theorem dX5_appearancesOf_16 : decode cX5_appearancesOf 16 = .ok (.iload 4, 2) := by decide +kernel
theorem dX5_appearancesOf_18 : decode cX5_appearancesOf 18 = .ok (.aload_n 0, 1) := by decide +kernel
theorem dX5_appearancesOf_19 : decode cX5_appearancesOf 19 = .ok (.getfield 29, 3) := by decide +kernel
theorem dX5_appearancesOf_22 : decode cX5_appearancesOf 22 = .ok (.iload_n 3, 1) := by decide +kernel
theorem dX5_appearancesOf_23 : decode cX5_appearancesOf 23 = .ok (.iaload, 1) := by decide +kernel
theorem dX5_appearancesOf_24 : decode cX5_appearancesOf 24 = .ok (.if_icmp .ge 25, 3) := by decide +kernel
theorem dX5_appearancesOf_27 : decode cX5_appearancesOf 27 = .ok (.aload_n 0, 1) := by decide +kernel
theorem dX5_appearancesOf_28 : decode cX5_appearancesOf 28 = .ok (.getfield 26, 3) := by decide +kernel
theorem dX5_appearancesOf_31 : decode cX5_appearancesOf 31 = .ok (.iload_n 3, 1) := by decide +kernel
theorem dX5_appearancesOf_32 : decode cX5_appearancesOf 32 = .ok (.aaload, 1) := by decide +kernel
theorem dX5_appearancesOf_33 : decode cX5_appearancesOf 33 = .ok (.iload 4, 2) := by decide +kernel
theorem dX5_appearancesOf_35 : decode cX5_appearancesOf 35 = .ok (.iaload, 1) := by decide +kernel
theorem dX5_appearancesOf_36 : decode cX5_appearancesOf 36 = .ok (.iload_n 1, 1) := by decide +kernel
theorem dX5_appearancesOf_37 : decode cX5_appearancesOf 37 = .ok (.if_icmp .ne 6, 3) := by decide +kernel
theorem dX5_appearancesOf_40 : decode cX5_appearancesOf 40 = .ok (.iinc 2 1, 3) := by decide +kernel
theorem dX5_appearancesOf_43 : decode cX5_appearancesOf 43 = .ok (.iinc 4 1, 3) := by decide +kernel
theorem dX5_appearancesOf_46 : decode cX5_appearancesOf 46 = .ok (.goto (-30), 3) := by decide +kernel
theorem dX5_appearancesOf_49 : decode cX5_appearancesOf 49 = .ok (.iinc 3 1, 3) := by decide +kernel
theorem dX5_appearancesOf_52 : decode cX5_appearancesOf 52 = .ok (.goto (-48), 3) := by decide +kernel
theorem dX5_appearancesOf_55 : decode cX5_appearancesOf 55 = .ok (.iload_n 2, 1) := by decide +kernel
theorem dX5_appearancesOf_56 : decode cX5_appearancesOf 56 = .ok (.ireturn, 1) := by decide +kernel
theorem dX5_countedUnits_0 : decode cX5_countedUnits 0 = .ok (.iconst 0, 1) := by decide +kernel
theorem dX5_countedUnits_1 : decode cX5_countedUnits 1 = .ok (.istore_n 2, 1) := by decide +kernel
theorem dX5_countedUnits_2 : decode cX5_countedUnits 2 = .ok (.iconst 0, 1) := by decide +kernel
theorem dX5_countedUnits_3 : decode cX5_countedUnits 3 = .ok (.istore_n 3, 1) := by decide +kernel
theorem dX5_countedUnits_4 : decode cX5_countedUnits 4 = .ok (.iload_n 3, 1) := by decide +kernel
theorem dX5_countedUnits_5 : decode cX5_countedUnits 5 = .ok (.aload_n 0, 1) := by decide +kernel
theorem dX5_countedUnits_6 : decode cX5_countedUnits 6 = .ok (.getfield 29, 3) := by decide +kernel
theorem dX5_countedUnits_9 : decode cX5_countedUnits 9 = .ok (.iload_n 1, 1) := by decide +kernel
theorem dX5_countedUnits_10 : decode cX5_countedUnits 10 = .ok (.iaload, 1) := by decide +kernel
theorem dX5_countedUnits_11 : decode cX5_countedUnits 11 = .ok (.if_icmp .ge 25, 3) := by decide +kernel
theorem dX5_countedUnits_14 : decode cX5_countedUnits 14 = .ok (.iload_n 2, 1) := by decide +kernel
theorem dX5_countedUnits_15 : decode cX5_countedUnits 15 = .ok (.aload_n 0, 1) := by decide +kernel
theorem dX5_countedUnits_16 : decode cX5_countedUnits 16 = .ok (.getfield 15, 3) := by decide +kernel
theorem dX5_countedUnits_19 : decode cX5_countedUnits 19 = .ok (.aload_n 0, 1) := by decide +kernel
theorem dX5_countedUnits_20 : decode cX5_countedUnits 20 = .ok (.getfield 26, 3) := by decide +kernel
theorem dX5_countedUnits_23 : decode cX5_countedUnits 23 = .ok (.iload_n 1, 1) := by decide +kernel
theorem dX5_countedUnits_24 : decode cX5_countedUnits 24 = .ok (.aaload, 1) := by decide +kernel
theorem dX5_countedUnits_25 : decode cX5_countedUnits 25 = .ok (.iload_n 3, 1) := by decide +kernel
theorem dX5_countedUnits_26 : decode cX5_countedUnits 26 = .ok (.iaload, 1) := by decide +kernel
theorem dX5_countedUnits_27 : decode cX5_countedUnits 27 = .ok (.iaload, 1) := by decide +kernel
theorem dX5_countedUnits_28 : decode cX5_countedUnits 28 = .ok (.iadd, 1) := by decide +kernel
theorem dX5_countedUnits_29 : decode cX5_countedUnits 29 = .ok (.istore_n 2, 1) := by decide +kernel
theorem dX5_countedUnits_30 : decode cX5_countedUnits 30 = .ok (.iinc 3 1, 3) := by decide +kernel
theorem dX5_countedUnits_33 : decode cX5_countedUnits 33 = .ok (.goto (-29), 3) := by decide +kernel
theorem dX5_countedUnits_36 : decode cX5_countedUnits 36 = .ok (.iload_n 2, 1) := by decide +kernel
theorem dX5_countedUnits_37 : decode cX5_countedUnits 37 = .ok (.ireturn, 1) := by decide +kernel
theorem dX5_copyFrom_0 : decode cX5_copyFrom 0 = .ok (.iconst 0, 1) := by decide +kernel
theorem dX5_copyFrom_1 : decode cX5_copyFrom 1 = .ok (.istore_n 2, 1) := by decide +kernel
theorem dX5_copyFrom_2 : decode cX5_copyFrom 2 = .ok (.iload_n 2, 1) := by decide +kernel
theorem dX5_copyFrom_3 : decode cX5_copyFrom 3 = .ok (.aload_n 0, 1) := by decide +kernel
theorem dX5_copyFrom_4 : decode cX5_copyFrom 4 = .ok (.getfield 26, 3) := by decide +kernel
theorem dX5_copyFrom_7 : decode cX5_copyFrom 7 = .ok (.arraylength, 1) := by decide +kernel
theorem dX5_copyFrom_8 : decode cX5_copyFrom 8 = .ok (.if_icmp .ge 61, 3) := by decide +kernel
theorem dX5_copyFrom_11 : decode cX5_copyFrom 11 = .ok (.iload_n 2, 1) := by decide +kernel
theorem dX5_copyFrom_12 : decode cX5_copyFrom 12 = .ok (.aload_n 1, 1) := by decide +kernel
theorem dX5_copyFrom_13 : decode cX5_copyFrom 13 = .ok (.getfield 26, 3) := by decide +kernel
theorem dX5_copyFrom_16 : decode cX5_copyFrom 16 = .ok (.arraylength, 1) := by decide +kernel
theorem dX5_copyFrom_17 : decode cX5_copyFrom 17 = .ok (.if_icmp .ge 52, 3) := by decide +kernel
theorem dX5_copyFrom_20 : decode cX5_copyFrom 20 = .ok (.aload_n 1, 1) := by decide +kernel
theorem dX5_copyFrom_21 : decode cX5_copyFrom 21 = .ok (.getfield 26, 3) := by decide +kernel
theorem dX5_copyFrom_24 : decode cX5_copyFrom 24 = .ok (.iload_n 2, 1) := by decide +kernel
theorem dX5_copyFrom_25 : decode cX5_copyFrom 25 = .ok (.aaload, 1) := by decide +kernel
theorem dX5_copyFrom_26 : decode cX5_copyFrom 26 = .ok (.iconst 0, 1) := by decide +kernel
theorem dX5_copyFrom_27 : decode cX5_copyFrom 27 = .ok (.aload_n 0, 1) := by decide +kernel
theorem dX5_copyFrom_28 : decode cX5_copyFrom 28 = .ok (.getfield 26, 3) := by decide +kernel
theorem dX5_copyFrom_31 : decode cX5_copyFrom 31 = .ok (.iload_n 2, 1) := by decide +kernel
theorem dX5_copyFrom_32 : decode cX5_copyFrom 32 = .ok (.aaload, 1) := by decide +kernel
theorem dX5_copyFrom_33 : decode cX5_copyFrom 33 = .ok (.iconst 0, 1) := by decide +kernel
theorem dX5_copyFrom_34 : decode cX5_copyFrom 34 = .ok (.bipush 100, 2) := by decide +kernel
theorem dX5_copyFrom_36 : decode cX5_copyFrom 36 = .ok (.invokestatic 55, 3) := by decide +kernel
theorem dX5_copyFrom_39 : decode cX5_copyFrom 39 = .ok (.aload_n 0, 1) := by decide +kernel
theorem dX5_copyFrom_40 : decode cX5_copyFrom 40 = .ok (.getfield 29, 3) := by decide +kernel
theorem dX5_copyFrom_43 : decode cX5_copyFrom 43 = .ok (.iload_n 2, 1) := by decide +kernel
theorem dX5_copyFrom_44 : decode cX5_copyFrom 44 = .ok (.aload_n 1, 1) := by decide +kernel
theorem dX5_copyFrom_45 : decode cX5_copyFrom 45 = .ok (.getfield 29, 3) := by decide +kernel
theorem dX5_copyFrom_48 : decode cX5_copyFrom 48 = .ok (.iload_n 2, 1) := by decide +kernel
theorem dX5_copyFrom_49 : decode cX5_copyFrom 49 = .ok (.iaload, 1) := by decide +kernel
theorem dX5_copyFrom_50 : decode cX5_copyFrom 50 = .ok (.iastore, 1) := by decide +kernel
theorem dX5_copyFrom_51 : decode cX5_copyFrom 51 = .ok (.aload_n 0, 1) := by decide +kernel
theorem dX5_copyFrom_52 : decode cX5_copyFrom 52 = .ok (.getfield 32, 3) := by decide +kernel
theorem dX5_copyFrom_55 : decode cX5_copyFrom 55 = .ok (.iload_n 2, 1) := by decide +kernel
theorem dX5_copyFrom_56 : decode cX5_copyFrom 56 = .ok (.aload_n 1, 1) := by decide +kernel
theorem dX5_copyFrom_57 : decode cX5_copyFrom 57 = .ok (.getfield 32, 3) := by decide +kernel
theorem dX5_copyFrom_60 : decode cX5_copyFrom 60 = .ok (.iload_n 2, 1) := by decide +kernel
theorem dX5_copyFrom_61 : decode cX5_copyFrom 61 = .ok (.iaload, 1) := by decide +kernel
theorem dX5_copyFrom_62 : decode cX5_copyFrom 62 = .ok (.iastore, 1) := by decide +kernel
theorem dX5_copyFrom_63 : decode cX5_copyFrom 63 = .ok (.iinc 2 1, 3) := by decide +kernel
theorem dX5_copyFrom_66 : decode cX5_copyFrom 66 = .ok (.goto (-64), 3) := by decide +kernel
theorem dX5_copyFrom_69 : decode cX5_copyFrom 69 = .ok (.aload_n 1, 1) := by decide +kernel
theorem dX5_copyFrom_70 : decode cX5_copyFrom 70 = .ok (.getfield 9, 3) := by decide +kernel
theorem dX5_copyFrom_73 : decode cX5_copyFrom 73 = .ok (.iconst 0, 1) := by decide +kernel
theorem dX5_copyFrom_74 : decode cX5_copyFrom 74 = .ok (.aload_n 0, 1) := by decide +kernel
theorem dX5_copyFrom_75 : decode cX5_copyFrom 75 = .ok (.getfield 9, 3) := by decide +kernel
theorem dX5_copyFrom_78 : decode cX5_copyFrom 78 = .ok (.iconst 0, 1) := by decide +kernel
theorem dX5_copyFrom_79 : decode cX5_copyFrom 79 = .ok (.bipush 100, 2) := by decide +kernel
theorem dX5_copyFrom_81 : decode cX5_copyFrom 81 = .ok (.invokestatic 55, 3) := by decide +kernel
theorem dX5_copyFrom_84 : decode cX5_copyFrom 84 = .ok (.aload_n 1, 1) := by decide +kernel
theorem dX5_copyFrom_85 : decode cX5_copyFrom 85 = .ok (.getfield 15, 3) := by decide +kernel
theorem dX5_copyFrom_88 : decode cX5_copyFrom 88 = .ok (.iconst 0, 1) := by decide +kernel
theorem dX5_copyFrom_89 : decode cX5_copyFrom 89 = .ok (.aload_n 0, 1) := by decide +kernel
theorem dX5_copyFrom_90 : decode cX5_copyFrom 90 = .ok (.getfield 15, 3) := by decide +kernel
theorem dX5_copyFrom_93 : decode cX5_copyFrom 93 = .ok (.iconst 0, 1) := by decide +kernel
theorem dX5_copyFrom_94 : decode cX5_copyFrom 94 = .ok (.bipush 100, 2) := by decide +kernel
theorem dX5_copyFrom_96 : decode cX5_copyFrom 96 = .ok (.invokestatic 55, 3) := by decide +kernel
theorem dX5_copyFrom_99 : decode cX5_copyFrom 99 = .ok (.return_, 1) := by decide +kernel
theorem dX6_init_0 : decode cX6_init 0 = .ok (.aload_n 0, 1) := by decide +kernel
theorem dX6_init_1 : decode cX6_init 1 = .ok (.invokespecial 3, 3) := by decide +kernel
theorem dX6_init_4 : decode cX6_init 4 = .ok (.aload_n 0, 1) := by decide +kernel
theorem dX6_init_5 : decode cX6_init 5 = .ok (.bipush 30, 2) := by decide +kernel
theorem dX6_init_7 : decode cX6_init 7 = .ok (.newarray .int, 2) := by decide +kernel
theorem dX6_init_9 : decode cX6_init 9 = .ok (.putfield 9, 3) := by decide +kernel
theorem dX6_init_12 : decode cX6_init 12 = .ok (.aload_n 0, 1) := by decide +kernel
theorem dX6_init_13 : decode cX6_init 13 = .ok (.bipush 30, 2) := by decide +kernel
theorem dX6_init_15 : decode cX6_init 15 = .ok (.newarray .int, 2) := by decide +kernel
theorem dX6_init_17 : decode cX6_init 17 = .ok (.putfield 15, 3) := by decide +kernel
theorem dX6_init_20 : decode cX6_init 20 = .ok (.aload_n 0, 1) := by decide +kernel
theorem dX6_init_21 : decode cX6_init 21 = .ok (.bipush 30, 2) := by decide +kernel
theorem dX6_init_23 : decode cX6_init 23 = .ok (.newarray .int, 2) := by decide +kernel
theorem dX6_init_25 : decode cX6_init 25 = .ok (.putfield 18, 3) := by decide +kernel
theorem dX6_init_28 : decode cX6_init 28 = .ok (.aload_n 0, 1) := by decide +kernel
theorem dX6_init_29 : decode cX6_init 29 = .ok (.bipush 30, 2) := by decide +kernel
theorem dX6_init_31 : decode cX6_init 31 = .ok (.newarray .int, 2) := by decide +kernel
theorem dX6_init_33 : decode cX6_init 33 = .ok (.putfield 21, 3) := by decide +kernel
theorem dX6_init_36 : decode cX6_init 36 = .ok (.aload_n 0, 1) := by decide +kernel
theorem dX6_init_37 : decode cX6_init 37 = .ok (.bipush 30, 2) := by decide +kernel
theorem dX6_init_39 : decode cX6_init 39 = .ok (.newarray .int, 2) := by decide +kernel
theorem dX6_init_41 : decode cX6_init 41 = .ok (.putfield 24, 3) := by decide +kernel
theorem dX6_init_44 : decode cX6_init 44 = .ok (.aload_n 0, 1) := by decide +kernel
theorem dX6_init_45 : decode cX6_init 45 = .ok (.bipush 30, 2) := by decide +kernel
theorem dX6_init_47 : decode cX6_init 47 = .ok (.newarray .int, 2) := by decide +kernel
theorem dX6_init_49 : decode cX6_init 49 = .ok (.putfield 27, 3) := by decide +kernel
theorem dX6_init_52 : decode cX6_init 52 = .ok (.aload_n 0, 1) := by decide +kernel
theorem dX6_init_53 : decode cX6_init 53 = .ok (.iconst 1, 1) := by decide +kernel
theorem dX6_init_54 : decode cX6_init 54 = .ok (.putfield 30, 3) := by decide +kernel
theorem dX6_init_57 : decode cX6_init 57 = .ok (.aload_n 0, 1) := by decide +kernel
theorem dX6_init_58 : decode cX6_init 58 = .ok (.iconst 0, 1) := by decide +kernel
theorem dX6_init_59 : decode cX6_init 59 = .ok (.putfield 34, 3) := by decide +kernel
theorem dX6_init_62 : decode cX6_init 62 = .ok (.aload_n 0, 1) := by decide +kernel
theorem dX6_init_63 : decode cX6_init 63 = .ok (.iconst 0, 1) := by decide +kernel
theorem dX6_init_64 : decode cX6_init 64 = .ok (.putfield 37, 3) := by decide +kernel
theorem dX6_init_67 : decode cX6_init 67 = .ok (.aload_n 0, 1) := by decide +kernel
theorem dX6_init_68 : decode cX6_init 68 = .ok (.iload_n 1, 1) := by decide +kernel
theorem dX6_init_69 : decode cX6_init 69 = .ok (.putfield 40, 3) := by decide +kernel
theorem dX6_init_72 : decode cX6_init 72 = .ok (.return_, 1) := by decide +kernel
theorem dX6_begin_0 : decode cX6_begin 0 = .ok (.aload_n 0, 1) := by decide +kernel
theorem dX6_begin_1 : decode cX6_begin 1 = .ok (.iconst 1, 1) := by decide +kernel
theorem dX6_begin_2 : decode cX6_begin 2 = .ok (.bipush 30, 2) := by decide +kernel
theorem dX6_begin_4 : decode cX6_begin 4 = .ok (.iload_n 1, 1) := by decide +kernel
theorem dX6_begin_5 : decode cX6_begin 5 = .ok (.invokestatic 43, 3) := by decide +kernel
theorem dX6_begin_8 : decode cX6_begin 8 = .ok (.invokestatic 49, 3) := by decide +kernel
theorem dX6_begin_11 : decode cX6_begin 11 = .ok (.putfield 30, 3) := by decide +kernel
theorem dX6_begin_14 : decode cX6_begin 14 = .ok (.aload_n 0, 1) := by decide +kernel
theorem dX6_begin_15 : decode cX6_begin 15 = .ok (.iconst 0, 1) := by decide +kernel
theorem dX6_begin_16 : decode cX6_begin 16 = .ok (.putfield 34, 3) := by decide +kernel
theorem dX6_begin_19 : decode cX6_begin 19 = .ok (.aload_n 0, 1) := by decide +kernel
theorem dX6_begin_20 : decode cX6_begin 20 = .ok (.iconst 0, 1) := by decide +kernel
theorem dX6_begin_21 : decode cX6_begin 21 = .ok (.putfield 37, 3) := by decide +kernel
theorem dX6_begin_24 : decode cX6_begin 24 = .ok (.return_, 1) := by decide +kernel
theorem dX6_asks_0 : decode cX6_asks 0 = .ok (.aload_n 0, 1) := by decide +kernel
theorem dX6_asks_1 : decode cX6_asks 1 = .ok (.iload_n 1, 1) := by decide +kernel
theorem dX6_asks_2 : decode cX6_asks 2 = .ok (.invokevirtual 52, 3) := by decide +kernel
theorem dX6_asks_5 : decode cX6_asks 5 = .ok (.istore 4, 2) := by decide +kernel
theorem dX6_asks_7 : decode cX6_asks 7 = .ok (.iload 4, 2) := by decide +kernel
theorem dX6_asks_9 : decode cX6_asks 9 = .ok (.iconst (-1), 1) := by decide +kernel
theorem dX6_asks_10 : decode cX6_asks 10 = .ok (.if_icmp .eq 7, 3) := by decide +kernel
theorem dX6_asks_13 : decode cX6_asks 13 = .ok (.iconst 1, 1) := by decide +kernel
theorem dX6_asks_14 : decode cX6_asks 14 = .ok (.goto 4, 3) := by decide +kernel
theorem dX6_asks_17 : decode cX6_asks 17 = .ok (.iconst 0, 1) := by decide +kernel
theorem dX6_asks_18 : decode cX6_asks 18 = .ok (.istore 5, 2) := by decide +kernel
theorem dX6_asks_20 : decode cX6_asks 20 = .ok (.iload 5, 2) := by decide +kernel
theorem dX6_asks_22 : decode cX6_asks 22 = .ok (.ifCond .ne 33, 3) := by decide +kernel
theorem dX6_asks_25 : decode cX6_asks 25 = .ok (.aload_n 0, 1) := by decide +kernel
theorem dX6_asks_26 : decode cX6_asks 26 = .ok (.invokevirtual 56, 3) := by decide +kernel
theorem dX6_asks_29 : decode cX6_asks 29 = .ok (.istore 4, 2) := by decide +kernel
theorem dX6_asks_31 : decode cX6_asks 31 = .ok (.aload_n 0, 1) := by decide +kernel
theorem dX6_asks_32 : decode cX6_asks 32 = .ok (.getfield 9, 3) := by decide +kernel
theorem dX6_asks_35 : decode cX6_asks 35 = .ok (.iload 4, 2) := by decide +kernel
theorem dX6_asks_37 : decode cX6_asks 37 = .ok (.iload_n 1, 1) := by decide +kernel
theorem dX6_asks_38 : decode cX6_asks 38 = .ok (.iastore, 1) := by decide +kernel
theorem dX6_asks_39 : decode cX6_asks 39 = .ok (.aload_n 0, 1) := by decide +kernel
theorem dX6_asks_40 : decode cX6_asks 40 = .ok (.getfield 15, 3) := by decide +kernel
theorem dX6_asks_43 : decode cX6_asks 43 = .ok (.iload 4, 2) := by decide +kernel
theorem dX6_asks_45 : decode cX6_asks 45 = .ok (.iload_n 2, 1) := by decide +kernel
theorem dX6_asks_46 : decode cX6_asks 46 = .ok (.iastore, 1) := by decide +kernel
theorem dX6_asks_47 : decode cX6_asks 47 = .ok (.aload_n 0, 1) := by decide +kernel
theorem dX6_asks_48 : decode cX6_asks 48 = .ok (.getfield 21, 3) := by decide +kernel
theorem dX6_asks_51 : decode cX6_asks 51 = .ok (.iload 4, 2) := by decide +kernel
theorem dX6_asks_53 : decode cX6_asks 53 = .ok (.iconst 0, 1) := by decide +kernel
theorem dX6_asks_54 : decode cX6_asks 54 = .ok (.iastore, 1) := by decide +kernel
theorem dX6_asks_55 : decode cX6_asks 55 = .ok (.aload_n 0, 1) := by decide +kernel
theorem dX6_asks_56 : decode cX6_asks 56 = .ok (.getfield 27, 3) := by decide +kernel
theorem dX6_asks_59 : decode cX6_asks 59 = .ok (.iload 4, 2) := by decide +kernel
theorem dX6_asks_61 : decode cX6_asks 61 = .ok (.iload 5, 2) := by decide +kernel
theorem dX6_asks_63 : decode cX6_asks 63 = .ok (.ifCond .eq 7, 3) := by decide +kernel
theorem dX6_asks_66 : decode cX6_asks 66 = .ok (.iconst 1, 1) := by decide +kernel
theorem dX6_asks_67 : decode cX6_asks 67 = .ok (.goto 4, 3) := by decide +kernel
theorem dX6_asks_70 : decode cX6_asks 70 = .ok (.iconst 0, 1) := by decide +kernel
theorem dX6_asks_71 : decode cX6_asks 71 = .ok (.iastore, 1) := by decide +kernel
theorem dX6_asks_72 : decode cX6_asks 72 = .ok (.aload_n 0, 1) := by decide +kernel
theorem dX6_asks_73 : decode cX6_asks 73 = .ok (.getfield 18, 3) := by decide +kernel
theorem dX6_asks_76 : decode cX6_asks 76 = .ok (.iload 4, 2) := by decide +kernel
theorem dX6_asks_78 : decode cX6_asks 78 = .ok (.iload_n 2, 1) := by decide +kernel
theorem dX6_asks_79 : decode cX6_asks 79 = .ok (.iastore, 1) := by decide +kernel
theorem dX6_asks_80 : decode cX6_asks 80 = .ok (.aload_n 0, 1) := by decide +kernel
theorem dX6_asks_81 : decode cX6_asks 81 = .ok (.getfield 21, 3) := by decide +kernel
theorem dX6_asks_84 : decode cX6_asks 84 = .ok (.iload 4, 2) := by decide +kernel
theorem dX6_asks_86 : decode cX6_asks 86 = .ok (.dup2, 1) := by decide +kernel
theorem dX6_asks_87 : decode cX6_asks 87 = .ok (.iaload, 1) := by decide +kernel
theorem dX6_asks_88 : decode cX6_asks 88 = .ok (.iconst 1, 1) := by decide +kernel
theorem dX6_asks_89 : decode cX6_asks 89 = .ok (.iadd, 1) := by decide +kernel
theorem dX6_asks_90 : decode cX6_asks 90 = .ok (.iastore, 1) := by decide +kernel
theorem dX6_asks_91 : decode cX6_asks 91 = .ok (.aload_n 0, 1) := by decide +kernel
theorem dX6_asks_92 : decode cX6_asks 92 = .ok (.getfield 24, 3) := by decide +kernel
theorem dX6_asks_95 : decode cX6_asks 95 = .ok (.iload 4, 2) := by decide +kernel
theorem dX6_asks_97 : decode cX6_asks 97 = .ok (.iload_n 3, 1) := by decide +kernel
theorem dX6_asks_98 : decode cX6_asks 98 = .ok (.iastore, 1) := by decide +kernel
theorem dX6_asks_99 : decode cX6_asks 99 = .ok (.iload 5, 2) := by decide +kernel
theorem dX6_asks_101 : decode cX6_asks 101 = .ok (.ireturn, 1) := by decide +kernel
theorem dX6_holds_0 : decode cX6_holds 0 = .ok (.aload_n 0, 1) := by decide +kernel
theorem dX6_holds_1 : decode cX6_holds 1 = .ok (.iload_n 1, 1) := by decide +kernel
theorem dX6_holds_2 : decode cX6_holds 2 = .ok (.invokevirtual 52, 3) := by decide +kernel
theorem dX6_holds_5 : decode cX6_holds 5 = .ok (.iconst (-1), 1) := by decide +kernel
theorem dX6_holds_6 : decode cX6_holds 6 = .ok (.if_icmp .eq 7, 3) := by decide +kernel
theorem dX6_holds_9 : decode cX6_holds 9 = .ok (.iconst 1, 1) := by decide +kernel
theorem dX6_holds_10 : decode cX6_holds 10 = .ok (.goto 4, 3) := by decide +kernel
theorem dX6_holds_13 : decode cX6_holds 13 = .ok (.iconst 0, 1) := by decide +kernel
theorem dX6_holds_14 : decode cX6_holds 14 = .ok (.ireturn, 1) := by decide +kernel
theorem dX6_seatOf_0 : decode cX6_seatOf 0 = .ok (.iconst 0, 1) := by decide +kernel
theorem dX6_seatOf_1 : decode cX6_seatOf 1 = .ok (.istore_n 2, 1) := by decide +kernel
theorem dX6_seatOf_2 : decode cX6_seatOf 2 = .ok (.iload_n 2, 1) := by decide +kernel
theorem dX6_seatOf_3 : decode cX6_seatOf 3 = .ok (.aload_n 0, 1) := by decide +kernel
theorem dX6_seatOf_4 : decode cX6_seatOf 4 = .ok (.getfield 34, 3) := by decide +kernel
theorem dX6_seatOf_7 : decode cX6_seatOf 7 = .ok (.if_icmp .ge 21, 3) := by decide +kernel
theorem dX6_seatOf_10 : decode cX6_seatOf 10 = .ok (.aload_n 0, 1) := by decide +kernel
theorem dX6_seatOf_11 : decode cX6_seatOf 11 = .ok (.getfield 9, 3) := by decide +kernel
theorem dX6_seatOf_14 : decode cX6_seatOf 14 = .ok (.iload_n 2, 1) := by decide +kernel
theorem dX6_seatOf_15 : decode cX6_seatOf 15 = .ok (.iaload, 1) := by decide +kernel
theorem dX6_seatOf_16 : decode cX6_seatOf 16 = .ok (.iload_n 1, 1) := by decide +kernel
theorem dX6_seatOf_17 : decode cX6_seatOf 17 = .ok (.if_icmp .ne 5, 3) := by decide +kernel
theorem dX6_seatOf_20 : decode cX6_seatOf 20 = .ok (.iload_n 2, 1) := by decide +kernel
theorem dX6_seatOf_21 : decode cX6_seatOf 21 = .ok (.ireturn, 1) := by decide +kernel
theorem dX6_seatOf_22 : decode cX6_seatOf 22 = .ok (.iinc 2 1, 3) := by decide +kernel
theorem dX6_seatOf_25 : decode cX6_seatOf 25 = .ok (.goto (-23), 3) := by decide +kernel
theorem dX6_seatOf_28 : decode cX6_seatOf 28 = .ok (.iconst (-1), 1) := by decide +kernel
theorem dX6_seatOf_29 : decode cX6_seatOf 29 = .ok (.ireturn, 1) := by decide +kernel
theorem dX6_freeSeat_0 : decode cX6_freeSeat 0 = .ok (.aload_n 0, 1) := by decide +kernel
theorem dX6_freeSeat_1 : decode cX6_freeSeat 1 = .ok (.getfield 34, 3) := by decide +kernel
theorem dX6_freeSeat_4 : decode cX6_freeSeat 4 = .ok (.aload_n 0, 1) := by decide +kernel
theorem dX6_freeSeat_5 : decode cX6_freeSeat 5 = .ok (.getfield 30, 3) := by decide +kernel
theorem dX6_freeSeat_8 : decode cX6_freeSeat 8 = .ok (.if_icmp .ge 20, 3) := by decide +kernel
theorem dX6_freeSeat_11 : decode cX6_freeSeat 11 = .ok (.aload_n 0, 1) := by decide +kernel
theorem dX6_freeSeat_12 : decode cX6_freeSeat 12 = .ok (.dup, 1) := by decide +kernel
theorem dX6_freeSeat_13 : decode cX6_freeSeat 13 = .ok (.getfield 34, 3) := by decide +kernel
theorem dX6_freeSeat_16 : decode cX6_freeSeat 16 = .ok (.iconst 1, 1) := by decide +kernel
theorem dX6_freeSeat_17 : decode cX6_freeSeat 17 = .ok (.iadd, 1) := by decide +kernel
theorem dX6_freeSeat_18 : decode cX6_freeSeat 18 = .ok (.putfield 34, 3) := by decide +kernel
theorem dX6_freeSeat_21 : decode cX6_freeSeat 21 = .ok (.aload_n 0, 1) := by decide +kernel
theorem dX6_freeSeat_22 : decode cX6_freeSeat 22 = .ok (.getfield 34, 3) := by decide +kernel
theorem dX6_freeSeat_25 : decode cX6_freeSeat 25 = .ok (.iconst 1, 1) := by decide +kernel
theorem dX6_freeSeat_26 : decode cX6_freeSeat 26 = .ok (.isub, 1) := by decide +kernel
theorem dX6_freeSeat_27 : decode cX6_freeSeat 27 = .ok (.ireturn, 1) := by decide +kernel
theorem dX6_freeSeat_28 : decode cX6_freeSeat 28 = .ok (.aload_n 0, 1) := by decide +kernel
theorem dX6_freeSeat_29 : decode cX6_freeSeat 29 = .ok (.getfield 40, 3) := by decide +kernel
theorem dX6_freeSeat_32 : decode cX6_freeSeat 32 = .ok (.iconst 2, 1) := by decide +kernel
theorem dX6_freeSeat_33 : decode cX6_freeSeat 33 = .ok (.if_icmp .ne 10, 3) := by decide +kernel
theorem dX6_freeSeat_36 : decode cX6_freeSeat 36 = .ok (.aload_n 0, 1) := by decide +kernel
theorem dX6_freeSeat_37 : decode cX6_freeSeat 37 = .ok (.invokevirtual 60, 3) := by decide +kernel
theorem dX6_freeSeat_40 : decode cX6_freeSeat 40 = .ok (.goto 7, 3) := by decide +kernel
theorem dX6_freeSeat_43 : decode cX6_freeSeat 43 = .ok (.aload_n 0, 1) := by decide +kernel
theorem dX6_freeSeat_44 : decode cX6_freeSeat 44 = .ok (.invokevirtual 63, 3) := by decide +kernel
theorem dX6_freeSeat_47 : decode cX6_freeSeat 47 = .ok (.ireturn, 1) := by decide +kernel
theorem dX6_seatByHand_0 : decode cX6_seatByHand 0 = .ok (.aload_n 0, 1) := by decide +kernel
theorem dX6_seatByHand_1 : decode cX6_seatByHand 1 = .ok (.getfield 30, 3) := by decide +kernel
theorem dX6_seatByHand_4 : decode cX6_seatByHand 4 = .ok (.istore_n 1, 1) := by decide +kernel
theorem dX6_seatByHand_5 : decode cX6_seatByHand 5 = .ok (.iload_n 1, 1) := by decide +kernel
theorem dX6_seatByHand_6 : decode cX6_seatByHand 6 = .ok (.ifCond .le 44, 3) := by decide +kernel
theorem dX6_seatByHand_9 : decode cX6_seatByHand 9 = .ok (.aload_n 0, 1) := by decide +kernel
theorem dX6_seatByHand_10 : decode cX6_seatByHand 10 = .ok (.getfield 27, 3) := by decide +kernel
theorem dX6_seatByHand_13 : decode cX6_seatByHand 13 = .ok (.aload_n 0, 1) := by decide +kernel
theorem dX6_seatByHand_14 : decode cX6_seatByHand 14 = .ok (.getfield 37, 3) := by decide +kernel
theorem dX6_seatByHand_17 : decode cX6_seatByHand 17 = .ok (.iaload, 1) := by decide +kernel
theorem dX6_seatByHand_18 : decode cX6_seatByHand 18 = .ok (.iconst 1, 1) := by decide +kernel
theorem dX6_seatByHand_19 : decode cX6_seatByHand 19 = .ok (.if_icmp .ne 31, 3) := by decide +kernel
theorem dX6_seatByHand_22 : decode cX6_seatByHand 22 = .ok (.aload_n 0, 1) := by decide +kernel
theorem dX6_seatByHand_23 : decode cX6_seatByHand 23 = .ok (.getfield 27, 3) := by decide +kernel
theorem dX6_seatByHand_26 : decode cX6_seatByHand 26 = .ok (.aload_n 0, 1) := by decide +kernel
theorem dX6_seatByHand_27 : decode cX6_seatByHand 27 = .ok (.getfield 37, 3) := by decide +kernel
theorem dX6_seatByHand_30 : decode cX6_seatByHand 30 = .ok (.iconst 0, 1) := by decide +kernel
theorem dX6_seatByHand_31 : decode cX6_seatByHand 31 = .ok (.iastore, 1) := by decide +kernel
theorem dX6_seatByHand_32 : decode cX6_seatByHand 32 = .ok (.aload_n 0, 1) := by decide +kernel
theorem dX6_seatByHand_33 : decode cX6_seatByHand 33 = .ok (.aload_n 0, 1) := by decide +kernel
theorem dX6_seatByHand_34 : decode cX6_seatByHand 34 = .ok (.aload_n 0, 1) := by decide +kernel
theorem dX6_seatByHand_35 : decode cX6_seatByHand 35 = .ok (.getfield 37, 3) := by decide +kernel
theorem dX6_seatByHand_38 : decode cX6_seatByHand 38 = .ok (.invokevirtual 66, 3) := by decide +kernel
theorem dX6_seatByHand_41 : decode cX6_seatByHand 41 = .ok (.putfield 37, 3) := by decide +kernel
theorem dX6_seatByHand_44 : decode cX6_seatByHand 44 = .ok (.iinc 1 (-1), 3) := by decide +kernel
theorem dX6_seatByHand_47 : decode cX6_seatByHand 47 = .ok (.goto (-42), 3) := by decide +kernel
theorem dX6_seatByHand_50 : decode cX6_seatByHand 50 = .ok (.aload_n 0, 1) := by decide +kernel
theorem dX6_seatByHand_51 : decode cX6_seatByHand 51 = .ok (.getfield 37, 3) := by decide +kernel
theorem dX6_seatByHand_54 : decode cX6_seatByHand 54 = .ok (.istore_n 1, 1) := by decide +kernel
theorem dX6_seatByHand_55 : decode cX6_seatByHand 55 = .ok (.aload_n 0, 1) := by decide +kernel
theorem dX6_seatByHand_56 : decode cX6_seatByHand 56 = .ok (.aload_n 0, 1) := by decide +kernel
theorem dX6_seatByHand_57 : decode cX6_seatByHand 57 = .ok (.aload_n 0, 1) := by decide +kernel
theorem dX6_seatByHand_58 : decode cX6_seatByHand 58 = .ok (.getfield 37, 3) := by decide +kernel
theorem dX6_seatByHand_61 : decode cX6_seatByHand 61 = .ok (.invokevirtual 66, 3) := by decide +kernel
theorem dX6_seatByHand_64 : decode cX6_seatByHand 64 = .ok (.putfield 37, 3) := by decide +kernel
theorem dX6_seatByHand_67 : decode cX6_seatByHand 67 = .ok (.iload_n 1, 1) := by decide +kernel
theorem dX6_seatByHand_68 : decode cX6_seatByHand 68 = .ok (.ireturn, 1) := by decide +kernel
theorem dX6_nextSeat_0 : decode cX6_nextSeat 0 = .ok (.iload_n 1, 1) := by decide +kernel
theorem dX6_nextSeat_1 : decode cX6_nextSeat 1 = .ok (.iconst 1, 1) := by decide +kernel
theorem dX6_nextSeat_2 : decode cX6_nextSeat 2 = .ok (.iadd, 1) := by decide +kernel
theorem dX6_nextSeat_3 : decode cX6_nextSeat 3 = .ok (.aload_n 0, 1) := by decide +kernel
theorem dX6_nextSeat_4 : decode cX6_nextSeat 4 = .ok (.getfield 30, 3) := by decide +kernel
theorem dX6_nextSeat_7 : decode cX6_nextSeat 7 = .ok (.if_icmp .ge 9, 3) := by decide +kernel
theorem dX6_nextSeat_10 : decode cX6_nextSeat 10 = .ok (.iload_n 1, 1) := by decide +kernel
theorem dX6_nextSeat_11 : decode cX6_nextSeat 11 = .ok (.iconst 1, 1) := by decide +kernel
theorem dX6_nextSeat_12 : decode cX6_nextSeat 12 = .ok (.iadd, 1) := by decide +kernel
theorem dX6_nextSeat_13 : decode cX6_nextSeat 13 = .ok (.goto 4, 3) := by decide +kernel
theorem dX6_nextSeat_16 : decode cX6_nextSeat 16 = .ok (.iconst 0, 1) := by decide +kernel
theorem dX6_nextSeat_17 : decode cX6_nextSeat 17 = .ok (.ireturn, 1) := by decide +kernel
theorem dX6_seatByRank_0 : decode cX6_seatByRank 0 = .ok (.iconst 0, 1) := by decide +kernel
theorem dX6_seatByRank_1 : decode cX6_seatByRank 1 = .ok (.istore_n 1, 1) := by decide +kernel
theorem dX6_seatByRank_2 : decode cX6_seatByRank 2 = .ok (.iconst 1, 1) := by decide +kernel
theorem dX6_seatByRank_3 : decode cX6_seatByRank 3 = .ok (.istore_n 2, 1) := by decide +kernel
theorem dX6_seatByRank_4 : decode cX6_seatByRank 4 = .ok (.iload_n 2, 1) := by decide +kernel
theorem dX6_seatByRank_5 : decode cX6_seatByRank 5 = .ok (.aload_n 0, 1) := by decide +kernel
theorem dX6_seatByRank_6 : decode cX6_seatByRank 6 = .ok (.getfield 34, 3) := by decide +kernel
theorem dX6_seatByRank_9 : decode cX6_seatByRank 9 = .ok (.if_icmp .ge 20, 3) := by decide +kernel
theorem dX6_seatByRank_12 : decode cX6_seatByRank 12 = .ok (.aload_n 0, 1) := by decide +kernel
theorem dX6_seatByRank_13 : decode cX6_seatByRank 13 = .ok (.iload_n 2, 1) := by decide +kernel
theorem dX6_seatByRank_14 : decode cX6_seatByRank 14 = .ok (.iload_n 1, 1) := by decide +kernel
theorem dX6_seatByRank_15 : decode cX6_seatByRank 15 = .ok (.invokevirtual 69, 3) := by decide +kernel
theorem dX6_seatByRank_18 : decode cX6_seatByRank 18 = .ok (.ifCond .eq 5, 3) := by decide +kernel
theorem dX6_seatByRank_21 : decode cX6_seatByRank 21 = .ok (.iload_n 2, 1) := by decide +kernel
theorem dX6_seatByRank_22 : decode cX6_seatByRank 22 = .ok (.istore_n 1, 1) := by decide +kernel
theorem dX6_seatByRank_23 : decode cX6_seatByRank 23 = .ok (.iinc 2 1, 3) := by decide +kernel
theorem dX6_seatByRank_26 : decode cX6_seatByRank 26 = .ok (.goto (-22), 3) := by decide +kernel
theorem dX6_seatByRank_29 : decode cX6_seatByRank 29 = .ok (.iload_n 1, 1) := by decide +kernel
theorem dX6_seatByRank_30 : decode cX6_seatByRank 30 = .ok (.ireturn, 1) := by decide +kernel
theorem dX6_goesBefore_0 : decode cX6_goesBefore 0 = .ok (.aload_n 0, 1) := by decide +kernel
theorem dX6_goesBefore_1 : decode cX6_goesBefore 1 = .ok (.getfield 40, 3) := by decide +kernel
theorem dX6_goesBefore_4 : decode cX6_goesBefore 4 = .ok (.tableswitch 155 1 4 #[32, 155, 53, 104], 32) := by decide +kernel
theorem dX6_goesBefore_36 : decode cX6_goesBefore 36 = .ok (.aload_n 0, 1) := by decide +kernel
theorem dX6_goesBefore_37 : decode cX6_goesBefore 37 = .ok (.getfield 15, 3) := by decide +kernel
theorem dX6_goesBefore_40 : decode cX6_goesBefore 40 = .ok (.iload_n 1, 1) := by decide +kernel
theorem dX6_goesBefore_41 : decode cX6_goesBefore 41 = .ok (.iaload, 1) := by decide +kernel
theorem dX6_goesBefore_42 : decode cX6_goesBefore 42 = .ok (.aload_n 0, 1) := by decide +kernel
theorem dX6_goesBefore_43 : decode cX6_goesBefore 43 = .ok (.getfield 15, 3) := by decide +kernel
theorem dX6_goesBefore_46 : decode cX6_goesBefore 46 = .ok (.iload_n 2, 1) := by decide +kernel
theorem dX6_goesBefore_47 : decode cX6_goesBefore 47 = .ok (.iaload, 1) := by decide +kernel
theorem dX6_goesBefore_48 : decode cX6_goesBefore 48 = .ok (.if_icmp .ge 7, 3) := by decide +kernel
theorem dX6_goesBefore_51 : decode cX6_goesBefore 51 = .ok (.iconst 1, 1) := by decide +kernel
theorem dX6_goesBefore_52 : decode cX6_goesBefore 52 = .ok (.goto 4, 3) := by decide +kernel
theorem dX6_goesBefore_55 : decode cX6_goesBefore 55 = .ok (.iconst 0, 1) := by decide +kernel
theorem dX6_goesBefore_56 : decode cX6_goesBefore 56 = .ok (.ireturn, 1) := by decide +kernel
theorem dX6_goesBefore_57 : decode cX6_goesBefore 57 = .ok (.aload_n 0, 1) := by decide +kernel
theorem dX6_goesBefore_58 : decode cX6_goesBefore 58 = .ok (.getfield 21, 3) := by decide +kernel
theorem dX6_goesBefore_61 : decode cX6_goesBefore 61 = .ok (.iload_n 1, 1) := by decide +kernel
theorem dX6_goesBefore_62 : decode cX6_goesBefore 62 = .ok (.iaload, 1) := by decide +kernel
theorem dX6_goesBefore_63 : decode cX6_goesBefore 63 = .ok (.aload_n 0, 1) := by decide +kernel
theorem dX6_goesBefore_64 : decode cX6_goesBefore 64 = .ok (.getfield 21, 3) := by decide +kernel
theorem dX6_goesBefore_67 : decode cX6_goesBefore 67 = .ok (.iload_n 2, 1) := by decide +kernel
theorem dX6_goesBefore_68 : decode cX6_goesBefore 68 = .ok (.iaload, 1) := by decide +kernel
theorem dX6_goesBefore_69 : decode cX6_goesBefore 69 = .ok (.if_icmp .lt 33, 3) := by decide +kernel
theorem dX6_goesBefore_72 : decode cX6_goesBefore 72 = .ok (.aload_n 0, 1) := by decide +kernel
theorem dX6_goesBefore_73 : decode cX6_goesBefore 73 = .ok (.getfield 21, 3) := by decide +kernel
theorem dX6_goesBefore_76 : decode cX6_goesBefore 76 = .ok (.iload_n 1, 1) := by decide +kernel
theorem dX6_goesBefore_77 : decode cX6_goesBefore 77 = .ok (.iaload, 1) := by decide +kernel
theorem dX6_goesBefore_78 : decode cX6_goesBefore 78 = .ok (.aload_n 0, 1) := by decide +kernel
theorem dX6_goesBefore_79 : decode cX6_goesBefore 79 = .ok (.getfield 21, 3) := by decide +kernel
theorem dX6_goesBefore_82 : decode cX6_goesBefore 82 = .ok (.iload_n 2, 1) := by decide +kernel
theorem dX6_goesBefore_83 : decode cX6_goesBefore 83 = .ok (.iaload, 1) := by decide +kernel
theorem dX6_goesBefore_84 : decode cX6_goesBefore 84 = .ok (.if_icmp .ne 22, 3) := by decide +kernel
theorem dX6_goesBefore_87 : decode cX6_goesBefore 87 = .ok (.aload_n 0, 1) := by decide +kernel
theorem dX6_goesBefore_88 : decode cX6_goesBefore 88 = .ok (.getfield 18, 3) := by decide +kernel
theorem dX6_goesBefore_91 : decode cX6_goesBefore 91 = .ok (.iload_n 1, 1) := by decide +kernel
theorem dX6_goesBefore_92 : decode cX6_goesBefore 92 = .ok (.iaload, 1) := by decide +kernel
theorem dX6_goesBefore_93 : decode cX6_goesBefore 93 = .ok (.aload_n 0, 1) := by decide +kernel
theorem dX6_goesBefore_94 : decode cX6_goesBefore 94 = .ok (.getfield 18, 3) := by decide +kernel
theorem dX6_goesBefore_97 : decode cX6_goesBefore 97 = .ok (.iload_n 2, 1) := by decide +kernel
theorem dX6_goesBefore_98 : decode cX6_goesBefore 98 = .ok (.iaload, 1) := by decide +kernel
theorem dX6_goesBefore_99 : decode cX6_goesBefore 99 = .ok (.if_icmp .ge 7, 3) := by decide +kernel
theorem dX6_goesBefore_102 : decode cX6_goesBefore 102 = .ok (.iconst 1, 1) := by decide +kernel
theorem dX6_goesBefore_103 : decode cX6_goesBefore 103 = .ok (.goto 4, 3) := by decide +kernel
theorem dX6_goesBefore_106 : decode cX6_goesBefore 106 = .ok (.iconst 0, 1) := by decide +kernel
theorem dX6_goesBefore_107 : decode cX6_goesBefore 107 = .ok (.ireturn, 1) := by decide +kernel
theorem dX6_goesBefore_108 : decode cX6_goesBefore 108 = .ok (.aload_n 0, 1) := by decide +kernel
theorem dX6_goesBefore_109 : decode cX6_goesBefore 109 = .ok (.getfield 24, 3) := by decide +kernel
theorem dX6_goesBefore_112 : decode cX6_goesBefore 112 = .ok (.iload_n 1, 1) := by decide +kernel
theorem dX6_goesBefore_113 : decode cX6_goesBefore 113 = .ok (.iaload, 1) := by decide +kernel
theorem dX6_goesBefore_114 : decode cX6_goesBefore 114 = .ok (.aload_n 0, 1) := by decide +kernel
theorem dX6_goesBefore_115 : decode cX6_goesBefore 115 = .ok (.getfield 24, 3) := by decide +kernel
theorem dX6_goesBefore_118 : decode cX6_goesBefore 118 = .ok (.iload_n 2, 1) := by decide +kernel
theorem dX6_goesBefore_119 : decode cX6_goesBefore 119 = .ok (.iaload, 1) := by decide +kernel
theorem dX6_goesBefore_120 : decode cX6_goesBefore 120 = .ok (.if_icmp .gt 33, 3) := by decide +kernel
theorem dX6_goesBefore_123 : decode cX6_goesBefore 123 = .ok (.aload_n 0, 1) := by decide +kernel
theorem dX6_goesBefore_124 : decode cX6_goesBefore 124 = .ok (.getfield 24, 3) := by decide +kernel
theorem dX6_goesBefore_127 : decode cX6_goesBefore 127 = .ok (.iload_n 1, 1) := by decide +kernel
theorem dX6_goesBefore_128 : decode cX6_goesBefore 128 = .ok (.iaload, 1) := by decide +kernel
theorem dX6_goesBefore_129 : decode cX6_goesBefore 129 = .ok (.aload_n 0, 1) := by decide +kernel
theorem dX6_goesBefore_130 : decode cX6_goesBefore 130 = .ok (.getfield 24, 3) := by decide +kernel
theorem dX6_goesBefore_133 : decode cX6_goesBefore 133 = .ok (.iload_n 2, 1) := by decide +kernel
theorem dX6_goesBefore_134 : decode cX6_goesBefore 134 = .ok (.iaload, 1) := by decide +kernel
theorem dX6_goesBefore_135 : decode cX6_goesBefore 135 = .ok (.if_icmp .ne 22, 3) := by decide +kernel
theorem dX6_goesBefore_138 : decode cX6_goesBefore 138 = .ok (.aload_n 0, 1) := by decide +kernel
theorem dX6_goesBefore_139 : decode cX6_goesBefore 139 = .ok (.getfield 9, 3) := by decide +kernel
theorem dX6_goesBefore_142 : decode cX6_goesBefore 142 = .ok (.iload_n 1, 1) := by decide +kernel
theorem dX6_goesBefore_143 : decode cX6_goesBefore 143 = .ok (.iaload, 1) := by decide +kernel
theorem dX6_goesBefore_144 : decode cX6_goesBefore 144 = .ok (.aload_n 0, 1) := by decide +kernel
theorem dX6_goesBefore_145 : decode cX6_goesBefore 145 = .ok (.getfield 9, 3) := by decide +kernel
theorem dX6_goesBefore_148 : decode cX6_goesBefore 148 = .ok (.iload_n 2, 1) := by decide +kernel
theorem dX6_goesBefore_149 : decode cX6_goesBefore 149 = .ok (.iaload, 1) := by decide +kernel
theorem dX6_goesBefore_150 : decode cX6_goesBefore 150 = .ok (.if_icmp .ge 7, 3) := by decide +kernel
theorem dX6_goesBefore_153 : decode cX6_goesBefore 153 = .ok (.iconst 1, 1) := by decide +kernel
theorem dX6_goesBefore_154 : decode cX6_goesBefore 154 = .ok (.goto 4, 3) := by decide +kernel
theorem dX6_goesBefore_157 : decode cX6_goesBefore 157 = .ok (.iconst 0, 1) := by decide +kernel
theorem dX6_goesBefore_158 : decode cX6_goesBefore 158 = .ok (.ireturn, 1) := by decide +kernel
theorem dX6_goesBefore_159 : decode cX6_goesBefore 159 = .ok (.aload_n 0, 1) := by decide +kernel
theorem dX6_goesBefore_160 : decode cX6_goesBefore 160 = .ok (.getfield 18, 3) := by decide +kernel
theorem dX6_goesBefore_163 : decode cX6_goesBefore 163 = .ok (.iload_n 1, 1) := by decide +kernel
theorem dX6_goesBefore_164 : decode cX6_goesBefore 164 = .ok (.iaload, 1) := by decide +kernel
theorem dX6_goesBefore_165 : decode cX6_goesBefore 165 = .ok (.aload_n 0, 1) := by decide +kernel
theorem dX6_goesBefore_166 : decode cX6_goesBefore 166 = .ok (.getfield 18, 3) := by decide +kernel
theorem dX6_goesBefore_169 : decode cX6_goesBefore 169 = .ok (.iload_n 2, 1) := by decide +kernel
theorem dX6_goesBefore_170 : decode cX6_goesBefore 170 = .ok (.iaload, 1) := by decide +kernel
theorem dX6_goesBefore_171 : decode cX6_goesBefore 171 = .ok (.if_icmp .ge 7, 3) := by decide +kernel
theorem dX6_goesBefore_174 : decode cX6_goesBefore 174 = .ok (.iconst 1, 1) := by decide +kernel
theorem dX6_goesBefore_175 : decode cX6_goesBefore 175 = .ok (.goto 4, 3) := by decide +kernel
theorem dX6_goesBefore_178 : decode cX6_goesBefore 178 = .ok (.iconst 0, 1) := by decide +kernel
theorem dX6_goesBefore_179 : decode cX6_goesBefore 179 = .ok (.ireturn, 1) := by decide +kernel
end
section
theorem dX7_init_0 : decode cX7_init 0 = .ok (.aload_n 0, 1) := by decide +kernel
theorem dX7_init_1 : decode cX7_init 1 = .ok (.invokespecial 3, 3) := by decide +kernel
theorem dX7_init_4 : decode cX7_init 4 = .ok (.aload_n 0, 1) := by decide +kernel
theorem dX7_init_5 : decode cX7_init 5 = .ok (.iconst 4, 1) := by decide +kernel
theorem dX7_init_6 : decode cX7_init 6 = .ok (.bipush 64, 2) := by decide +kernel
theorem dX7_init_8 : decode cX7_init 8 = .ok (.multianewarray 9 2, 4) := by decide +kernel
theorem dX7_init_12 : decode cX7_init 12 = .ok (.putfield 11, 3) := by decide +kernel
theorem dX7_init_15 : decode cX7_init 15 = .ok (.aload_n 0, 1) := by decide +kernel
theorem dX7_init_16 : decode cX7_init 16 = .ok (.sipush 128, 3) := by decide +kernel
theorem dX7_init_19 : decode cX7_init 19 = .ok (.newarray .int, 2) := by decide +kernel
theorem dX7_init_21 : decode cX7_init 21 = .ok (.putfield 16, 3) := by decide +kernel
theorem dX7_init_24 : decode cX7_init 24 = .ok (.aload_n 0, 1) := by decide +kernel
theorem dX7_init_25 : decode cX7_init 25 = .ok (.iconst 4, 1) := by decide +kernel
theorem dX7_init_26 : decode cX7_init 26 = .ok (.bipush 100, 2) := by decide +kernel
theorem dX7_init_28 : decode cX7_init 28 = .ok (.multianewarray 9 2, 4) := by decide +kernel
theorem dX7_init_32 : decode cX7_init 32 = .ok (.putfield 20, 3) := by decide +kernel
theorem dX7_init_35 : decode cX7_init 35 = .ok (.aload_n 0, 1) := by decide +kernel
theorem dX7_init_36 : decode cX7_init 36 = .ok (.iconst 2, 1) := by decide +kernel
theorem dX7_init_37 : decode cX7_init 37 = .ok (.bipush 100, 2) := by decide +kernel
theorem dX7_init_39 : decode cX7_init 39 = .ok (.multianewarray 9 2, 4) := by decide +kernel
theorem dX7_init_43 : decode cX7_init 43 = .ok (.putfield 23, 3) := by decide +kernel
theorem dX7_init_46 : decode cX7_init 46 = .ok (.aload_n 0, 1) := by decide +kernel
theorem dX7_init_47 : decode cX7_init 47 = .ok (.bipush 100, 2) := by decide +kernel
theorem dX7_init_49 : decode cX7_init 49 = .ok (.newarray .int, 2) := by decide +kernel
theorem dX7_init_51 : decode cX7_init 51 = .ok (.putfield 26, 3) := by decide +kernel
theorem dX7_init_54 : decode cX7_init 54 = .ok (.aload_n 0, 1) := by decide +kernel
theorem dX7_init_55 : decode cX7_init 55 = .ok (.iconst 1, 1) := by decide +kernel
theorem dX7_init_56 : decode cX7_init 56 = .ok (.putfield 29, 3) := by decide +kernel
theorem dX7_init_59 : decode cX7_init 59 = .ok (.aload_n 0, 1) := by decide +kernel
theorem dX7_init_60 : decode cX7_init 60 = .ok (.iconst 0, 1) := by decide +kernel
theorem dX7_init_61 : decode cX7_init 61 = .ok (.putfield 33, 3) := by decide +kernel
theorem dX7_init_64 : decode cX7_init 64 = .ok (.aload_n 0, 1) := by decide +kernel
theorem dX7_init_65 : decode cX7_init 65 = .ok (.sipush 200, 3) := by decide +kernel
theorem dX7_init_68 : decode cX7_init 68 = .ok (.putfield 36, 3) := by decide +kernel
theorem dX7_init_71 : decode cX7_init 71 = .ok (.aload_n 0, 1) := by decide +kernel
theorem dX7_init_72 : decode cX7_init 72 = .ok (.iconst 0, 1) := by decide +kernel
theorem dX7_init_73 : decode cX7_init 73 = .ok (.putfield 39, 3) := by decide +kernel
theorem dX7_init_76 : decode cX7_init 76 = .ok (.aload_n 0, 1) := by decide +kernel
theorem dX7_init_77 : decode cX7_init 77 = .ok (.iconst 0, 1) := by decide +kernel
theorem dX7_init_78 : decode cX7_init 78 = .ok (.putfield 42, 3) := by decide +kernel
theorem dX7_init_81 : decode cX7_init 81 = .ok (.aload_n 0, 1) := by decide +kernel
theorem dX7_init_82 : decode cX7_init 82 = .ok (.iconst 1, 1) := by decide +kernel
theorem dX7_init_83 : decode cX7_init 83 = .ok (.iconst 4, 1) := by decide +kernel
theorem dX7_init_84 : decode cX7_init 84 = .ok (.iload_n 1, 1) := by decide +kernel
theorem dX7_init_85 : decode cX7_init 85 = .ok (.invokestatic 45, 3) := by decide +kernel
theorem dX7_init_88 : decode cX7_init 88 = .ok (.invokestatic 51, 3) := by decide +kernel
theorem dX7_init_91 : decode cX7_init 91 = .ok (.putfield 54, 3) := by decide +kernel
theorem dX7_init_94 : decode cX7_init 94 = .ok (.iconst 0, 1) := by decide +kernel
theorem dX7_init_95 : decode cX7_init 95 = .ok (.istore_n 2, 1) := by decide +kernel
theorem dX7_init_96 : decode cX7_init 96 = .ok (.iload_n 2, 1) := by decide +kernel
theorem dX7_init_97 : decode cX7_init 97 = .ok (.bipush 100, 2) := by decide +kernel
theorem dX7_init_99 : decode cX7_init 99 = .ok (.if_icmp .ge 72, 3) := by decide +kernel
theorem dX7_init_102 : decode cX7_init 102 = .ok (.iconst 0, 1) := by decide +kernel
theorem dX7_init_103 : decode cX7_init 103 = .ok (.istore_n 3, 1) := by decide +kernel
theorem dX7_init_104 : decode cX7_init 104 = .ok (.iload_n 3, 1) := by decide +kernel
theorem dX7_init_105 : decode cX7_init 105 = .ok (.iconst 4, 1) := by decide +kernel
theorem dX7_init_106 : decode cX7_init 106 = .ok (.if_icmp .ge 32, 3) := by decide +kernel
theorem dX7_init_109 : decode cX7_init 109 = .ok (.aload_n 0, 1) := by decide +kernel
theorem dX7_init_110 : decode cX7_init 110 = .ok (.getfield 20, 3) := by decide +kernel
theorem dX7_init_113 : decode cX7_init 113 = .ok (.iload_n 3, 1) := by decide +kernel
theorem dX7_init_114 : decode cX7_init 114 = .ok (.aaload, 1) := by decide +kernel
theorem dX7_init_115 : decode cX7_init 115 = .ok (.iload_n 2, 1) := by decide +kernel
theorem dX7_init_116 : decode cX7_init 116 = .ok (.iload_n 2, 1) := by decide +kernel
theorem dX7_init_117 : decode cX7_init 117 = .ok (.iconst 2, 1) := by decide +kernel
theorem dX7_init_118 : decode cX7_init 118 = .ok (.iload_n 3, 1) := by decide +kernel
theorem dX7_init_119 : decode cX7_init 119 = .ok (.imul, 1) := by decide +kernel
theorem dX7_init_120 : decode cX7_init 120 = .ok (.iconst 5, 1) := by decide +kernel
theorem dX7_init_121 : decode cX7_init 121 = .ok (.iadd, 1) := by decide +kernel
theorem dX7_init_122 : decode cX7_init 122 = .ok (.imul, 1) := by decide +kernel
theorem dX7_init_123 : decode cX7_init 123 = .ok (.bipush 11, 2) := by decide +kernel
theorem dX7_init_125 : decode cX7_init 125 = .ok (.iload_n 3, 1) := by decide +kernel
theorem dX7_init_126 : decode cX7_init 126 = .ok (.imul, 1) := by decide +kernel
theorem dX7_init_127 : decode cX7_init 127 = .ok (.iadd, 1) := by decide +kernel
theorem dX7_init_128 : decode cX7_init 128 = .ok (.bipush 64, 2) := by decide +kernel
theorem dX7_init_130 : decode cX7_init 130 = .ok (.irem, 1) := by decide +kernel
theorem dX7_init_131 : decode cX7_init 131 = .ok (.iastore, 1) := by decide +kernel
theorem dX7_init_132 : decode cX7_init 132 = .ok (.iinc 3 1, 3) := by decide +kernel
theorem dX7_init_135 : decode cX7_init 135 = .ok (.goto (-31), 3) := by decide +kernel
theorem dX7_init_138 : decode cX7_init 138 = .ok (.aload_n 0, 1) := by decide +kernel
theorem dX7_init_139 : decode cX7_init 139 = .ok (.getfield 23, 3) := by decide +kernel
theorem dX7_init_142 : decode cX7_init 142 = .ok (.iconst 0, 1) := by decide +kernel
theorem dX7_init_143 : decode cX7_init 143 = .ok (.aaload, 1) := by decide +kernel
theorem dX7_init_144 : decode cX7_init 144 = .ok (.iload_n 2, 1) := by decide +kernel
theorem dX7_init_145 : decode cX7_init 145 = .ok (.iload_n 2, 1) := by decide +kernel
theorem dX7_init_146 : decode cX7_init 146 = .ok (.iastore, 1) := by decide +kernel
theorem dX7_init_147 : decode cX7_init 147 = .ok (.aload_n 0, 1) := by decide +kernel
theorem dX7_init_148 : decode cX7_init 148 = .ok (.getfield 23, 3) := by decide +kernel
theorem dX7_init_151 : decode cX7_init 151 = .ok (.iconst 1, 1) := by decide +kernel
theorem dX7_init_152 : decode cX7_init 152 = .ok (.aaload, 1) := by decide +kernel
theorem dX7_init_153 : decode cX7_init 153 = .ok (.iload_n 2, 1) := by decide +kernel
theorem dX7_init_154 : decode cX7_init 154 = .ok (.iconst 5, 1) := by decide +kernel
theorem dX7_init_155 : decode cX7_init 155 = .ok (.iload_n 2, 1) := by decide +kernel
theorem dX7_init_156 : decode cX7_init 156 = .ok (.imul, 1) := by decide +kernel
theorem dX7_init_157 : decode cX7_init 157 = .ok (.bipush 64, 2) := by decide +kernel
theorem dX7_init_159 : decode cX7_init 159 = .ok (.iadd, 1) := by decide +kernel
theorem dX7_init_160 : decode cX7_init 160 = .ok (.sipush 128, 3) := by decide +kernel
theorem dX7_init_163 : decode cX7_init 163 = .ok (.irem, 1) := by decide +kernel
theorem dX7_init_164 : decode cX7_init 164 = .ok (.iastore, 1) := by decide +kernel
theorem dX7_init_165 : decode cX7_init 165 = .ok (.iinc 2 1, 3) := by decide +kernel
theorem dX7_init_168 : decode cX7_init 168 = .ok (.goto (-72), 3) := by decide +kernel
theorem dX7_init_171 : decode cX7_init 171 = .ok (.return_, 1) := by decide +kernel
theorem dX7_tellPlace_0 : decode cX7_tellPlace 0 = .ok (.aload_n 0, 1) := by decide +kernel
theorem dX7_tellPlace_1 : decode cX7_tellPlace 1 = .ok (.getfield 20, 3) := by decide +kernel
theorem dX7_tellPlace_4 : decode cX7_tellPlace 4 = .ok (.iload_n 1, 1) := by decide +kernel
theorem dX7_tellPlace_5 : decode cX7_tellPlace 5 = .ok (.aaload, 1) := by decide +kernel
theorem dX7_tellPlace_6 : decode cX7_tellPlace 6 = .ok (.iload_n 2, 1) := by decide +kernel
theorem dX7_tellPlace_7 : decode cX7_tellPlace 7 = .ok (.iaload, 1) := by decide +kernel
theorem dX7_tellPlace_8 : decode cX7_tellPlace 8 = .ok (.istore 4, 2) := by decide +kernel
theorem dX7_tellPlace_10 : decode cX7_tellPlace 10 = .ok (.aload_n 0, 1) := by decide +kernel
theorem dX7_tellPlace_11 : decode cX7_tellPlace 11 = .ok (.getfield 20, 3) := by decide +kernel
theorem dX7_tellPlace_14 : decode cX7_tellPlace 14 = .ok (.iload_n 1, 1) := by decide +kernel
theorem dX7_tellPlace_15 : decode cX7_tellPlace 15 = .ok (.aaload, 1) := by decide +kernel
theorem dX7_tellPlace_16 : decode cX7_tellPlace 16 = .ok (.iload_n 2, 1) := by decide +kernel
theorem dX7_tellPlace_17 : decode cX7_tellPlace 17 = .ok (.iload_n 3, 1) := by decide +kernel
theorem dX7_tellPlace_18 : decode cX7_tellPlace 18 = .ok (.iastore, 1) := by decide +kernel
theorem dX7_tellPlace_19 : decode cX7_tellPlace 19 = .ok (.aload_n 0, 1) := by decide +kernel
theorem dX7_tellPlace_20 : decode cX7_tellPlace 20 = .ok (.iload 4, 2) := by decide +kernel
theorem dX7_tellPlace_22 : decode cX7_tellPlace 22 = .ok (.iload_n 3, 1) := by decide +kernel
theorem dX7_tellPlace_23 : decode cX7_tellPlace 23 = .ok (.invokevirtual 57, 3) := by decide +kernel
theorem dX7_tellPlace_26 : decode cX7_tellPlace 26 = .ok (.iload 4, 2) := by decide +kernel
theorem dX7_tellPlace_28 : decode cX7_tellPlace 28 = .ok (.ireturn, 1) := by decide +kernel
theorem dX7_tellBit_0 : decode cX7_tellBit 0 = .ok (.aload_n 0, 1) := by decide +kernel
theorem dX7_tellBit_1 : decode cX7_tellBit 1 = .ok (.getfield 23, 3) := by decide +kernel
theorem dX7_tellBit_4 : decode cX7_tellBit 4 = .ok (.iload_n 1, 1) := by decide +kernel
theorem dX7_tellBit_5 : decode cX7_tellBit 5 = .ok (.aaload, 1) := by decide +kernel
theorem dX7_tellBit_6 : decode cX7_tellBit 6 = .ok (.iload_n 2, 1) := by decide +kernel
theorem dX7_tellBit_7 : decode cX7_tellBit 7 = .ok (.iaload, 1) := by decide +kernel
theorem dX7_tellBit_8 : decode cX7_tellBit 8 = .ok (.istore 4, 2) := by decide +kernel
theorem dX7_tellBit_10 : decode cX7_tellBit 10 = .ok (.aload_n 0, 1) := by decide +kernel
theorem dX7_tellBit_11 : decode cX7_tellBit 11 = .ok (.getfield 23, 3) := by decide +kernel
theorem dX7_tellBit_14 : decode cX7_tellBit 14 = .ok (.iload_n 1, 1) := by decide +kernel
theorem dX7_tellBit_15 : decode cX7_tellBit 15 = .ok (.aaload, 1) := by decide +kernel
theorem dX7_tellBit_16 : decode cX7_tellBit 16 = .ok (.iload_n 2, 1) := by decide +kernel
theorem dX7_tellBit_17 : decode cX7_tellBit 17 = .ok (.iload_n 3, 1) := by decide +kernel
theorem dX7_tellBit_18 : decode cX7_tellBit 18 = .ok (.iastore, 1) := by decide +kernel
theorem dX7_tellBit_19 : decode cX7_tellBit 19 = .ok (.aload_n 0, 1) := by decide +kernel
theorem dX7_tellBit_20 : decode cX7_tellBit 20 = .ok (.iload 4, 2) := by decide +kernel
theorem dX7_tellBit_22 : decode cX7_tellBit 22 = .ok (.iload_n 3, 1) := by decide +kernel
theorem dX7_tellBit_23 : decode cX7_tellBit 23 = .ok (.invokevirtual 57, 3) := by decide +kernel
theorem dX7_tellBit_26 : decode cX7_tellBit 26 = .ok (.iload 4, 2) := by decide +kernel
theorem dX7_tellBit_28 : decode cX7_tellBit 28 = .ok (.ireturn, 1) := by decide +kernel
theorem dX7_tellDoorInUse_0 : decode cX7_tellDoorInUse 0 = .ok (.aload_n 0, 1) := by decide +kernel
theorem dX7_tellDoorInUse_1 : decode cX7_tellDoorInUse 1 = .ok (.getfield 29, 3) := by decide +kernel
theorem dX7_tellDoorInUse_4 : decode cX7_tellDoorInUse 4 = .ok (.istore_n 2, 1) := by decide +kernel
theorem dX7_tellDoorInUse_5 : decode cX7_tellDoorInUse 5 = .ok (.aload_n 0, 1) := by decide +kernel
theorem dX7_tellDoorInUse_6 : decode cX7_tellDoorInUse 6 = .ok (.iload_n 1, 1) := by decide +kernel
theorem dX7_tellDoorInUse_7 : decode cX7_tellDoorInUse 7 = .ok (.putfield 29, 3) := by decide +kernel
theorem dX7_tellDoorInUse_10 : decode cX7_tellDoorInUse 10 = .ok (.aload_n 0, 1) := by decide +kernel
theorem dX7_tellDoorInUse_11 : decode cX7_tellDoorInUse 11 = .ok (.iload_n 2, 1) := by decide +kernel
theorem dX7_tellDoorInUse_12 : decode cX7_tellDoorInUse 12 = .ok (.iload_n 1, 1) := by decide +kernel
theorem dX7_tellDoorInUse_13 : decode cX7_tellDoorInUse 13 = .ok (.invokevirtual 57, 3) := by decide +kernel
theorem dX7_tellDoorInUse_16 : decode cX7_tellDoorInUse 16 = .ok (.iload_n 2, 1) := by decide +kernel
theorem dX7_tellDoorInUse_17 : decode cX7_tellDoorInUse 17 = .ok (.ireturn, 1) := by decide +kernel
theorem dX7_tellCareful_0 : decode cX7_tellCareful 0 = .ok (.aload_n 0, 1) := by decide +kernel
theorem dX7_tellCareful_1 : decode cX7_tellCareful 1 = .ok (.getfield 33, 3) := by decide +kernel
theorem dX7_tellCareful_4 : decode cX7_tellCareful 4 = .ok (.istore_n 2, 1) := by decide +kernel
theorem dX7_tellCareful_5 : decode cX7_tellCareful 5 = .ok (.aload_n 0, 1) := by decide +kernel
theorem dX7_tellCareful_6 : decode cX7_tellCareful 6 = .ok (.iload_n 1, 1) := by decide +kernel
theorem dX7_tellCareful_7 : decode cX7_tellCareful 7 = .ok (.putfield 33, 3) := by decide +kernel
theorem dX7_tellCareful_10 : decode cX7_tellCareful 10 = .ok (.aload_n 0, 1) := by decide +kernel
theorem dX7_tellCareful_11 : decode cX7_tellCareful 11 = .ok (.iload_n 2, 1) := by decide +kernel
theorem dX7_tellCareful_12 : decode cX7_tellCareful 12 = .ok (.iload_n 1, 1) := by decide +kernel
theorem dX7_tellCareful_13 : decode cX7_tellCareful 13 = .ok (.invokevirtual 57, 3) := by decide +kernel
theorem dX7_tellCareful_16 : decode cX7_tellCareful 16 = .ok (.iload_n 2, 1) := by decide +kernel
theorem dX7_tellCareful_17 : decode cX7_tellCareful 17 = .ok (.ireturn, 1) := by decide +kernel
theorem dX7_tellSample_0 : decode cX7_tellSample 0 = .ok (.aload_n 0, 1) := by decide +kernel
theorem dX7_tellSample_1 : decode cX7_tellSample 1 = .ok (.getfield 36, 3) := by decide +kernel
theorem dX7_tellSample_4 : decode cX7_tellSample 4 = .ok (.istore_n 2, 1) := by decide +kernel
theorem dX7_tellSample_5 : decode cX7_tellSample 5 = .ok (.aload_n 0, 1) := by decide +kernel
theorem dX7_tellSample_6 : decode cX7_tellSample 6 = .ok (.iload_n 1, 1) := by decide +kernel
theorem dX7_tellSample_7 : decode cX7_tellSample 7 = .ok (.putfield 36, 3) := by decide +kernel
theorem dX7_tellSample_10 : decode cX7_tellSample 10 = .ok (.iload_n 2, 1) := by decide +kernel
theorem dX7_tellSample_11 : decode cX7_tellSample 11 = .ok (.ireturn, 1) := by decide +kernel
theorem dX7_forgetIfChanged_0 : decode cX7_forgetIfChanged 0 = .ok (.iload_n 1, 1) := by decide +kernel
theorem dX7_forgetIfChanged_1 : decode cX7_forgetIfChanged 1 = .ok (.iload_n 2, 1) := by decide +kernel
theorem dX7_forgetIfChanged_2 : decode cX7_forgetIfChanged 2 = .ok (.if_icmp .eq 11, 3) := by decide +kernel
theorem dX7_forgetIfChanged_5 : decode cX7_forgetIfChanged 5 = .ok (.aload_n 0, 1) := by decide +kernel
theorem dX7_forgetIfChanged_6 : decode cX7_forgetIfChanged 6 = .ok (.getfield 26, 3) := by decide +kernel
theorem dX7_forgetIfChanged_9 : decode cX7_forgetIfChanged 9 = .ok (.iconst 0, 1) := by decide +kernel
theorem dX7_forgetIfChanged_10 : decode cX7_forgetIfChanged 10 = .ok (.invokestatic 61, 3) := by decide +kernel
theorem dX7_forgetIfChanged_13 : decode cX7_forgetIfChanged 13 = .ok (.return_, 1) := by decide +kernel
theorem dX7_put_0 : decode cX7_put 0 = .ok (.aload_n 0, 1) := by decide +kernel
theorem dX7_put_1 : decode cX7_put 1 = .ok (.dup, 1) := by decide +kernel
theorem dX7_put_2 : decode cX7_put 2 = .ok (.getfield 39, 3) := by decide +kernel
theorem dX7_put_5 : decode cX7_put 5 = .ok (.iconst 1, 1) := by decide +kernel
theorem dX7_put_6 : decode cX7_put 6 = .ok (.iadd, 1) := by decide +kernel
theorem dX7_put_7 : decode cX7_put 7 = .ok (.putfield 39, 3) := by decide +kernel
theorem dX7_put_10 : decode cX7_put 10 = .ok (.aload_n 0, 1) := by decide +kernel
theorem dX7_put_11 : decode cX7_put 11 = .ok (.getfield 26, 3) := by decide +kernel
theorem dX7_put_14 : decode cX7_put 14 = .ok (.iload_n 1, 1) := by decide +kernel
theorem dX7_put_15 : decode cX7_put 15 = .ok (.dup2, 1) := by decide +kernel
theorem dX7_put_16 : decode cX7_put 16 = .ok (.iaload, 1) := by decide +kernel
theorem dX7_put_17 : decode cX7_put 17 = .ok (.iconst 1, 1) := by decide +kernel
theorem dX7_put_18 : decode cX7_put 18 = .ok (.iadd, 1) := by decide +kernel
theorem dX7_put_19 : decode cX7_put 19 = .ok (.iastore, 1) := by decide +kernel
theorem dX7_put_20 : decode cX7_put 20 = .ok (.aload_n 0, 1) := by decide +kernel
theorem dX7_put_21 : decode cX7_put 21 = .ok (.getfield 29, 3) := by decide +kernel
theorem dX7_put_24 : decode cX7_put 24 = .ok (.iconst 1, 1) := by decide +kernel
theorem dX7_put_25 : decode cX7_put 25 = .ok (.if_icmp .ne 42, 3) := by decide +kernel
theorem dX7_put_28 : decode cX7_put 28 = .ok (.aload_n 0, 1) := by decide +kernel
theorem dX7_put_29 : decode cX7_put 29 = .ok (.iload_n 1, 1) := by decide +kernel
theorem dX7_put_30 : decode cX7_put 30 = .ok (.invokevirtual 67, 3) := by decide +kernel
theorem dX7_put_33 : decode cX7_put 33 = .ok (.ifCond .ne 34, 3) := by decide +kernel
theorem dX7_put_36 : decode cX7_put 36 = .ok (.aload_n 0, 1) := by decide +kernel
theorem dX7_put_37 : decode cX7_put 37 = .ok (.getfield 16, 3) := by decide +kernel
theorem dX7_put_40 : decode cX7_put 40 = .ok (.aload_n 0, 1) := by decide +kernel
theorem dX7_put_41 : decode cX7_put 41 = .ok (.getfield 23, 3) := by decide +kernel
theorem dX7_put_44 : decode cX7_put 44 = .ok (.iconst 0, 1) := by decide +kernel
theorem dX7_put_45 : decode cX7_put 45 = .ok (.aaload, 1) := by decide +kernel
theorem dX7_put_46 : decode cX7_put 46 = .ok (.iload_n 1, 1) := by decide +kernel
theorem dX7_put_47 : decode cX7_put 47 = .ok (.iaload, 1) := by decide +kernel
theorem dX7_put_48 : decode cX7_put 48 = .ok (.iconst 1, 1) := by decide +kernel
theorem dX7_put_49 : decode cX7_put 49 = .ok (.iastore, 1) := by decide +kernel
theorem dX7_put_50 : decode cX7_put 50 = .ok (.aload_n 0, 1) := by decide +kernel
theorem dX7_put_51 : decode cX7_put 51 = .ok (.getfield 16, 3) := by decide +kernel
theorem dX7_put_54 : decode cX7_put 54 = .ok (.aload_n 0, 1) := by decide +kernel
theorem dX7_put_55 : decode cX7_put 55 = .ok (.getfield 23, 3) := by decide +kernel
theorem dX7_put_58 : decode cX7_put 58 = .ok (.iconst 1, 1) := by decide +kernel
theorem dX7_put_59 : decode cX7_put 59 = .ok (.aaload, 1) := by decide +kernel
theorem dX7_put_60 : decode cX7_put 60 = .ok (.iload_n 1, 1) := by decide +kernel
theorem dX7_put_61 : decode cX7_put 61 = .ok (.iaload, 1) := by decide +kernel
theorem dX7_put_62 : decode cX7_put 62 = .ok (.iconst 1, 1) := by decide +kernel
theorem dX7_put_63 : decode cX7_put 63 = .ok (.iastore, 1) := by decide +kernel
theorem dX7_put_64 : decode cX7_put 64 = .ok (.goto 8, 3) := by decide +kernel
theorem dX7_put_67 : decode cX7_put 67 = .ok (.aload_n 0, 1) := by decide +kernel
theorem dX7_put_68 : decode cX7_put 68 = .ok (.iload_n 1, 1) := by decide +kernel
theorem dX7_put_69 : decode cX7_put 69 = .ok (.invokevirtual 71, 3) := by decide +kernel
theorem dX7_put_72 : decode cX7_put 72 = .ok (.aload_n 0, 1) := by decide +kernel
theorem dX7_put_73 : decode cX7_put 73 = .ok (.getfield 39, 3) := by decide +kernel
theorem dX7_put_76 : decode cX7_put 76 = .ok (.aload_n 0, 1) := by decide +kernel
theorem dX7_put_77 : decode cX7_put 77 = .ok (.getfield 36, 3) := by decide +kernel
theorem dX7_put_80 : decode cX7_put 80 = .ok (.if_icmp .lt 7, 3) := by decide +kernel
theorem dX7_put_83 : decode cX7_put 83 = .ok (.aload_n 0, 1) := by decide +kernel
theorem dX7_put_84 : decode cX7_put 84 = .ok (.invokevirtual 75, 3) := by decide +kernel
theorem dX7_put_87 : decode cX7_put 87 = .ok (.return_, 1) := by decide +kernel
theorem dX7_isPastDoor_0 : decode cX7_isPastDoor 0 = .ok (.aload_n 0, 1) := by decide +kernel
theorem dX7_isPastDoor_1 : decode cX7_isPastDoor 1 = .ok (.getfield 16, 3) := by decide +kernel
theorem dX7_isPastDoor_4 : decode cX7_isPastDoor 4 = .ok (.aload_n 0, 1) := by decide +kernel
theorem dX7_isPastDoor_5 : decode cX7_isPastDoor 5 = .ok (.getfield 23, 3) := by decide +kernel
theorem dX7_isPastDoor_8 : decode cX7_isPastDoor 8 = .ok (.iconst 0, 1) := by decide +kernel
theorem dX7_isPastDoor_9 : decode cX7_isPastDoor 9 = .ok (.aaload, 1) := by decide +kernel
theorem dX7_isPastDoor_10 : decode cX7_isPastDoor 10 = .ok (.iload_n 1, 1) := by decide +kernel
theorem dX7_isPastDoor_11 : decode cX7_isPastDoor 11 = .ok (.iaload, 1) := by decide +kernel
theorem dX7_isPastDoor_12 : decode cX7_isPastDoor 12 = .ok (.iaload, 1) := by decide +kernel
theorem dX7_isPastDoor_13 : decode cX7_isPastDoor 13 = .ok (.iconst 1, 1) := by decide +kernel
theorem dX7_isPastDoor_14 : decode cX7_isPastDoor 14 = .ok (.if_icmp .ne 24, 3) := by decide +kernel
theorem dX7_isPastDoor_17 : decode cX7_isPastDoor 17 = .ok (.aload_n 0, 1) := by decide +kernel
theorem dX7_isPastDoor_18 : decode cX7_isPastDoor 18 = .ok (.getfield 16, 3) := by decide +kernel
theorem dX7_isPastDoor_21 : decode cX7_isPastDoor 21 = .ok (.aload_n 0, 1) := by decide +kernel
theorem dX7_isPastDoor_22 : decode cX7_isPastDoor 22 = .ok (.getfield 23, 3) := by decide +kernel
theorem dX7_isPastDoor_25 : decode cX7_isPastDoor 25 = .ok (.iconst 1, 1) := by decide +kernel
theorem dX7_isPastDoor_26 : decode cX7_isPastDoor 26 = .ok (.aaload, 1) := by decide +kernel
theorem dX7_isPastDoor_27 : decode cX7_isPastDoor 27 = .ok (.iload_n 1, 1) := by decide +kernel
theorem dX7_isPastDoor_28 : decode cX7_isPastDoor 28 = .ok (.iaload, 1) := by decide +kernel
theorem dX7_isPastDoor_29 : decode cX7_isPastDoor 29 = .ok (.iaload, 1) := by decide +kernel
theorem dX7_isPastDoor_30 : decode cX7_isPastDoor 30 = .ok (.iconst 1, 1) := by decide +kernel
theorem dX7_isPastDoor_31 : decode cX7_isPastDoor 31 = .ok (.if_icmp .ne 7, 3) := by decide +kernel
theorem dX7_isPastDoor_34 : decode cX7_isPastDoor 34 = .ok (.iconst 1, 1) := by decide +kernel
theorem dX7_isPastDoor_35 : decode cX7_isPastDoor 35 = .ok (.goto 4, 3) := by decide +kernel
theorem dX7_isPastDoor_38 : decode cX7_isPastDoor 38 = .ok (.iconst 0, 1) := by decide +kernel
theorem dX7_isPastDoor_39 : decode cX7_isPastDoor 39 = .ok (.ireturn, 1) := by decide +kernel
theorem dX7_growCounters_0 : decode cX7_growCounters 0 = .ok (.aload_n 0, 1) := by decide +kernel
theorem dX7_growCounters_1 : decode cX7_growCounters 1 = .ok (.getfield 33, 3) := by decide +kernel
theorem dX7_growCounters_4 : decode cX7_growCounters 4 = .ok (.iconst 1, 1) := by decide +kernel
theorem dX7_growCounters_5 : decode cX7_growCounters 5 = .ok (.if_icmp .ne 11, 3) := by decide +kernel
theorem dX7_growCounters_8 : decode cX7_growCounters 8 = .ok (.aload_n 0, 1) := by decide +kernel
theorem dX7_growCounters_9 : decode cX7_growCounters 9 = .ok (.iload_n 1, 1) := by decide +kernel
theorem dX7_growCounters_10 : decode cX7_growCounters 10 = .ok (.invokevirtual 78, 3) := by decide +kernel
theorem dX7_growCounters_13 : decode cX7_growCounters 13 = .ok (.goto 5, 3) := by decide +kernel
theorem dX7_growCounters_16 : decode cX7_growCounters 16 = .ok (.bipush 15, 2) := by decide +kernel
theorem dX7_growCounters_18 : decode cX7_growCounters 18 = .ok (.istore_n 2, 1) := by decide +kernel
theorem dX7_growCounters_19 : decode cX7_growCounters 19 = .ok (.iconst 0, 1) := by decide +kernel
theorem dX7_growCounters_20 : decode cX7_growCounters 20 = .ok (.istore_n 3, 1) := by decide +kernel
theorem dX7_growCounters_21 : decode cX7_growCounters 21 = .ok (.iload_n 3, 1) := by decide +kernel
theorem dX7_growCounters_22 : decode cX7_growCounters 22 = .ok (.aload_n 0, 1) := by decide +kernel
theorem dX7_growCounters_23 : decode cX7_growCounters 23 = .ok (.getfield 54, 3) := by decide +kernel
theorem dX7_growCounters_26 : decode cX7_growCounters 26 = .ok (.if_icmp .ge 56, 3) := by decide +kernel
theorem dX7_growCounters_29 : decode cX7_growCounters 29 = .ok (.aload_n 0, 1) := by decide +kernel
theorem dX7_growCounters_30 : decode cX7_growCounters 30 = .ok (.getfield 20, 3) := by decide +kernel
theorem dX7_growCounters_33 : decode cX7_growCounters 33 = .ok (.iload_n 3, 1) := by decide +kernel
theorem dX7_growCounters_34 : decode cX7_growCounters 34 = .ok (.aaload, 1) := by decide +kernel
theorem dX7_growCounters_35 : decode cX7_growCounters 35 = .ok (.iload_n 1, 1) := by decide +kernel
theorem dX7_growCounters_36 : decode cX7_growCounters 36 = .ok (.iaload, 1) := by decide +kernel
theorem dX7_growCounters_37 : decode cX7_growCounters 37 = .ok (.istore 4, 2) := by decide +kernel
theorem dX7_growCounters_39 : decode cX7_growCounters 39 = .ok (.aload_n 0, 1) := by decide +kernel
theorem dX7_growCounters_40 : decode cX7_growCounters 40 = .ok (.getfield 11, 3) := by decide +kernel
theorem dX7_growCounters_43 : decode cX7_growCounters 43 = .ok (.iload_n 3, 1) := by decide +kernel
theorem dX7_growCounters_44 : decode cX7_growCounters 44 = .ok (.aaload, 1) := by decide +kernel
theorem dX7_growCounters_45 : decode cX7_growCounters 45 = .ok (.iload 4, 2) := by decide +kernel
theorem dX7_growCounters_47 : decode cX7_growCounters 47 = .ok (.iaload, 1) := by decide +kernel
theorem dX7_growCounters_48 : decode cX7_growCounters 48 = .ok (.istore 5, 2) := by decide +kernel
theorem dX7_growCounters_50 : decode cX7_growCounters 50 = .ok (.iload 5, 2) := by decide +kernel
theorem dX7_growCounters_52 : decode cX7_growCounters 52 = .ok (.iload_n 2, 1) := by decide +kernel
theorem dX7_growCounters_53 : decode cX7_growCounters 53 = .ok (.if_icmp .gt 23, 3) := by decide +kernel
theorem dX7_growCounters_56 : decode cX7_growCounters 56 = .ok (.iload 5, 2) := by decide +kernel
theorem dX7_growCounters_58 : decode cX7_growCounters 58 = .ok (.bipush 15, 2) := by decide +kernel
theorem dX7_growCounters_60 : decode cX7_growCounters 60 = .ok (.if_icmp .ge 16, 3) := by decide +kernel
theorem dX7_growCounters_63 : decode cX7_growCounters 63 = .ok (.aload_n 0, 1) := by decide +kernel
theorem dX7_growCounters_64 : decode cX7_growCounters 64 = .ok (.getfield 11, 3) := by decide +kernel
theorem dX7_growCounters_67 : decode cX7_growCounters 67 = .ok (.iload_n 3, 1) := by decide +kernel
theorem dX7_growCounters_68 : decode cX7_growCounters 68 = .ok (.aaload, 1) := by decide +kernel
theorem dX7_growCounters_69 : decode cX7_growCounters 69 = .ok (.iload 4, 2) := by decide +kernel
theorem dX7_growCounters_71 : decode cX7_growCounters 71 = .ok (.iload 5, 2) := by decide +kernel
theorem dX7_growCounters_73 : decode cX7_growCounters 73 = .ok (.iconst 1, 1) := by decide +kernel
theorem dX7_growCounters_74 : decode cX7_growCounters 74 = .ok (.iadd, 1) := by decide +kernel
theorem dX7_growCounters_75 : decode cX7_growCounters 75 = .ok (.iastore, 1) := by decide +kernel
theorem dX7_growCounters_76 : decode cX7_growCounters 76 = .ok (.iinc 3 1, 3) := by decide +kernel
theorem dX7_growCounters_79 : decode cX7_growCounters 79 = .ok (.goto (-58), 3) := by decide +kernel
theorem dX7_growCounters_82 : decode cX7_growCounters 82 = .ok (.return_, 1) := by decide +kernel
theorem dX7_smallestCounter_0 : decode cX7_smallestCounter 0 = .ok (.bipush 15, 2) := by decide +kernel
theorem dX7_smallestCounter_2 : decode cX7_smallestCounter 2 = .ok (.istore_n 2, 1) := by decide +kernel
theorem dX7_smallestCounter_3 : decode cX7_smallestCounter 3 = .ok (.iconst 0, 1) := by decide +kernel
theorem dX7_smallestCounter_4 : decode cX7_smallestCounter 4 = .ok (.istore_n 3, 1) := by decide +kernel
theorem dX7_smallestCounter_5 : decode cX7_smallestCounter 5 = .ok (.iload_n 3, 1) := by decide +kernel
theorem dX7_smallestCounter_6 : decode cX7_smallestCounter 6 = .ok (.aload_n 0, 1) := by decide +kernel
theorem dX7_smallestCounter_7 : decode cX7_smallestCounter 7 = .ok (.getfield 54, 3) := by decide +kernel
theorem dX7_smallestCounter_10 : decode cX7_smallestCounter 10 = .ok (.if_icmp .ge 29, 3) := by decide +kernel
theorem dX7_smallestCounter_13 : decode cX7_smallestCounter 13 = .ok (.iload_n 2, 1) := by decide +kernel
theorem dX7_smallestCounter_14 : decode cX7_smallestCounter 14 = .ok (.aload_n 0, 1) := by decide +kernel
theorem dX7_smallestCounter_15 : decode cX7_smallestCounter 15 = .ok (.getfield 11, 3) := by decide +kernel
theorem dX7_smallestCounter_18 : decode cX7_smallestCounter 18 = .ok (.iload_n 3, 1) := by decide +kernel
theorem dX7_smallestCounter_19 : decode cX7_smallestCounter 19 = .ok (.aaload, 1) := by decide +kernel
theorem dX7_smallestCounter_20 : decode cX7_smallestCounter 20 = .ok (.aload_n 0, 1) := by decide +kernel
theorem dX7_smallestCounter_21 : decode cX7_smallestCounter 21 = .ok (.getfield 20, 3) := by decide +kernel
theorem dX7_smallestCounter_24 : decode cX7_smallestCounter 24 = .ok (.iload_n 3, 1) := by decide +kernel
theorem dX7_smallestCounter_25 : decode cX7_smallestCounter 25 = .ok (.aaload, 1) := by decide +kernel
theorem dX7_smallestCounter_26 : decode cX7_smallestCounter 26 = .ok (.iload_n 1, 1) := by decide +kernel
theorem dX7_smallestCounter_27 : decode cX7_smallestCounter 27 = .ok (.iaload, 1) := by decide +kernel
theorem dX7_smallestCounter_28 : decode cX7_smallestCounter 28 = .ok (.iaload, 1) := by decide +kernel
theorem dX7_smallestCounter_29 : decode cX7_smallestCounter 29 = .ok (.invokestatic 45, 3) := by decide +kernel
theorem dX7_smallestCounter_32 : decode cX7_smallestCounter 32 = .ok (.istore_n 2, 1) := by decide +kernel
theorem dX7_smallestCounter_33 : decode cX7_smallestCounter 33 = .ok (.iinc 3 1, 3) := by decide +kernel
theorem dX7_smallestCounter_36 : decode cX7_smallestCounter 36 = .ok (.goto (-31), 3) := by decide +kernel
theorem dX7_smallestCounter_39 : decode cX7_smallestCounter 39 = .ok (.iload_n 2, 1) := by decide +kernel
theorem dX7_smallestCounter_40 : decode cX7_smallestCounter 40 = .ok (.ireturn, 1) := by decide +kernel
theorem dX7_age_0 : decode cX7_age 0 = .ok (.iconst 0, 1) := by decide +kernel
theorem dX7_age_1 : decode cX7_age 1 = .ok (.istore_n 1, 1) := by decide +kernel
theorem dX7_age_2 : decode cX7_age 2 = .ok (.iload_n 1, 1) := by decide +kernel
theorem dX7_age_3 : decode cX7_age 3 = .ok (.aload_n 0, 1) := by decide +kernel
theorem dX7_age_4 : decode cX7_age 4 = .ok (.getfield 54, 3) := by decide +kernel
theorem dX7_age_7 : decode cX7_age 7 = .ok (.if_icmp .ge 35, 3) := by decide +kernel
theorem dX7_age_10 : decode cX7_age 10 = .ok (.iconst 0, 1) := by decide +kernel
theorem dX7_age_11 : decode cX7_age 11 = .ok (.istore_n 2, 1) := by decide +kernel
theorem dX7_age_12 : decode cX7_age 12 = .ok (.iload_n 2, 1) := by decide +kernel
theorem dX7_age_13 : decode cX7_age 13 = .ok (.bipush 64, 2) := by decide +kernel
theorem dX7_age_15 : decode cX7_age 15 = .ok (.if_icmp .ge 21, 3) := by decide +kernel
theorem dX7_age_18 : decode cX7_age 18 = .ok (.aload_n 0, 1) := by decide +kernel
theorem dX7_age_19 : decode cX7_age 19 = .ok (.getfield 11, 3) := by decide +kernel
theorem dX7_age_22 : decode cX7_age 22 = .ok (.iload_n 1, 1) := by decide +kernel
theorem dX7_age_23 : decode cX7_age 23 = .ok (.aaload, 1) := by decide +kernel
theorem dX7_age_24 : decode cX7_age 24 = .ok (.iload_n 2, 1) := by decide +kernel
theorem dX7_age_25 : decode cX7_age 25 = .ok (.dup2, 1) := by decide +kernel
theorem dX7_age_26 : decode cX7_age 26 = .ok (.iaload, 1) := by decide +kernel
theorem dX7_age_27 : decode cX7_age 27 = .ok (.iconst 2, 1) := by decide +kernel
theorem dX7_age_28 : decode cX7_age 28 = .ok (.idiv, 1) := by decide +kernel
theorem dX7_age_29 : decode cX7_age 29 = .ok (.iastore, 1) := by decide +kernel
theorem dX7_age_30 : decode cX7_age 30 = .ok (.iinc 2 1, 3) := by decide +kernel
theorem dX7_age_33 : decode cX7_age 33 = .ok (.goto (-21), 3) := by decide +kernel
theorem dX7_age_36 : decode cX7_age 36 = .ok (.iinc 1 1, 3) := by decide +kernel
theorem dX7_age_39 : decode cX7_age 39 = .ok (.goto (-37), 3) := by decide +kernel
theorem dX7_age_42 : decode cX7_age 42 = .ok (.aload_n 0, 1) := by decide +kernel
theorem dX7_age_43 : decode cX7_age 43 = .ok (.getfield 16, 3) := by decide +kernel
theorem dX7_age_46 : decode cX7_age 46 = .ok (.iconst 0, 1) := by decide +kernel
theorem dX7_age_47 : decode cX7_age 47 = .ok (.invokestatic 61, 3) := by decide +kernel
theorem dX7_age_50 : decode cX7_age 50 = .ok (.aload_n 0, 1) := by decide +kernel
theorem dX7_age_51 : decode cX7_age 51 = .ok (.getfield 26, 3) := by decide +kernel
theorem dX7_age_54 : decode cX7_age 54 = .ok (.iconst 0, 1) := by decide +kernel
theorem dX7_age_55 : decode cX7_age 55 = .ok (.invokestatic 61, 3) := by decide +kernel
theorem dX7_age_58 : decode cX7_age 58 = .ok (.aload_n 0, 1) := by decide +kernel
theorem dX7_age_59 : decode cX7_age 59 = .ok (.aload_n 0, 1) := by decide +kernel
theorem dX7_age_60 : decode cX7_age 60 = .ok (.getfield 36, 3) := by decide +kernel
theorem dX7_age_63 : decode cX7_age 63 = .ok (.iconst 2, 1) := by decide +kernel
theorem dX7_age_64 : decode cX7_age 64 = .ok (.idiv, 1) := by decide +kernel
theorem dX7_age_65 : decode cX7_age 65 = .ok (.putfield 39, 3) := by decide +kernel
theorem dX7_age_68 : decode cX7_age 68 = .ok (.aload_n 0, 1) := by decide +kernel
theorem dX7_age_69 : decode cX7_age 69 = .ok (.dup, 1) := by decide +kernel
theorem dX7_age_70 : decode cX7_age 70 = .ok (.getfield 42, 3) := by decide +kernel
theorem dX7_age_73 : decode cX7_age 73 = .ok (.iconst 1, 1) := by decide +kernel
theorem dX7_age_74 : decode cX7_age 74 = .ok (.iadd, 1) := by decide +kernel
theorem dX7_age_75 : decode cX7_age 75 = .ok (.putfield 42, 3) := by decide +kernel
theorem dX7_age_78 : decode cX7_age 78 = .ok (.return_, 1) := by decide +kernel
theorem dX7_guess_0 : decode cX7_guess 0 = .ok (.aload_n 0, 1) := by decide +kernel
theorem dX7_guess_1 : decode cX7_guess 1 = .ok (.iload_n 1, 1) := by decide +kernel
theorem dX7_guess_2 : decode cX7_guess 2 = .ok (.invokevirtual 78, 3) := by decide +kernel
theorem dX7_guess_5 : decode cX7_guess 5 = .ok (.istore_n 2, 1) := by decide +kernel
theorem dX7_guess_6 : decode cX7_guess 6 = .ok (.aload_n 0, 1) := by decide +kernel
theorem dX7_guess_7 : decode cX7_guess 7 = .ok (.getfield 29, 3) := by decide +kernel
theorem dX7_guess_10 : decode cX7_guess 10 = .ok (.iconst 1, 1) := by decide +kernel
theorem dX7_guess_11 : decode cX7_guess 11 = .ok (.if_icmp .ne 17, 3) := by decide +kernel
theorem dX7_guess_14 : decode cX7_guess 14 = .ok (.aload_n 0, 1) := by decide +kernel
theorem dX7_guess_15 : decode cX7_guess 15 = .ok (.iload_n 1, 1) := by decide +kernel
theorem dX7_guess_16 : decode cX7_guess 16 = .ok (.invokevirtual 67, 3) := by decide +kernel
theorem dX7_guess_19 : decode cX7_guess 19 = .ok (.ifCond .eq 9, 3) := by decide +kernel
theorem dX7_guess_22 : decode cX7_guess 22 = .ok (.iload_n 2, 1) := by decide +kernel
theorem dX7_guess_23 : decode cX7_guess 23 = .ok (.iconst 1, 1) := by decide +kernel
theorem dX7_guess_24 : decode cX7_guess 24 = .ok (.iadd, 1) := by decide +kernel
theorem dX7_guess_25 : decode cX7_guess 25 = .ok (.goto 4, 3) := by decide +kernel
theorem dX7_guess_28 : decode cX7_guess 28 = .ok (.iload_n 2, 1) := by decide +kernel
theorem dX7_guess_29 : decode cX7_guess 29 = .ok (.ireturn, 1) := by decide +kernel
theorem dX7_isSound_0 : decode cX7_isSound 0 = .ok (.iconst 0, 1) := by decide +kernel
theorem dX7_isSound_1 : decode cX7_isSound 1 = .ok (.istore_n 1, 1) := by decide +kernel
theorem dX7_isSound_2 : decode cX7_isSound 2 = .ok (.iload_n 1, 1) := by decide +kernel
theorem dX7_isSound_3 : decode cX7_isSound 3 = .ok (.aload_n 0, 1) := by decide +kernel
theorem dX7_isSound_4 : decode cX7_isSound 4 = .ok (.getfield 54, 3) := by decide +kernel
theorem dX7_isSound_7 : decode cX7_isSound 7 = .ok (.if_icmp .ge 49, 3) := by decide +kernel
theorem dX7_isSound_10 : decode cX7_isSound 10 = .ok (.iconst 0, 1) := by decide +kernel
theorem dX7_isSound_11 : decode cX7_isSound 11 = .ok (.istore_n 2, 1) := by decide +kernel
theorem dX7_isSound_12 : decode cX7_isSound 12 = .ok (.iload_n 2, 1) := by decide +kernel
theorem dX7_isSound_13 : decode cX7_isSound 13 = .ok (.bipush 64, 2) := by decide +kernel
theorem dX7_isSound_15 : decode cX7_isSound 15 = .ok (.if_icmp .ge 35, 3) := by decide +kernel
theorem dX7_isSound_18 : decode cX7_isSound 18 = .ok (.aload_n 0, 1) := by decide +kernel
theorem dX7_isSound_19 : decode cX7_isSound 19 = .ok (.getfield 11, 3) := by decide +kernel
theorem dX7_isSound_22 : decode cX7_isSound 22 = .ok (.iload_n 1, 1) := by decide +kernel
theorem dX7_isSound_23 : decode cX7_isSound 23 = .ok (.aaload, 1) := by decide +kernel
theorem dX7_isSound_24 : decode cX7_isSound 24 = .ok (.iload_n 2, 1) := by decide +kernel
theorem dX7_isSound_25 : decode cX7_isSound 25 = .ok (.iaload, 1) := by decide +kernel
theorem dX7_isSound_26 : decode cX7_isSound 26 = .ok (.ifCond .lt 16, 3) := by decide +kernel
theorem dX7_isSound_29 : decode cX7_isSound 29 = .ok (.aload_n 0, 1) := by decide +kernel
theorem dX7_isSound_30 : decode cX7_isSound 30 = .ok (.getfield 11, 3) := by decide +kernel
theorem dX7_isSound_33 : decode cX7_isSound 33 = .ok (.iload_n 1, 1) := by decide +kernel
theorem dX7_isSound_34 : decode cX7_isSound 34 = .ok (.aaload, 1) := by decide +kernel
theorem dX7_isSound_35 : decode cX7_isSound 35 = .ok (.iload_n 2, 1) := by decide +kernel
theorem dX7_isSound_36 : decode cX7_isSound 36 = .ok (.iaload, 1) := by decide +kernel
theorem dX7_isSound_37 : decode cX7_isSound 37 = .ok (.bipush 15, 2) := by decide +kernel
theorem dX7_isSound_39 : decode cX7_isSound 39 = .ok (.if_icmp .le 5, 3) := by decide +kernel
theorem dX7_isSound_42 : decode cX7_isSound 42 = .ok (.iconst 0, 1) := by decide +kernel
theorem dX7_isSound_43 : decode cX7_isSound 43 = .ok (.ireturn, 1) := by decide +kernel
theorem dX7_isSound_44 : decode cX7_isSound 44 = .ok (.iinc 2 1, 3) := by decide +kernel
theorem dX7_isSound_47 : decode cX7_isSound 47 = .ok (.goto (-35), 3) := by decide +kernel
theorem dX7_isSound_50 : decode cX7_isSound 50 = .ok (.iinc 1 1, 3) := by decide +kernel
theorem dX7_isSound_53 : decode cX7_isSound 53 = .ok (.goto (-51), 3) := by decide +kernel
theorem dX7_isSound_56 : decode cX7_isSound 56 = .ok (.iconst 0, 1) := by decide +kernel
theorem dX7_isSound_57 : decode cX7_isSound 57 = .ok (.istore_n 1, 1) := by decide +kernel
theorem dX7_isSound_58 : decode cX7_isSound 58 = .ok (.iload_n 1, 1) := by decide +kernel
theorem dX7_isSound_59 : decode cX7_isSound 59 = .ok (.bipush 100, 2) := by decide +kernel
theorem dX7_isSound_61 : decode cX7_isSound 61 = .ok (.if_icmp .ge 30, 3) := by decide +kernel
theorem dX7_isSound_64 : decode cX7_isSound 64 = .ok (.aload_n 0, 1) := by decide +kernel
theorem dX7_isSound_65 : decode cX7_isSound 65 = .ok (.iload_n 1, 1) := by decide +kernel
theorem dX7_isSound_66 : decode cX7_isSound 66 = .ok (.invokevirtual 82, 3) := by decide +kernel
theorem dX7_isSound_69 : decode cX7_isSound 69 = .ok (.bipush 15, 2) := by decide +kernel
theorem dX7_isSound_71 : decode cX7_isSound 71 = .ok (.aload_n 0, 1) := by decide +kernel
theorem dX7_isSound_72 : decode cX7_isSound 72 = .ok (.getfield 26, 3) := by decide +kernel
theorem dX7_isSound_75 : decode cX7_isSound 75 = .ok (.iload_n 1, 1) := by decide +kernel
theorem dX7_isSound_76 : decode cX7_isSound 76 = .ok (.iaload, 1) := by decide +kernel
theorem dX7_isSound_77 : decode cX7_isSound 77 = .ok (.invokestatic 45, 3) := by decide +kernel
theorem dX7_isSound_80 : decode cX7_isSound 80 = .ok (.if_icmp .ge 5, 3) := by decide +kernel
theorem dX7_isSound_83 : decode cX7_isSound 83 = .ok (.iconst 0, 1) := by decide +kernel
theorem dX7_isSound_84 : decode cX7_isSound 84 = .ok (.ireturn, 1) := by decide +kernel
theorem dX7_isSound_85 : decode cX7_isSound 85 = .ok (.iinc 1 1, 3) := by decide +kernel
theorem dX7_isSound_88 : decode cX7_isSound 88 = .ok (.goto (-30), 3) := by decide +kernel
theorem dX7_isSound_91 : decode cX7_isSound 91 = .ok (.iconst 1, 1) := by decide +kernel
theorem dX7_isSound_92 : decode cX7_isSound 92 = .ok (.ireturn, 1) := by decide +kernel
theorem dX7_copyFrom_0 : decode cX7_copyFrom 0 = .ok (.iconst 0, 1) := by decide +kernel
theorem dX7_copyFrom_1 : decode cX7_copyFrom 1 = .ok (.istore_n 2, 1) := by decide +kernel
theorem dX7_copyFrom_2 : decode cX7_copyFrom 2 = .ok (.iload_n 2, 1) := by decide +kernel
theorem dX7_copyFrom_3 : decode cX7_copyFrom 3 = .ok (.iconst 4, 1) := by decide +kernel
theorem dX7_copyFrom_4 : decode cX7_copyFrom 4 = .ok (.if_icmp .ge 47, 3) := by decide +kernel
theorem dX7_copyFrom_7 : decode cX7_copyFrom 7 = .ok (.aload_n 1, 1) := by decide +kernel
theorem dX7_copyFrom_8 : decode cX7_copyFrom 8 = .ok (.getfield 11, 3) := by decide +kernel
theorem dX7_copyFrom_11 : decode cX7_copyFrom 11 = .ok (.iload_n 2, 1) := by decide +kernel
theorem dX7_copyFrom_12 : decode cX7_copyFrom 12 = .ok (.aaload, 1) := by decide +kernel
theorem dX7_copyFrom_13 : decode cX7_copyFrom 13 = .ok (.iconst 0, 1) := by decide +kernel
theorem dX7_copyFrom_14 : decode cX7_copyFrom 14 = .ok (.aload_n 0, 1) := by decide +kernel
theorem dX7_copyFrom_15 : decode cX7_copyFrom 15 = .ok (.getfield 11, 3) := by decide +kernel
theorem dX7_copyFrom_18 : decode cX7_copyFrom 18 = .ok (.iload_n 2, 1) := by decide +kernel
theorem dX7_copyFrom_19 : decode cX7_copyFrom 19 = .ok (.aaload, 1) := by decide +kernel
theorem dX7_copyFrom_20 : decode cX7_copyFrom 20 = .ok (.iconst 0, 1) := by decide +kernel
theorem dX7_copyFrom_21 : decode cX7_copyFrom 21 = .ok (.bipush 64, 2) := by decide +kernel
theorem dX7_copyFrom_23 : decode cX7_copyFrom 23 = .ok (.invokestatic 85, 3) := by decide +kernel
theorem dX7_copyFrom_26 : decode cX7_copyFrom 26 = .ok (.aload_n 1, 1) := by decide +kernel
theorem dX7_copyFrom_27 : decode cX7_copyFrom 27 = .ok (.getfield 20, 3) := by decide +kernel
theorem dX7_copyFrom_30 : decode cX7_copyFrom 30 = .ok (.iload_n 2, 1) := by decide +kernel
theorem dX7_copyFrom_31 : decode cX7_copyFrom 31 = .ok (.aaload, 1) := by decide +kernel
theorem dX7_copyFrom_32 : decode cX7_copyFrom 32 = .ok (.iconst 0, 1) := by decide +kernel
theorem dX7_copyFrom_33 : decode cX7_copyFrom 33 = .ok (.aload_n 0, 1) := by decide +kernel
theorem dX7_copyFrom_34 : decode cX7_copyFrom 34 = .ok (.getfield 20, 3) := by decide +kernel
theorem dX7_copyFrom_37 : decode cX7_copyFrom 37 = .ok (.iload_n 2, 1) := by decide +kernel
theorem dX7_copyFrom_38 : decode cX7_copyFrom 38 = .ok (.aaload, 1) := by decide +kernel
theorem dX7_copyFrom_39 : decode cX7_copyFrom 39 = .ok (.iconst 0, 1) := by decide +kernel
theorem dX7_copyFrom_40 : decode cX7_copyFrom 40 = .ok (.bipush 100, 2) := by decide +kernel
theorem dX7_copyFrom_42 : decode cX7_copyFrom 42 = .ok (.invokestatic 85, 3) := by decide +kernel
theorem dX7_copyFrom_45 : decode cX7_copyFrom 45 = .ok (.iinc 2 1, 3) := by decide +kernel
theorem dX7_copyFrom_48 : decode cX7_copyFrom 48 = .ok (.goto (-46), 3) := by decide +kernel
theorem dX7_copyFrom_51 : decode cX7_copyFrom 51 = .ok (.iconst 0, 1) := by decide +kernel
theorem dX7_copyFrom_52 : decode cX7_copyFrom 52 = .ok (.istore_n 2, 1) := by decide +kernel
theorem dX7_copyFrom_53 : decode cX7_copyFrom 53 = .ok (.iload_n 2, 1) := by decide +kernel
theorem dX7_copyFrom_54 : decode cX7_copyFrom 54 = .ok (.iconst 2, 1) := by decide +kernel
theorem dX7_copyFrom_55 : decode cX7_copyFrom 55 = .ok (.if_icmp .ge 28, 3) := by decide +kernel
theorem dX7_copyFrom_58 : decode cX7_copyFrom 58 = .ok (.aload_n 1, 1) := by decide +kernel
theorem dX7_copyFrom_59 : decode cX7_copyFrom 59 = .ok (.getfield 23, 3) := by decide +kernel
theorem dX7_copyFrom_62 : decode cX7_copyFrom 62 = .ok (.iload_n 2, 1) := by decide +kernel
theorem dX7_copyFrom_63 : decode cX7_copyFrom 63 = .ok (.aaload, 1) := by decide +kernel
theorem dX7_copyFrom_64 : decode cX7_copyFrom 64 = .ok (.iconst 0, 1) := by decide +kernel
theorem dX7_copyFrom_65 : decode cX7_copyFrom 65 = .ok (.aload_n 0, 1) := by decide +kernel
theorem dX7_copyFrom_66 : decode cX7_copyFrom 66 = .ok (.getfield 23, 3) := by decide +kernel
theorem dX7_copyFrom_69 : decode cX7_copyFrom 69 = .ok (.iload_n 2, 1) := by decide +kernel
theorem dX7_copyFrom_70 : decode cX7_copyFrom 70 = .ok (.aaload, 1) := by decide +kernel
theorem dX7_copyFrom_71 : decode cX7_copyFrom 71 = .ok (.iconst 0, 1) := by decide +kernel
theorem dX7_copyFrom_72 : decode cX7_copyFrom 72 = .ok (.bipush 100, 2) := by decide +kernel
theorem dX7_copyFrom_74 : decode cX7_copyFrom 74 = .ok (.invokestatic 85, 3) := by decide +kernel
theorem dX7_copyFrom_77 : decode cX7_copyFrom 77 = .ok (.iinc 2 1, 3) := by decide +kernel
theorem dX7_copyFrom_80 : decode cX7_copyFrom 80 = .ok (.goto (-27), 3) := by decide +kernel
theorem dX7_copyFrom_83 : decode cX7_copyFrom 83 = .ok (.aload_n 1, 1) := by decide +kernel
theorem dX7_copyFrom_84 : decode cX7_copyFrom 84 = .ok (.getfield 16, 3) := by decide +kernel
theorem dX7_copyFrom_87 : decode cX7_copyFrom 87 = .ok (.iconst 0, 1) := by decide +kernel
theorem dX7_copyFrom_88 : decode cX7_copyFrom 88 = .ok (.aload_n 0, 1) := by decide +kernel
theorem dX7_copyFrom_89 : decode cX7_copyFrom 89 = .ok (.getfield 16, 3) := by decide +kernel
theorem dX7_copyFrom_92 : decode cX7_copyFrom 92 = .ok (.iconst 0, 1) := by decide +kernel
theorem dX7_copyFrom_93 : decode cX7_copyFrom 93 = .ok (.sipush 128, 3) := by decide +kernel
theorem dX7_copyFrom_96 : decode cX7_copyFrom 96 = .ok (.invokestatic 85, 3) := by decide +kernel
theorem dX7_copyFrom_99 : decode cX7_copyFrom 99 = .ok (.aload_n 1, 1) := by decide +kernel
theorem dX7_copyFrom_100 : decode cX7_copyFrom 100 = .ok (.getfield 26, 3) := by decide +kernel
theorem dX7_copyFrom_103 : decode cX7_copyFrom 103 = .ok (.iconst 0, 1) := by decide +kernel
theorem dX7_copyFrom_104 : decode cX7_copyFrom 104 = .ok (.aload_n 0, 1) := by decide +kernel
theorem dX7_copyFrom_105 : decode cX7_copyFrom 105 = .ok (.getfield 26, 3) := by decide +kernel
theorem dX7_copyFrom_108 : decode cX7_copyFrom 108 = .ok (.iconst 0, 1) := by decide +kernel
theorem dX7_copyFrom_109 : decode cX7_copyFrom 109 = .ok (.bipush 100, 2) := by decide +kernel
theorem dX7_copyFrom_111 : decode cX7_copyFrom 111 = .ok (.invokestatic 85, 3) := by decide +kernel
theorem dX7_copyFrom_114 : decode cX7_copyFrom 114 = .ok (.aload_n 0, 1) := by decide +kernel
theorem dX7_copyFrom_115 : decode cX7_copyFrom 115 = .ok (.aload_n 1, 1) := by decide +kernel
theorem dX7_copyFrom_116 : decode cX7_copyFrom 116 = .ok (.getfield 29, 3) := by decide +kernel
theorem dX7_copyFrom_119 : decode cX7_copyFrom 119 = .ok (.putfield 29, 3) := by decide +kernel
theorem dX7_copyFrom_122 : decode cX7_copyFrom 122 = .ok (.aload_n 0, 1) := by decide +kernel
theorem dX7_copyFrom_123 : decode cX7_copyFrom 123 = .ok (.aload_n 1, 1) := by decide +kernel
theorem dX7_copyFrom_124 : decode cX7_copyFrom 124 = .ok (.getfield 33, 3) := by decide +kernel
theorem dX7_copyFrom_127 : decode cX7_copyFrom 127 = .ok (.putfield 33, 3) := by decide +kernel
theorem dX7_copyFrom_130 : decode cX7_copyFrom 130 = .ok (.aload_n 0, 1) := by decide +kernel
theorem dX7_copyFrom_131 : decode cX7_copyFrom 131 = .ok (.aload_n 1, 1) := by decide +kernel
theorem dX7_copyFrom_132 : decode cX7_copyFrom 132 = .ok (.getfield 36, 3) := by decide +kernel
theorem dX7_copyFrom_135 : decode cX7_copyFrom 135 = .ok (.putfield 36, 3) := by decide +kernel
theorem dX7_copyFrom_138 : decode cX7_copyFrom 138 = .ok (.aload_n 0, 1) := by decide +kernel
theorem dX7_copyFrom_139 : decode cX7_copyFrom 139 = .ok (.aload_n 1, 1) := by decide +kernel
theorem dX7_copyFrom_140 : decode cX7_copyFrom 140 = .ok (.getfield 39, 3) := by decide +kernel
theorem dX7_copyFrom_143 : decode cX7_copyFrom 143 = .ok (.putfield 39, 3) := by decide +kernel
theorem dX7_copyFrom_146 : decode cX7_copyFrom 146 = .ok (.aload_n 0, 1) := by decide +kernel
theorem dX7_copyFrom_147 : decode cX7_copyFrom 147 = .ok (.aload_n 1, 1) := by decide +kernel
theorem dX7_copyFrom_148 : decode cX7_copyFrom 148 = .ok (.getfield 42, 3) := by decide +kernel
theorem dX7_copyFrom_151 : decode cX7_copyFrom 151 = .ok (.putfield 42, 3) := by decide +kernel
theorem dX7_copyFrom_154 : decode cX7_copyFrom 154 = .ok (.return_, 1) := by decide +kernel
theorem dX8_init_0 : decode cX8_init 0 = .ok (.aload_n 0, 1) := by decide +kernel
theorem dX8_init_1 : decode cX8_init 1 = .ok (.invokespecial 3, 3) := by decide +kernel
theorem dX8_init_4 : decode cX8_init 4 = .ok (.aload_n 0, 1) := by decide +kernel
theorem dX8_init_5 : decode cX8_init 5 = .ok (.new 9, 3) := by decide +kernel
theorem dX8_init_8 : decode cX8_init 8 = .ok (.dup, 1) := by decide +kernel
theorem dX8_init_9 : decode cX8_init 9 = .ok (.invokespecial 11, 3) := by decide +kernel
theorem dX8_init_12 : decode cX8_init 12 = .ok (.putfield 12, 3) := by decide +kernel
theorem dX8_init_15 : decode cX8_init 15 = .ok (.aload_n 0, 1) := by decide +kernel
theorem dX8_init_16 : decode cX8_init 16 = .ok (.new 18, 3) := by decide +kernel
theorem dX8_init_19 : decode cX8_init 19 = .ok (.dup, 1) := by decide +kernel
theorem dX8_init_20 : decode cX8_init 20 = .ok (.invokespecial 20, 3) := by decide +kernel
theorem dX8_init_23 : decode cX8_init 23 = .ok (.putfield 21, 3) := by decide +kernel
theorem dX8_init_26 : decode cX8_init 26 = .ok (.aload_n 0, 1) := by decide +kernel
theorem dX8_init_27 : decode cX8_init 27 = .ok (.iconst 0, 1) := by decide +kernel
theorem dX8_init_28 : decode cX8_init 28 = .ok (.putfield 25, 3) := by decide +kernel
theorem dX8_init_31 : decode cX8_init 31 = .ok (.aload_n 0, 1) := by decide +kernel
theorem dX8_init_32 : decode cX8_init 32 = .ok (.iconst 0, 1) := by decide +kernel
theorem dX8_init_33 : decode cX8_init 33 = .ok (.putfield 29, 3) := by decide +kernel
theorem dX8_init_36 : decode cX8_init 36 = .ok (.aload_n 0, 1) := by decide +kernel
theorem dX8_init_37 : decode cX8_init 37 = .ok (.new 32, 3) := by decide +kernel
theorem dX8_init_40 : decode cX8_init 40 = .ok (.dup, 1) := by decide +kernel
theorem dX8_init_41 : decode cX8_init 41 = .ok (.iload_n 1, 1) := by decide +kernel
theorem dX8_init_42 : decode cX8_init 42 = .ok (.iload_n 2, 1) := by decide +kernel
theorem dX8_init_43 : decode cX8_init 43 = .ok (.iload_n 3, 1) := by decide +kernel
theorem dX8_init_44 : decode cX8_init 44 = .ok (.invokespecial 34, 3) := by decide +kernel
theorem dX8_init_47 : decode cX8_init 47 = .ok (.putfield 37, 3) := by decide +kernel
theorem dX8_init_50 : decode cX8_init 50 = .ok (.return_, 1) := by decide +kernel
theorem dX8_visit_0 : decode cX8_visit 0 = .ok (.aload_n 0, 1) := by decide +kernel
theorem dX8_visit_1 : decode cX8_visit 1 = .ok (.dup, 1) := by decide +kernel
theorem dX8_visit_2 : decode cX8_visit 2 = .ok (.getfield 25, 3) := by decide +kernel
theorem dX8_visit_5 : decode cX8_visit 5 = .ok (.iconst 1, 1) := by decide +kernel
theorem dX8_visit_6 : decode cX8_visit 6 = .ok (.iadd, 1) := by decide +kernel
theorem dX8_visit_7 : decode cX8_visit 7 = .ok (.putfield 25, 3) := by decide +kernel
theorem dX8_visit_10 : decode cX8_visit 10 = .ok (.aload_n 0, 1) := by decide +kernel
theorem dX8_visit_11 : decode cX8_visit 11 = .ok (.getfield 12, 3) := by decide +kernel
theorem dX8_visit_14 : decode cX8_visit 14 = .ok (.iload_n 1, 1) := by decide +kernel
theorem dX8_visit_15 : decode cX8_visit 15 = .ok (.invokevirtual 41, 3) := by decide +kernel
theorem dX8_visit_18 : decode cX8_visit 18 = .ok (.aload_n 0, 1) := by decide +kernel
theorem dX8_visit_19 : decode cX8_visit 19 = .ok (.getfield 37, 3) := by decide +kernel
theorem dX8_visit_22 : decode cX8_visit 22 = .ok (.getfield 45, 3) := by decide +kernel
theorem dX8_visit_25 : decode cX8_visit 25 = .ok (.iload_n 1, 1) := by decide +kernel
theorem dX8_visit_26 : decode cX8_visit 26 = .ok (.invokevirtual 49, 3) := by decide +kernel
theorem dX8_visit_29 : decode cX8_visit 29 = .ok (.aload_n 0, 1) := by decide +kernel
theorem dX8_visit_30 : decode cX8_visit 30 = .ok (.getfield 37, 3) := by decide +kernel
theorem dX8_visit_33 : decode cX8_visit 33 = .ok (.getfield 54, 3) := by decide +kernel
theorem dX8_visit_36 : decode cX8_visit 36 = .ok (.getfield 58, 3) := by decide +kernel
theorem dX8_visit_39 : decode cX8_visit 39 = .ok (.iload_n 1, 1) := by decide +kernel
theorem dX8_visit_40 : decode cX8_visit 40 = .ok (.iaload, 1) := by decide +kernel
theorem dX8_visit_41 : decode cX8_visit 41 = .ok (.istore_n 2, 1) := by decide +kernel
theorem dX8_visit_42 : decode cX8_visit 42 = .ok (.iload_n 2, 1) := by decide +kernel
theorem dX8_visit_43 : decode cX8_visit 43 = .ok (.iconst (-1), 1) := by decide +kernel
theorem dX8_visit_44 : decode cX8_visit 44 = .ok (.if_icmp .eq 7, 3) := by decide +kernel
theorem dX8_visit_47 : decode cX8_visit 47 = .ok (.iconst 1, 1) := by decide +kernel
theorem dX8_visit_48 : decode cX8_visit 48 = .ok (.goto 4, 3) := by decide +kernel
theorem dX8_visit_51 : decode cX8_visit 51 = .ok (.iconst 0, 1) := by decide +kernel
theorem dX8_visit_52 : decode cX8_visit 52 = .ok (.istore_n 3, 1) := by decide +kernel
theorem dX8_visit_53 : decode cX8_visit 53 = .ok (.iload_n 3, 1) := by decide +kernel
theorem dX8_visit_54 : decode cX8_visit 54 = .ok (.ifCond .eq 24, 3) := by decide +kernel
theorem dX8_visit_57 : decode cX8_visit 57 = .ok (.aload_n 0, 1) := by decide +kernel
theorem dX8_visit_58 : decode cX8_visit 58 = .ok (.dup, 1) := by decide +kernel
theorem dX8_visit_59 : decode cX8_visit 59 = .ok (.getfield 29, 3) := by decide +kernel
theorem dX8_visit_62 : decode cX8_visit 62 = .ok (.iconst 1, 1) := by decide +kernel
theorem dX8_visit_63 : decode cX8_visit 63 = .ok (.iadd, 1) := by decide +kernel
theorem dX8_visit_64 : decode cX8_visit 64 = .ok (.putfield 29, 3) := by decide +kernel
theorem dX8_visit_67 : decode cX8_visit 67 = .ok (.aload_n 0, 1) := by decide +kernel
theorem dX8_visit_68 : decode cX8_visit 68 = .ok (.getfield 37, 3) := by decide +kernel
theorem dX8_visit_71 : decode cX8_visit 71 = .ok (.iload_n 1, 1) := by decide +kernel
theorem dX8_visit_72 : decode cX8_visit 72 = .ok (.invokevirtual 64, 3) := by decide +kernel
theorem dX8_visit_75 : decode cX8_visit 75 = .ok (.goto 18, 3) := by decide +kernel
theorem dX8_visit_78 : decode cX8_visit 78 = .ok (.aload_n 0, 1) := by decide +kernel
theorem dX8_visit_79 : decode cX8_visit 79 = .ok (.getfield 37, 3) := by decide +kernel
theorem dX8_visit_82 : decode cX8_visit 82 = .ok (.iload_n 1, 1) := by decide +kernel
theorem dX8_visit_83 : decode cX8_visit 83 = .ok (.invokevirtual 67, 3) := by decide +kernel
theorem dX8_visit_86 : decode cX8_visit 86 = .ok (.aload_n 0, 1) := by decide +kernel
theorem dX8_visit_87 : decode cX8_visit 87 = .ok (.getfield 37, 3) := by decide +kernel
theorem dX8_visit_90 : decode cX8_visit 90 = .ok (.invokevirtual 70, 3) := by decide +kernel
theorem dX8_visit_93 : decode cX8_visit 93 = .ok (.aload_n 0, 1) := by decide +kernel
theorem dX8_visit_94 : decode cX8_visit 94 = .ok (.getfield 21, 3) := by decide +kernel
theorem dX8_visit_97 : decode cX8_visit 97 = .ok (.iload_n 3, 1) := by decide +kernel
theorem dX8_visit_98 : decode cX8_visit 98 = .ok (.invokevirtual 73, 3) := by decide +kernel
theorem dX8_visit_101 : decode cX8_visit 101 = .ok (.istore 4, 2) := by decide +kernel
theorem dX8_visit_103 : decode cX8_visit 103 = .ok (.iload 4, 2) := by decide +kernel
theorem dX8_visit_105 : decode cX8_visit 105 = .ok (.ifCond .eq 27, 3) := by decide +kernel
theorem dX8_visit_108 : decode cX8_visit 108 = .ok (.aload_n 0, 1) := by decide +kernel
theorem dX8_visit_109 : decode cX8_visit 109 = .ok (.getfield 37, 3) := by decide +kernel
theorem dX8_visit_112 : decode cX8_visit 112 = .ok (.aload_n 0, 1) := by decide +kernel
theorem dX8_visit_113 : decode cX8_visit 113 = .ok (.getfield 37, 3) := by decide +kernel
theorem dX8_visit_116 : decode cX8_visit 116 = .ok (.getfield 77, 3) := by decide +kernel
theorem dX8_visit_119 : decode cX8_visit 119 = .ok (.iload 4, 2) := by decide +kernel
theorem dX8_visit_121 : decode cX8_visit 121 = .ok (.iadd, 1) := by decide +kernel
theorem dX8_visit_122 : decode cX8_visit 122 = .ok (.invokevirtual 80, 3) := by decide +kernel
theorem dX8_visit_125 : decode cX8_visit 125 = .ok (.aload_n 0, 1) := by decide +kernel
theorem dX8_visit_126 : decode cX8_visit 126 = .ok (.getfield 37, 3) := by decide +kernel
theorem dX8_visit_129 : decode cX8_visit 129 = .ok (.invokevirtual 70, 3) := by decide +kernel
theorem dX8_visit_132 : decode cX8_visit 132 = .ok (.iload_n 3, 1) := by decide +kernel
theorem dX8_visit_133 : decode cX8_visit 133 = .ok (.ifCond .eq 7, 3) := by decide +kernel
theorem dX8_visit_136 : decode cX8_visit 136 = .ok (.iconst 2, 1) := by decide +kernel
theorem dX8_visit_137 : decode cX8_visit 137 = .ok (.iload_n 2, 1) := by decide +kernel
theorem dX8_visit_138 : decode cX8_visit 138 = .ok (.iadd, 1) := by decide +kernel
theorem dX8_visit_139 : decode cX8_visit 139 = .ok (.ireturn, 1) := by decide +kernel
theorem dX8_visit_140 : decode cX8_visit 140 = .ok (.aload_n 0, 1) := by decide +kernel
theorem dX8_visit_141 : decode cX8_visit 141 = .ok (.getfield 37, 3) := by decide +kernel
theorem dX8_visit_144 : decode cX8_visit 144 = .ok (.getfield 54, 3) := by decide +kernel
theorem dX8_visit_147 : decode cX8_visit 147 = .ok (.getfield 58, 3) := by decide +kernel
theorem dX8_visit_150 : decode cX8_visit 150 = .ok (.iload_n 1, 1) := by decide +kernel
theorem dX8_visit_151 : decode cX8_visit 151 = .ok (.iaload, 1) := by decide +kernel
theorem dX8_visit_152 : decode cX8_visit 152 = .ok (.iconst (-1), 1) := by decide +kernel
theorem dX8_visit_153 : decode cX8_visit 153 = .ok (.if_icmp .ne 7, 3) := by decide +kernel
theorem dX8_visit_156 : decode cX8_visit 156 = .ok (.iconst 0, 1) := by decide +kernel
theorem dX8_visit_157 : decode cX8_visit 157 = .ok (.goto 4, 3) := by decide +kernel
theorem dX8_visit_160 : decode cX8_visit 160 = .ok (.iconst 1, 1) := by decide +kernel
theorem dX8_visit_161 : decode cX8_visit 161 = .ok (.ireturn, 1) := by decide +kernel
theorem dX8_tellRule_0 : decode cX8_tellRule 0 = .ok (.iload_n 1, 1) := by decide +kernel
theorem dX8_tellRule_1 : decode cX8_tellRule 1 = .ok (.tableswitch 102 0 5 #[39, 51, 63, 75, 84, 93], 39) := by decide +kernel
theorem dX8_tellRule_40 : decode cX8_tellRule 40 = .ok (.aload_n 0, 1) := by decide +kernel
theorem dX8_tellRule_41 : decode cX8_tellRule 41 = .ok (.getfield 37, 3) := by decide +kernel
theorem dX8_tellRule_44 : decode cX8_tellRule 44 = .ok (.getfield 45, 3) := by decide +kernel
theorem dX8_tellRule_47 : decode cX8_tellRule 47 = .ok (.iload_n 2, 1) := by decide +kernel
theorem dX8_tellRule_48 : decode cX8_tellRule 48 = .ok (.invokevirtual 83, 3) := by decide +kernel
theorem dX8_tellRule_51 : decode cX8_tellRule 51 = .ok (.ireturn, 1) := by decide +kernel
theorem dX8_tellRule_52 : decode cX8_tellRule 52 = .ok (.aload_n 0, 1) := by decide +kernel
theorem dX8_tellRule_53 : decode cX8_tellRule 53 = .ok (.getfield 37, 3) := by decide +kernel
theorem dX8_tellRule_56 : decode cX8_tellRule 56 = .ok (.getfield 45, 3) := by decide +kernel
theorem dX8_tellRule_59 : decode cX8_tellRule 59 = .ok (.iload_n 2, 1) := by decide +kernel
theorem dX8_tellRule_60 : decode cX8_tellRule 60 = .ok (.invokevirtual 87, 3) := by decide +kernel
theorem dX8_tellRule_63 : decode cX8_tellRule 63 = .ok (.ireturn, 1) := by decide +kernel
theorem dX8_tellRule_64 : decode cX8_tellRule 64 = .ok (.aload_n 0, 1) := by decide +kernel
theorem dX8_tellRule_65 : decode cX8_tellRule 65 = .ok (.getfield 37, 3) := by decide +kernel
theorem dX8_tellRule_68 : decode cX8_tellRule 68 = .ok (.getfield 45, 3) := by decide +kernel
theorem dX8_tellRule_71 : decode cX8_tellRule 71 = .ok (.iload_n 2, 1) := by decide +kernel
theorem dX8_tellRule_72 : decode cX8_tellRule 72 = .ok (.invokevirtual 90, 3) := by decide +kernel
theorem dX8_tellRule_75 : decode cX8_tellRule 75 = .ok (.ireturn, 1) := by decide +kernel
theorem dX8_tellRule_76 : decode cX8_tellRule 76 = .ok (.aload_n 0, 1) := by decide +kernel
theorem dX8_tellRule_77 : decode cX8_tellRule 77 = .ok (.getfield 37, 3) := by decide +kernel
theorem dX8_tellRule_80 : decode cX8_tellRule 80 = .ok (.iload_n 2, 1) := by decide +kernel
theorem dX8_tellRule_81 : decode cX8_tellRule 81 = .ok (.invokevirtual 93, 3) := by decide +kernel
theorem dX8_tellRule_84 : decode cX8_tellRule 84 = .ok (.ireturn, 1) := by decide +kernel
theorem dX8_tellRule_85 : decode cX8_tellRule 85 = .ok (.aload_n 0, 1) := by decide +kernel
theorem dX8_tellRule_86 : decode cX8_tellRule 86 = .ok (.getfield 21, 3) := by decide +kernel
theorem dX8_tellRule_89 : decode cX8_tellRule 89 = .ok (.iload_n 2, 1) := by decide +kernel
theorem dX8_tellRule_90 : decode cX8_tellRule 90 = .ok (.invokevirtual 96, 3) := by decide +kernel
theorem dX8_tellRule_93 : decode cX8_tellRule 93 = .ok (.ireturn, 1) := by decide +kernel
theorem dX8_tellRule_94 : decode cX8_tellRule 94 = .ok (.aload_n 0, 1) := by decide +kernel
theorem dX8_tellRule_95 : decode cX8_tellRule 95 = .ok (.getfield 21, 3) := by decide +kernel
theorem dX8_tellRule_98 : decode cX8_tellRule 98 = .ok (.iload_n 2, 1) := by decide +kernel
theorem dX8_tellRule_99 : decode cX8_tellRule 99 = .ok (.invokevirtual 99, 3) := by decide +kernel
theorem dX8_tellRule_102 : decode cX8_tellRule 102 = .ok (.ireturn, 1) := by decide +kernel
theorem dX8_tellRule_103 : decode cX8_tellRule 103 = .ok (.bipush (-2), 2) := by decide +kernel
theorem dX8_tellRule_105 : decode cX8_tellRule 105 = .ok (.ireturn, 1) := by decide +kernel
theorem dX8_tellAbout_0 : decode cX8_tellAbout 0 = .ok (.iload_n 1, 1) := by decide +kernel
theorem dX8_tellAbout_1 : decode cX8_tellAbout 1 = .ok (.tableswitch 222 0 15 #[79, 87, 95, 108, 121, 134, 142, 153, 164, 169, 174, 182, 190, 198, 206, 214], 79) := by decide +kernel
theorem dX8_tellAbout_80 : decode cX8_tellAbout 80 = .ok (.aload_n 0, 1) := by decide +kernel
theorem dX8_tellAbout_81 : decode cX8_tellAbout 81 = .ok (.getfield 37, 3) := by decide +kernel
theorem dX8_tellAbout_84 : decode cX8_tellAbout 84 = .ok (.getfield 77, 3) := by decide +kernel
theorem dX8_tellAbout_87 : decode cX8_tellAbout 87 = .ok (.ireturn, 1) := by decide +kernel
theorem dX8_tellAbout_88 : decode cX8_tellAbout 88 = .ok (.aload_n 0, 1) := by decide +kernel
theorem dX8_tellAbout_89 : decode cX8_tellAbout 89 = .ok (.getfield 37, 3) := by decide +kernel
theorem dX8_tellAbout_92 : decode cX8_tellAbout 92 = .ok (.invokevirtual 102, 3) := by decide +kernel
theorem dX8_tellAbout_95 : decode cX8_tellAbout 95 = .ok (.ireturn, 1) := by decide +kernel
theorem dX8_tellAbout_96 : decode cX8_tellAbout 96 = .ok (.aload_n 0, 1) := by decide +kernel
theorem dX8_tellAbout_97 : decode cX8_tellAbout 97 = .ok (.getfield 37, 3) := by decide +kernel
theorem dX8_tellAbout_100 : decode cX8_tellAbout 100 = .ok (.getfield 54, 3) := by decide +kernel
theorem dX8_tellAbout_103 : decode cX8_tellAbout 103 = .ok (.getfield 106, 3) := by decide +kernel
theorem dX8_tellAbout_106 : decode cX8_tellAbout 106 = .ok (.iconst 0, 1) := by decide +kernel
theorem dX8_tellAbout_107 : decode cX8_tellAbout 107 = .ok (.iaload, 1) := by decide +kernel
theorem dX8_tellAbout_108 : decode cX8_tellAbout 108 = .ok (.ireturn, 1) := by decide +kernel
theorem dX8_tellAbout_109 : decode cX8_tellAbout 109 = .ok (.aload_n 0, 1) := by decide +kernel
theorem dX8_tellAbout_110 : decode cX8_tellAbout 110 = .ok (.getfield 37, 3) := by decide +kernel
theorem dX8_tellAbout_113 : decode cX8_tellAbout 113 = .ok (.getfield 54, 3) := by decide +kernel
theorem dX8_tellAbout_116 : decode cX8_tellAbout 116 = .ok (.getfield 106, 3) := by decide +kernel
theorem dX8_tellAbout_119 : decode cX8_tellAbout 119 = .ok (.iconst 1, 1) := by decide +kernel
theorem dX8_tellAbout_120 : decode cX8_tellAbout 120 = .ok (.iaload, 1) := by decide +kernel
theorem dX8_tellAbout_121 : decode cX8_tellAbout 121 = .ok (.ireturn, 1) := by decide +kernel
theorem dX8_tellAbout_122 : decode cX8_tellAbout 122 = .ok (.aload_n 0, 1) := by decide +kernel
theorem dX8_tellAbout_123 : decode cX8_tellAbout 123 = .ok (.getfield 37, 3) := by decide +kernel
theorem dX8_tellAbout_126 : decode cX8_tellAbout 126 = .ok (.getfield 54, 3) := by decide +kernel
theorem dX8_tellAbout_129 : decode cX8_tellAbout 129 = .ok (.getfield 106, 3) := by decide +kernel
theorem dX8_tellAbout_132 : decode cX8_tellAbout 132 = .ok (.iconst 2, 1) := by decide +kernel
theorem dX8_tellAbout_133 : decode cX8_tellAbout 133 = .ok (.iaload, 1) := by decide +kernel
theorem dX8_tellAbout_134 : decode cX8_tellAbout 134 = .ok (.ireturn, 1) := by decide +kernel
theorem dX8_tellAbout_135 : decode cX8_tellAbout 135 = .ok (.aload_n 0, 1) := by decide +kernel
theorem dX8_tellAbout_136 : decode cX8_tellAbout 136 = .ok (.getfield 37, 3) := by decide +kernel
theorem dX8_tellAbout_139 : decode cX8_tellAbout 139 = .ok (.invokevirtual 109, 3) := by decide +kernel
theorem dX8_tellAbout_142 : decode cX8_tellAbout 142 = .ok (.ireturn, 1) := by decide +kernel
theorem dX8_tellAbout_143 : decode cX8_tellAbout 143 = .ok (.aload_n 0, 1) := by decide +kernel
theorem dX8_tellAbout_144 : decode cX8_tellAbout 144 = .ok (.getfield 37, 3) := by decide +kernel
theorem dX8_tellAbout_147 : decode cX8_tellAbout 147 = .ok (.getfield 45, 3) := by decide +kernel
theorem dX8_tellAbout_150 : decode cX8_tellAbout 150 = .ok (.getfield 112, 3) := by decide +kernel
theorem dX8_tellAbout_153 : decode cX8_tellAbout 153 = .ok (.ireturn, 1) := by decide +kernel
theorem dX8_tellAbout_154 : decode cX8_tellAbout 154 = .ok (.aload_n 0, 1) := by decide +kernel
theorem dX8_tellAbout_155 : decode cX8_tellAbout 155 = .ok (.getfield 37, 3) := by decide +kernel
theorem dX8_tellAbout_158 : decode cX8_tellAbout 158 = .ok (.getfield 45, 3) := by decide +kernel
theorem dX8_tellAbout_161 : decode cX8_tellAbout 161 = .ok (.getfield 115, 3) := by decide +kernel
theorem dX8_tellAbout_164 : decode cX8_tellAbout 164 = .ok (.ireturn, 1) := by decide +kernel
theorem dX8_tellAbout_165 : decode cX8_tellAbout 165 = .ok (.aload_n 0, 1) := by decide +kernel
theorem dX8_tellAbout_166 : decode cX8_tellAbout 166 = .ok (.getfield 25, 3) := by decide +kernel
theorem dX8_tellAbout_169 : decode cX8_tellAbout 169 = .ok (.ireturn, 1) := by decide +kernel
theorem dX8_tellAbout_170 : decode cX8_tellAbout 170 = .ok (.aload_n 0, 1) := by decide +kernel
theorem dX8_tellAbout_171 : decode cX8_tellAbout 171 = .ok (.getfield 29, 3) := by decide +kernel
theorem dX8_tellAbout_174 : decode cX8_tellAbout 174 = .ok (.ireturn, 1) := by decide +kernel
theorem dX8_tellAbout_175 : decode cX8_tellAbout 175 = .ok (.aload_n 0, 1) := by decide +kernel
theorem dX8_tellAbout_176 : decode cX8_tellAbout 176 = .ok (.getfield 37, 3) := by decide +kernel
theorem dX8_tellAbout_179 : decode cX8_tellAbout 179 = .ok (.getfield 118, 3) := by decide +kernel
theorem dX8_tellAbout_182 : decode cX8_tellAbout 182 = .ok (.ireturn, 1) := by decide +kernel
theorem dX8_tellAbout_183 : decode cX8_tellAbout 183 = .ok (.aload_n 0, 1) := by decide +kernel
theorem dX8_tellAbout_184 : decode cX8_tellAbout 184 = .ok (.getfield 21, 3) := by decide +kernel
theorem dX8_tellAbout_187 : decode cX8_tellAbout 187 = .ok (.getfield 121, 3) := by decide +kernel
theorem dX8_tellAbout_190 : decode cX8_tellAbout 190 = .ok (.ireturn, 1) := by decide +kernel
theorem dX8_tellAbout_191 : decode cX8_tellAbout 191 = .ok (.aload_n 0, 1) := by decide +kernel
theorem dX8_tellAbout_192 : decode cX8_tellAbout 192 = .ok (.getfield 21, 3) := by decide +kernel
theorem dX8_tellAbout_195 : decode cX8_tellAbout 195 = .ok (.getfield 124, 3) := by decide +kernel
theorem dX8_tellAbout_198 : decode cX8_tellAbout 198 = .ok (.ireturn, 1) := by decide +kernel
theorem dX8_tellAbout_199 : decode cX8_tellAbout 199 = .ok (.aload_n 0, 1) := by decide +kernel
theorem dX8_tellAbout_200 : decode cX8_tellAbout 200 = .ok (.getfield 21, 3) := by decide +kernel
theorem dX8_tellAbout_203 : decode cX8_tellAbout 203 = .ok (.getfield 125, 3) := by decide +kernel
theorem dX8_tellAbout_206 : decode cX8_tellAbout 206 = .ok (.ireturn, 1) := by decide +kernel
theorem dX8_tellAbout_207 : decode cX8_tellAbout 207 = .ok (.aload_n 0, 1) := by decide +kernel
theorem dX8_tellAbout_208 : decode cX8_tellAbout 208 = .ok (.getfield 21, 3) := by decide +kernel
theorem dX8_tellAbout_211 : decode cX8_tellAbout 211 = .ok (.getfield 126, 3) := by decide +kernel
theorem dX8_tellAbout_214 : decode cX8_tellAbout 214 = .ok (.ireturn, 1) := by decide +kernel
theorem dX8_tellAbout_215 : decode cX8_tellAbout 215 = .ok (.aload_n 0, 1) := by decide +kernel
theorem dX8_tellAbout_216 : decode cX8_tellAbout 216 = .ok (.getfield 12, 3) := by decide +kernel
theorem dX8_tellAbout_219 : decode cX8_tellAbout 219 = .ok (.getfield 129, 3) := by decide +kernel
theorem dX8_tellAbout_222 : decode cX8_tellAbout 222 = .ok (.ireturn, 1) := by decide +kernel
theorem dX8_tellAbout_223 : decode cX8_tellAbout 223 = .ok (.bipush (-2), 2) := by decide +kernel
theorem dX8_tellAbout_225 : decode cX8_tellAbout 225 = .ok (.ireturn, 1) := by decide +kernel
theorem dX8_copyFrom_0 : decode cX8_copyFrom 0 = .ok (.aload_n 0, 1) := by decide +kernel
theorem dX8_copyFrom_1 : decode cX8_copyFrom 1 = .ok (.getfield 37, 3) := by decide +kernel
theorem dX8_copyFrom_4 : decode cX8_copyFrom 4 = .ok (.aload_n 1, 1) := by decide +kernel
theorem dX8_copyFrom_5 : decode cX8_copyFrom 5 = .ok (.getfield 37, 3) := by decide +kernel
theorem dX8_copyFrom_8 : decode cX8_copyFrom 8 = .ok (.invokevirtual 132, 3) := by decide +kernel
theorem dX8_copyFrom_11 : decode cX8_copyFrom 11 = .ok (.aload_n 0, 1) := by decide +kernel
theorem dX8_copyFrom_12 : decode cX8_copyFrom 12 = .ok (.getfield 12, 3) := by decide +kernel
theorem dX8_copyFrom_15 : decode cX8_copyFrom 15 = .ok (.aload_n 1, 1) := by decide +kernel
theorem dX8_copyFrom_16 : decode cX8_copyFrom 16 = .ok (.getfield 12, 3) := by decide +kernel
theorem dX8_copyFrom_19 : decode cX8_copyFrom 19 = .ok (.invokevirtual 136, 3) := by decide +kernel
theorem dX8_copyFrom_22 : decode cX8_copyFrom 22 = .ok (.aload_n 0, 1) := by decide +kernel
theorem dX8_copyFrom_23 : decode cX8_copyFrom 23 = .ok (.getfield 21, 3) := by decide +kernel
theorem dX8_copyFrom_26 : decode cX8_copyFrom 26 = .ok (.aload_n 1, 1) := by decide +kernel
theorem dX8_copyFrom_27 : decode cX8_copyFrom 27 = .ok (.getfield 21, 3) := by decide +kernel
theorem dX8_copyFrom_30 : decode cX8_copyFrom 30 = .ok (.invokevirtual 139, 3) := by decide +kernel
theorem dX8_copyFrom_33 : decode cX8_copyFrom 33 = .ok (.aload_n 0, 1) := by decide +kernel
theorem dX8_copyFrom_34 : decode cX8_copyFrom 34 = .ok (.aload_n 1, 1) := by decide +kernel
theorem dX8_copyFrom_35 : decode cX8_copyFrom 35 = .ok (.getfield 25, 3) := by decide +kernel
theorem dX8_copyFrom_38 : decode cX8_copyFrom 38 = .ok (.putfield 25, 3) := by decide +kernel
theorem dX8_copyFrom_41 : decode cX8_copyFrom 41 = .ok (.aload_n 0, 1) := by decide +kernel
theorem dX8_copyFrom_42 : decode cX8_copyFrom 42 = .ok (.aload_n 1, 1) := by decide +kernel
theorem dX8_copyFrom_43 : decode cX8_copyFrom 43 = .ok (.getfield 29, 3) := by decide +kernel
theorem dX8_copyFrom_46 : decode cX8_copyFrom 46 = .ok (.putfield 29, 3) := by decide +kernel
theorem dX8_copyFrom_49 : decode cX8_copyFrom 49 = .ok (.return_, 1) := by decide +kernel
theorem dX9_init_0 : decode cX9_init 0 = .ok (.aload_n 0, 1) := by decide +kernel
theorem dX9_init_1 : decode cX9_init 1 = .ok (.invokespecial 3, 3) := by decide +kernel
theorem dX9_init_4 : decode cX9_init 4 = .ok (.aload_n 0, 1) := by decide +kernel
theorem dX9_init_5 : decode cX9_init 5 = .ok (.sipush 300, 3) := by decide +kernel
theorem dX9_init_8 : decode cX9_init 8 = .ok (.newarray .int, 2) := by decide +kernel
theorem dX9_init_10 : decode cX9_init 10 = .ok (.putfield 9, 3) := by decide +kernel
theorem dX9_init_13 : decode cX9_init 13 = .ok (.aload_n 0, 1) := by decide +kernel
theorem dX9_init_14 : decode cX9_init 14 = .ok (.iconst 0, 1) := by decide +kernel
theorem dX9_init_15 : decode cX9_init 15 = .ok (.putfield 15, 3) := by decide +kernel
theorem dX9_init_18 : decode cX9_init 18 = .ok (.aload_n 0, 1) := by decide +kernel
theorem dX9_init_19 : decode cX9_init 19 = .ok (.iconst 0, 1) := by decide +kernel
theorem dX9_init_20 : decode cX9_init 20 = .ok (.putfield 19, 3) := by decide +kernel
theorem dX9_init_23 : decode cX9_init 23 = .ok (.return_, 1) := by decide +kernel
theorem dX9_note_0 : decode cX9_note 0 = .ok (.aload_n 0, 1) := by decide +kernel
theorem dX9_note_1 : decode cX9_note 1 = .ok (.getfield 9, 3) := by decide +kernel
theorem dX9_note_4 : decode cX9_note 4 = .ok (.aload_n 0, 1) := by decide +kernel
theorem dX9_note_5 : decode cX9_note 5 = .ok (.getfield 15, 3) := by decide +kernel
theorem dX9_note_8 : decode cX9_note 8 = .ok (.aload_n 0, 1) := by decide +kernel
theorem dX9_note_9 : decode cX9_note 9 = .ok (.getfield 19, 3) := by decide +kernel
theorem dX9_note_12 : decode cX9_note 12 = .ok (.iadd, 1) := by decide +kernel
theorem dX9_note_13 : decode cX9_note 13 = .ok (.sipush 300, 3) := by decide +kernel
theorem dX9_note_16 : decode cX9_note 16 = .ok (.irem, 1) := by decide +kernel
theorem dX9_note_17 : decode cX9_note 17 = .ok (.iload_n 1, 1) := by decide +kernel
theorem dX9_note_18 : decode cX9_note 18 = .ok (.iastore, 1) := by decide +kernel
theorem dX9_note_19 : decode cX9_note 19 = .ok (.aload_n 0, 1) := by decide +kernel
theorem dX9_note_20 : decode cX9_note 20 = .ok (.getfield 19, 3) := by decide +kernel
theorem dX9_note_23 : decode cX9_note 23 = .ok (.sipush 300, 3) := by decide +kernel
theorem dX9_note_26 : decode cX9_note 26 = .ok (.if_icmp .ge 16, 3) := by decide +kernel
theorem dX9_note_29 : decode cX9_note 29 = .ok (.aload_n 0, 1) := by decide +kernel
theorem dX9_note_30 : decode cX9_note 30 = .ok (.dup, 1) := by decide +kernel
theorem dX9_note_31 : decode cX9_note 31 = .ok (.getfield 19, 3) := by decide +kernel
theorem dX9_note_34 : decode cX9_note 34 = .ok (.iconst 1, 1) := by decide +kernel
theorem dX9_note_35 : decode cX9_note 35 = .ok (.iadd, 1) := by decide +kernel
theorem dX9_note_36 : decode cX9_note 36 = .ok (.putfield 19, 3) := by decide +kernel
theorem dX9_note_39 : decode cX9_note 39 = .ok (.goto 17, 3) := by decide +kernel
theorem dX9_note_42 : decode cX9_note 42 = .ok (.aload_n 0, 1) := by decide +kernel
theorem dX9_note_43 : decode cX9_note 43 = .ok (.aload_n 0, 1) := by decide +kernel
theorem dX9_note_44 : decode cX9_note 44 = .ok (.getfield 15, 3) := by decide +kernel
theorem dX9_note_47 : decode cX9_note 47 = .ok (.iconst 1, 1) := by decide +kernel
theorem dX9_note_48 : decode cX9_note 48 = .ok (.iadd, 1) := by decide +kernel
theorem dX9_note_49 : decode cX9_note 49 = .ok (.sipush 300, 3) := by decide +kernel
theorem dX9_note_52 : decode cX9_note 52 = .ok (.irem, 1) := by decide +kernel
theorem dX9_note_53 : decode cX9_note 53 = .ok (.putfield 15, 3) := by decide +kernel
theorem dX9_note_56 : decode cX9_note 56 = .ok (.return_, 1) := by decide +kernel
theorem dX9_keyAt_0 : decode cX9_keyAt 0 = .ok (.iload_n 1, 1) := by decide +kernel
theorem dX9_keyAt_1 : decode cX9_keyAt 1 = .ok (.ifCond .lt 29, 3) := by decide +kernel
theorem dX9_keyAt_4 : decode cX9_keyAt 4 = .ok (.iload_n 1, 1) := by decide +kernel
theorem dX9_keyAt_5 : decode cX9_keyAt 5 = .ok (.aload_n 0, 1) := by decide +kernel
theorem dX9_keyAt_6 : decode cX9_keyAt 6 = .ok (.getfield 19, 3) := by decide +kernel
theorem dX9_keyAt_9 : decode cX9_keyAt 9 = .ok (.if_icmp .ge 21, 3) := by decide +kernel
theorem dX9_keyAt_12 : decode cX9_keyAt 12 = .ok (.aload_n 0, 1) := by decide +kernel
theorem dX9_keyAt_13 : decode cX9_keyAt 13 = .ok (.getfield 9, 3) := by decide +kernel
theorem dX9_keyAt_16 : decode cX9_keyAt 16 = .ok (.aload_n 0, 1) := by decide +kernel
theorem dX9_keyAt_17 : decode cX9_keyAt 17 = .ok (.getfield 15, 3) := by decide +kernel
theorem dX9_keyAt_20 : decode cX9_keyAt 20 = .ok (.iload_n 1, 1) := by decide +kernel
theorem dX9_keyAt_21 : decode cX9_keyAt 21 = .ok (.iadd, 1) := by decide +kernel
theorem dX9_keyAt_22 : decode cX9_keyAt 22 = .ok (.sipush 300, 3) := by decide +kernel
theorem dX9_keyAt_25 : decode cX9_keyAt 25 = .ok (.irem, 1) := by decide +kernel
theorem dX9_keyAt_26 : decode cX9_keyAt 26 = .ok (.iaload, 1) := by decide +kernel
theorem dX9_keyAt_27 : decode cX9_keyAt 27 = .ok (.goto 4, 3) := by decide +kernel
theorem dX9_keyAt_30 : decode cX9_keyAt 30 = .ok (.iconst (-1), 1) := by decide +kernel
theorem dX9_keyAt_31 : decode cX9_keyAt 31 = .ok (.ireturn, 1) := by decide +kernel
theorem dX9_copyFrom_0 : decode cX9_copyFrom 0 = .ok (.aload_n 1, 1) := by decide +kernel
theorem dX9_copyFrom_1 : decode cX9_copyFrom 1 = .ok (.getfield 9, 3) := by decide +kernel
theorem dX9_copyFrom_4 : decode cX9_copyFrom 4 = .ok (.iconst 0, 1) := by decide +kernel
theorem dX9_copyFrom_5 : decode cX9_copyFrom 5 = .ok (.aload_n 0, 1) := by decide +kernel
theorem dX9_copyFrom_6 : decode cX9_copyFrom 6 = .ok (.getfield 9, 3) := by decide +kernel
theorem dX9_copyFrom_9 : decode cX9_copyFrom 9 = .ok (.iconst 0, 1) := by decide +kernel
theorem dX9_copyFrom_10 : decode cX9_copyFrom 10 = .ok (.sipush 300, 3) := by decide +kernel
theorem dX9_copyFrom_13 : decode cX9_copyFrom 13 = .ok (.invokestatic 22, 3) := by decide +kernel
theorem dX9_copyFrom_16 : decode cX9_copyFrom 16 = .ok (.aload_n 0, 1) := by decide +kernel
theorem dX9_copyFrom_17 : decode cX9_copyFrom 17 = .ok (.aload_n 1, 1) := by decide +kernel
theorem dX9_copyFrom_18 : decode cX9_copyFrom 18 = .ok (.getfield 15, 3) := by decide +kernel
theorem dX9_copyFrom_21 : decode cX9_copyFrom 21 = .ok (.putfield 15, 3) := by decide +kernel
theorem dX9_copyFrom_24 : decode cX9_copyFrom 24 = .ok (.aload_n 0, 1) := by decide +kernel
theorem dX9_copyFrom_25 : decode cX9_copyFrom 25 = .ok (.aload_n 1, 1) := by decide +kernel
theorem dX9_copyFrom_26 : decode cX9_copyFrom 26 = .ok (.getfield 19, 3) := by decide +kernel
theorem dX9_copyFrom_29 : decode cX9_copyFrom 29 = .ok (.putfield 19, 3) := by decide +kernel
theorem dX9_copyFrom_32 : decode cX9_copyFrom 32 = .ok (.return_, 1) := by decide +kernel
theorem dX10_init_0 : decode cX10_init 0 = .ok (.aload_n 0, 1) := by decide +kernel
theorem dX10_init_1 : decode cX10_init 1 = .ok (.invokespecial 1, 3) := by decide +kernel
theorem dX10_init_4 : decode cX10_init 4 = .ok (.aload_n 0, 1) := by decide +kernel
theorem dX10_init_5 : decode cX10_init 5 = .ok (.iconst 4, 1) := by decide +kernel
theorem dX10_init_6 : decode cX10_init 6 = .ok (.anewarray 9, 3) := by decide +kernel
theorem dX10_init_9 : decode cX10_init 9 = .ok (.putfield 11, 3) := by decide +kernel
theorem dX10_init_12 : decode cX10_init 12 = .ok (.aload_n 0, 1) := by decide +kernel
theorem dX10_init_13 : decode cX10_init 13 = .ok (.new 15, 3) := by decide +kernel
theorem dX10_init_16 : decode cX10_init 16 = .ok (.dup, 1) := by decide +kernel
theorem dX10_init_17 : decode cX10_init 17 = .ok (.invokespecial 17, 3) := by decide +kernel
theorem dX10_init_20 : decode cX10_init 20 = .ok (.putfield 18, 3) := by decide +kernel
theorem dX10_init_23 : decode cX10_init 23 = .ok (.aload_n 0, 1) := by decide +kernel
theorem dX10_init_24 : decode cX10_init 24 = .ok (.iconst 1, 1) := by decide +kernel
theorem dX10_init_25 : decode cX10_init 25 = .ok (.iconst 4, 1) := by decide +kernel
theorem dX10_init_26 : decode cX10_init 26 = .ok (.iload_n 1, 1) := by decide +kernel
theorem dX10_init_27 : decode cX10_init 27 = .ok (.invokestatic 22, 3) := by decide +kernel
theorem dX10_init_30 : decode cX10_init 30 = .ok (.invokestatic 28, 3) := by decide +kernel
theorem dX10_init_33 : decode cX10_init 33 = .ok (.putfield 31, 3) := by decide +kernel
theorem dX10_init_36 : decode cX10_init 36 = .ok (.aload_n 0, 1) := by decide +kernel
theorem dX10_init_37 : decode cX10_init 37 = .ok (.iconst 4, 1) := by decide +kernel
theorem dX10_init_38 : decode cX10_init 38 = .ok (.sipush 200, 3) := by decide +kernel
theorem dX10_init_41 : decode cX10_init 41 = .ok (.iload_n 2, 1) := by decide +kernel
theorem dX10_init_42 : decode cX10_init 42 = .ok (.invokestatic 22, 3) := by decide +kernel
theorem dX10_init_45 : decode cX10_init 45 = .ok (.invokestatic 28, 3) := by decide +kernel
theorem dX10_init_48 : decode cX10_init 48 = .ok (.putfield 35, 3) := by decide +kernel
theorem dX10_init_51 : decode cX10_init 51 = .ok (.aload_n 0, 1) := by decide +kernel
theorem dX10_init_52 : decode cX10_init 52 = .ok (.iconst 1, 1) := by decide +kernel
theorem dX10_init_53 : decode cX10_init 53 = .ok (.aload_n 0, 1) := by decide +kernel
theorem dX10_init_54 : decode cX10_init 54 = .ok (.getfield 35, 3) := by decide +kernel
theorem dX10_init_57 : decode cX10_init 57 = .ok (.iconst 1, 1) := by decide +kernel
theorem dX10_init_58 : decode cX10_init 58 = .ok (.isub, 1) := by decide +kernel
theorem dX10_init_59 : decode cX10_init 59 = .ok (.iload_n 3, 1) := by decide +kernel
theorem dX10_init_60 : decode cX10_init 60 = .ok (.invokestatic 22, 3) := by decide +kernel
theorem dX10_init_63 : decode cX10_init 63 = .ok (.invokestatic 28, 3) := by decide +kernel
theorem dX10_init_66 : decode cX10_init 66 = .ok (.putfield 38, 3) := by decide +kernel
theorem dX10_init_69 : decode cX10_init 69 = .ok (.aload_n 0, 1) := by decide +kernel
theorem dX10_init_70 : decode cX10_init 70 = .ok (.new 9, 3) := by decide +kernel
theorem dX10_init_73 : decode cX10_init 73 = .ok (.dup, 1) := by decide +kernel
theorem dX10_init_74 : decode cX10_init 74 = .ok (.aload_n 0, 1) := by decide +kernel
theorem dX10_init_75 : decode cX10_init 75 = .ok (.getfield 31, 3) := by decide +kernel
theorem dX10_init_78 : decode cX10_init 78 = .ok (.aload_n 0, 1) := by decide +kernel
theorem dX10_init_79 : decode cX10_init 79 = .ok (.getfield 35, 3) := by decide +kernel
theorem dX10_init_82 : decode cX10_init 82 = .ok (.aload_n 0, 1) := by decide +kernel
theorem dX10_init_83 : decode cX10_init 83 = .ok (.getfield 38, 3) := by decide +kernel
theorem dX10_init_86 : decode cX10_init 86 = .ok (.invokespecial 41, 3) := by decide +kernel
theorem dX10_init_89 : decode cX10_init 89 = .ok (.putfield 44, 3) := by decide +kernel
theorem dX10_init_92 : decode cX10_init 92 = .ok (.return_, 1) := by decide +kernel
theorem dX10_place_0 : decode cX10_place 0 = .ok (.iload_n 1, 1) := by decide +kernel
theorem dX10_place_1 : decode cX10_place 1 = .ok (.ifCond .lt 28, 3) := by decide +kernel
theorem dX10_place_4 : decode cX10_place 4 = .ok (.iload_n 1, 1) := by decide +kernel
theorem dX10_place_5 : decode cX10_place 5 = .ok (.aload_n 0, 1) := by decide +kernel
theorem dX10_place_6 : decode cX10_place 6 = .ok (.getfield 31, 3) := by decide +kernel
theorem dX10_place_9 : decode cX10_place 9 = .ok (.if_icmp .ge 20, 3) := by decide +kernel
theorem dX10_place_12 : decode cX10_place 12 = .ok (.iload_n 2, 1) := by decide +kernel
theorem dX10_place_13 : decode cX10_place 13 = .ok (.invokestatic 48, 3) := by decide +kernel
theorem dX10_place_16 : decode cX10_place 16 = .ok (.ifCond .eq 13, 3) := by decide +kernel
theorem dX10_place_19 : decode cX10_place 19 = .ok (.iload_n 3, 1) := by decide +kernel
theorem dX10_place_20 : decode cX10_place 20 = .ok (.ifCond .lt 9, 3) := by decide +kernel
theorem dX10_place_23 : decode cX10_place 23 = .ok (.iload_n 3, 1) := by decide +kernel
theorem dX10_place_24 : decode cX10_place 24 = .ok (.bipush 64, 2) := by decide +kernel
theorem dX10_place_26 : decode cX10_place 26 = .ok (.if_icmp .lt 6, 3) := by decide +kernel
theorem dX10_place_29 : decode cX10_place 29 = .ok (.bipush (-2), 2) := by decide +kernel
theorem dX10_place_31 : decode cX10_place 31 = .ok (.ireturn, 1) := by decide +kernel
theorem dX10_place_32 : decode cX10_place 32 = .ok (.aload_n 0, 1) := by decide +kernel
theorem dX10_place_33 : decode cX10_place 33 = .ok (.getfield 44, 3) := by decide +kernel
theorem dX10_place_36 : decode cX10_place 36 = .ok (.getfield 52, 3) := by decide +kernel
theorem dX10_place_39 : decode cX10_place 39 = .ok (.getfield 56, 3) := by decide +kernel
theorem dX10_place_42 : decode cX10_place 42 = .ok (.iload_n 1, 1) := by decide +kernel
theorem dX10_place_43 : decode cX10_place 43 = .ok (.iload_n 2, 1) := by decide +kernel
theorem dX10_place_44 : decode cX10_place 44 = .ok (.iload_n 3, 1) := by decide +kernel
theorem dX10_place_45 : decode cX10_place 45 = .ok (.invokevirtual 62, 3) := by decide +kernel
theorem dX10_place_48 : decode cX10_place 48 = .ok (.ireturn, 1) := by decide +kernel
theorem dX10_door_0 : decode cX10_door 0 = .ok (.iload_n 1, 1) := by decide +kernel
theorem dX10_door_1 : decode cX10_door 1 = .ok (.ifCond .lt 26, 3) := by decide +kernel
theorem dX10_door_4 : decode cX10_door 4 = .ok (.iload_n 1, 1) := by decide +kernel
theorem dX10_door_5 : decode cX10_door 5 = .ok (.iconst 1, 1) := by decide +kernel
theorem dX10_door_6 : decode cX10_door 6 = .ok (.if_icmp .gt 21, 3) := by decide +kernel
theorem dX10_door_9 : decode cX10_door 9 = .ok (.iload_n 2, 1) := by decide +kernel
theorem dX10_door_10 : decode cX10_door 10 = .ok (.invokestatic 48, 3) := by decide +kernel
theorem dX10_door_13 : decode cX10_door 13 = .ok (.ifCond .eq 14, 3) := by decide +kernel
theorem dX10_door_16 : decode cX10_door 16 = .ok (.iload_n 3, 1) := by decide +kernel
theorem dX10_door_17 : decode cX10_door 17 = .ok (.ifCond .lt 10, 3) := by decide +kernel
theorem dX10_door_20 : decode cX10_door 20 = .ok (.iload_n 3, 1) := by decide +kernel
theorem dX10_door_21 : decode cX10_door 21 = .ok (.sipush 128, 3) := by decide +kernel
theorem dX10_door_24 : decode cX10_door 24 = .ok (.if_icmp .lt 6, 3) := by decide +kernel
theorem dX10_door_27 : decode cX10_door 27 = .ok (.bipush (-2), 2) := by decide +kernel
theorem dX10_door_29 : decode cX10_door 29 = .ok (.ireturn, 1) := by decide +kernel
theorem dX10_door_30 : decode cX10_door 30 = .ok (.aload_n 0, 1) := by decide +kernel
theorem dX10_door_31 : decode cX10_door 31 = .ok (.getfield 44, 3) := by decide +kernel
theorem dX10_door_34 : decode cX10_door 34 = .ok (.getfield 52, 3) := by decide +kernel
theorem dX10_door_37 : decode cX10_door 37 = .ok (.getfield 56, 3) := by decide +kernel
theorem dX10_door_40 : decode cX10_door 40 = .ok (.iload_n 1, 1) := by decide +kernel
theorem dX10_door_41 : decode cX10_door 41 = .ok (.iload_n 2, 1) := by decide +kernel
theorem dX10_door_42 : decode cX10_door 42 = .ok (.iload_n 3, 1) := by decide +kernel
theorem dX10_door_43 : decode cX10_door 43 = .ok (.invokevirtual 68, 3) := by decide +kernel
theorem dX10_door_46 : decode cX10_door 46 = .ok (.ireturn, 1) := by decide +kernel
theorem dX10_rule_0 : decode cX10_rule 0 = .ok (.iload_n 1, 1) := by decide +kernel
theorem dX10_rule_1 : decode cX10_rule 1 = .ok (.ifCond .lt 19, 3) := by decide +kernel
theorem dX10_rule_4 : decode cX10_rule 4 = .ok (.iload_n 1, 1) := by decide +kernel
theorem dX10_rule_5 : decode cX10_rule 5 = .ok (.getstatic 71, 3) := by decide +kernel
theorem dX10_rule_8 : decode cX10_rule 8 = .ok (.arraylength, 1) := by decide +kernel
theorem dX10_rule_9 : decode cX10_rule 9 = .ok (.if_icmp .ge 11, 3) := by decide +kernel
theorem dX10_rule_12 : decode cX10_rule 12 = .ok (.iload_n 1, 1) := by decide +kernel
theorem dX10_rule_13 : decode cX10_rule 13 = .ok (.getstatic 75, 3) := by decide +kernel
theorem dX10_rule_16 : decode cX10_rule 16 = .ok (.arraylength, 1) := by decide +kernel
theorem dX10_rule_17 : decode cX10_rule 17 = .ok (.if_icmp .lt 6, 3) := by decide +kernel
theorem dX10_rule_20 : decode cX10_rule 20 = .ok (.bipush (-2), 2) := by decide +kernel
theorem dX10_rule_22 : decode cX10_rule 22 = .ok (.ireturn, 1) := by decide +kernel
theorem dX10_rule_23 : decode cX10_rule 23 = .ok (.iload_n 2, 1) := by decide +kernel
theorem dX10_rule_24 : decode cX10_rule 24 = .ok (.getstatic 71, 3) := by decide +kernel
theorem dX10_rule_27 : decode cX10_rule 27 = .ok (.iload_n 1, 1) := by decide +kernel
theorem dX10_rule_28 : decode cX10_rule 28 = .ok (.iaload, 1) := by decide +kernel
theorem dX10_rule_29 : decode cX10_rule 29 = .ok (.if_icmp .lt 12, 3) := by decide +kernel
theorem dX10_rule_32 : decode cX10_rule 32 = .ok (.iload_n 2, 1) := by decide +kernel
theorem dX10_rule_33 : decode cX10_rule 33 = .ok (.getstatic 75, 3) := by decide +kernel
theorem dX10_rule_36 : decode cX10_rule 36 = .ok (.iload_n 1, 1) := by decide +kernel
theorem dX10_rule_37 : decode cX10_rule 37 = .ok (.iaload, 1) := by decide +kernel
theorem dX10_rule_38 : decode cX10_rule 38 = .ok (.if_icmp .le 6, 3) := by decide +kernel
theorem dX10_rule_41 : decode cX10_rule 41 = .ok (.bipush (-2), 2) := by decide +kernel
theorem dX10_rule_43 : decode cX10_rule 43 = .ok (.ireturn, 1) := by decide +kernel
theorem dX10_rule_44 : decode cX10_rule 44 = .ok (.aload_n 0, 1) := by decide +kernel
theorem dX10_rule_45 : decode cX10_rule 45 = .ok (.getfield 44, 3) := by decide +kernel
theorem dX10_rule_48 : decode cX10_rule 48 = .ok (.iload_n 1, 1) := by decide +kernel
theorem dX10_rule_49 : decode cX10_rule 49 = .ok (.iload_n 2, 1) := by decide +kernel
theorem dX10_rule_50 : decode cX10_rule 50 = .ok (.invokevirtual 78, 3) := by decide +kernel
theorem dX10_rule_53 : decode cX10_rule 53 = .ok (.ireturn, 1) := by decide +kernel
theorem dX10_size_0 : decode cX10_size 0 = .ok (.iload_n 1, 1) := by decide +kernel
theorem dX10_size_1 : decode cX10_size 1 = .ok (.invokestatic 48, 3) := by decide +kernel
theorem dX10_size_4 : decode cX10_size 4 = .ok (.ifCond .eq 14, 3) := by decide +kernel
theorem dX10_size_7 : decode cX10_size 7 = .ok (.iload_n 2, 1) := by decide +kernel
theorem dX10_size_8 : decode cX10_size 8 = .ok (.iconst 1, 1) := by decide +kernel
theorem dX10_size_9 : decode cX10_size 9 = .ok (.if_icmp .lt 9, 3) := by decide +kernel
theorem dX10_size_12 : decode cX10_size 12 = .ok (.iload_n 2, 1) := by decide +kernel
theorem dX10_size_13 : decode cX10_size 13 = .ok (.bipush 20, 2) := by decide +kernel
theorem dX10_size_15 : decode cX10_size 15 = .ok (.if_icmp .le 6, 3) := by decide +kernel
theorem dX10_size_18 : decode cX10_size 18 = .ok (.bipush (-2), 2) := by decide +kernel
theorem dX10_size_20 : decode cX10_size 20 = .ok (.ireturn, 1) := by decide +kernel
theorem dX10_size_21 : decode cX10_size 21 = .ok (.aload_n 0, 1) := by decide +kernel
theorem dX10_size_22 : decode cX10_size 22 = .ok (.getfield 44, 3) := by decide +kernel
theorem dX10_size_25 : decode cX10_size 25 = .ok (.getfield 52, 3) := by decide +kernel
theorem dX10_size_28 : decode cX10_size 28 = .ok (.getfield 81, 3) := by decide +kernel
theorem dX10_size_31 : decode cX10_size 31 = .ok (.astore_n 3, 1) := by decide +kernel
theorem dX10_size_32 : decode cX10_size 32 = .ok (.aload_n 3, 1) := by decide +kernel
theorem dX10_size_33 : decode cX10_size 33 = .ok (.getfield 85, 3) := by decide +kernel
theorem dX10_size_36 : decode cX10_size 36 = .ok (.iload_n 1, 1) := by decide +kernel
theorem dX10_size_37 : decode cX10_size 37 = .ok (.iaload, 1) := by decide +kernel
theorem dX10_size_38 : decode cX10_size 38 = .ok (.iconst (-1), 1) := by decide +kernel
theorem dX10_size_39 : decode cX10_size 39 = .ok (.if_icmp .eq 6, 3) := by decide +kernel
theorem dX10_size_42 : decode cX10_size 42 = .ok (.bipush (-3), 2) := by decide +kernel
theorem dX10_size_44 : decode cX10_size 44 = .ok (.ireturn, 1) := by decide +kernel
theorem dX10_size_45 : decode cX10_size 45 = .ok (.aload_n 3, 1) := by decide +kernel
theorem dX10_size_46 : decode cX10_size 46 = .ok (.getfield 90, 3) := by decide +kernel
theorem dX10_size_49 : decode cX10_size 49 = .ok (.iload_n 1, 1) := by decide +kernel
theorem dX10_size_50 : decode cX10_size 50 = .ok (.iaload, 1) := by decide +kernel
theorem dX10_size_51 : decode cX10_size 51 = .ok (.istore 4, 2) := by decide +kernel
theorem dX10_size_53 : decode cX10_size 53 = .ok (.aload_n 3, 1) := by decide +kernel
theorem dX10_size_54 : decode cX10_size 54 = .ok (.getfield 90, 3) := by decide +kernel
theorem dX10_size_57 : decode cX10_size 57 = .ok (.iload_n 1, 1) := by decide +kernel
theorem dX10_size_58 : decode cX10_size 58 = .ok (.iload_n 2, 1) := by decide +kernel
theorem dX10_size_59 : decode cX10_size 59 = .ok (.iastore, 1) := by decide +kernel
theorem dX10_size_60 : decode cX10_size 60 = .ok (.iload 4, 2) := by decide +kernel
theorem dX10_size_62 : decode cX10_size 62 = .ok (.ireturn, 1) := by decide +kernel
theorem dX10_access_0 : decode cX10_access 0 = .ok (.iload_n 1, 1) := by decide +kernel
theorem dX10_access_1 : decode cX10_access 1 = .ok (.invokestatic 48, 3) := by decide +kernel
theorem dX10_access_4 : decode cX10_access 4 = .ok (.ifCond .eq 14, 3) := by decide +kernel
theorem dX10_access_7 : decode cX10_access 7 = .ok (.aload_n 0, 1) := by decide +kernel
theorem dX10_access_8 : decode cX10_access 8 = .ok (.getfield 44, 3) := by decide +kernel
theorem dX10_access_11 : decode cX10_access 11 = .ok (.iload_n 1, 1) := by decide +kernel
theorem dX10_access_12 : decode cX10_access 12 = .ok (.invokevirtual 93, 3) := by decide +kernel
theorem dX10_access_15 : decode cX10_access 15 = .ok (.goto 5, 3) := by decide +kernel
theorem dX10_access_18 : decode cX10_access 18 = .ok (.bipush (-2), 2) := by decide +kernel
theorem dX10_access_20 : decode cX10_access 20 = .ok (.ireturn, 1) := by decide +kernel
theorem dX10_run_0 : decode cX10_run 0 = .ok (.iload_n 1, 1) := by decide +kernel
theorem dX10_run_1 : decode cX10_run 1 = .ok (.invokestatic 48, 3) := by decide +kernel
theorem dX10_run_4 : decode cX10_run 4 = .ok (.ifCond .eq 21, 3) := by decide +kernel
theorem dX10_run_7 : decode cX10_run 7 = .ok (.iload_n 2, 1) := by decide +kernel
theorem dX10_run_8 : decode cX10_run 8 = .ok (.invokestatic 48, 3) := by decide +kernel
theorem dX10_run_11 : decode cX10_run 11 = .ok (.ifCond .eq 14, 3) := by decide +kernel
theorem dX10_run_14 : decode cX10_run 14 = .ok (.iload_n 3, 1) := by decide +kernel
theorem dX10_run_15 : decode cX10_run 15 = .ok (.iconst 1, 1) := by decide +kernel
theorem dX10_run_16 : decode cX10_run 16 = .ok (.if_icmp .lt 9, 3) := by decide +kernel
theorem dX10_run_19 : decode cX10_run 19 = .ok (.iload_n 3, 1) := by decide +kernel
theorem dX10_run_20 : decode cX10_run 20 = .ok (.bipush 100, 2) := by decide +kernel
theorem dX10_run_22 : decode cX10_run 22 = .ok (.if_icmp .le 6, 3) := by decide +kernel
theorem dX10_run_25 : decode cX10_run 25 = .ok (.bipush (-2), 2) := by decide +kernel
theorem dX10_run_27 : decode cX10_run 27 = .ok (.ireturn, 1) := by decide +kernel
theorem dX10_run_28 : decode cX10_run 28 = .ok (.iconst 0, 1) := by decide +kernel
theorem dX10_run_29 : decode cX10_run 29 = .ok (.istore 4, 2) := by decide +kernel
theorem dX10_run_31 : decode cX10_run 31 = .ok (.iload_n 1, 1) := by decide +kernel
theorem dX10_run_32 : decode cX10_run 32 = .ok (.istore 5, 2) := by decide +kernel
theorem dX10_run_34 : decode cX10_run 34 = .ok (.iconst 0, 1) := by decide +kernel
theorem dX10_run_35 : decode cX10_run 35 = .ok (.istore 6, 2) := by decide +kernel
theorem dX10_run_37 : decode cX10_run 37 = .ok (.iload 6, 2) := by decide +kernel
theorem dX10_run_39 : decode cX10_run 39 = .ok (.iload_n 3, 1) := by decide +kernel
theorem dX10_run_40 : decode cX10_run 40 = .ok (.if_icmp .ge 34, 3) := by decide +kernel
theorem dX10_run_43 : decode cX10_run 43 = .ok (.aload_n 0, 1) := by decide +kernel
theorem dX10_run_44 : decode cX10_run 44 = .ok (.getfield 44, 3) := by decide +kernel
theorem dX10_run_47 : decode cX10_run 47 = .ok (.iload 5, 2) := by decide +kernel
theorem dX10_run_49 : decode cX10_run 49 = .ok (.invokevirtual 93, 3) := by decide +kernel
theorem dX10_run_52 : decode cX10_run 52 = .ok (.iconst 2, 1) := by decide +kernel
theorem dX10_run_53 : decode cX10_run 53 = .ok (.if_icmp .lt 6, 3) := by decide +kernel
theorem dX10_run_56 : decode cX10_run 56 = .ok (.iinc 4 1, 3) := by decide +kernel
theorem dX10_run_59 : decode cX10_run 59 = .ok (.iload 5, 2) := by decide +kernel
theorem dX10_run_61 : decode cX10_run 61 = .ok (.iload_n 2, 1) := by decide +kernel
theorem dX10_run_62 : decode cX10_run 62 = .ok (.iadd, 1) := by decide +kernel
theorem dX10_run_63 : decode cX10_run 63 = .ok (.bipush 100, 2) := by decide +kernel
theorem dX10_run_65 : decode cX10_run 65 = .ok (.irem, 1) := by decide +kernel
theorem dX10_run_66 : decode cX10_run 66 = .ok (.istore 5, 2) := by decide +kernel
theorem dX10_run_68 : decode cX10_run 68 = .ok (.iinc 6 1, 3) := by decide +kernel
theorem dX10_run_71 : decode cX10_run 71 = .ok (.goto (-34), 3) := by decide +kernel
theorem dX10_run_74 : decode cX10_run 74 = .ok (.iload 4, 2) := by decide +kernel
theorem dX10_run_76 : decode cX10_run 76 = .ok (.ireturn, 1) := by decide +kernel
theorem dX10_add_0 : decode cX10_add 0 = .ok (.iload_n 1, 1) := by decide +kernel
theorem dX10_add_1 : decode cX10_add 1 = .ok (.invokestatic 48, 3) := by decide +kernel
theorem dX10_add_4 : decode cX10_add 4 = .ok (.ifCond .ne 6, 3) := by decide +kernel
theorem dX10_add_7 : decode cX10_add 7 = .ok (.bipush (-2), 2) := by decide +kernel
theorem dX10_add_9 : decode cX10_add 9 = .ok (.ireturn, 1) := by decide +kernel
theorem dX10_add_10 : decode cX10_add 10 = .ok (.aload_n 0, 1) := by decide +kernel
theorem dX10_add_11 : decode cX10_add 11 = .ok (.getfield 44, 3) := by decide +kernel
theorem dX10_add_14 : decode cX10_add 14 = .ok (.getfield 52, 3) := by decide +kernel
theorem dX10_add_17 : decode cX10_add 17 = .ok (.getfield 56, 3) := by decide +kernel
theorem dX10_add_20 : decode cX10_add 20 = .ok (.iload_n 1, 1) := by decide +kernel
theorem dX10_add_21 : decode cX10_add 21 = .ok (.invokevirtual 97, 3) := by decide +kernel
theorem dX10_add_24 : decode cX10_add 24 = .ok (.aload_n 0, 1) := by decide +kernel
theorem dX10_add_25 : decode cX10_add 25 = .ok (.getfield 44, 3) := by decide +kernel
theorem dX10_add_28 : decode cX10_add 28 = .ok (.getfield 52, 3) := by decide +kernel
theorem dX10_add_31 : decode cX10_add 31 = .ok (.getfield 56, 3) := by decide +kernel
theorem dX10_add_34 : decode cX10_add 34 = .ok (.iload_n 1, 1) := by decide +kernel
theorem dX10_add_35 : decode cX10_add 35 = .ok (.invokevirtual 101, 3) := by decide +kernel
theorem dX10_add_38 : decode cX10_add 38 = .ok (.ireturn, 1) := by decide +kernel
theorem dX10_estimate_0 : decode cX10_estimate 0 = .ok (.iload_n 1, 1) := by decide +kernel
theorem dX10_estimate_1 : decode cX10_estimate 1 = .ok (.invokestatic 48, 3) := by decide +kernel
theorem dX10_estimate_4 : decode cX10_estimate 4 = .ok (.ifCond .eq 20, 3) := by decide +kernel
theorem dX10_estimate_7 : decode cX10_estimate 7 = .ok (.aload_n 0, 1) := by decide +kernel
theorem dX10_estimate_8 : decode cX10_estimate 8 = .ok (.getfield 44, 3) := by decide +kernel
theorem dX10_estimate_11 : decode cX10_estimate 11 = .ok (.getfield 52, 3) := by decide +kernel
theorem dX10_estimate_14 : decode cX10_estimate 14 = .ok (.getfield 56, 3) := by decide +kernel
theorem dX10_estimate_17 : decode cX10_estimate 17 = .ok (.iload_n 1, 1) := by decide +kernel
theorem dX10_estimate_18 : decode cX10_estimate 18 = .ok (.invokevirtual 101, 3) := by decide +kernel
theorem dX10_estimate_21 : decode cX10_estimate 21 = .ok (.goto 5, 3) := by decide +kernel
theorem dX10_estimate_24 : decode cX10_estimate 24 = .ok (.bipush (-2), 2) := by decide +kernel
theorem dX10_estimate_26 : decode cX10_estimate 26 = .ok (.ireturn, 1) := by decide +kernel
theorem dX10_counter_0 : decode cX10_counter 0 = .ok (.iload_n 1, 1) := by decide +kernel
theorem dX10_counter_1 : decode cX10_counter 1 = .ok (.ifCond .lt 21, 3) := by decide +kernel
theorem dX10_counter_4 : decode cX10_counter 4 = .ok (.iload_n 1, 1) := by decide +kernel
theorem dX10_counter_5 : decode cX10_counter 5 = .ok (.aload_n 0, 1) := by decide +kernel
theorem dX10_counter_6 : decode cX10_counter 6 = .ok (.getfield 31, 3) := by decide +kernel
theorem dX10_counter_9 : decode cX10_counter 9 = .ok (.if_icmp .ge 13, 3) := by decide +kernel
theorem dX10_counter_12 : decode cX10_counter 12 = .ok (.iload_n 2, 1) := by decide +kernel
theorem dX10_counter_13 : decode cX10_counter 13 = .ok (.ifCond .lt 9, 3) := by decide +kernel
theorem dX10_counter_16 : decode cX10_counter 16 = .ok (.iload_n 2, 1) := by decide +kernel
theorem dX10_counter_17 : decode cX10_counter 17 = .ok (.bipush 64, 2) := by decide +kernel
theorem dX10_counter_19 : decode cX10_counter 19 = .ok (.if_icmp .lt 6, 3) := by decide +kernel
theorem dX10_counter_22 : decode cX10_counter 22 = .ok (.bipush (-2), 2) := by decide +kernel
theorem dX10_counter_24 : decode cX10_counter 24 = .ok (.ireturn, 1) := by decide +kernel
theorem dX10_counter_25 : decode cX10_counter 25 = .ok (.aload_n 0, 1) := by decide +kernel
theorem dX10_counter_26 : decode cX10_counter 26 = .ok (.getfield 44, 3) := by decide +kernel
theorem dX10_counter_29 : decode cX10_counter 29 = .ok (.getfield 52, 3) := by decide +kernel
theorem dX10_counter_32 : decode cX10_counter 32 = .ok (.getfield 56, 3) := by decide +kernel
theorem dX10_counter_35 : decode cX10_counter 35 = .ok (.getfield 104, 3) := by decide +kernel
theorem dX10_counter_38 : decode cX10_counter 38 = .ok (.iload_n 1, 1) := by decide +kernel
theorem dX10_counter_39 : decode cX10_counter 39 = .ok (.aaload, 1) := by decide +kernel
theorem dX10_counter_40 : decode cX10_counter 40 = .ok (.iload_n 2, 1) := by decide +kernel
theorem dX10_counter_41 : decode cX10_counter 41 = .ok (.iaload, 1) := by decide +kernel
theorem dX10_counter_42 : decode cX10_counter 42 = .ok (.ireturn, 1) := by decide +kernel
theorem dX10_bit_0 : decode cX10_bit 0 = .ok (.iload_n 1, 1) := by decide +kernel
theorem dX10_bit_1 : decode cX10_bit 1 = .ok (.ifCond .lt 28, 3) := by decide +kernel
theorem dX10_bit_4 : decode cX10_bit 4 = .ok (.iload_n 1, 1) := by decide +kernel
theorem dX10_bit_5 : decode cX10_bit 5 = .ok (.sipush 128, 3) := by decide +kernel
theorem dX10_bit_8 : decode cX10_bit 8 = .ok (.if_icmp .ge 21, 3) := by decide +kernel
theorem dX10_bit_11 : decode cX10_bit 11 = .ok (.aload_n 0, 1) := by decide +kernel
theorem dX10_bit_12 : decode cX10_bit 12 = .ok (.getfield 44, 3) := by decide +kernel
theorem dX10_bit_15 : decode cX10_bit 15 = .ok (.getfield 52, 3) := by decide +kernel
theorem dX10_bit_18 : decode cX10_bit 18 = .ok (.getfield 56, 3) := by decide +kernel
theorem dX10_bit_21 : decode cX10_bit 21 = .ok (.getfield 108, 3) := by decide +kernel
theorem dX10_bit_24 : decode cX10_bit 24 = .ok (.iload_n 1, 1) := by decide +kernel
theorem dX10_bit_25 : decode cX10_bit 25 = .ok (.iaload, 1) := by decide +kernel
theorem dX10_bit_26 : decode cX10_bit 26 = .ok (.goto 5, 3) := by decide +kernel
theorem dX10_bit_29 : decode cX10_bit 29 = .ok (.bipush (-2), 2) := by decide +kernel
theorem dX10_bit_31 : decode cX10_bit 31 = .ok (.ireturn, 1) := by decide +kernel
theorem dX10_remove_0 : decode cX10_remove 0 = .ok (.iload_n 1, 1) := by decide +kernel
theorem dX10_remove_1 : decode cX10_remove 1 = .ok (.invokestatic 48, 3) := by decide +kernel
theorem dX10_remove_4 : decode cX10_remove 4 = .ok (.ifCond .ne 6, 3) := by decide +kernel
theorem dX10_remove_7 : decode cX10_remove 7 = .ok (.bipush (-2), 2) := by decide +kernel
theorem dX10_remove_9 : decode cX10_remove 9 = .ok (.ireturn, 1) := by decide +kernel
theorem dX10_remove_10 : decode cX10_remove 10 = .ok (.aload_n 0, 1) := by decide +kernel
theorem dX10_remove_11 : decode cX10_remove 11 = .ok (.getfield 44, 3) := by decide +kernel
theorem dX10_remove_14 : decode cX10_remove 14 = .ok (.getfield 52, 3) := by decide +kernel
theorem dX10_remove_17 : decode cX10_remove 17 = .ok (.getfield 81, 3) := by decide +kernel
theorem dX10_remove_20 : decode cX10_remove 20 = .ok (.getfield 85, 3) := by decide +kernel
theorem dX10_remove_23 : decode cX10_remove 23 = .ok (.iload_n 1, 1) := by decide +kernel
theorem dX10_remove_24 : decode cX10_remove 24 = .ok (.iaload, 1) := by decide +kernel
theorem dX10_remove_25 : decode cX10_remove 25 = .ok (.istore_n 2, 1) := by decide +kernel
theorem dX10_remove_26 : decode cX10_remove 26 = .ok (.aload_n 0, 1) := by decide +kernel
theorem dX10_remove_27 : decode cX10_remove 27 = .ok (.getfield 44, 3) := by decide +kernel
theorem dX10_remove_30 : decode cX10_remove 30 = .ok (.getfield 52, 3) := by decide +kernel
theorem dX10_remove_33 : decode cX10_remove 33 = .ok (.getfield 81, 3) := by decide +kernel
theorem dX10_remove_36 : decode cX10_remove 36 = .ok (.iload_n 1, 1) := by decide +kernel
theorem dX10_remove_37 : decode cX10_remove 37 = .ok (.invokevirtual 111, 3) := by decide +kernel
theorem dX10_remove_40 : decode cX10_remove 40 = .ok (.iload_n 2, 1) := by decide +kernel
theorem dX10_remove_41 : decode cX10_remove 41 = .ok (.ireturn, 1) := by decide +kernel
theorem dX10_where_0 : decode cX10_where 0 = .ok (.iload_n 1, 1) := by decide +kernel
theorem dX10_where_1 : decode cX10_where 1 = .ok (.invokestatic 48, 3) := by decide +kernel
theorem dX10_where_4 : decode cX10_where 4 = .ok (.ifCond .eq 21, 3) := by decide +kernel
theorem dX10_where_7 : decode cX10_where 7 = .ok (.aload_n 0, 1) := by decide +kernel
theorem dX10_where_8 : decode cX10_where 8 = .ok (.getfield 44, 3) := by decide +kernel
theorem dX10_where_11 : decode cX10_where 11 = .ok (.getfield 52, 3) := by decide +kernel
theorem dX10_where_14 : decode cX10_where 14 = .ok (.getfield 81, 3) := by decide +kernel
theorem dX10_where_17 : decode cX10_where 17 = .ok (.getfield 85, 3) := by decide +kernel
theorem dX10_where_20 : decode cX10_where 20 = .ok (.iload_n 1, 1) := by decide +kernel
theorem dX10_where_21 : decode cX10_where 21 = .ok (.iaload, 1) := by decide +kernel
theorem dX10_where_22 : decode cX10_where 22 = .ok (.goto 5, 3) := by decide +kernel
theorem dX10_where_25 : decode cX10_where 25 = .ok (.bipush (-2), 2) := by decide +kernel
theorem dX10_where_27 : decode cX10_where 27 = .ok (.ireturn, 1) := by decide +kernel
theorem dX10_key_0 : decode cX10_key 0 = .ok (.iload_n 1, 1) := by decide +kernel
theorem dX10_key_1 : decode cX10_key 1 = .ok (.ifCond .lt 26, 3) := by decide +kernel
theorem dX10_key_4 : decode cX10_key 4 = .ok (.iload_n 1, 1) := by decide +kernel
theorem dX10_key_5 : decode cX10_key 5 = .ok (.iconst 3, 1) := by decide +kernel
theorem dX10_key_6 : decode cX10_key 6 = .ok (.if_icmp .ge 21, 3) := by decide +kernel
theorem dX10_key_9 : decode cX10_key 9 = .ok (.aload_n 0, 1) := by decide +kernel
theorem dX10_key_10 : decode cX10_key 10 = .ok (.getfield 44, 3) := by decide +kernel
theorem dX10_key_13 : decode cX10_key 13 = .ok (.getfield 52, 3) := by decide +kernel
theorem dX10_key_16 : decode cX10_key 16 = .ok (.getfield 81, 3) := by decide +kernel
theorem dX10_key_19 : decode cX10_key 19 = .ok (.iload_n 1, 1) := by decide +kernel
theorem dX10_key_20 : decode cX10_key 20 = .ok (.iload_n 2, 1) := by decide +kernel
theorem dX10_key_21 : decode cX10_key 21 = .ok (.invokevirtual 114, 3) := by decide +kernel
theorem dX10_key_24 : decode cX10_key 24 = .ok (.goto 5, 3) := by decide +kernel
theorem dX10_key_27 : decode cX10_key 27 = .ok (.bipush (-2), 2) := by decide +kernel
theorem dX10_key_29 : decode cX10_key 29 = .ok (.ireturn, 1) := by decide +kernel
theorem dX10_about_0 : decode cX10_about 0 = .ok (.aload_n 0, 1) := by decide +kernel
theorem dX10_about_1 : decode cX10_about 1 = .ok (.getfield 44, 3) := by decide +kernel
theorem dX10_about_4 : decode cX10_about 4 = .ok (.iload_n 1, 1) := by decide +kernel
theorem dX10_about_5 : decode cX10_about 5 = .ok (.invokevirtual 117, 3) := by decide +kernel
theorem dX10_about_8 : decode cX10_about 8 = .ok (.ireturn, 1) := by decide +kernel
theorem dX10_trace_0 : decode cX10_trace 0 = .ok (.aload_n 0, 1) := by decide +kernel
theorem dX10_trace_1 : decode cX10_trace 1 = .ok (.getfield 44, 3) := by decide +kernel
theorem dX10_trace_4 : decode cX10_trace 4 = .ok (.getfield 120, 3) := by decide +kernel
theorem dX10_trace_7 : decode cX10_trace 7 = .ok (.iload_n 1, 1) := by decide +kernel
theorem dX10_trace_8 : decode cX10_trace 8 = .ok (.invokevirtual 124, 3) := by decide +kernel
theorem dX10_trace_11 : decode cX10_trace 11 = .ok (.ireturn, 1) := by decide +kernel
theorem dX10_replay_0 : decode cX10_replay 0 = .ok (.iload_n 1, 1) := by decide +kernel
theorem dX10_replay_1 : decode cX10_replay 1 = .ok (.ifCond .lt 20, 3) := by decide +kernel
theorem dX10_replay_4 : decode cX10_replay 4 = .ok (.iload_n 1, 1) := by decide +kernel
theorem dX10_replay_5 : decode cX10_replay 5 = .ok (.bipush 6, 2) := by decide +kernel
theorem dX10_replay_7 : decode cX10_replay 7 = .ok (.if_icmp .ge 14, 3) := by decide +kernel
theorem dX10_replay_10 : decode cX10_replay 10 = .ok (.iload_n 2, 1) := by decide +kernel
theorem dX10_replay_11 : decode cX10_replay 11 = .ok (.iconst 1, 1) := by decide +kernel
theorem dX10_replay_12 : decode cX10_replay 12 = .ok (.if_icmp .lt 9, 3) := by decide +kernel
theorem dX10_replay_15 : decode cX10_replay 15 = .ok (.iload_n 2, 1) := by decide +kernel
theorem dX10_replay_16 : decode cX10_replay 16 = .ok (.bipush 30, 2) := by decide +kernel
theorem dX10_replay_18 : decode cX10_replay 18 = .ok (.if_icmp .le 6, 3) := by decide +kernel
theorem dX10_replay_21 : decode cX10_replay 21 = .ok (.bipush (-2), 2) := by decide +kernel
theorem dX10_replay_23 : decode cX10_replay 23 = .ok (.ireturn, 1) := by decide +kernel
theorem dX10_replay_24 : decode cX10_replay 24 = .ok (.iload_n 3, 1) := by decide +kernel
theorem dX10_replay_25 : decode cX10_replay 25 = .ok (.ifCond .lt 24, 3) := by decide +kernel
theorem dX10_replay_28 : decode cX10_replay 28 = .ok (.iload_n 3, 1) := by decide +kernel
theorem dX10_replay_29 : decode cX10_replay 29 = .ok (.iload 4, 2) := by decide +kernel
theorem dX10_replay_31 : decode cX10_replay 31 = .ok (.if_icmp .gt 18, 3) := by decide +kernel
theorem dX10_replay_34 : decode cX10_replay 34 = .ok (.iload 4, 2) := by decide +kernel
theorem dX10_replay_36 : decode cX10_replay 36 = .ok (.aload_n 0, 1) := by decide +kernel
theorem dX10_replay_37 : decode cX10_replay 37 = .ok (.getfield 44, 3) := by decide +kernel
theorem dX10_replay_40 : decode cX10_replay 40 = .ok (.getfield 120, 3) := by decide +kernel
theorem dX10_replay_43 : decode cX10_replay 43 = .ok (.getfield 128, 3) := by decide +kernel
theorem dX10_replay_46 : decode cX10_replay 46 = .ok (.if_icmp .le 6, 3) := by decide +kernel
theorem dX10_replay_49 : decode cX10_replay 49 = .ok (.bipush (-2), 2) := by decide +kernel
theorem dX10_replay_51 : decode cX10_replay 51 = .ok (.ireturn, 1) := by decide +kernel
theorem dX10_replay_52 : decode cX10_replay 52 = .ok (.aload_n 0, 1) := by decide +kernel
theorem dX10_replay_53 : decode cX10_replay 53 = .ok (.getfield 18, 3) := by decide +kernel
theorem dX10_replay_56 : decode cX10_replay 56 = .ok (.iload_n 1, 1) := by decide +kernel
theorem dX10_replay_57 : decode cX10_replay 57 = .ok (.iload_n 2, 1) := by decide +kernel
theorem dX10_replay_58 : decode cX10_replay 58 = .ok (.aload_n 0, 1) := by decide +kernel
theorem dX10_replay_59 : decode cX10_replay 59 = .ok (.getfield 44, 3) := by decide +kernel
theorem dX10_replay_62 : decode cX10_replay 62 = .ok (.getfield 120, 3) := by decide +kernel
theorem dX10_replay_65 : decode cX10_replay 65 = .ok (.iload_n 3, 1) := by decide +kernel
theorem dX10_replay_66 : decode cX10_replay 66 = .ok (.iload 4, 2) := by decide +kernel
theorem dX10_replay_68 : decode cX10_replay 68 = .ok (.invokevirtual 131, 3) := by decide +kernel
theorem dX10_replay_71 : decode cX10_replay 71 = .ok (.ireturn, 1) := by decide +kernel
theorem dX10_kept_0 : decode cX10_kept 0 = .ok (.aload_n 0, 1) := by decide +kernel
theorem dX10_kept_1 : decode cX10_kept 1 = .ok (.getfield 18, 3) := by decide +kernel
theorem dX10_kept_4 : decode cX10_kept 4 = .ok (.iload_n 1, 1) := by decide +kernel
theorem dX10_kept_5 : decode cX10_kept 5 = .ok (.invokevirtual 135, 3) := by decide +kernel
theorem dX10_kept_8 : decode cX10_kept 8 = .ok (.ireturn, 1) := by decide +kernel
theorem dX10_save_0 : decode cX10_save 0 = .ok (.iload_n 1, 1) := by decide +kernel
theorem dX10_save_1 : decode cX10_save 1 = .ok (.ifCond .lt 8, 3) := by decide +kernel
theorem dX10_save_4 : decode cX10_save 4 = .ok (.iload_n 1, 1) := by decide +kernel
theorem dX10_save_5 : decode cX10_save 5 = .ok (.iconst 4, 1) := by decide +kernel
theorem dX10_save_6 : decode cX10_save 6 = .ok (.if_icmp .lt 6, 3) := by decide +kernel
theorem dX10_save_9 : decode cX10_save 9 = .ok (.bipush (-2), 2) := by decide +kernel
theorem dX10_save_11 : decode cX10_save 11 = .ok (.ireturn, 1) := by decide +kernel
theorem dX10_save_12 : decode cX10_save 12 = .ok (.aload_n 0, 1) := by decide +kernel
theorem dX10_save_13 : decode cX10_save 13 = .ok (.getfield 11, 3) := by decide +kernel
theorem dX10_save_16 : decode cX10_save 16 = .ok (.iload_n 1, 1) := by decide +kernel
theorem dX10_save_17 : decode cX10_save 17 = .ok (.aaload, 1) := by decide +kernel
theorem dX10_save_18 : decode cX10_save 18 = .ok (.ifnonnull 28, 3) := by decide +kernel
theorem dX10_save_21 : decode cX10_save 21 = .ok (.aload_n 0, 1) := by decide +kernel
theorem dX10_save_22 : decode cX10_save 22 = .ok (.getfield 11, 3) := by decide +kernel
theorem dX10_save_25 : decode cX10_save 25 = .ok (.iload_n 1, 1) := by decide +kernel
theorem dX10_save_26 : decode cX10_save 26 = .ok (.new 9, 3) := by decide +kernel
theorem dX10_save_29 : decode cX10_save 29 = .ok (.dup, 1) := by decide +kernel
theorem dX10_save_30 : decode cX10_save 30 = .ok (.aload_n 0, 1) := by decide +kernel
theorem dX10_save_31 : decode cX10_save 31 = .ok (.getfield 31, 3) := by decide +kernel
theorem dX10_save_34 : decode cX10_save 34 = .ok (.aload_n 0, 1) := by decide +kernel
theorem dX10_save_35 : decode cX10_save 35 = .ok (.getfield 35, 3) := by decide +kernel
theorem dX10_save_38 : decode cX10_save 38 = .ok (.aload_n 0, 1) := by decide +kernel
theorem dX10_save_39 : decode cX10_save 39 = .ok (.getfield 38, 3) := by decide +kernel
theorem dX10_save_42 : decode cX10_save 42 = .ok (.invokespecial 41, 3) := by decide +kernel
theorem dX10_save_45 : decode cX10_save 45 = .ok (.aastore, 1) := by decide +kernel
theorem dX10_save_46 : decode cX10_save 46 = .ok (.aload_n 0, 1) := by decide +kernel
theorem dX10_save_47 : decode cX10_save 47 = .ok (.getfield 11, 3) := by decide +kernel
theorem dX10_save_50 : decode cX10_save 50 = .ok (.iload_n 1, 1) := by decide +kernel
theorem dX10_save_51 : decode cX10_save 51 = .ok (.aaload, 1) := by decide +kernel
theorem dX10_save_52 : decode cX10_save 52 = .ok (.aload_n 0, 1) := by decide +kernel
theorem dX10_save_53 : decode cX10_save 53 = .ok (.getfield 44, 3) := by decide +kernel
theorem dX10_save_56 : decode cX10_save 56 = .ok (.invokevirtual 138, 3) := by decide +kernel
theorem dX10_save_59 : decode cX10_save 59 = .ok (.aload_n 0, 1) := by decide +kernel
theorem dX10_save_60 : decode cX10_save 60 = .ok (.getfield 44, 3) := by decide +kernel
theorem dX10_save_63 : decode cX10_save 63 = .ok (.getfield 142, 3) := by decide +kernel
theorem dX10_save_66 : decode cX10_save 66 = .ok (.ireturn, 1) := by decide +kernel
theorem dX10_load_0 : decode cX10_load 0 = .ok (.iload_n 1, 1) := by decide +kernel
theorem dX10_load_1 : decode cX10_load 1 = .ok (.ifCond .lt 8, 3) := by decide +kernel
theorem dX10_load_4 : decode cX10_load 4 = .ok (.iload_n 1, 1) := by decide +kernel
theorem dX10_load_5 : decode cX10_load 5 = .ok (.iconst 4, 1) := by decide +kernel
theorem dX10_load_6 : decode cX10_load 6 = .ok (.if_icmp .lt 6, 3) := by decide +kernel
theorem dX10_load_9 : decode cX10_load 9 = .ok (.bipush (-2), 2) := by decide +kernel
theorem dX10_load_11 : decode cX10_load 11 = .ok (.ireturn, 1) := by decide +kernel
theorem dX10_load_12 : decode cX10_load 12 = .ok (.aload_n 0, 1) := by decide +kernel
theorem dX10_load_13 : decode cX10_load 13 = .ok (.getfield 11, 3) := by decide +kernel
theorem dX10_load_16 : decode cX10_load 16 = .ok (.iload_n 1, 1) := by decide +kernel
theorem dX10_load_17 : decode cX10_load 17 = .ok (.aaload, 1) := by decide +kernel
theorem dX10_load_18 : decode cX10_load 18 = .ok (.ifnonnull 5, 3) := by decide +kernel
theorem dX10_load_21 : decode cX10_load 21 = .ok (.iconst (-1), 1) := by decide +kernel
theorem dX10_load_22 : decode cX10_load 22 = .ok (.ireturn, 1) := by decide +kernel
theorem dX10_load_23 : decode cX10_load 23 = .ok (.aload_n 0, 1) := by decide +kernel
theorem dX10_load_24 : decode cX10_load 24 = .ok (.getfield 44, 3) := by decide +kernel
theorem dX10_load_27 : decode cX10_load 27 = .ok (.aload_n 0, 1) := by decide +kernel
theorem dX10_load_28 : decode cX10_load 28 = .ok (.getfield 11, 3) := by decide +kernel
theorem dX10_load_31 : decode cX10_load 31 = .ok (.iload_n 1, 1) := by decide +kernel
theorem dX10_load_32 : decode cX10_load 32 = .ok (.aaload, 1) := by decide +kernel
theorem dX10_load_33 : decode cX10_load 33 = .ok (.invokevirtual 138, 3) := by decide +kernel
theorem dX10_load_36 : decode cX10_load 36 = .ok (.aload_n 0, 1) := by decide +kernel
theorem dX10_load_37 : decode cX10_load 37 = .ok (.getfield 44, 3) := by decide +kernel
theorem dX10_load_40 : decode cX10_load 40 = .ok (.getfield 142, 3) := by decide +kernel
theorem dX10_load_43 : decode cX10_load 43 = .ok (.ireturn, 1) := by decide +kernel
theorem dX10_sound_0 : decode cX10_sound 0 = .ok (.aload_n 0, 1) := by decide +kernel
theorem dX10_sound_1 : decode cX10_sound 1 = .ok (.getfield 44, 3) := by decide +kernel
theorem dX10_sound_4 : decode cX10_sound 4 = .ok (.getfield 52, 3) := by decide +kernel
theorem dX10_sound_7 : decode cX10_sound 7 = .ok (.invokevirtual 145, 3) := by decide +kernel
theorem dX10_sound_10 : decode cX10_sound 10 = .ok (.ifCond .eq 23, 3) := by decide +kernel
theorem dX10_sound_13 : decode cX10_sound 13 = .ok (.aload_n 0, 1) := by decide +kernel
theorem dX10_sound_14 : decode cX10_sound 14 = .ok (.getfield 44, 3) := by decide +kernel
theorem dX10_sound_17 : decode cX10_sound 17 = .ok (.getfield 52, 3) := by decide +kernel
theorem dX10_sound_20 : decode cX10_sound 20 = .ok (.getfield 56, 3) := by decide +kernel
theorem dX10_sound_23 : decode cX10_sound 23 = .ok (.invokevirtual 149, 3) := by decide +kernel
theorem dX10_sound_26 : decode cX10_sound 26 = .ok (.ifCond .eq 7, 3) := by decide +kernel
theorem dX10_sound_29 : decode cX10_sound 29 = .ok (.iconst 1, 1) := by decide +kernel
theorem dX10_sound_30 : decode cX10_sound 30 = .ok (.goto 4, 3) := by decide +kernel
theorem dX10_sound_33 : decode cX10_sound 33 = .ok (.iconst 0, 1) := by decide +kernel
theorem dX10_sound_34 : decode cX10_sound 34 = .ok (.ireturn, 1) := by decide +kernel
theorem dX10_isKey_0 : decode cX10_isKey 0 = .ok (.iload_n 0, 1) := by decide +kernel
theorem dX10_isKey_1 : decode cX10_isKey 1 = .ok (.ifCond .lt 13, 3) := by decide +kernel
theorem dX10_isKey_4 : decode cX10_isKey 4 = .ok (.iload_n 0, 1) := by decide +kernel
theorem dX10_isKey_5 : decode cX10_isKey 5 = .ok (.bipush 100, 2) := by decide +kernel
theorem dX10_isKey_7 : decode cX10_isKey 7 = .ok (.if_icmp .ge 7, 3) := by decide +kernel
theorem dX10_isKey_10 : decode cX10_isKey 10 = .ok (.iconst 1, 1) := by decide +kernel
theorem dX10_isKey_11 : decode cX10_isKey 11 = .ok (.goto 4, 3) := by decide +kernel
theorem dX10_isKey_14 : decode cX10_isKey 14 = .ok (.iconst 0, 1) := by decide +kernel
theorem dX10_isKey_15 : decode cX10_isKey 15 = .ok (.ireturn, 1) := by decide +kernel
end
section
theorem dX11_init_0 : decode cX11_init 0 = .ok (.aload_n 0, 1) := by decide +kernel
theorem dX11_init_1 : decode cX11_init 1 = .ok (.invokespecial 1, 3) := by decide +kernel
theorem dX11_init_4 : decode cX11_init 4 = .ok (.aload_n 0, 1) := by decide +kernel
theorem dX11_init_5 : decode cX11_init 5 = .ok (.sipush 1805, 3) := by decide +kernel
theorem dX11_init_8 : decode cX11_init 8 = .ok (.newarray .int, 2) := by decide +kernel
theorem dX11_init_10 : decode cX11_init 10 = .ok (.putfield 7, 3) := by decide +kernel
theorem dX11_init_13 : decode cX11_init 13 = .ok (.aload_n 0, 1) := by decide +kernel
theorem dX11_init_14 : decode cX11_init 14 = .ok (.sipush 7220, 3) := by decide +kernel
theorem dX11_init_17 : decode cX11_init 17 = .ok (.newarray .int, 2) := by decide +kernel
theorem dX11_init_19 : decode cX11_init 19 = .ok (.putfield 13, 3) := by decide +kernel
theorem dX11_init_22 : decode cX11_init 22 = .ok (.aload_n 0, 1) := by decide +kernel
theorem dX11_init_23 : decode cX11_init 23 = .ok (.iconst 4, 1) := by decide +kernel
theorem dX11_init_24 : decode cX11_init 24 = .ok (.newarray .boolean, 2) := by decide +kernel
theorem dX11_init_26 : decode cX11_init 26 = .ok (.putfield 16, 3) := by decide +kernel
theorem dX11_init_29 : decode cX11_init 29 = .ok (.aload_n 0, 1) := by decide +kernel
theorem dX11_init_30 : decode cX11_init 30 = .ok (.bipush 100, 2) := by decide +kernel
theorem dX11_init_32 : decode cX11_init 32 = .ok (.newarray .int, 2) := by decide +kernel
theorem dX11_init_34 : decode cX11_init 34 = .ok (.putfield 20, 3) := by decide +kernel
theorem dX11_init_37 : decode cX11_init 37 = .ok (.aload_n 0, 1) := by decide +kernel
theorem dX11_init_38 : decode cX11_init 38 = .ok (.bipush 30, 2) := by decide +kernel
theorem dX11_init_40 : decode cX11_init 40 = .ok (.newarray .int, 2) := by decide +kernel
theorem dX11_init_42 : decode cX11_init 42 = .ok (.putfield 23, 3) := by decide +kernel
theorem dX11_init_45 : decode cX11_init 45 = .ok (.aload_n 0, 1) := by decide +kernel
theorem dX11_init_46 : decode cX11_init 46 = .ok (.bipush 30, 2) := by decide +kernel
theorem dX11_init_48 : decode cX11_init 48 = .ok (.newarray .boolean, 2) := by decide +kernel
theorem dX11_init_50 : decode cX11_init 50 = .ok (.putfield 26, 3) := by decide +kernel
theorem dX11_init_53 : decode cX11_init 53 = .ok (.aload_n 0, 1) := by decide +kernel
theorem dX11_init_54 : decode cX11_init 54 = .ok (.bipush 30, 2) := by decide +kernel
theorem dX11_init_56 : decode cX11_init 56 = .ok (.newarray .int, 2) := by decide +kernel
theorem dX11_init_58 : decode cX11_init 58 = .ok (.putfield 29, 3) := by decide +kernel
theorem dX11_init_61 : decode cX11_init 61 = .ok (.aload_n 0, 1) := by decide +kernel
theorem dX11_init_62 : decode cX11_init 62 = .ok (.bipush 30, 2) := by decide +kernel
theorem dX11_init_64 : decode cX11_init 64 = .ok (.newarray .int, 2) := by decide +kernel
theorem dX11_init_66 : decode cX11_init 66 = .ok (.putfield 32, 3) := by decide +kernel
theorem dX11_init_69 : decode cX11_init 69 = .ok (.aload_n 0, 1) := by decide +kernel
theorem dX11_init_70 : decode cX11_init 70 = .ok (.bipush 30, 2) := by decide +kernel
theorem dX11_init_72 : decode cX11_init 72 = .ok (.newarray .int, 2) := by decide +kernel
theorem dX11_init_74 : decode cX11_init 74 = .ok (.putfield 35, 3) := by decide +kernel
theorem dX11_init_77 : decode cX11_init 77 = .ok (.aload_n 0, 1) := by decide +kernel
theorem dX11_init_78 : decode cX11_init 78 = .ok (.sipush 256, 3) := by decide +kernel
theorem dX11_init_81 : decode cX11_init 81 = .ok (.newarray .int, 2) := by decide +kernel
theorem dX11_init_83 : decode cX11_init 83 = .ok (.putfield 38, 3) := by decide +kernel
theorem dX11_init_86 : decode cX11_init 86 = .ok (.aload_n 0, 1) := by decide +kernel
theorem dX11_init_87 : decode cX11_init 87 = .ok (.iconst 4, 1) := by decide +kernel
theorem dX11_init_88 : decode cX11_init 88 = .ok (.newarray .int, 2) := by decide +kernel
theorem dX11_init_90 : decode cX11_init 90 = .ok (.putfield 41, 3) := by decide +kernel
theorem dX11_init_93 : decode cX11_init 93 = .ok (.aload_n 0, 1) := by decide +kernel
theorem dX11_init_94 : decode cX11_init 94 = .ok (.iload_n 1, 1) := by decide +kernel
theorem dX11_init_95 : decode cX11_init 95 = .ok (.iconst 1, 1) := by decide +kernel
theorem dX11_init_96 : decode cX11_init 96 = .ok (.iconst 4, 1) := by decide +kernel
theorem dX11_init_97 : decode cX11_init 97 = .ok (.invokestatic 44, 3) := by decide +kernel
theorem dX11_init_100 : decode cX11_init 100 = .ok (.putfield 48, 3) := by decide +kernel
theorem dX11_init_103 : decode cX11_init 103 = .ok (.aload_n 0, 1) := by decide +kernel
theorem dX11_init_104 : decode cX11_init 104 = .ok (.iload_n 2, 1) := by decide +kernel
theorem dX11_init_105 : decode cX11_init 105 = .ok (.iconst 4, 1) := by decide +kernel
theorem dX11_init_106 : decode cX11_init 106 = .ok (.sipush 200, 3) := by decide +kernel
theorem dX11_init_109 : decode cX11_init 109 = .ok (.invokestatic 44, 3) := by decide +kernel
theorem dX11_init_112 : decode cX11_init 112 = .ok (.putfield 52, 3) := by decide +kernel
theorem dX11_init_115 : decode cX11_init 115 = .ok (.iconst 0, 1) := by decide +kernel
theorem dX11_init_116 : decode cX11_init 116 = .ok (.istore 4, 2) := by decide +kernel
theorem dX11_init_118 : decode cX11_init 118 = .ok (.iload 4, 2) := by decide +kernel
theorem dX11_init_120 : decode cX11_init 120 = .ok (.iconst 4, 1) := by decide +kernel
theorem dX11_init_121 : decode cX11_init 121 = .ok (.if_icmp .ge 58, 3) := by decide +kernel
theorem dX11_init_124 : decode cX11_init 124 = .ok (.iconst 0, 1) := by decide +kernel
theorem dX11_init_125 : decode cX11_init 125 = .ok (.istore 5, 2) := by decide +kernel
theorem dX11_init_127 : decode cX11_init 127 = .ok (.iload 5, 2) := by decide +kernel
theorem dX11_init_129 : decode cX11_init 129 = .ok (.bipush 100, 2) := by decide +kernel
theorem dX11_init_131 : decode cX11_init 131 = .ok (.if_icmp .ge 42, 3) := by decide +kernel
theorem dX11_init_134 : decode cX11_init 134 = .ok (.aload_n 0, 1) := by decide +kernel
theorem dX11_init_135 : decode cX11_init 135 = .ok (.getfield 7, 3) := by decide +kernel
theorem dX11_init_138 : decode cX11_init 138 = .ok (.iconst 0, 1) := by decide +kernel
theorem dX11_init_139 : decode cX11_init 139 = .ok (.bipush 100, 2) := by decide +kernel
theorem dX11_init_141 : decode cX11_init 141 = .ok (.iload 4, 2) := by decide +kernel
theorem dX11_init_143 : decode cX11_init 143 = .ok (.imul, 1) := by decide +kernel
theorem dX11_init_144 : decode cX11_init 144 = .ok (.iadd, 1) := by decide +kernel
theorem dX11_init_145 : decode cX11_init 145 = .ok (.iload 5, 2) := by decide +kernel
theorem dX11_init_147 : decode cX11_init 147 = .ok (.iadd, 1) := by decide +kernel
theorem dX11_init_148 : decode cX11_init 148 = .ok (.iload 5, 2) := by decide +kernel
theorem dX11_init_150 : decode cX11_init 150 = .ok (.iconst 2, 1) := by decide +kernel
theorem dX11_init_151 : decode cX11_init 151 = .ok (.iload 4, 2) := by decide +kernel
theorem dX11_init_153 : decode cX11_init 153 = .ok (.imul, 1) := by decide +kernel
theorem dX11_init_154 : decode cX11_init 154 = .ok (.iconst 5, 1) := by decide +kernel
theorem dX11_init_155 : decode cX11_init 155 = .ok (.iadd, 1) := by decide +kernel
theorem dX11_init_156 : decode cX11_init 156 = .ok (.imul, 1) := by decide +kernel
theorem dX11_init_157 : decode cX11_init 157 = .ok (.bipush 11, 2) := by decide +kernel
theorem dX11_init_159 : decode cX11_init 159 = .ok (.iload 4, 2) := by decide +kernel
theorem dX11_init_161 : decode cX11_init 161 = .ok (.imul, 1) := by decide +kernel
theorem dX11_init_162 : decode cX11_init 162 = .ok (.iadd, 1) := by decide +kernel
theorem dX11_init_163 : decode cX11_init 163 = .ok (.bipush 64, 2) := by decide +kernel
theorem dX11_init_165 : decode cX11_init 165 = .ok (.irem, 1) := by decide +kernel
theorem dX11_init_166 : decode cX11_init 166 = .ok (.iastore, 1) := by decide +kernel
theorem dX11_init_167 : decode cX11_init 167 = .ok (.iinc 5 1, 3) := by decide +kernel
theorem dX11_init_170 : decode cX11_init 170 = .ok (.goto (-43), 3) := by decide +kernel
theorem dX11_init_173 : decode cX11_init 173 = .ok (.iinc 4 1, 3) := by decide +kernel
theorem dX11_init_176 : decode cX11_init 176 = .ok (.goto (-58), 3) := by decide +kernel
theorem dX11_init_179 : decode cX11_init 179 = .ok (.iconst 0, 1) := by decide +kernel
theorem dX11_init_180 : decode cX11_init 180 = .ok (.istore 4, 2) := by decide +kernel
theorem dX11_init_182 : decode cX11_init 182 = .ok (.iload 4, 2) := by decide +kernel
theorem dX11_init_184 : decode cX11_init 184 = .ok (.bipush 100, 2) := by decide +kernel
theorem dX11_init_186 : decode cX11_init 186 = .ok (.if_icmp .ge 56, 3) := by decide +kernel
theorem dX11_init_189 : decode cX11_init 189 = .ok (.aload_n 0, 1) := by decide +kernel
theorem dX11_init_190 : decode cX11_init 190 = .ok (.getfield 7, 3) := by decide +kernel
theorem dX11_init_193 : decode cX11_init 193 = .ok (.sipush 400, 3) := by decide +kernel
theorem dX11_init_196 : decode cX11_init 196 = .ok (.iload 4, 2) := by decide +kernel
theorem dX11_init_198 : decode cX11_init 198 = .ok (.iadd, 1) := by decide +kernel
theorem dX11_init_199 : decode cX11_init 199 = .ok (.iload 4, 2) := by decide +kernel
theorem dX11_init_201 : decode cX11_init 201 = .ok (.iastore, 1) := by decide +kernel
theorem dX11_init_202 : decode cX11_init 202 = .ok (.aload_n 0, 1) := by decide +kernel
theorem dX11_init_203 : decode cX11_init 203 = .ok (.getfield 7, 3) := by decide +kernel
theorem dX11_init_206 : decode cX11_init 206 = .ok (.sipush 500, 3) := by decide +kernel
theorem dX11_init_209 : decode cX11_init 209 = .ok (.iload 4, 2) := by decide +kernel
theorem dX11_init_211 : decode cX11_init 211 = .ok (.iadd, 1) := by decide +kernel
theorem dX11_init_212 : decode cX11_init 212 = .ok (.iconst 5, 1) := by decide +kernel
theorem dX11_init_213 : decode cX11_init 213 = .ok (.iload 4, 2) := by decide +kernel
theorem dX11_init_215 : decode cX11_init 215 = .ok (.imul, 1) := by decide +kernel
theorem dX11_init_216 : decode cX11_init 216 = .ok (.bipush 64, 2) := by decide +kernel
theorem dX11_init_218 : decode cX11_init 218 = .ok (.iadd, 1) := by decide +kernel
theorem dX11_init_219 : decode cX11_init 219 = .ok (.sipush 128, 3) := by decide +kernel
theorem dX11_init_222 : decode cX11_init 222 = .ok (.irem, 1) := by decide +kernel
theorem dX11_init_223 : decode cX11_init 223 = .ok (.iastore, 1) := by decide +kernel
theorem dX11_init_224 : decode cX11_init 224 = .ok (.aload_n 0, 1) := by decide +kernel
theorem dX11_init_225 : decode cX11_init 225 = .ok (.getfield 7, 3) := by decide +kernel
theorem dX11_init_228 : decode cX11_init 228 = .ok (.sipush 990, 3) := by decide +kernel
theorem dX11_init_231 : decode cX11_init 231 = .ok (.iload 4, 2) := by decide +kernel
theorem dX11_init_233 : decode cX11_init 233 = .ok (.iadd, 1) := by decide +kernel
theorem dX11_init_234 : decode cX11_init 234 = .ok (.iconst 1, 1) := by decide +kernel
theorem dX11_init_235 : decode cX11_init 235 = .ok (.iastore, 1) := by decide +kernel
theorem dX11_init_236 : decode cX11_init 236 = .ok (.iinc 4 1, 3) := by decide +kernel
theorem dX11_init_239 : decode cX11_init 239 = .ok (.goto (-57), 3) := by decide +kernel
theorem dX11_init_242 : decode cX11_init 242 = .ok (.aload_n 0, 1) := by decide +kernel
theorem dX11_init_243 : decode cX11_init 243 = .ok (.getfield 7, 3) := by decide +kernel
theorem dX11_init_246 : decode cX11_init 246 = .ok (.sipush 600, 3) := by decide +kernel
theorem dX11_init_249 : decode cX11_init 249 = .ok (.iconst 1, 1) := by decide +kernel
theorem dX11_init_250 : decode cX11_init 250 = .ok (.iastore, 1) := by decide +kernel
theorem dX11_init_251 : decode cX11_init 251 = .ok (.aload_n 0, 1) := by decide +kernel
theorem dX11_init_252 : decode cX11_init 252 = .ok (.getfield 7, 3) := by decide +kernel
theorem dX11_init_255 : decode cX11_init 255 = .ok (.sipush 602, 3) := by decide +kernel
theorem dX11_init_258 : decode cX11_init 258 = .ok (.sipush 200, 3) := by decide +kernel
theorem dX11_init_261 : decode cX11_init 261 = .ok (.iastore, 1) := by decide +kernel
theorem dX11_init_262 : decode cX11_init 262 = .ok (.aload_n 0, 1) := by decide +kernel
theorem dX11_init_263 : decode cX11_init 263 = .ok (.getfield 7, 3) := by decide +kernel
theorem dX11_init_266 : decode cX11_init 266 = .ok (.sipush 605, 3) := by decide +kernel
theorem dX11_init_269 : decode cX11_init 269 = .ok (.bipush 20, 2) := by decide +kernel
theorem dX11_init_271 : decode cX11_init 271 = .ok (.iastore, 1) := by decide +kernel
theorem dX11_init_272 : decode cX11_init 272 = .ok (.aload_n 0, 1) := by decide +kernel
theorem dX11_init_273 : decode cX11_init 273 = .ok (.getfield 7, 3) := by decide +kernel
theorem dX11_init_276 : decode cX11_init 276 = .ok (.sipush 1400, 3) := by decide +kernel
theorem dX11_init_279 : decode cX11_init 279 = .ok (.iconst 1, 1) := by decide +kernel
theorem dX11_init_280 : decode cX11_init 280 = .ok (.iastore, 1) := by decide +kernel
theorem dX11_init_281 : decode cX11_init 281 = .ok (.aload_n 0, 1) := by decide +kernel
theorem dX11_init_282 : decode cX11_init 282 = .ok (.iload_n 3, 1) := by decide +kernel
theorem dX11_init_283 : decode cX11_init 283 = .ok (.invokevirtual 55, 3) := by decide +kernel
theorem dX11_init_286 : decode cX11_init 286 = .ok (.return_, 1) := by decide +kernel
theorem dX11_within_0 : decode cX11_within 0 = .ok (.iload_n 0, 1) := by decide +kernel
theorem dX11_within_1 : decode cX11_within 1 = .ok (.iload_n 1, 1) := by decide +kernel
theorem dX11_within_2 : decode cX11_within 2 = .ok (.if_icmp .ge 7, 3) := by decide +kernel
theorem dX11_within_5 : decode cX11_within 5 = .ok (.iload_n 1, 1) := by decide +kernel
theorem dX11_within_6 : decode cX11_within 6 = .ok (.goto 13, 3) := by decide +kernel
theorem dX11_within_9 : decode cX11_within 9 = .ok (.iload_n 0, 1) := by decide +kernel
theorem dX11_within_10 : decode cX11_within 10 = .ok (.iload_n 2, 1) := by decide +kernel
theorem dX11_within_11 : decode cX11_within 11 = .ok (.if_icmp .le 7, 3) := by decide +kernel
theorem dX11_within_14 : decode cX11_within 14 = .ok (.iload_n 2, 1) := by decide +kernel
theorem dX11_within_15 : decode cX11_within 15 = .ok (.goto 4, 3) := by decide +kernel
theorem dX11_within_18 : decode cX11_within 18 = .ok (.iload_n 0, 1) := by decide +kernel
theorem dX11_within_19 : decode cX11_within 19 = .ok (.ireturn, 1) := by decide +kernel
theorem dX11_in_0 : decode cX11_in 0 = .ok (.iload_n 0, 1) := by decide +kernel
theorem dX11_in_1 : decode cX11_in 1 = .ok (.iload_n 1, 1) := by decide +kernel
theorem dX11_in_2 : decode cX11_in 2 = .ok (.if_icmp .lt 12, 3) := by decide +kernel
theorem dX11_in_5 : decode cX11_in 5 = .ok (.iload_n 0, 1) := by decide +kernel
theorem dX11_in_6 : decode cX11_in 6 = .ok (.iload_n 2, 1) := by decide +kernel
theorem dX11_in_7 : decode cX11_in 7 = .ok (.if_icmp .gt 7, 3) := by decide +kernel
theorem dX11_in_10 : decode cX11_in 10 = .ok (.iconst 1, 1) := by decide +kernel
theorem dX11_in_11 : decode cX11_in 11 = .ok (.goto 4, 3) := by decide +kernel
theorem dX11_in_14 : decode cX11_in 14 = .ok (.iconst 0, 1) := by decide +kernel
theorem dX11_in_15 : decode cX11_in 15 = .ok (.ireturn, 1) := by decide +kernel
theorem dX11_isKey_0 : decode cX11_isKey 0 = .ok (.iload_n 0, 1) := by decide +kernel
theorem dX11_isKey_1 : decode cX11_isKey 1 = .ok (.iconst 0, 1) := by decide +kernel
theorem dX11_isKey_2 : decode cX11_isKey 2 = .ok (.bipush 99, 2) := by decide +kernel
theorem dX11_isKey_4 : decode cX11_isKey 4 = .ok (.invokestatic 59, 3) := by decide +kernel
theorem dX11_isKey_7 : decode cX11_isKey 7 = .ok (.ireturn, 1) := by decide +kernel
theorem dX11_setWindow_0 : decode cX11_setWindow 0 = .ok (.aload_n 0, 1) := by decide +kernel
theorem dX11_setWindow_1 : decode cX11_setWindow 1 = .ok (.getfield 7, 3) := by decide +kernel
theorem dX11_setWindow_4 : decode cX11_setWindow 4 = .ok (.sipush 1393, 3) := by decide +kernel
theorem dX11_setWindow_7 : decode cX11_setWindow 7 = .ok (.iload_n 1, 1) := by decide +kernel
theorem dX11_setWindow_8 : decode cX11_setWindow 8 = .ok (.iconst 1, 1) := by decide +kernel
theorem dX11_setWindow_9 : decode cX11_setWindow 9 = .ok (.aload_n 0, 1) := by decide +kernel
theorem dX11_setWindow_10 : decode cX11_setWindow 10 = .ok (.getfield 52, 3) := by decide +kernel
theorem dX11_setWindow_13 : decode cX11_setWindow 13 = .ok (.iconst 1, 1) := by decide +kernel
theorem dX11_setWindow_14 : decode cX11_setWindow 14 = .ok (.isub, 1) := by decide +kernel
theorem dX11_setWindow_15 : decode cX11_setWindow 15 = .ok (.invokestatic 44, 3) := by decide +kernel
theorem dX11_setWindow_18 : decode cX11_setWindow 18 = .ok (.iastore, 1) := by decide +kernel
theorem dX11_setWindow_19 : decode cX11_setWindow 19 = .ok (.aload_n 0, 1) := by decide +kernel
theorem dX11_setWindow_20 : decode cX11_setWindow 20 = .ok (.getfield 7, 3) := by decide +kernel
theorem dX11_setWindow_23 : decode cX11_setWindow 23 = .ok (.sipush 1394, 3) := by decide +kernel
theorem dX11_setWindow_26 : decode cX11_setWindow 26 = .ok (.aload_n 0, 1) := by decide +kernel
theorem dX11_setWindow_27 : decode cX11_setWindow 27 = .ok (.getfield 52, 3) := by decide +kernel
theorem dX11_setWindow_30 : decode cX11_setWindow 30 = .ok (.aload_n 0, 1) := by decide +kernel
theorem dX11_setWindow_31 : decode cX11_setWindow 31 = .ok (.getfield 7, 3) := by decide +kernel
theorem dX11_setWindow_34 : decode cX11_setWindow 34 = .ok (.sipush 1393, 3) := by decide +kernel
theorem dX11_setWindow_37 : decode cX11_setWindow 37 = .ok (.iaload, 1) := by decide +kernel
theorem dX11_setWindow_38 : decode cX11_setWindow 38 = .ok (.isub, 1) := by decide +kernel
theorem dX11_setWindow_39 : decode cX11_setWindow 39 = .ok (.iconst 4, 1) := by decide +kernel
theorem dX11_setWindow_40 : decode cX11_setWindow 40 = .ok (.imul, 1) := by decide +kernel
theorem dX11_setWindow_41 : decode cX11_setWindow 41 = .ok (.iconst 5, 1) := by decide +kernel
theorem dX11_setWindow_42 : decode cX11_setWindow 42 = .ok (.idiv, 1) := by decide +kernel
theorem dX11_setWindow_43 : decode cX11_setWindow 43 = .ok (.iastore, 1) := by decide +kernel
theorem dX11_setWindow_44 : decode cX11_setWindow 44 = .ok (.return_, 1) := by decide +kernel
theorem dX11_forgetTimes_0 : decode cX11_forgetTimes 0 = .ok (.iconst 0, 1) := by decide +kernel
theorem dX11_forgetTimes_1 : decode cX11_forgetTimes 1 = .ok (.istore_n 1, 1) := by decide +kernel
theorem dX11_forgetTimes_2 : decode cX11_forgetTimes 2 = .ok (.iload_n 1, 1) := by decide +kernel
theorem dX11_forgetTimes_3 : decode cX11_forgetTimes 3 = .ok (.bipush 100, 2) := by decide +kernel
theorem dX11_forgetTimes_5 : decode cX11_forgetTimes 5 = .ok (.if_icmp .ge 20, 3) := by decide +kernel
theorem dX11_forgetTimes_8 : decode cX11_forgetTimes 8 = .ok (.aload_n 0, 1) := by decide +kernel
theorem dX11_forgetTimes_9 : decode cX11_forgetTimes 9 = .ok (.getfield 7, 3) := by decide +kernel
theorem dX11_forgetTimes_12 : decode cX11_forgetTimes 12 = .ok (.sipush 1705, 3) := by decide +kernel
theorem dX11_forgetTimes_15 : decode cX11_forgetTimes 15 = .ok (.iload_n 1, 1) := by decide +kernel
theorem dX11_forgetTimes_16 : decode cX11_forgetTimes 16 = .ok (.iadd, 1) := by decide +kernel
theorem dX11_forgetTimes_17 : decode cX11_forgetTimes 17 = .ok (.iconst 0, 1) := by decide +kernel
theorem dX11_forgetTimes_18 : decode cX11_forgetTimes 18 = .ok (.iastore, 1) := by decide +kernel
theorem dX11_forgetTimes_19 : decode cX11_forgetTimes 19 = .ok (.iinc 1 1, 3) := by decide +kernel
theorem dX11_forgetTimes_22 : decode cX11_forgetTimes 22 = .ok (.goto (-20), 3) := by decide +kernel
theorem dX11_forgetTimes_25 : decode cX11_forgetTimes 25 = .ok (.return_, 1) := by decide +kernel
theorem dX11_place_0 : decode cX11_place 0 = .ok (.iload_n 1, 1) := by decide +kernel
theorem dX11_place_1 : decode cX11_place 1 = .ok (.iconst 0, 1) := by decide +kernel
theorem dX11_place_2 : decode cX11_place 2 = .ok (.aload_n 0, 1) := by decide +kernel
theorem dX11_place_3 : decode cX11_place 3 = .ok (.getfield 48, 3) := by decide +kernel
theorem dX11_place_6 : decode cX11_place 6 = .ok (.iconst 1, 1) := by decide +kernel
theorem dX11_place_7 : decode cX11_place 7 = .ok (.isub, 1) := by decide +kernel
theorem dX11_place_8 : decode cX11_place 8 = .ok (.invokestatic 59, 3) := by decide +kernel
theorem dX11_place_11 : decode cX11_place 11 = .ok (.ifCond .eq 20, 3) := by decide +kernel
theorem dX11_place_14 : decode cX11_place 14 = .ok (.iload_n 2, 1) := by decide +kernel
theorem dX11_place_15 : decode cX11_place 15 = .ok (.invokestatic 63, 3) := by decide +kernel
theorem dX11_place_18 : decode cX11_place 18 = .ok (.ifCond .eq 13, 3) := by decide +kernel
theorem dX11_place_21 : decode cX11_place 21 = .ok (.iload_n 3, 1) := by decide +kernel
theorem dX11_place_22 : decode cX11_place 22 = .ok (.iconst 0, 1) := by decide +kernel
theorem dX11_place_23 : decode cX11_place 23 = .ok (.bipush 63, 2) := by decide +kernel
theorem dX11_place_25 : decode cX11_place 25 = .ok (.invokestatic 59, 3) := by decide +kernel
theorem dX11_place_28 : decode cX11_place 28 = .ok (.ifCond .ne 6, 3) := by decide +kernel
theorem dX11_place_31 : decode cX11_place 31 = .ok (.bipush (-2), 2) := by decide +kernel
theorem dX11_place_33 : decode cX11_place 33 = .ok (.ireturn, 1) := by decide +kernel
theorem dX11_place_34 : decode cX11_place 34 = .ok (.aload_n 0, 1) := by decide +kernel
theorem dX11_place_35 : decode cX11_place 35 = .ok (.getfield 7, 3) := by decide +kernel
theorem dX11_place_38 : decode cX11_place 38 = .ok (.iconst 0, 1) := by decide +kernel
theorem dX11_place_39 : decode cX11_place 39 = .ok (.bipush 100, 2) := by decide +kernel
theorem dX11_place_41 : decode cX11_place 41 = .ok (.iload_n 1, 1) := by decide +kernel
theorem dX11_place_42 : decode cX11_place 42 = .ok (.imul, 1) := by decide +kernel
theorem dX11_place_43 : decode cX11_place 43 = .ok (.iadd, 1) := by decide +kernel
theorem dX11_place_44 : decode cX11_place 44 = .ok (.iload_n 2, 1) := by decide +kernel
theorem dX11_place_45 : decode cX11_place 45 = .ok (.iadd, 1) := by decide +kernel
theorem dX11_place_46 : decode cX11_place 46 = .ok (.iaload, 1) := by decide +kernel
theorem dX11_place_47 : decode cX11_place 47 = .ok (.istore 4, 2) := by decide +kernel
theorem dX11_place_49 : decode cX11_place 49 = .ok (.aload_n 0, 1) := by decide +kernel
theorem dX11_place_50 : decode cX11_place 50 = .ok (.getfield 7, 3) := by decide +kernel
theorem dX11_place_53 : decode cX11_place 53 = .ok (.iconst 0, 1) := by decide +kernel
theorem dX11_place_54 : decode cX11_place 54 = .ok (.bipush 100, 2) := by decide +kernel
theorem dX11_place_56 : decode cX11_place 56 = .ok (.iload_n 1, 1) := by decide +kernel
theorem dX11_place_57 : decode cX11_place 57 = .ok (.imul, 1) := by decide +kernel
theorem dX11_place_58 : decode cX11_place 58 = .ok (.iadd, 1) := by decide +kernel
theorem dX11_place_59 : decode cX11_place 59 = .ok (.iload_n 2, 1) := by decide +kernel
theorem dX11_place_60 : decode cX11_place 60 = .ok (.iadd, 1) := by decide +kernel
theorem dX11_place_61 : decode cX11_place 61 = .ok (.iload_n 3, 1) := by decide +kernel
theorem dX11_place_62 : decode cX11_place 62 = .ok (.iastore, 1) := by decide +kernel
theorem dX11_place_63 : decode cX11_place 63 = .ok (.aload_n 0, 1) := by decide +kernel
theorem dX11_place_64 : decode cX11_place 64 = .ok (.invokevirtual 67, 3) := by decide +kernel
theorem dX11_place_67 : decode cX11_place 67 = .ok (.iload 4, 2) := by decide +kernel
theorem dX11_place_69 : decode cX11_place 69 = .ok (.ireturn, 1) := by decide +kernel
theorem dX11_door_0 : decode cX11_door 0 = .ok (.iload_n 1, 1) := by decide +kernel
theorem dX11_door_1 : decode cX11_door 1 = .ok (.iconst 0, 1) := by decide +kernel
theorem dX11_door_2 : decode cX11_door 2 = .ok (.iconst 1, 1) := by decide +kernel
theorem dX11_door_3 : decode cX11_door 3 = .ok (.invokestatic 59, 3) := by decide +kernel
theorem dX11_door_6 : decode cX11_door 6 = .ok (.ifCond .eq 20, 3) := by decide +kernel
theorem dX11_door_9 : decode cX11_door 9 = .ok (.iload_n 2, 1) := by decide +kernel
theorem dX11_door_10 : decode cX11_door 10 = .ok (.invokestatic 63, 3) := by decide +kernel
theorem dX11_door_13 : decode cX11_door 13 = .ok (.ifCond .eq 13, 3) := by decide +kernel
theorem dX11_door_16 : decode cX11_door 16 = .ok (.iload_n 3, 1) := by decide +kernel
theorem dX11_door_17 : decode cX11_door 17 = .ok (.iconst 0, 1) := by decide +kernel
theorem dX11_door_18 : decode cX11_door 18 = .ok (.bipush 127, 2) := by decide +kernel
theorem dX11_door_20 : decode cX11_door 20 = .ok (.invokestatic 59, 3) := by decide +kernel
theorem dX11_door_23 : decode cX11_door 23 = .ok (.ifCond .ne 6, 3) := by decide +kernel
theorem dX11_door_26 : decode cX11_door 26 = .ok (.bipush (-2), 2) := by decide +kernel
theorem dX11_door_28 : decode cX11_door 28 = .ok (.ireturn, 1) := by decide +kernel
theorem dX11_door_29 : decode cX11_door 29 = .ok (.aload_n 0, 1) := by decide +kernel
theorem dX11_door_30 : decode cX11_door 30 = .ok (.getfield 7, 3) := by decide +kernel
theorem dX11_door_33 : decode cX11_door 33 = .ok (.sipush 400, 3) := by decide +kernel
theorem dX11_door_36 : decode cX11_door 36 = .ok (.bipush 100, 2) := by decide +kernel
theorem dX11_door_38 : decode cX11_door 38 = .ok (.iload_n 1, 1) := by decide +kernel
theorem dX11_door_39 : decode cX11_door 39 = .ok (.imul, 1) := by decide +kernel
theorem dX11_door_40 : decode cX11_door 40 = .ok (.iadd, 1) := by decide +kernel
theorem dX11_door_41 : decode cX11_door 41 = .ok (.iload_n 2, 1) := by decide +kernel
theorem dX11_door_42 : decode cX11_door 42 = .ok (.iadd, 1) := by decide +kernel
theorem dX11_door_43 : decode cX11_door 43 = .ok (.iaload, 1) := by decide +kernel
theorem dX11_door_44 : decode cX11_door 44 = .ok (.istore 4, 2) := by decide +kernel
theorem dX11_door_46 : decode cX11_door 46 = .ok (.aload_n 0, 1) := by decide +kernel
theorem dX11_door_47 : decode cX11_door 47 = .ok (.getfield 7, 3) := by decide +kernel
theorem dX11_door_50 : decode cX11_door 50 = .ok (.sipush 400, 3) := by decide +kernel
theorem dX11_door_53 : decode cX11_door 53 = .ok (.bipush 100, 2) := by decide +kernel
theorem dX11_door_55 : decode cX11_door 55 = .ok (.iload_n 1, 1) := by decide +kernel
theorem dX11_door_56 : decode cX11_door 56 = .ok (.imul, 1) := by decide +kernel
theorem dX11_door_57 : decode cX11_door 57 = .ok (.iadd, 1) := by decide +kernel
theorem dX11_door_58 : decode cX11_door 58 = .ok (.iload_n 2, 1) := by decide +kernel
theorem dX11_door_59 : decode cX11_door 59 = .ok (.iadd, 1) := by decide +kernel
theorem dX11_door_60 : decode cX11_door 60 = .ok (.iload_n 3, 1) := by decide +kernel
theorem dX11_door_61 : decode cX11_door 61 = .ok (.iastore, 1) := by decide +kernel
theorem dX11_door_62 : decode cX11_door 62 = .ok (.aload_n 0, 1) := by decide +kernel
theorem dX11_door_63 : decode cX11_door 63 = .ok (.invokevirtual 67, 3) := by decide +kernel
theorem dX11_door_66 : decode cX11_door 66 = .ok (.iload 4, 2) := by decide +kernel
theorem dX11_door_68 : decode cX11_door 68 = .ok (.ireturn, 1) := by decide +kernel
theorem dX11_rule_0 : decode cX11_rule 0 = .ok (.iload_n 1, 1) := by decide +kernel
theorem dX11_rule_1 : decode cX11_rule 1 = .ok (.tableswitch 95 0 5 #[39, 39, 49, 62, 72, 83], 39) := by decide +kernel
theorem dX11_rule_40 : decode cX11_rule 40 = .ok (.iload_n 2, 1) := by decide +kernel
theorem dX11_rule_41 : decode cX11_rule 41 = .ok (.iconst 0, 1) := by decide +kernel
theorem dX11_rule_42 : decode cX11_rule 42 = .ok (.iconst 1, 1) := by decide +kernel
theorem dX11_rule_43 : decode cX11_rule 43 = .ok (.invokestatic 59, 3) := by decide +kernel
theorem dX11_rule_46 : decode cX11_rule 46 = .ok (.istore_n 3, 1) := by decide +kernel
theorem dX11_rule_47 : decode cX11_rule 47 = .ok (.goto 51, 3) := by decide +kernel
theorem dX11_rule_50 : decode cX11_rule 50 = .ok (.iload_n 2, 1) := by decide +kernel
theorem dX11_rule_51 : decode cX11_rule 51 = .ok (.bipush 10, 2) := by decide +kernel
theorem dX11_rule_53 : decode cX11_rule 53 = .ok (.sipush 1000, 3) := by decide +kernel
theorem dX11_rule_56 : decode cX11_rule 56 = .ok (.invokestatic 59, 3) := by decide +kernel
theorem dX11_rule_59 : decode cX11_rule 59 = .ok (.istore_n 3, 1) := by decide +kernel
theorem dX11_rule_60 : decode cX11_rule 60 = .ok (.goto 38, 3) := by decide +kernel
theorem dX11_rule_63 : decode cX11_rule 63 = .ok (.iload_n 2, 1) := by decide +kernel
theorem dX11_rule_64 : decode cX11_rule 64 = .ok (.iconst 0, 1) := by decide +kernel
theorem dX11_rule_65 : decode cX11_rule 65 = .ok (.iconst 2, 1) := by decide +kernel
theorem dX11_rule_66 : decode cX11_rule 66 = .ok (.invokestatic 59, 3) := by decide +kernel
theorem dX11_rule_69 : decode cX11_rule 69 = .ok (.istore_n 3, 1) := by decide +kernel
theorem dX11_rule_70 : decode cX11_rule 70 = .ok (.goto 28, 3) := by decide +kernel
theorem dX11_rule_73 : decode cX11_rule 73 = .ok (.iload_n 2, 1) := by decide +kernel
theorem dX11_rule_74 : decode cX11_rule 74 = .ok (.iconst 0, 1) := by decide +kernel
theorem dX11_rule_75 : decode cX11_rule 75 = .ok (.bipush 20, 2) := by decide +kernel
theorem dX11_rule_77 : decode cX11_rule 77 = .ok (.invokestatic 59, 3) := by decide +kernel
theorem dX11_rule_80 : decode cX11_rule 80 = .ok (.istore_n 3, 1) := by decide +kernel
theorem dX11_rule_81 : decode cX11_rule 81 = .ok (.goto 17, 3) := by decide +kernel
theorem dX11_rule_84 : decode cX11_rule 84 = .ok (.iload_n 2, 1) := by decide +kernel
theorem dX11_rule_85 : decode cX11_rule 85 = .ok (.iconst 5, 1) := by decide +kernel
theorem dX11_rule_86 : decode cX11_rule 86 = .ok (.sipush 500, 3) := by decide +kernel
theorem dX11_rule_89 : decode cX11_rule 89 = .ok (.invokestatic 59, 3) := by decide +kernel
theorem dX11_rule_92 : decode cX11_rule 92 = .ok (.istore_n 3, 1) := by decide +kernel
theorem dX11_rule_93 : decode cX11_rule 93 = .ok (.goto 5, 3) := by decide +kernel
theorem dX11_rule_96 : decode cX11_rule 96 = .ok (.iconst 0, 1) := by decide +kernel
theorem dX11_rule_97 : decode cX11_rule 97 = .ok (.istore_n 3, 1) := by decide +kernel
theorem dX11_rule_98 : decode cX11_rule 98 = .ok (.iload_n 3, 1) := by decide +kernel
theorem dX11_rule_99 : decode cX11_rule 99 = .ok (.ifCond .ne 6, 3) := by decide +kernel
theorem dX11_rule_102 : decode cX11_rule 102 = .ok (.bipush (-2), 2) := by decide +kernel
theorem dX11_rule_104 : decode cX11_rule 104 = .ok (.ireturn, 1) := by decide +kernel
theorem dX11_rule_105 : decode cX11_rule 105 = .ok (.aload_n 0, 1) := by decide +kernel
theorem dX11_rule_106 : decode cX11_rule 106 = .ok (.getfield 7, 3) := by decide +kernel
theorem dX11_rule_109 : decode cX11_rule 109 = .ok (.sipush 600, 3) := by decide +kernel
theorem dX11_rule_112 : decode cX11_rule 112 = .ok (.iload_n 1, 1) := by decide +kernel
theorem dX11_rule_113 : decode cX11_rule 113 = .ok (.iadd, 1) := by decide +kernel
theorem dX11_rule_114 : decode cX11_rule 114 = .ok (.iaload, 1) := by decide +kernel
theorem dX11_rule_115 : decode cX11_rule 115 = .ok (.istore 4, 2) := by decide +kernel
theorem dX11_rule_117 : decode cX11_rule 117 = .ok (.aload_n 0, 1) := by decide +kernel
theorem dX11_rule_118 : decode cX11_rule 118 = .ok (.getfield 7, 3) := by decide +kernel
theorem dX11_rule_121 : decode cX11_rule 121 = .ok (.sipush 600, 3) := by decide +kernel
theorem dX11_rule_124 : decode cX11_rule 124 = .ok (.iload_n 1, 1) := by decide +kernel
theorem dX11_rule_125 : decode cX11_rule 125 = .ok (.iadd, 1) := by decide +kernel
theorem dX11_rule_126 : decode cX11_rule 126 = .ok (.iload_n 2, 1) := by decide +kernel
theorem dX11_rule_127 : decode cX11_rule 127 = .ok (.iastore, 1) := by decide +kernel
theorem dX11_rule_128 : decode cX11_rule 128 = .ok (.iload_n 1, 1) := by decide +kernel
theorem dX11_rule_129 : decode cX11_rule 129 = .ok (.iconst 2, 1) := by decide +kernel
theorem dX11_rule_130 : decode cX11_rule 130 = .ok (.if_icmp .ge 7, 3) := by decide +kernel
theorem dX11_rule_133 : decode cX11_rule 133 = .ok (.aload_n 0, 1) := by decide +kernel
theorem dX11_rule_134 : decode cX11_rule 134 = .ok (.invokevirtual 67, 3) := by decide +kernel
theorem dX11_rule_137 : decode cX11_rule 137 = .ok (.iload_n 1, 1) := by decide +kernel
theorem dX11_rule_138 : decode cX11_rule 138 = .ok (.iconst 3, 1) := by decide +kernel
theorem dX11_rule_139 : decode cX11_rule 139 = .ok (.if_icmp .le 30, 3) := by decide +kernel
theorem dX11_rule_142 : decode cX11_rule 142 = .ok (.aload_n 0, 1) := by decide +kernel
theorem dX11_rule_143 : decode cX11_rule 143 = .ok (.getfield 7, 3) := by decide +kernel
theorem dX11_rule_146 : decode cX11_rule 146 = .ok (.sipush 1402, 3) := by decide +kernel
theorem dX11_rule_149 : decode cX11_rule 149 = .ok (.iconst 0, 1) := by decide +kernel
theorem dX11_rule_150 : decode cX11_rule 150 = .ok (.iastore, 1) := by decide +kernel
theorem dX11_rule_151 : decode cX11_rule 151 = .ok (.aload_n 0, 1) := by decide +kernel
theorem dX11_rule_152 : decode cX11_rule 152 = .ok (.getfield 7, 3) := by decide +kernel
theorem dX11_rule_155 : decode cX11_rule 155 = .ok (.sipush 1401, 3) := by decide +kernel
theorem dX11_rule_158 : decode cX11_rule 158 = .ok (.iconst 0, 1) := by decide +kernel
theorem dX11_rule_159 : decode cX11_rule 159 = .ok (.iastore, 1) := by decide +kernel
theorem dX11_rule_160 : decode cX11_rule 160 = .ok (.aload_n 0, 1) := by decide +kernel
theorem dX11_rule_161 : decode cX11_rule 161 = .ok (.getfield 7, 3) := by decide +kernel
theorem dX11_rule_164 : decode cX11_rule 164 = .ok (.sipush 1403, 3) := by decide +kernel
theorem dX11_rule_167 : decode cX11_rule 167 = .ok (.iconst 0, 1) := by decide +kernel
theorem dX11_rule_168 : decode cX11_rule 168 = .ok (.iastore, 1) := by decide +kernel
theorem dX11_rule_169 : decode cX11_rule 169 = .ok (.iload 4, 2) := by decide +kernel
theorem dX11_rule_171 : decode cX11_rule 171 = .ok (.ireturn, 1) := by decide +kernel
theorem dX11_size_0 : decode cX11_size 0 = .ok (.iload_n 1, 1) := by decide +kernel
theorem dX11_size_1 : decode cX11_size 1 = .ok (.invokestatic 63, 3) := by decide +kernel
theorem dX11_size_4 : decode cX11_size 4 = .ok (.ifCond .eq 13, 3) := by decide +kernel
theorem dX11_size_7 : decode cX11_size 7 = .ok (.iload_n 2, 1) := by decide +kernel
theorem dX11_size_8 : decode cX11_size 8 = .ok (.iconst 1, 1) := by decide +kernel
theorem dX11_size_9 : decode cX11_size 9 = .ok (.bipush 20, 2) := by decide +kernel
theorem dX11_size_11 : decode cX11_size 11 = .ok (.invokestatic 59, 3) := by decide +kernel
theorem dX11_size_14 : decode cX11_size 14 = .ok (.ifCond .ne 6, 3) := by decide +kernel
theorem dX11_size_17 : decode cX11_size 17 = .ok (.bipush (-2), 2) := by decide +kernel
theorem dX11_size_19 : decode cX11_size 19 = .ok (.ireturn, 1) := by decide +kernel
theorem dX11_size_20 : decode cX11_size 20 = .ok (.aload_n 0, 1) := by decide +kernel
theorem dX11_size_21 : decode cX11_size 21 = .ok (.iload_n 1, 1) := by decide +kernel
theorem dX11_size_22 : decode cX11_size 22 = .ok (.invokevirtual 70, 3) := by decide +kernel
theorem dX11_size_25 : decode cX11_size 25 = .ok (.ifCond .lt 6, 3) := by decide +kernel
theorem dX11_size_28 : decode cX11_size 28 = .ok (.bipush (-3), 2) := by decide +kernel
theorem dX11_size_30 : decode cX11_size 30 = .ok (.ireturn, 1) := by decide +kernel
theorem dX11_size_31 : decode cX11_size 31 = .ok (.aload_n 0, 1) := by decide +kernel
theorem dX11_size_32 : decode cX11_size 32 = .ok (.getfield 7, 3) := by decide +kernel
theorem dX11_size_35 : decode cX11_size 35 = .ok (.sipush 990, 3) := by decide +kernel
theorem dX11_size_38 : decode cX11_size 38 = .ok (.iload_n 1, 1) := by decide +kernel
theorem dX11_size_39 : decode cX11_size 39 = .ok (.iadd, 1) := by decide +kernel
theorem dX11_size_40 : decode cX11_size 40 = .ok (.iaload, 1) := by decide +kernel
theorem dX11_size_41 : decode cX11_size 41 = .ok (.istore_n 3, 1) := by decide +kernel
theorem dX11_size_42 : decode cX11_size 42 = .ok (.aload_n 0, 1) := by decide +kernel
theorem dX11_size_43 : decode cX11_size 43 = .ok (.getfield 7, 3) := by decide +kernel
theorem dX11_size_46 : decode cX11_size 46 = .ok (.sipush 990, 3) := by decide +kernel
theorem dX11_size_49 : decode cX11_size 49 = .ok (.iload_n 1, 1) := by decide +kernel
theorem dX11_size_50 : decode cX11_size 50 = .ok (.iadd, 1) := by decide +kernel
theorem dX11_size_51 : decode cX11_size 51 = .ok (.iload_n 2, 1) := by decide +kernel
theorem dX11_size_52 : decode cX11_size 52 = .ok (.iastore, 1) := by decide +kernel
theorem dX11_size_53 : decode cX11_size 53 = .ok (.iload_n 3, 1) := by decide +kernel
theorem dX11_size_54 : decode cX11_size 54 = .ok (.ireturn, 1) := by decide +kernel
theorem dX11_cell_0 : decode cX11_cell 0 = .ok (.sipush 606, 3) := by decide +kernel
theorem dX11_cell_3 : decode cX11_cell 3 = .ok (.bipush 64, 2) := by decide +kernel
theorem dX11_cell_5 : decode cX11_cell 5 = .ok (.iload_n 1, 1) := by decide +kernel
theorem dX11_cell_6 : decode cX11_cell 6 = .ok (.imul, 1) := by decide +kernel
theorem dX11_cell_7 : decode cX11_cell 7 = .ok (.iadd, 1) := by decide +kernel
theorem dX11_cell_8 : decode cX11_cell 8 = .ok (.aload_n 0, 1) := by decide +kernel
theorem dX11_cell_9 : decode cX11_cell 9 = .ok (.getfield 7, 3) := by decide +kernel
theorem dX11_cell_12 : decode cX11_cell 12 = .ok (.iconst 0, 1) := by decide +kernel
theorem dX11_cell_13 : decode cX11_cell 13 = .ok (.bipush 100, 2) := by decide +kernel
theorem dX11_cell_15 : decode cX11_cell 15 = .ok (.iload_n 1, 1) := by decide +kernel
theorem dX11_cell_16 : decode cX11_cell 16 = .ok (.imul, 1) := by decide +kernel
theorem dX11_cell_17 : decode cX11_cell 17 = .ok (.iadd, 1) := by decide +kernel
theorem dX11_cell_18 : decode cX11_cell 18 = .ok (.iload_n 2, 1) := by decide +kernel
theorem dX11_cell_19 : decode cX11_cell 19 = .ok (.iadd, 1) := by decide +kernel
theorem dX11_cell_20 : decode cX11_cell 20 = .ok (.iaload, 1) := by decide +kernel
theorem dX11_cell_21 : decode cX11_cell 21 = .ok (.iadd, 1) := by decide +kernel
theorem dX11_cell_22 : decode cX11_cell 22 = .ok (.ireturn, 1) := by decide +kernel
theorem dX11_isThrough_0 : decode cX11_isThrough 0 = .ok (.aload_n 0, 1) := by decide +kernel
theorem dX11_isThrough_1 : decode cX11_isThrough 1 = .ok (.getfield 7, 3) := by decide +kernel
theorem dX11_isThrough_4 : decode cX11_isThrough 4 = .ok (.sipush 862, 3) := by decide +kernel
theorem dX11_isThrough_7 : decode cX11_isThrough 7 = .ok (.aload_n 0, 1) := by decide +kernel
theorem dX11_isThrough_8 : decode cX11_isThrough 8 = .ok (.getfield 7, 3) := by decide +kernel
theorem dX11_isThrough_11 : decode cX11_isThrough 11 = .ok (.sipush 400, 3) := by decide +kernel
theorem dX11_isThrough_14 : decode cX11_isThrough 14 = .ok (.iload_n 1, 1) := by decide +kernel
theorem dX11_isThrough_15 : decode cX11_isThrough 15 = .ok (.iadd, 1) := by decide +kernel
theorem dX11_isThrough_16 : decode cX11_isThrough 16 = .ok (.iaload, 1) := by decide +kernel
theorem dX11_isThrough_17 : decode cX11_isThrough 17 = .ok (.iadd, 1) := by decide +kernel
theorem dX11_isThrough_18 : decode cX11_isThrough 18 = .ok (.iaload, 1) := by decide +kernel
theorem dX11_isThrough_19 : decode cX11_isThrough 19 = .ok (.iconst 1, 1) := by decide +kernel
theorem dX11_isThrough_20 : decode cX11_isThrough 20 = .ok (.if_icmp .ne 30, 3) := by decide +kernel
theorem dX11_isThrough_23 : decode cX11_isThrough 23 = .ok (.aload_n 0, 1) := by decide +kernel
theorem dX11_isThrough_24 : decode cX11_isThrough 24 = .ok (.getfield 7, 3) := by decide +kernel
theorem dX11_isThrough_27 : decode cX11_isThrough 27 = .ok (.sipush 862, 3) := by decide +kernel
theorem dX11_isThrough_30 : decode cX11_isThrough 30 = .ok (.aload_n 0, 1) := by decide +kernel
theorem dX11_isThrough_31 : decode cX11_isThrough 31 = .ok (.getfield 7, 3) := by decide +kernel
theorem dX11_isThrough_34 : decode cX11_isThrough 34 = .ok (.sipush 500, 3) := by decide +kernel
theorem dX11_isThrough_37 : decode cX11_isThrough 37 = .ok (.iload_n 1, 1) := by decide +kernel
theorem dX11_isThrough_38 : decode cX11_isThrough 38 = .ok (.iadd, 1) := by decide +kernel
theorem dX11_isThrough_39 : decode cX11_isThrough 39 = .ok (.iaload, 1) := by decide +kernel
theorem dX11_isThrough_40 : decode cX11_isThrough 40 = .ok (.iadd, 1) := by decide +kernel
theorem dX11_isThrough_41 : decode cX11_isThrough 41 = .ok (.iaload, 1) := by decide +kernel
theorem dX11_isThrough_42 : decode cX11_isThrough 42 = .ok (.iconst 1, 1) := by decide +kernel
theorem dX11_isThrough_43 : decode cX11_isThrough 43 = .ok (.if_icmp .ne 7, 3) := by decide +kernel
theorem dX11_isThrough_46 : decode cX11_isThrough 46 = .ok (.iconst 1, 1) := by decide +kernel
theorem dX11_isThrough_47 : decode cX11_isThrough 47 = .ok (.goto 4, 3) := by decide +kernel
theorem dX11_isThrough_50 : decode cX11_isThrough 50 = .ok (.iconst 0, 1) := by decide +kernel
theorem dX11_isThrough_51 : decode cX11_isThrough 51 = .ok (.ireturn, 1) := by decide +kernel
theorem dX11_smallest_0 : decode cX11_smallest 0 = .ok (.bipush 99, 2) := by decide +kernel
theorem dX11_smallest_2 : decode cX11_smallest 2 = .ok (.istore_n 2, 1) := by decide +kernel
theorem dX11_smallest_3 : decode cX11_smallest 3 = .ok (.iconst 0, 1) := by decide +kernel
theorem dX11_smallest_4 : decode cX11_smallest 4 = .ok (.istore_n 3, 1) := by decide +kernel
theorem dX11_smallest_5 : decode cX11_smallest 5 = .ok (.iload_n 3, 1) := by decide +kernel
theorem dX11_smallest_6 : decode cX11_smallest 6 = .ok (.aload_n 0, 1) := by decide +kernel
theorem dX11_smallest_7 : decode cX11_smallest 7 = .ok (.getfield 48, 3) := by decide +kernel
theorem dX11_smallest_10 : decode cX11_smallest 10 = .ok (.if_icmp .ge 40, 3) := by decide +kernel
theorem dX11_smallest_13 : decode cX11_smallest 13 = .ok (.aload_n 0, 1) := by decide +kernel
theorem dX11_smallest_14 : decode cX11_smallest 14 = .ok (.getfield 7, 3) := by decide +kernel
theorem dX11_smallest_17 : decode cX11_smallest 17 = .ok (.aload_n 0, 1) := by decide +kernel
theorem dX11_smallest_18 : decode cX11_smallest 18 = .ok (.iload_n 3, 1) := by decide +kernel
theorem dX11_smallest_19 : decode cX11_smallest 19 = .ok (.iload_n 1, 1) := by decide +kernel
theorem dX11_smallest_20 : decode cX11_smallest 20 = .ok (.invokevirtual 74, 3) := by decide +kernel
theorem dX11_smallest_23 : decode cX11_smallest 23 = .ok (.iaload, 1) := by decide +kernel
theorem dX11_smallest_24 : decode cX11_smallest 24 = .ok (.iload_n 2, 1) := by decide +kernel
theorem dX11_smallest_25 : decode cX11_smallest 25 = .ok (.if_icmp .ge 17, 3) := by decide +kernel
theorem dX11_smallest_28 : decode cX11_smallest 28 = .ok (.aload_n 0, 1) := by decide +kernel
theorem dX11_smallest_29 : decode cX11_smallest 29 = .ok (.getfield 7, 3) := by decide +kernel
theorem dX11_smallest_32 : decode cX11_smallest 32 = .ok (.aload_n 0, 1) := by decide +kernel
theorem dX11_smallest_33 : decode cX11_smallest 33 = .ok (.iload_n 3, 1) := by decide +kernel
theorem dX11_smallest_34 : decode cX11_smallest 34 = .ok (.iload_n 1, 1) := by decide +kernel
theorem dX11_smallest_35 : decode cX11_smallest 35 = .ok (.invokevirtual 74, 3) := by decide +kernel
theorem dX11_smallest_38 : decode cX11_smallest 38 = .ok (.iaload, 1) := by decide +kernel
theorem dX11_smallest_39 : decode cX11_smallest 39 = .ok (.goto 4, 3) := by decide +kernel
theorem dX11_smallest_42 : decode cX11_smallest 42 = .ok (.iload_n 2, 1) := by decide +kernel
theorem dX11_smallest_43 : decode cX11_smallest 43 = .ok (.istore_n 2, 1) := by decide +kernel
theorem dX11_smallest_44 : decode cX11_smallest 44 = .ok (.iinc 3 1, 3) := by decide +kernel
theorem dX11_smallest_47 : decode cX11_smallest 47 = .ok (.goto (-42), 3) := by decide +kernel
theorem dX11_smallest_50 : decode cX11_smallest 50 = .ok (.iload_n 2, 1) := by decide +kernel
theorem dX11_smallest_51 : decode cX11_smallest 51 = .ok (.ireturn, 1) := by decide +kernel
theorem dX11_estimated_0 : decode cX11_estimated 0 = .ok (.aload_n 0, 1) := by decide +kernel
theorem dX11_estimated_1 : decode cX11_estimated 1 = .ok (.iload_n 1, 1) := by decide +kernel
theorem dX11_estimated_2 : decode cX11_estimated 2 = .ok (.invokevirtual 78, 3) := by decide +kernel
theorem dX11_estimated_5 : decode cX11_estimated 5 = .ok (.aload_n 0, 1) := by decide +kernel
theorem dX11_estimated_6 : decode cX11_estimated 6 = .ok (.getfield 7, 3) := by decide +kernel
theorem dX11_estimated_9 : decode cX11_estimated 9 = .ok (.sipush 600, 3) := by decide +kernel
theorem dX11_estimated_12 : decode cX11_estimated 12 = .ok (.iaload, 1) := by decide +kernel
theorem dX11_estimated_13 : decode cX11_estimated 13 = .ok (.iconst 1, 1) := by decide +kernel
theorem dX11_estimated_14 : decode cX11_estimated 14 = .ok (.if_icmp .ne 15, 3) := by decide +kernel
theorem dX11_estimated_17 : decode cX11_estimated 17 = .ok (.aload_n 0, 1) := by decide +kernel
theorem dX11_estimated_18 : decode cX11_estimated 18 = .ok (.iload_n 1, 1) := by decide +kernel
theorem dX11_estimated_19 : decode cX11_estimated 19 = .ok (.invokevirtual 81, 3) := by decide +kernel
theorem dX11_estimated_22 : decode cX11_estimated 22 = .ok (.ifCond .eq 7, 3) := by decide +kernel
theorem dX11_estimated_25 : decode cX11_estimated 25 = .ok (.iconst 1, 1) := by decide +kernel
theorem dX11_estimated_26 : decode cX11_estimated 26 = .ok (.goto 4, 3) := by decide +kernel
theorem dX11_estimated_29 : decode cX11_estimated 29 = .ok (.iconst 0, 1) := by decide +kernel
theorem dX11_estimated_30 : decode cX11_estimated 30 = .ok (.iadd, 1) := by decide +kernel
theorem dX11_estimated_31 : decode cX11_estimated 31 = .ok (.ireturn, 1) := by decide +kernel
theorem dX11_count_0 : decode cX11_count 0 = .ok (.aload_n 0, 1) := by decide +kernel
theorem dX11_count_1 : decode cX11_count 1 = .ok (.getfield 7, 3) := by decide +kernel
theorem dX11_count_4 : decode cX11_count 4 = .ok (.sipush 1395, 3) := by decide +kernel
theorem dX11_count_7 : decode cX11_count 7 = .ok (.dup2, 1) := by decide +kernel
theorem dX11_count_8 : decode cX11_count 8 = .ok (.iaload, 1) := by decide +kernel
theorem dX11_count_9 : decode cX11_count 9 = .ok (.iconst 1, 1) := by decide +kernel
theorem dX11_count_10 : decode cX11_count 10 = .ok (.iadd, 1) := by decide +kernel
theorem dX11_count_11 : decode cX11_count 11 = .ok (.iastore, 1) := by decide +kernel
theorem dX11_count_12 : decode cX11_count 12 = .ok (.aload_n 0, 1) := by decide +kernel
theorem dX11_count_13 : decode cX11_count 13 = .ok (.getfield 7, 3) := by decide +kernel
theorem dX11_count_16 : decode cX11_count 16 = .ok (.sipush 1705, 3) := by decide +kernel
theorem dX11_count_19 : decode cX11_count 19 = .ok (.iload_n 1, 1) := by decide +kernel
theorem dX11_count_20 : decode cX11_count 20 = .ok (.iadd, 1) := by decide +kernel
theorem dX11_count_21 : decode cX11_count 21 = .ok (.dup2, 1) := by decide +kernel
theorem dX11_count_22 : decode cX11_count 22 = .ok (.iaload, 1) := by decide +kernel
theorem dX11_count_23 : decode cX11_count 23 = .ok (.iconst 1, 1) := by decide +kernel
theorem dX11_count_24 : decode cX11_count 24 = .ok (.iadd, 1) := by decide +kernel
theorem dX11_count_25 : decode cX11_count 25 = .ok (.iastore, 1) := by decide +kernel
theorem dX11_count_26 : decode cX11_count 26 = .ok (.aload_n 0, 1) := by decide +kernel
theorem dX11_count_27 : decode cX11_count 27 = .ok (.getfield 7, 3) := by decide +kernel
theorem dX11_count_30 : decode cX11_count 30 = .ok (.sipush 600, 3) := by decide +kernel
theorem dX11_count_33 : decode cX11_count 33 = .ok (.iaload, 1) := by decide +kernel
theorem dX11_count_34 : decode cX11_count 34 = .ok (.iconst 1, 1) := by decide +kernel
theorem dX11_count_35 : decode cX11_count 35 = .ok (.if_icmp .ne 54, 3) := by decide +kernel
theorem dX11_count_38 : decode cX11_count 38 = .ok (.aload_n 0, 1) := by decide +kernel
theorem dX11_count_39 : decode cX11_count 39 = .ok (.iload_n 1, 1) := by decide +kernel
theorem dX11_count_40 : decode cX11_count 40 = .ok (.invokevirtual 81, 3) := by decide +kernel
theorem dX11_count_43 : decode cX11_count 43 = .ok (.ifCond .ne 46, 3) := by decide +kernel
theorem dX11_count_46 : decode cX11_count 46 = .ok (.aload_n 0, 1) := by decide +kernel
theorem dX11_count_47 : decode cX11_count 47 = .ok (.getfield 7, 3) := by decide +kernel
theorem dX11_count_50 : decode cX11_count 50 = .ok (.sipush 862, 3) := by decide +kernel
theorem dX11_count_53 : decode cX11_count 53 = .ok (.aload_n 0, 1) := by decide +kernel
theorem dX11_count_54 : decode cX11_count 54 = .ok (.getfield 7, 3) := by decide +kernel
theorem dX11_count_57 : decode cX11_count 57 = .ok (.sipush 400, 3) := by decide +kernel
theorem dX11_count_60 : decode cX11_count 60 = .ok (.iload_n 1, 1) := by decide +kernel
theorem dX11_count_61 : decode cX11_count 61 = .ok (.iadd, 1) := by decide +kernel
theorem dX11_count_62 : decode cX11_count 62 = .ok (.iaload, 1) := by decide +kernel
theorem dX11_count_63 : decode cX11_count 63 = .ok (.iadd, 1) := by decide +kernel
theorem dX11_count_64 : decode cX11_count 64 = .ok (.iconst 1, 1) := by decide +kernel
theorem dX11_count_65 : decode cX11_count 65 = .ok (.iastore, 1) := by decide +kernel
theorem dX11_count_66 : decode cX11_count 66 = .ok (.aload_n 0, 1) := by decide +kernel
theorem dX11_count_67 : decode cX11_count 67 = .ok (.getfield 7, 3) := by decide +kernel
theorem dX11_count_70 : decode cX11_count 70 = .ok (.sipush 862, 3) := by decide +kernel
theorem dX11_count_73 : decode cX11_count 73 = .ok (.aload_n 0, 1) := by decide +kernel
theorem dX11_count_74 : decode cX11_count 74 = .ok (.getfield 7, 3) := by decide +kernel
theorem dX11_count_77 : decode cX11_count 77 = .ok (.sipush 500, 3) := by decide +kernel
theorem dX11_count_80 : decode cX11_count 80 = .ok (.iload_n 1, 1) := by decide +kernel
theorem dX11_count_81 : decode cX11_count 81 = .ok (.iadd, 1) := by decide +kernel
theorem dX11_count_82 : decode cX11_count 82 = .ok (.iaload, 1) := by decide +kernel
theorem dX11_count_83 : decode cX11_count 83 = .ok (.iadd, 1) := by decide +kernel
theorem dX11_count_84 : decode cX11_count 84 = .ok (.iconst 1, 1) := by decide +kernel
theorem dX11_count_85 : decode cX11_count 85 = .ok (.iastore, 1) := by decide +kernel
theorem dX11_count_86 : decode cX11_count 86 = .ok (.goto 78, 3) := by decide +kernel
theorem dX11_count_89 : decode cX11_count 89 = .ok (.aload_n 0, 1) := by decide +kernel
theorem dX11_count_90 : decode cX11_count 90 = .ok (.iload_n 1, 1) := by decide +kernel
theorem dX11_count_91 : decode cX11_count 91 = .ok (.invokevirtual 78, 3) := by decide +kernel
theorem dX11_count_94 : decode cX11_count 94 = .ok (.istore_n 2, 1) := by decide +kernel
theorem dX11_count_95 : decode cX11_count 95 = .ok (.iconst 0, 1) := by decide +kernel
theorem dX11_count_96 : decode cX11_count 96 = .ok (.istore_n 3, 1) := by decide +kernel
theorem dX11_count_97 : decode cX11_count 97 = .ok (.iload_n 3, 1) := by decide +kernel
theorem dX11_count_98 : decode cX11_count 98 = .ok (.aload_n 0, 1) := by decide +kernel
theorem dX11_count_99 : decode cX11_count 99 = .ok (.getfield 48, 3) := by decide +kernel
theorem dX11_count_102 : decode cX11_count 102 = .ok (.if_icmp .ge 62, 3) := by decide +kernel
theorem dX11_count_105 : decode cX11_count 105 = .ok (.aload_n 0, 1) := by decide +kernel
theorem dX11_count_106 : decode cX11_count 106 = .ok (.iload_n 3, 1) := by decide +kernel
theorem dX11_count_107 : decode cX11_count 107 = .ok (.iload_n 1, 1) := by decide +kernel
theorem dX11_count_108 : decode cX11_count 108 = .ok (.invokevirtual 74, 3) := by decide +kernel
theorem dX11_count_111 : decode cX11_count 111 = .ok (.istore 4, 2) := by decide +kernel
theorem dX11_count_113 : decode cX11_count 113 = .ok (.aload_n 0, 1) := by decide +kernel
theorem dX11_count_114 : decode cX11_count 114 = .ok (.getfield 7, 3) := by decide +kernel
theorem dX11_count_117 : decode cX11_count 117 = .ok (.iload 4, 2) := by decide +kernel
theorem dX11_count_119 : decode cX11_count 119 = .ok (.iaload, 1) := by decide +kernel
theorem dX11_count_120 : decode cX11_count 120 = .ok (.bipush 15, 2) := by decide +kernel
theorem dX11_count_122 : decode cX11_count 122 = .ok (.if_icmp .ge 36, 3) := by decide +kernel
theorem dX11_count_125 : decode cX11_count 125 = .ok (.aload_n 0, 1) := by decide +kernel
theorem dX11_count_126 : decode cX11_count 126 = .ok (.getfield 7, 3) := by decide +kernel
theorem dX11_count_129 : decode cX11_count 129 = .ok (.sipush 601, 3) := by decide +kernel
theorem dX11_count_132 : decode cX11_count 132 = .ok (.iaload, 1) := by decide +kernel
theorem dX11_count_133 : decode cX11_count 133 = .ok (.ifCond .eq 14, 3) := by decide +kernel
theorem dX11_count_136 : decode cX11_count 136 = .ok (.aload_n 0, 1) := by decide +kernel
theorem dX11_count_137 : decode cX11_count 137 = .ok (.getfield 7, 3) := by decide +kernel
theorem dX11_count_140 : decode cX11_count 140 = .ok (.iload 4, 2) := by decide +kernel
theorem dX11_count_142 : decode cX11_count 142 = .ok (.iaload, 1) := by decide +kernel
theorem dX11_count_143 : decode cX11_count 143 = .ok (.iload_n 2, 1) := by decide +kernel
theorem dX11_count_144 : decode cX11_count 144 = .ok (.if_icmp .ne 14, 3) := by decide +kernel
theorem dX11_count_147 : decode cX11_count 147 = .ok (.aload_n 0, 1) := by decide +kernel
theorem dX11_count_148 : decode cX11_count 148 = .ok (.getfield 7, 3) := by decide +kernel
theorem dX11_count_151 : decode cX11_count 151 = .ok (.iload 4, 2) := by decide +kernel
theorem dX11_count_153 : decode cX11_count 153 = .ok (.dup2, 1) := by decide +kernel
theorem dX11_count_154 : decode cX11_count 154 = .ok (.iaload, 1) := by decide +kernel
theorem dX11_count_155 : decode cX11_count 155 = .ok (.iconst 1, 1) := by decide +kernel
theorem dX11_count_156 : decode cX11_count 156 = .ok (.iadd, 1) := by decide +kernel
theorem dX11_count_157 : decode cX11_count 157 = .ok (.iastore, 1) := by decide +kernel
theorem dX11_count_158 : decode cX11_count 158 = .ok (.iinc 3 1, 3) := by decide +kernel
theorem dX11_count_161 : decode cX11_count 161 = .ok (.goto (-64), 3) := by decide +kernel
theorem dX11_count_164 : decode cX11_count 164 = .ok (.aload_n 0, 1) := by decide +kernel
theorem dX11_count_165 : decode cX11_count 165 = .ok (.getfield 7, 3) := by decide +kernel
theorem dX11_count_168 : decode cX11_count 168 = .ok (.sipush 1395, 3) := by decide +kernel
theorem dX11_count_171 : decode cX11_count 171 = .ok (.iaload, 1) := by decide +kernel
theorem dX11_count_172 : decode cX11_count 172 = .ok (.aload_n 0, 1) := by decide +kernel
theorem dX11_count_173 : decode cX11_count 173 = .ok (.getfield 7, 3) := by decide +kernel
theorem dX11_count_176 : decode cX11_count 176 = .ok (.sipush 602, 3) := by decide +kernel
theorem dX11_count_179 : decode cX11_count 179 = .ok (.iaload, 1) := by decide +kernel
theorem dX11_count_180 : decode cX11_count 180 = .ok (.if_icmp .lt 92, 3) := by decide +kernel
theorem dX11_count_183 : decode cX11_count 183 = .ok (.iconst 0, 1) := by decide +kernel
theorem dX11_count_184 : decode cX11_count 184 = .ok (.istore_n 2, 1) := by decide +kernel
theorem dX11_count_185 : decode cX11_count 185 = .ok (.iload_n 2, 1) := by decide +kernel
theorem dX11_count_186 : decode cX11_count 186 = .ok (.sipush 256, 3) := by decide +kernel
theorem dX11_count_189 : decode cX11_count 189 = .ok (.if_icmp .ge 23, 3) := by decide +kernel
theorem dX11_count_192 : decode cX11_count 192 = .ok (.aload_n 0, 1) := by decide +kernel
theorem dX11_count_193 : decode cX11_count 193 = .ok (.getfield 7, 3) := by decide +kernel
theorem dX11_count_196 : decode cX11_count 196 = .ok (.sipush 606, 3) := by decide +kernel
theorem dX11_count_199 : decode cX11_count 199 = .ok (.iload_n 2, 1) := by decide +kernel
theorem dX11_count_200 : decode cX11_count 200 = .ok (.iadd, 1) := by decide +kernel
theorem dX11_count_201 : decode cX11_count 201 = .ok (.dup2, 1) := by decide +kernel
theorem dX11_count_202 : decode cX11_count 202 = .ok (.iaload, 1) := by decide +kernel
theorem dX11_count_203 : decode cX11_count 203 = .ok (.iconst 2, 1) := by decide +kernel
theorem dX11_count_204 : decode cX11_count 204 = .ok (.idiv, 1) := by decide +kernel
theorem dX11_count_205 : decode cX11_count 205 = .ok (.iastore, 1) := by decide +kernel
theorem dX11_count_206 : decode cX11_count 206 = .ok (.iinc 2 1, 3) := by decide +kernel
theorem dX11_count_209 : decode cX11_count 209 = .ok (.goto (-24), 3) := by decide +kernel
theorem dX11_count_212 : decode cX11_count 212 = .ok (.iconst 0, 1) := by decide +kernel
theorem dX11_count_213 : decode cX11_count 213 = .ok (.istore_n 2, 1) := by decide +kernel
theorem dX11_count_214 : decode cX11_count 214 = .ok (.iload_n 2, 1) := by decide +kernel
theorem dX11_count_215 : decode cX11_count 215 = .ok (.sipush 128, 3) := by decide +kernel
theorem dX11_count_218 : decode cX11_count 218 = .ok (.if_icmp .ge 20, 3) := by decide +kernel
theorem dX11_count_221 : decode cX11_count 221 = .ok (.aload_n 0, 1) := by decide +kernel
theorem dX11_count_222 : decode cX11_count 222 = .ok (.getfield 7, 3) := by decide +kernel
theorem dX11_count_225 : decode cX11_count 225 = .ok (.sipush 862, 3) := by decide +kernel
theorem dX11_count_228 : decode cX11_count 228 = .ok (.iload_n 2, 1) := by decide +kernel
theorem dX11_count_229 : decode cX11_count 229 = .ok (.iadd, 1) := by decide +kernel
theorem dX11_count_230 : decode cX11_count 230 = .ok (.iconst 0, 1) := by decide +kernel
theorem dX11_count_231 : decode cX11_count 231 = .ok (.iastore, 1) := by decide +kernel
theorem dX11_count_232 : decode cX11_count 232 = .ok (.iinc 2 1, 3) := by decide +kernel
theorem dX11_count_235 : decode cX11_count 235 = .ok (.goto (-21), 3) := by decide +kernel
theorem dX11_count_238 : decode cX11_count 238 = .ok (.aload_n 0, 1) := by decide +kernel
theorem dX11_count_239 : decode cX11_count 239 = .ok (.getfield 7, 3) := by decide +kernel
theorem dX11_count_242 : decode cX11_count 242 = .ok (.sipush 1395, 3) := by decide +kernel
theorem dX11_count_245 : decode cX11_count 245 = .ok (.aload_n 0, 1) := by decide +kernel
theorem dX11_count_246 : decode cX11_count 246 = .ok (.getfield 7, 3) := by decide +kernel
theorem dX11_count_249 : decode cX11_count 249 = .ok (.sipush 602, 3) := by decide +kernel
theorem dX11_count_252 : decode cX11_count 252 = .ok (.iaload, 1) := by decide +kernel
theorem dX11_count_253 : decode cX11_count 253 = .ok (.iconst 2, 1) := by decide +kernel
theorem dX11_count_254 : decode cX11_count 254 = .ok (.idiv, 1) := by decide +kernel
theorem dX11_count_255 : decode cX11_count 255 = .ok (.iastore, 1) := by decide +kernel
theorem dX11_count_256 : decode cX11_count 256 = .ok (.aload_n 0, 1) := by decide +kernel
theorem dX11_count_257 : decode cX11_count 257 = .ok (.getfield 7, 3) := by decide +kernel
theorem dX11_count_260 : decode cX11_count 260 = .ok (.sipush 1396, 3) := by decide +kernel
theorem dX11_count_263 : decode cX11_count 263 = .ok (.dup2, 1) := by decide +kernel
theorem dX11_count_264 : decode cX11_count 264 = .ok (.iaload, 1) := by decide +kernel
theorem dX11_count_265 : decode cX11_count 265 = .ok (.iconst 1, 1) := by decide +kernel
theorem dX11_count_266 : decode cX11_count 266 = .ok (.iadd, 1) := by decide +kernel
theorem dX11_count_267 : decode cX11_count 267 = .ok (.iastore, 1) := by decide +kernel
theorem dX11_count_268 : decode cX11_count 268 = .ok (.aload_n 0, 1) := by decide +kernel
theorem dX11_count_269 : decode cX11_count 269 = .ok (.invokevirtual 67, 3) := by decide +kernel
theorem dX11_count_272 : decode cX11_count 272 = .ok (.return_, 1) := by decide +kernel
theorem dX11_length_0 : decode cX11_length 0 = .ok (.aload_n 0, 1) := by decide +kernel
theorem dX11_length_1 : decode cX11_length 1 = .ok (.getfield 7, 3) := by decide +kernel
theorem dX11_length_4 : decode cX11_length 4 = .ok (.sipush 1390, 3) := by decide +kernel
theorem dX11_length_7 : decode cX11_length 7 = .ok (.iload_n 1, 1) := by decide +kernel
theorem dX11_length_8 : decode cX11_length 8 = .ok (.iadd, 1) := by decide +kernel
theorem dX11_length_9 : decode cX11_length 9 = .ok (.iaload, 1) := by decide +kernel
theorem dX11_length_10 : decode cX11_length 10 = .ok (.ireturn, 1) := by decide +kernel
theorem dX11_keyAt_0 : decode cX11_keyAt 0 = .ok (.aload_n 0, 1) := by decide +kernel
theorem dX11_keyAt_1 : decode cX11_keyAt 1 = .ok (.getfield 7, 3) := by decide +kernel
theorem dX11_keyAt_4 : decode cX11_keyAt 4 = .ok (.sipush 1090, 3) := by decide +kernel
theorem dX11_keyAt_7 : decode cX11_keyAt 7 = .ok (.bipush 100, 2) := by decide +kernel
theorem dX11_keyAt_9 : decode cX11_keyAt 9 = .ok (.iload_n 1, 1) := by decide +kernel
theorem dX11_keyAt_10 : decode cX11_keyAt 10 = .ok (.imul, 1) := by decide +kernel
theorem dX11_keyAt_11 : decode cX11_keyAt 11 = .ok (.iadd, 1) := by decide +kernel
theorem dX11_keyAt_12 : decode cX11_keyAt 12 = .ok (.iload_n 2, 1) := by decide +kernel
theorem dX11_keyAt_13 : decode cX11_keyAt 13 = .ok (.iadd, 1) := by decide +kernel
theorem dX11_keyAt_14 : decode cX11_keyAt 14 = .ok (.iaload, 1) := by decide +kernel
theorem dX11_keyAt_15 : decode cX11_keyAt 15 = .ok (.ireturn, 1) := by decide +kernel
theorem dX11_indexOf_0 : decode cX11_indexOf 0 = .ok (.iconst 0, 1) := by decide +kernel
theorem dX11_indexOf_1 : decode cX11_indexOf 1 = .ok (.istore_n 3, 1) := by decide +kernel
theorem dX11_indexOf_2 : decode cX11_indexOf 2 = .ok (.iload_n 3, 1) := by decide +kernel
theorem dX11_indexOf_3 : decode cX11_indexOf 3 = .ok (.aload_n 0, 1) := by decide +kernel
theorem dX11_indexOf_4 : decode cX11_indexOf 4 = .ok (.iload_n 1, 1) := by decide +kernel
theorem dX11_indexOf_5 : decode cX11_indexOf 5 = .ok (.invokevirtual 84, 3) := by decide +kernel
theorem dX11_indexOf_8 : decode cX11_indexOf 8 = .ok (.if_icmp .ge 21, 3) := by decide +kernel
theorem dX11_indexOf_11 : decode cX11_indexOf 11 = .ok (.aload_n 0, 1) := by decide +kernel
theorem dX11_indexOf_12 : decode cX11_indexOf 12 = .ok (.iload_n 1, 1) := by decide +kernel
theorem dX11_indexOf_13 : decode cX11_indexOf 13 = .ok (.iload_n 3, 1) := by decide +kernel
theorem dX11_indexOf_14 : decode cX11_indexOf 14 = .ok (.invokevirtual 87, 3) := by decide +kernel
theorem dX11_indexOf_17 : decode cX11_indexOf 17 = .ok (.iload_n 2, 1) := by decide +kernel
theorem dX11_indexOf_18 : decode cX11_indexOf 18 = .ok (.if_icmp .ne 5, 3) := by decide +kernel
theorem dX11_indexOf_21 : decode cX11_indexOf 21 = .ok (.iload_n 3, 1) := by decide +kernel
theorem dX11_indexOf_22 : decode cX11_indexOf 22 = .ok (.ireturn, 1) := by decide +kernel
theorem dX11_indexOf_23 : decode cX11_indexOf 23 = .ok (.iinc 3 1, 3) := by decide +kernel
theorem dX11_indexOf_26 : decode cX11_indexOf 26 = .ok (.goto (-24), 3) := by decide +kernel
theorem dX11_indexOf_29 : decode cX11_indexOf 29 = .ok (.iconst (-1), 1) := by decide +kernel
theorem dX11_indexOf_30 : decode cX11_indexOf 30 = .ok (.ireturn, 1) := by decide +kernel
theorem dX11_partOf_0 : decode cX11_partOf 0 = .ok (.iconst 0, 1) := by decide +kernel
theorem dX11_partOf_1 : decode cX11_partOf 1 = .ok (.istore_n 2, 1) := by decide +kernel
theorem dX11_partOf_2 : decode cX11_partOf 2 = .ok (.iload_n 2, 1) := by decide +kernel
theorem dX11_partOf_3 : decode cX11_partOf 3 = .ok (.iconst 3, 1) := by decide +kernel
theorem dX11_partOf_4 : decode cX11_partOf 4 = .ok (.if_icmp .ge 20, 3) := by decide +kernel
theorem dX11_partOf_7 : decode cX11_partOf 7 = .ok (.aload_n 0, 1) := by decide +kernel
theorem dX11_partOf_8 : decode cX11_partOf 8 = .ok (.iload_n 2, 1) := by decide +kernel
theorem dX11_partOf_9 : decode cX11_partOf 9 = .ok (.iload_n 1, 1) := by decide +kernel
theorem dX11_partOf_10 : decode cX11_partOf 10 = .ok (.invokevirtual 90, 3) := by decide +kernel
theorem dX11_partOf_13 : decode cX11_partOf 13 = .ok (.ifCond .lt 5, 3) := by decide +kernel
theorem dX11_partOf_16 : decode cX11_partOf 16 = .ok (.iload_n 2, 1) := by decide +kernel
theorem dX11_partOf_17 : decode cX11_partOf 17 = .ok (.ireturn, 1) := by decide +kernel
theorem dX11_partOf_18 : decode cX11_partOf 18 = .ok (.iinc 2 1, 3) := by decide +kernel
theorem dX11_partOf_21 : decode cX11_partOf 21 = .ok (.goto (-19), 3) := by decide +kernel
theorem dX11_partOf_24 : decode cX11_partOf 24 = .ok (.iconst (-1), 1) := by decide +kernel
theorem dX11_partOf_25 : decode cX11_partOf 25 = .ok (.ireturn, 1) := by decide +kernel
theorem dX11_units_0 : decode cX11_units 0 = .ok (.iconst 0, 1) := by decide +kernel
theorem dX11_units_1 : decode cX11_units 1 = .ok (.istore_n 2, 1) := by decide +kernel
theorem dX11_units_2 : decode cX11_units 2 = .ok (.iconst 0, 1) := by decide +kernel
theorem dX11_units_3 : decode cX11_units 3 = .ok (.istore_n 3, 1) := by decide +kernel
theorem dX11_units_4 : decode cX11_units 4 = .ok (.iload_n 3, 1) := by decide +kernel
theorem dX11_units_5 : decode cX11_units 5 = .ok (.aload_n 0, 1) := by decide +kernel
theorem dX11_units_6 : decode cX11_units 6 = .ok (.iload_n 1, 1) := by decide +kernel
theorem dX11_units_7 : decode cX11_units 7 = .ok (.invokevirtual 84, 3) := by decide +kernel
theorem dX11_units_10 : decode cX11_units 10 = .ok (.if_icmp .ge 27, 3) := by decide +kernel
theorem dX11_units_13 : decode cX11_units 13 = .ok (.iload_n 2, 1) := by decide +kernel
theorem dX11_units_14 : decode cX11_units 14 = .ok (.aload_n 0, 1) := by decide +kernel
theorem dX11_units_15 : decode cX11_units 15 = .ok (.getfield 7, 3) := by decide +kernel
theorem dX11_units_18 : decode cX11_units 18 = .ok (.sipush 990, 3) := by decide +kernel
theorem dX11_units_21 : decode cX11_units 21 = .ok (.aload_n 0, 1) := by decide +kernel
theorem dX11_units_22 : decode cX11_units 22 = .ok (.iload_n 1, 1) := by decide +kernel
theorem dX11_units_23 : decode cX11_units 23 = .ok (.iload_n 3, 1) := by decide +kernel
theorem dX11_units_24 : decode cX11_units 24 = .ok (.invokevirtual 87, 3) := by decide +kernel
theorem dX11_units_27 : decode cX11_units 27 = .ok (.iadd, 1) := by decide +kernel
theorem dX11_units_28 : decode cX11_units 28 = .ok (.iaload, 1) := by decide +kernel
theorem dX11_units_29 : decode cX11_units 29 = .ok (.iadd, 1) := by decide +kernel
theorem dX11_units_30 : decode cX11_units 30 = .ok (.istore_n 2, 1) := by decide +kernel
theorem dX11_units_31 : decode cX11_units 31 = .ok (.iinc 3 1, 3) := by decide +kernel
theorem dX11_units_34 : decode cX11_units 34 = .ok (.goto (-30), 3) := by decide +kernel
theorem dX11_units_37 : decode cX11_units 37 = .ok (.iload_n 2, 1) := by decide +kernel
theorem dX11_units_38 : decode cX11_units 38 = .ok (.ireturn, 1) := by decide +kernel
theorem dX11_inMain_0 : decode cX11_inMain 0 = .ok (.aload_n 0, 1) := by decide +kernel
theorem dX11_inMain_1 : decode cX11_inMain 1 = .ok (.iconst 1, 1) := by decide +kernel
theorem dX11_inMain_2 : decode cX11_inMain 2 = .ok (.invokevirtual 93, 3) := by decide +kernel
theorem dX11_inMain_5 : decode cX11_inMain 5 = .ok (.aload_n 0, 1) := by decide +kernel
theorem dX11_inMain_6 : decode cX11_inMain 6 = .ok (.iconst 2, 1) := by decide +kernel
theorem dX11_inMain_7 : decode cX11_inMain 7 = .ok (.invokevirtual 93, 3) := by decide +kernel
theorem dX11_inMain_10 : decode cX11_inMain 10 = .ok (.iadd, 1) := by decide +kernel
theorem dX11_inMain_11 : decode cX11_inMain 11 = .ok (.ireturn, 1) := by decide +kernel
theorem dX11_append_0 : decode cX11_append 0 = .ok (.aload_n 0, 1) := by decide +kernel
theorem dX11_append_1 : decode cX11_append 1 = .ok (.getfield 7, 3) := by decide +kernel
theorem dX11_append_4 : decode cX11_append 4 = .ok (.sipush 1090, 3) := by decide +kernel
theorem dX11_append_7 : decode cX11_append 7 = .ok (.bipush 100, 2) := by decide +kernel
theorem dX11_append_9 : decode cX11_append 9 = .ok (.iload_n 1, 1) := by decide +kernel
theorem dX11_append_10 : decode cX11_append 10 = .ok (.imul, 1) := by decide +kernel
theorem dX11_append_11 : decode cX11_append 11 = .ok (.iadd, 1) := by decide +kernel
theorem dX11_append_12 : decode cX11_append 12 = .ok (.aload_n 0, 1) := by decide +kernel
theorem dX11_append_13 : decode cX11_append 13 = .ok (.iload_n 1, 1) := by decide +kernel
theorem dX11_append_14 : decode cX11_append 14 = .ok (.invokevirtual 84, 3) := by decide +kernel
theorem dX11_append_17 : decode cX11_append 17 = .ok (.iadd, 1) := by decide +kernel
theorem dX11_append_18 : decode cX11_append 18 = .ok (.iload_n 2, 1) := by decide +kernel
theorem dX11_append_19 : decode cX11_append 19 = .ok (.iastore, 1) := by decide +kernel
theorem dX11_append_20 : decode cX11_append 20 = .ok (.aload_n 0, 1) := by decide +kernel
theorem dX11_append_21 : decode cX11_append 21 = .ok (.getfield 7, 3) := by decide +kernel
theorem dX11_append_24 : decode cX11_append 24 = .ok (.sipush 1390, 3) := by decide +kernel
theorem dX11_append_27 : decode cX11_append 27 = .ok (.iload_n 1, 1) := by decide +kernel
theorem dX11_append_28 : decode cX11_append 28 = .ok (.iadd, 1) := by decide +kernel
theorem dX11_append_29 : decode cX11_append 29 = .ok (.dup2, 1) := by decide +kernel
theorem dX11_append_30 : decode cX11_append 30 = .ok (.iaload, 1) := by decide +kernel
theorem dX11_append_31 : decode cX11_append 31 = .ok (.iconst 1, 1) := by decide +kernel
theorem dX11_append_32 : decode cX11_append 32 = .ok (.iadd, 1) := by decide +kernel
theorem dX11_append_33 : decode cX11_append 33 = .ok (.iastore, 1) := by decide +kernel
theorem dX11_append_34 : decode cX11_append 34 = .ok (.return_, 1) := by decide +kernel
theorem dX11_take_0 : decode cX11_take 0 = .ok (.aload_n 0, 1) := by decide +kernel
theorem dX11_take_1 : decode cX11_take 1 = .ok (.iload_n 1, 1) := by decide +kernel
theorem dX11_take_2 : decode cX11_take 2 = .ok (.iload_n 2, 1) := by decide +kernel
theorem dX11_take_3 : decode cX11_take 3 = .ok (.invokevirtual 87, 3) := by decide +kernel
theorem dX11_take_6 : decode cX11_take 6 = .ok (.istore_n 3, 1) := by decide +kernel
theorem dX11_take_7 : decode cX11_take 7 = .ok (.iload_n 2, 1) := by decide +kernel
theorem dX11_take_8 : decode cX11_take 8 = .ok (.iconst 1, 1) := by decide +kernel
theorem dX11_take_9 : decode cX11_take 9 = .ok (.iadd, 1) := by decide +kernel
theorem dX11_take_10 : decode cX11_take 10 = .ok (.istore 4, 2) := by decide +kernel
theorem dX11_take_12 : decode cX11_take 12 = .ok (.iload 4, 2) := by decide +kernel
theorem dX11_take_14 : decode cX11_take 14 = .ok (.aload_n 0, 1) := by decide +kernel
theorem dX11_take_15 : decode cX11_take 15 = .ok (.iload_n 1, 1) := by decide +kernel
theorem dX11_take_16 : decode cX11_take 16 = .ok (.invokevirtual 84, 3) := by decide +kernel
theorem dX11_take_19 : decode cX11_take 19 = .ok (.if_icmp .ge 34, 3) := by decide +kernel
theorem dX11_take_22 : decode cX11_take 22 = .ok (.aload_n 0, 1) := by decide +kernel
theorem dX11_take_23 : decode cX11_take 23 = .ok (.getfield 7, 3) := by decide +kernel
theorem dX11_take_26 : decode cX11_take 26 = .ok (.sipush 1090, 3) := by decide +kernel
theorem dX11_take_29 : decode cX11_take 29 = .ok (.bipush 100, 2) := by decide +kernel
theorem dX11_take_31 : decode cX11_take 31 = .ok (.iload_n 1, 1) := by decide +kernel
theorem dX11_take_32 : decode cX11_take 32 = .ok (.imul, 1) := by decide +kernel
theorem dX11_take_33 : decode cX11_take 33 = .ok (.iadd, 1) := by decide +kernel
theorem dX11_take_34 : decode cX11_take 34 = .ok (.iload 4, 2) := by decide +kernel
theorem dX11_take_36 : decode cX11_take 36 = .ok (.iadd, 1) := by decide +kernel
theorem dX11_take_37 : decode cX11_take 37 = .ok (.iconst 1, 1) := by decide +kernel
theorem dX11_take_38 : decode cX11_take 38 = .ok (.isub, 1) := by decide +kernel
theorem dX11_take_39 : decode cX11_take 39 = .ok (.aload_n 0, 1) := by decide +kernel
theorem dX11_take_40 : decode cX11_take 40 = .ok (.iload_n 1, 1) := by decide +kernel
theorem dX11_take_41 : decode cX11_take 41 = .ok (.iload 4, 2) := by decide +kernel
theorem dX11_take_43 : decode cX11_take 43 = .ok (.invokevirtual 87, 3) := by decide +kernel
theorem dX11_take_46 : decode cX11_take 46 = .ok (.iastore, 1) := by decide +kernel
theorem dX11_take_47 : decode cX11_take 47 = .ok (.iinc 4 1, 3) := by decide +kernel
theorem dX11_take_50 : decode cX11_take 50 = .ok (.goto (-38), 3) := by decide +kernel
theorem dX11_take_53 : decode cX11_take 53 = .ok (.aload_n 0, 1) := by decide +kernel
theorem dX11_take_54 : decode cX11_take 54 = .ok (.getfield 7, 3) := by decide +kernel
theorem dX11_take_57 : decode cX11_take 57 = .ok (.sipush 1390, 3) := by decide +kernel
theorem dX11_take_60 : decode cX11_take 60 = .ok (.iload_n 1, 1) := by decide +kernel
theorem dX11_take_61 : decode cX11_take 61 = .ok (.iadd, 1) := by decide +kernel
theorem dX11_take_62 : decode cX11_take 62 = .ok (.dup2, 1) := by decide +kernel
theorem dX11_take_63 : decode cX11_take 63 = .ok (.iaload, 1) := by decide +kernel
theorem dX11_take_64 : decode cX11_take 64 = .ok (.iconst 1, 1) := by decide +kernel
theorem dX11_take_65 : decode cX11_take 65 = .ok (.isub, 1) := by decide +kernel
theorem dX11_take_66 : decode cX11_take 66 = .ok (.iastore, 1) := by decide +kernel
theorem dX11_take_67 : decode cX11_take 67 = .ok (.iload_n 3, 1) := by decide +kernel
theorem dX11_take_68 : decode cX11_take 68 = .ok (.ireturn, 1) := by decide +kernel
theorem dX11_settle_0 : decode cX11_settle 0 = .ok (.aload_n 0, 1) := by decide +kernel
theorem dX11_settle_1 : decode cX11_settle 1 = .ok (.iconst 2, 1) := by decide +kernel
theorem dX11_settle_2 : decode cX11_settle 2 = .ok (.invokevirtual 93, 3) := by decide +kernel
theorem dX11_settle_5 : decode cX11_settle 5 = .ok (.aload_n 0, 1) := by decide +kernel
theorem dX11_settle_6 : decode cX11_settle 6 = .ok (.getfield 7, 3) := by decide +kernel
theorem dX11_settle_9 : decode cX11_settle 9 = .ok (.sipush 1394, 3) := by decide +kernel
theorem dX11_settle_12 : decode cX11_settle 12 = .ok (.iaload, 1) := by decide +kernel
theorem dX11_settle_13 : decode cX11_settle 13 = .ok (.if_icmp .le 17, 3) := by decide +kernel
theorem dX11_settle_16 : decode cX11_settle 16 = .ok (.aload_n 0, 1) := by decide +kernel
theorem dX11_settle_17 : decode cX11_settle 17 = .ok (.iconst 1, 1) := by decide +kernel
theorem dX11_settle_18 : decode cX11_settle 18 = .ok (.aload_n 0, 1) := by decide +kernel
theorem dX11_settle_19 : decode cX11_settle 19 = .ok (.iconst 2, 1) := by decide +kernel
theorem dX11_settle_20 : decode cX11_settle 20 = .ok (.iconst 0, 1) := by decide +kernel
theorem dX11_settle_21 : decode cX11_settle 21 = .ok (.invokevirtual 96, 3) := by decide +kernel
theorem dX11_settle_24 : decode cX11_settle 24 = .ok (.invokevirtual 99, 3) := by decide +kernel
theorem dX11_settle_27 : decode cX11_settle 27 = .ok (.goto (-27), 3) := by decide +kernel
theorem dX11_settle_30 : decode cX11_settle 30 = .ok (.return_, 1) := by decide +kernel
theorem dX11_overflow_0 : decode cX11_overflow 0 = .ok (.aload_n 0, 1) := by decide +kernel
theorem dX11_overflow_1 : decode cX11_overflow 1 = .ok (.iconst 0, 1) := by decide +kernel
theorem dX11_overflow_2 : decode cX11_overflow 2 = .ok (.invokevirtual 93, 3) := by decide +kernel
theorem dX11_overflow_5 : decode cX11_overflow 5 = .ok (.aload_n 0, 1) := by decide +kernel
theorem dX11_overflow_6 : decode cX11_overflow 6 = .ok (.getfield 7, 3) := by decide +kernel
theorem dX11_overflow_9 : decode cX11_overflow 9 = .ok (.sipush 1393, 3) := by decide +kernel
theorem dX11_overflow_12 : decode cX11_overflow 12 = .ok (.iaload, 1) := by decide +kernel
theorem dX11_overflow_13 : decode cX11_overflow 13 = .ok (.if_icmp .le 16, 3) := by decide +kernel
theorem dX11_overflow_16 : decode cX11_overflow 16 = .ok (.aload_n 0, 1) := by decide +kernel
theorem dX11_overflow_17 : decode cX11_overflow 17 = .ok (.aload_n 0, 1) := by decide +kernel
theorem dX11_overflow_18 : decode cX11_overflow 18 = .ok (.iconst 0, 1) := by decide +kernel
theorem dX11_overflow_19 : decode cX11_overflow 19 = .ok (.iconst 0, 1) := by decide +kernel
theorem dX11_overflow_20 : decode cX11_overflow 20 = .ok (.invokevirtual 96, 3) := by decide +kernel
theorem dX11_overflow_23 : decode cX11_overflow 23 = .ok (.invokevirtual 103, 3) := by decide +kernel
theorem dX11_overflow_26 : decode cX11_overflow 26 = .ok (.goto (-26), 3) := by decide +kernel
theorem dX11_overflow_29 : decode cX11_overflow 29 = .ok (.return_, 1) := by decide +kernel
theorem dX11_candidate_0 : decode cX11_candidate 0 = .ok (.aload_n 0, 1) := by decide +kernel
theorem dX11_candidate_1 : decode cX11_candidate 1 = .ok (.getfield 52, 3) := by decide +kernel
theorem dX11_candidate_4 : decode cX11_candidate 4 = .ok (.aload_n 0, 1) := by decide +kernel
theorem dX11_candidate_5 : decode cX11_candidate 5 = .ok (.getfield 7, 3) := by decide +kernel
theorem dX11_candidate_8 : decode cX11_candidate 8 = .ok (.sipush 1393, 3) := by decide +kernel
theorem dX11_candidate_11 : decode cX11_candidate 11 = .ok (.iaload, 1) := by decide +kernel
theorem dX11_candidate_12 : decode cX11_candidate 12 = .ok (.isub, 1) := by decide +kernel
theorem dX11_candidate_13 : decode cX11_candidate 13 = .ok (.istore_n 2, 1) := by decide +kernel
theorem dX11_candidate_14 : decode cX11_candidate 14 = .ok (.aload_n 0, 1) := by decide +kernel
theorem dX11_candidate_15 : decode cX11_candidate 15 = .ok (.getfield 7, 3) := by decide +kernel
theorem dX11_candidate_18 : decode cX11_candidate 18 = .ok (.sipush 990, 3) := by decide +kernel
theorem dX11_candidate_21 : decode cX11_candidate 21 = .ok (.iload_n 1, 1) := by decide +kernel
theorem dX11_candidate_22 : decode cX11_candidate 22 = .ok (.iadd, 1) := by decide +kernel
theorem dX11_candidate_23 : decode cX11_candidate 23 = .ok (.iaload, 1) := by decide +kernel
theorem dX11_candidate_24 : decode cX11_candidate 24 = .ok (.istore_n 3, 1) := by decide +kernel
theorem dX11_candidate_25 : decode cX11_candidate 25 = .ok (.iload_n 3, 1) := by decide +kernel
theorem dX11_candidate_26 : decode cX11_candidate 26 = .ok (.iload_n 2, 1) := by decide +kernel
theorem dX11_candidate_27 : decode cX11_candidate 27 = .ok (.if_icmp .le 16, 3) := by decide +kernel
theorem dX11_candidate_30 : decode cX11_candidate 30 = .ok (.aload_n 0, 1) := by decide +kernel
theorem dX11_candidate_31 : decode cX11_candidate 31 = .ok (.getfield 7, 3) := by decide +kernel
theorem dX11_candidate_34 : decode cX11_candidate 34 = .ok (.sipush 1399, 3) := by decide +kernel
theorem dX11_candidate_37 : decode cX11_candidate 37 = .ok (.dup2, 1) := by decide +kernel
theorem dX11_candidate_38 : decode cX11_candidate 38 = .ok (.iaload, 1) := by decide +kernel
theorem dX11_candidate_39 : decode cX11_candidate 39 = .ok (.iconst 1, 1) := by decide +kernel
theorem dX11_candidate_40 : decode cX11_candidate 40 = .ok (.iadd, 1) := by decide +kernel
theorem dX11_candidate_41 : decode cX11_candidate 41 = .ok (.iastore, 1) := by decide +kernel
theorem dX11_candidate_42 : decode cX11_candidate 42 = .ok (.return_, 1) := by decide +kernel
theorem dX11_candidate_43 : decode cX11_candidate 43 = .ok (.aload_n 0, 1) := by decide +kernel
theorem dX11_candidate_44 : decode cX11_candidate 44 = .ok (.getfield 7, 3) := by decide +kernel
theorem dX11_candidate_47 : decode cX11_candidate 47 = .ok (.sipush 603, 3) := by decide +kernel
theorem dX11_candidate_50 : decode cX11_candidate 50 = .ok (.iaload, 1) := by decide +kernel
theorem dX11_candidate_51 : decode cX11_candidate 51 = .ok (.iconst 1, 1) := by decide +kernel
theorem dX11_candidate_52 : decode cX11_candidate 52 = .ok (.if_icmp .ne 20, 3) := by decide +kernel
theorem dX11_candidate_55 : decode cX11_candidate 55 = .ok (.aload_n 0, 1) := by decide +kernel
theorem dX11_candidate_56 : decode cX11_candidate 56 = .ok (.invokevirtual 106, 3) := by decide +kernel
theorem dX11_candidate_59 : decode cX11_candidate 59 = .ok (.iload_n 3, 1) := by decide +kernel
theorem dX11_candidate_60 : decode cX11_candidate 60 = .ok (.iadd, 1) := by decide +kernel
theorem dX11_candidate_61 : decode cX11_candidate 61 = .ok (.iload_n 2, 1) := by decide +kernel
theorem dX11_candidate_62 : decode cX11_candidate 62 = .ok (.if_icmp .le 10, 3) := by decide +kernel
theorem dX11_candidate_65 : decode cX11_candidate 65 = .ok (.aload_n 0, 1) := by decide +kernel
theorem dX11_candidate_66 : decode cX11_candidate 66 = .ok (.iload_n 1, 1) := by decide +kernel
theorem dX11_candidate_67 : decode cX11_candidate 67 = .ok (.iload_n 2, 1) := by decide +kernel
theorem dX11_candidate_68 : decode cX11_candidate 68 = .ok (.invokevirtual 110, 3) := by decide +kernel
theorem dX11_candidate_71 : decode cX11_candidate 71 = .ok (.return_, 1) := by decide +kernel
theorem dX11_candidate_72 : decode cX11_candidate 72 = .ok (.aload_n 0, 1) := by decide +kernel
theorem dX11_candidate_73 : decode cX11_candidate 73 = .ok (.invokevirtual 106, 3) := by decide +kernel
theorem dX11_candidate_76 : decode cX11_candidate 76 = .ok (.iload_n 3, 1) := by decide +kernel
theorem dX11_candidate_77 : decode cX11_candidate 77 = .ok (.iadd, 1) := by decide +kernel
theorem dX11_candidate_78 : decode cX11_candidate 78 = .ok (.iload_n 2, 1) := by decide +kernel
theorem dX11_candidate_79 : decode cX11_candidate 79 = .ok (.if_icmp .le 77, 3) := by decide +kernel
theorem dX11_candidate_82 : decode cX11_candidate 82 = .ok (.aload_n 0, 1) := by decide +kernel
theorem dX11_candidate_83 : decode cX11_candidate 83 = .ok (.iconst 1, 1) := by decide +kernel
theorem dX11_candidate_84 : decode cX11_candidate 84 = .ok (.invokevirtual 84, 3) := by decide +kernel
theorem dX11_candidate_87 : decode cX11_candidate 87 = .ok (.ifCond .le 7, 3) := by decide +kernel
theorem dX11_candidate_90 : decode cX11_candidate 90 = .ok (.iconst 1, 1) := by decide +kernel
theorem dX11_candidate_91 : decode cX11_candidate 91 = .ok (.goto 4, 3) := by decide +kernel
theorem dX11_candidate_94 : decode cX11_candidate 94 = .ok (.iconst 2, 1) := by decide +kernel
theorem dX11_candidate_95 : decode cX11_candidate 95 = .ok (.istore 4, 2) := by decide +kernel
theorem dX11_candidate_97 : decode cX11_candidate 97 = .ok (.aload_n 0, 1) := by decide +kernel
theorem dX11_candidate_98 : decode cX11_candidate 98 = .ok (.iload 4, 2) := by decide +kernel
theorem dX11_candidate_100 : decode cX11_candidate 100 = .ok (.iconst 0, 1) := by decide +kernel
theorem dX11_candidate_101 : decode cX11_candidate 101 = .ok (.invokevirtual 87, 3) := by decide +kernel
theorem dX11_candidate_104 : decode cX11_candidate 104 = .ok (.istore 5, 2) := by decide +kernel
theorem dX11_candidate_106 : decode cX11_candidate 106 = .ok (.aload_n 0, 1) := by decide +kernel
theorem dX11_candidate_107 : decode cX11_candidate 107 = .ok (.getfield 7, 3) := by decide +kernel
theorem dX11_candidate_110 : decode cX11_candidate 110 = .ok (.sipush 1399, 3) := by decide +kernel
theorem dX11_candidate_113 : decode cX11_candidate 113 = .ok (.dup2, 1) := by decide +kernel
theorem dX11_candidate_114 : decode cX11_candidate 114 = .ok (.iaload, 1) := by decide +kernel
theorem dX11_candidate_115 : decode cX11_candidate 115 = .ok (.iconst 1, 1) := by decide +kernel
theorem dX11_candidate_116 : decode cX11_candidate 116 = .ok (.iadd, 1) := by decide +kernel
theorem dX11_candidate_117 : decode cX11_candidate 117 = .ok (.iastore, 1) := by decide +kernel
theorem dX11_candidate_118 : decode cX11_candidate 118 = .ok (.aload_n 0, 1) := by decide +kernel
theorem dX11_candidate_119 : decode cX11_candidate 119 = .ok (.getfield 7, 3) := by decide +kernel
theorem dX11_candidate_122 : decode cX11_candidate 122 = .ok (.sipush 603, 3) := by decide +kernel
theorem dX11_candidate_125 : decode cX11_candidate 125 = .ok (.iaload, 1) := by decide +kernel
theorem dX11_candidate_126 : decode cX11_candidate 126 = .ok (.ifCond .ne 18, 3) := by decide +kernel
theorem dX11_candidate_129 : decode cX11_candidate 129 = .ok (.aload_n 0, 1) := by decide +kernel
theorem dX11_candidate_130 : decode cX11_candidate 130 = .ok (.iload_n 1, 1) := by decide +kernel
theorem dX11_candidate_131 : decode cX11_candidate 131 = .ok (.invokevirtual 113, 3) := by decide +kernel
theorem dX11_candidate_134 : decode cX11_candidate 134 = .ok (.aload_n 0, 1) := by decide +kernel
theorem dX11_candidate_135 : decode cX11_candidate 135 = .ok (.iload 5, 2) := by decide +kernel
theorem dX11_candidate_137 : decode cX11_candidate 137 = .ok (.invokevirtual 113, 3) := by decide +kernel
theorem dX11_candidate_140 : decode cX11_candidate 140 = .ok (.if_icmp .gt 4, 3) := by decide +kernel
theorem dX11_candidate_143 : decode cX11_candidate 143 = .ok (.return_, 1) := by decide +kernel
theorem dX11_candidate_144 : decode cX11_candidate 144 = .ok (.aload_n 0, 1) := by decide +kernel
theorem dX11_candidate_145 : decode cX11_candidate 145 = .ok (.iload 4, 2) := by decide +kernel
theorem dX11_candidate_147 : decode cX11_candidate 147 = .ok (.iconst 0, 1) := by decide +kernel
theorem dX11_candidate_148 : decode cX11_candidate 148 = .ok (.invokevirtual 96, 3) := by decide +kernel
theorem dX11_candidate_151 : decode cX11_candidate 151 = .ok (.istore 6, 2) := by decide +kernel
theorem dX11_candidate_153 : decode cX11_candidate 153 = .ok (.goto (-81), 3) := by decide +kernel
theorem dX11_candidate_156 : decode cX11_candidate 156 = .ok (.aload_n 0, 1) := by decide +kernel
theorem dX11_candidate_157 : decode cX11_candidate 157 = .ok (.iconst 1, 1) := by decide +kernel
theorem dX11_candidate_158 : decode cX11_candidate 158 = .ok (.iload_n 1, 1) := by decide +kernel
theorem dX11_candidate_159 : decode cX11_candidate 159 = .ok (.invokevirtual 99, 3) := by decide +kernel
theorem dX11_candidate_162 : decode cX11_candidate 162 = .ok (.return_, 1) := by decide +kernel
theorem dX11_together_0 : decode cX11_together 0 = .ok (.iconst 0, 1) := by decide +kernel
theorem dX11_together_1 : decode cX11_together 1 = .ok (.istore_n 3, 1) := by decide +kernel
theorem dX11_together_2 : decode cX11_together 2 = .ok (.iconst 0, 1) := by decide +kernel
theorem dX11_together_3 : decode cX11_together 3 = .ok (.istore 4, 2) := by decide +kernel
theorem dX11_together_5 : decode cX11_together 5 = .ok (.iconst 0, 1) := by decide +kernel
theorem dX11_together_6 : decode cX11_together 6 = .ok (.istore 5, 2) := by decide +kernel
theorem dX11_together_8 : decode cX11_together 8 = .ok (.iconst 0, 1) := by decide +kernel
theorem dX11_together_9 : decode cX11_together 9 = .ok (.istore 6, 2) := by decide +kernel
theorem dX11_together_11 : decode cX11_together 11 = .ok (.aload_n 0, 1) := by decide +kernel
theorem dX11_together_12 : decode cX11_together 12 = .ok (.invokevirtual 106, 3) := by decide +kernel
theorem dX11_together_15 : decode cX11_together 15 = .ok (.aload_n 0, 1) := by decide +kernel
theorem dX11_together_16 : decode cX11_together 16 = .ok (.getfield 7, 3) := by decide +kernel
theorem dX11_together_19 : decode cX11_together 19 = .ok (.sipush 990, 3) := by decide +kernel
theorem dX11_together_22 : decode cX11_together 22 = .ok (.iload_n 1, 1) := by decide +kernel
theorem dX11_together_23 : decode cX11_together 23 = .ok (.iadd, 1) := by decide +kernel
theorem dX11_together_24 : decode cX11_together 24 = .ok (.iaload, 1) := by decide +kernel
theorem dX11_together_25 : decode cX11_together 25 = .ok (.iadd, 1) := by decide +kernel
theorem dX11_together_26 : decode cX11_together 26 = .ok (.iload_n 2, 1) := by decide +kernel
theorem dX11_together_27 : decode cX11_together 27 = .ok (.isub, 1) := by decide +kernel
theorem dX11_together_28 : decode cX11_together 28 = .ok (.istore 7, 2) := by decide +kernel
theorem dX11_together_30 : decode cX11_together 30 = .ok (.iload 5, 2) := by decide +kernel
theorem dX11_together_32 : decode cX11_together 32 = .ok (.iload 7, 2) := by decide +kernel
theorem dX11_together_34 : decode cX11_together 34 = .ok (.if_icmp .ge 78, 3) := by decide +kernel
theorem dX11_together_37 : decode cX11_together 37 = .ok (.iload_n 3, 1) := by decide +kernel
theorem dX11_together_38 : decode cX11_together 38 = .ok (.aload_n 0, 1) := by decide +kernel
theorem dX11_together_39 : decode cX11_together 39 = .ok (.iconst 1, 1) := by decide +kernel
theorem dX11_together_40 : decode cX11_together 40 = .ok (.invokevirtual 84, 3) := by decide +kernel
theorem dX11_together_43 : decode cX11_together 43 = .ok (.if_icmp .ge 12, 3) := by decide +kernel
theorem dX11_together_46 : decode cX11_together 46 = .ok (.aload_n 0, 1) := by decide +kernel
theorem dX11_together_47 : decode cX11_together 47 = .ok (.iconst 1, 1) := by decide +kernel
theorem dX11_together_48 : decode cX11_together 48 = .ok (.iload_n 3, 1) := by decide +kernel
theorem dX11_together_49 : decode cX11_together 49 = .ok (.invokevirtual 87, 3) := by decide +kernel
theorem dX11_together_52 : decode cX11_together 52 = .ok (.goto 10, 3) := by decide +kernel
theorem dX11_together_55 : decode cX11_together 55 = .ok (.aload_n 0, 1) := by decide +kernel
theorem dX11_together_56 : decode cX11_together 56 = .ok (.iconst 2, 1) := by decide +kernel
theorem dX11_together_57 : decode cX11_together 57 = .ok (.iload 4, 2) := by decide +kernel
theorem dX11_together_59 : decode cX11_together 59 = .ok (.invokevirtual 87, 3) := by decide +kernel
theorem dX11_together_62 : decode cX11_together 62 = .ok (.istore 8, 2) := by decide +kernel
theorem dX11_together_64 : decode cX11_together 64 = .ok (.iload_n 3, 1) := by decide +kernel
theorem dX11_together_65 : decode cX11_together 65 = .ok (.aload_n 0, 1) := by decide +kernel
theorem dX11_together_66 : decode cX11_together 66 = .ok (.iconst 1, 1) := by decide +kernel
theorem dX11_together_67 : decode cX11_together 67 = .ok (.invokevirtual 84, 3) := by decide +kernel
theorem dX11_together_70 : decode cX11_together 70 = .ok (.if_icmp .ge 9, 3) := by decide +kernel
theorem dX11_together_73 : decode cX11_together 73 = .ok (.iinc 3 1, 3) := by decide +kernel
theorem dX11_together_76 : decode cX11_together 76 = .ok (.goto 6, 3) := by decide +kernel
theorem dX11_together_79 : decode cX11_together 79 = .ok (.iinc 4 1, 3) := by decide +kernel
theorem dX11_together_82 : decode cX11_together 82 = .ok (.iload 5, 2) := by decide +kernel
theorem dX11_together_84 : decode cX11_together 84 = .ok (.aload_n 0, 1) := by decide +kernel
theorem dX11_together_85 : decode cX11_together 85 = .ok (.getfield 7, 3) := by decide +kernel
theorem dX11_together_88 : decode cX11_together 88 = .ok (.sipush 990, 3) := by decide +kernel
theorem dX11_together_91 : decode cX11_together 91 = .ok (.iload 8, 2) := by decide +kernel
theorem dX11_together_93 : decode cX11_together 93 = .ok (.iadd, 1) := by decide +kernel
theorem dX11_together_94 : decode cX11_together 94 = .ok (.iaload, 1) := by decide +kernel
theorem dX11_together_95 : decode cX11_together 95 = .ok (.iadd, 1) := by decide +kernel
theorem dX11_together_96 : decode cX11_together 96 = .ok (.istore 5, 2) := by decide +kernel
theorem dX11_together_98 : decode cX11_together 98 = .ok (.iload 6, 2) := by decide +kernel
theorem dX11_together_100 : decode cX11_together 100 = .ok (.aload_n 0, 1) := by decide +kernel
theorem dX11_together_101 : decode cX11_together 101 = .ok (.iload 8, 2) := by decide +kernel
theorem dX11_together_103 : decode cX11_together 103 = .ok (.invokevirtual 113, 3) := by decide +kernel
theorem dX11_together_106 : decode cX11_together 106 = .ok (.iadd, 1) := by decide +kernel
theorem dX11_together_107 : decode cX11_together 107 = .ok (.istore 6, 2) := by decide +kernel
theorem dX11_together_109 : decode cX11_together 109 = .ok (.goto (-79), 3) := by decide +kernel
theorem dX11_together_112 : decode cX11_together 112 = .ok (.aload_n 0, 1) := by decide +kernel
theorem dX11_together_113 : decode cX11_together 113 = .ok (.iload_n 1, 1) := by decide +kernel
theorem dX11_together_114 : decode cX11_together 114 = .ok (.invokevirtual 113, 3) := by decide +kernel
theorem dX11_together_117 : decode cX11_together 117 = .ok (.iload 6, 2) := by decide +kernel
theorem dX11_together_119 : decode cX11_together 119 = .ok (.if_icmp .le 7, 3) := by decide +kernel
theorem dX11_together_122 : decode cX11_together 122 = .ok (.iconst 1, 1) := by decide +kernel
theorem dX11_together_123 : decode cX11_together 123 = .ok (.goto 4, 3) := by decide +kernel
theorem dX11_together_126 : decode cX11_together 126 = .ok (.iconst 0, 1) := by decide +kernel
theorem dX11_together_127 : decode cX11_together 127 = .ok (.istore 8, 2) := by decide +kernel
theorem dX11_together_129 : decode cX11_together 129 = .ok (.iconst 0, 1) := by decide +kernel
theorem dX11_together_130 : decode cX11_together 130 = .ok (.istore 9, 2) := by decide +kernel
theorem dX11_together_132 : decode cX11_together 132 = .ok (.iload 9, 2) := by decide +kernel
theorem dX11_together_134 : decode cX11_together 134 = .ok (.iload_n 3, 1) := by decide +kernel
theorem dX11_together_135 : decode cX11_together 135 = .ok (.if_icmp .ge 29, 3) := by decide +kernel
theorem dX11_together_138 : decode cX11_together 138 = .ok (.aload_n 0, 1) := by decide +kernel
theorem dX11_together_139 : decode cX11_together 139 = .ok (.iconst 1, 1) := by decide +kernel
theorem dX11_together_140 : decode cX11_together 140 = .ok (.iconst 0, 1) := by decide +kernel
theorem dX11_together_141 : decode cX11_together 141 = .ok (.invokevirtual 96, 3) := by decide +kernel
theorem dX11_together_144 : decode cX11_together 144 = .ok (.istore 10, 2) := by decide +kernel
theorem dX11_together_146 : decode cX11_together 146 = .ok (.iload 8, 2) := by decide +kernel
theorem dX11_together_148 : decode cX11_together 148 = .ok (.ifCond .ne 10, 3) := by decide +kernel
theorem dX11_together_151 : decode cX11_together 151 = .ok (.aload_n 0, 1) := by decide +kernel
theorem dX11_together_152 : decode cX11_together 152 = .ok (.iconst 1, 1) := by decide +kernel
theorem dX11_together_153 : decode cX11_together 153 = .ok (.iload 10, 2) := by decide +kernel
theorem dX11_together_155 : decode cX11_together 155 = .ok (.invokevirtual 99, 3) := by decide +kernel
theorem dX11_together_158 : decode cX11_together 158 = .ok (.iinc 9 1, 3) := by decide +kernel
theorem dX11_together_161 : decode cX11_together 161 = .ok (.goto (-29), 3) := by decide +kernel
theorem dX11_together_164 : decode cX11_together 164 = .ok (.iconst 0, 1) := by decide +kernel
theorem dX11_together_165 : decode cX11_together 165 = .ok (.istore 9, 2) := by decide +kernel
theorem dX11_together_167 : decode cX11_together 167 = .ok (.iload 9, 2) := by decide +kernel
theorem dX11_together_169 : decode cX11_together 169 = .ok (.iload 4, 2) := by decide +kernel
theorem dX11_together_171 : decode cX11_together 171 = .ok (.if_icmp .ge 29, 3) := by decide +kernel
theorem dX11_together_174 : decode cX11_together 174 = .ok (.aload_n 0, 1) := by decide +kernel
theorem dX11_together_175 : decode cX11_together 175 = .ok (.iconst 2, 1) := by decide +kernel
theorem dX11_together_176 : decode cX11_together 176 = .ok (.iconst 0, 1) := by decide +kernel
theorem dX11_together_177 : decode cX11_together 177 = .ok (.invokevirtual 96, 3) := by decide +kernel
theorem dX11_together_180 : decode cX11_together 180 = .ok (.istore 10, 2) := by decide +kernel
theorem dX11_together_182 : decode cX11_together 182 = .ok (.iload 8, 2) := by decide +kernel
theorem dX11_together_184 : decode cX11_together 184 = .ok (.ifCond .ne 10, 3) := by decide +kernel
theorem dX11_together_187 : decode cX11_together 187 = .ok (.aload_n 0, 1) := by decide +kernel
theorem dX11_together_188 : decode cX11_together 188 = .ok (.iconst 2, 1) := by decide +kernel
theorem dX11_together_189 : decode cX11_together 189 = .ok (.iload 10, 2) := by decide +kernel
theorem dX11_together_191 : decode cX11_together 191 = .ok (.invokevirtual 99, 3) := by decide +kernel
theorem dX11_together_194 : decode cX11_together 194 = .ok (.iinc 9 1, 3) := by decide +kernel
theorem dX11_together_197 : decode cX11_together 197 = .ok (.goto (-30), 3) := by decide +kernel
theorem dX11_together_200 : decode cX11_together 200 = .ok (.aload_n 0, 1) := by decide +kernel
theorem dX11_together_201 : decode cX11_together 201 = .ok (.getfield 7, 3) := by decide +kernel
theorem dX11_together_204 : decode cX11_together 204 = .ok (.sipush 1399, 3) := by decide +kernel
theorem dX11_together_207 : decode cX11_together 207 = .ok (.dup2, 1) := by decide +kernel
theorem dX11_together_208 : decode cX11_together 208 = .ok (.iaload, 1) := by decide +kernel
theorem dX11_together_209 : decode cX11_together 209 = .ok (.iload 8, 2) := by decide +kernel
theorem dX11_together_211 : decode cX11_together 211 = .ok (.ifCond .eq 10, 3) := by decide +kernel
theorem dX11_together_214 : decode cX11_together 214 = .ok (.iload_n 3, 1) := by decide +kernel
theorem dX11_together_215 : decode cX11_together 215 = .ok (.iload 4, 2) := by decide +kernel
theorem dX11_together_217 : decode cX11_together 217 = .ok (.iadd, 1) := by decide +kernel
theorem dX11_together_218 : decode cX11_together 218 = .ok (.goto 4, 3) := by decide +kernel
theorem dX11_together_221 : decode cX11_together 221 = .ok (.iconst 1, 1) := by decide +kernel
theorem dX11_together_222 : decode cX11_together 222 = .ok (.iadd, 1) := by decide +kernel
theorem dX11_together_223 : decode cX11_together 223 = .ok (.iastore, 1) := by decide +kernel
theorem dX11_together_224 : decode cX11_together 224 = .ok (.iload 8, 2) := by decide +kernel
theorem dX11_together_226 : decode cX11_together 226 = .ok (.ifCond .eq 9, 3) := by decide +kernel
theorem dX11_together_229 : decode cX11_together 229 = .ok (.aload_n 0, 1) := by decide +kernel
theorem dX11_together_230 : decode cX11_together 230 = .ok (.iconst 1, 1) := by decide +kernel
theorem dX11_together_231 : decode cX11_together 231 = .ok (.iload_n 1, 1) := by decide +kernel
theorem dX11_together_232 : decode cX11_together 232 = .ok (.invokevirtual 99, 3) := by decide +kernel
theorem dX11_together_235 : decode cX11_together 235 = .ok (.return_, 1) := by decide +kernel
theorem dX11_accessed_0 : decode cX11_accessed 0 = .ok (.aload_n 0, 1) := by decide +kernel
theorem dX11_accessed_1 : decode cX11_accessed 1 = .ok (.getfield 7, 3) := by decide +kernel
theorem dX11_accessed_4 : decode cX11_accessed 4 = .ok (.sipush 1397, 3) := by decide +kernel
theorem dX11_accessed_7 : decode cX11_accessed 7 = .ok (.dup2, 1) := by decide +kernel
theorem dX11_accessed_8 : decode cX11_accessed 8 = .ok (.iaload, 1) := by decide +kernel
theorem dX11_accessed_9 : decode cX11_accessed 9 = .ok (.iconst 1, 1) := by decide +kernel
theorem dX11_accessed_10 : decode cX11_accessed 10 = .ok (.iadd, 1) := by decide +kernel
theorem dX11_accessed_11 : decode cX11_accessed 11 = .ok (.iastore, 1) := by decide +kernel
theorem dX11_accessed_12 : decode cX11_accessed 12 = .ok (.aload_n 0, 1) := by decide +kernel
theorem dX11_accessed_13 : decode cX11_accessed 13 = .ok (.getfield 7, 3) := by decide +kernel
theorem dX11_accessed_16 : decode cX11_accessed 16 = .ok (.sipush 1404, 3) := by decide +kernel
theorem dX11_accessed_19 : decode cX11_accessed 19 = .ok (.iaload, 1) := by decide +kernel
theorem dX11_accessed_20 : decode cX11_accessed 20 = .ok (.sipush 300, 3) := by decide +kernel
theorem dX11_accessed_23 : decode cX11_accessed 23 = .ok (.if_icmp .ne 52, 3) := by decide +kernel
theorem dX11_accessed_26 : decode cX11_accessed 26 = .ok (.iconst 1, 1) := by decide +kernel
theorem dX11_accessed_27 : decode cX11_accessed 27 = .ok (.istore_n 2, 1) := by decide +kernel
theorem dX11_accessed_28 : decode cX11_accessed 28 = .ok (.iload_n 2, 1) := by decide +kernel
theorem dX11_accessed_29 : decode cX11_accessed 29 = .ok (.sipush 300, 3) := by decide +kernel
theorem dX11_accessed_32 : decode cX11_accessed 32 = .ok (.if_icmp .ge 31, 3) := by decide +kernel
theorem dX11_accessed_35 : decode cX11_accessed 35 = .ok (.aload_n 0, 1) := by decide +kernel
theorem dX11_accessed_36 : decode cX11_accessed 36 = .ok (.getfield 7, 3) := by decide +kernel
theorem dX11_accessed_39 : decode cX11_accessed 39 = .ok (.sipush 1405, 3) := by decide +kernel
theorem dX11_accessed_42 : decode cX11_accessed 42 = .ok (.iload_n 2, 1) := by decide +kernel
theorem dX11_accessed_43 : decode cX11_accessed 43 = .ok (.iadd, 1) := by decide +kernel
theorem dX11_accessed_44 : decode cX11_accessed 44 = .ok (.iconst 1, 1) := by decide +kernel
theorem dX11_accessed_45 : decode cX11_accessed 45 = .ok (.isub, 1) := by decide +kernel
theorem dX11_accessed_46 : decode cX11_accessed 46 = .ok (.aload_n 0, 1) := by decide +kernel
theorem dX11_accessed_47 : decode cX11_accessed 47 = .ok (.getfield 7, 3) := by decide +kernel
theorem dX11_accessed_50 : decode cX11_accessed 50 = .ok (.sipush 1405, 3) := by decide +kernel
theorem dX11_accessed_53 : decode cX11_accessed 53 = .ok (.iload_n 2, 1) := by decide +kernel
theorem dX11_accessed_54 : decode cX11_accessed 54 = .ok (.iadd, 1) := by decide +kernel
theorem dX11_accessed_55 : decode cX11_accessed 55 = .ok (.iaload, 1) := by decide +kernel
theorem dX11_accessed_56 : decode cX11_accessed 56 = .ok (.iastore, 1) := by decide +kernel
theorem dX11_accessed_57 : decode cX11_accessed 57 = .ok (.iinc 2 1, 3) := by decide +kernel
theorem dX11_accessed_60 : decode cX11_accessed 60 = .ok (.goto (-32), 3) := by decide +kernel
theorem dX11_accessed_63 : decode cX11_accessed 63 = .ok (.aload_n 0, 1) := by decide +kernel
theorem dX11_accessed_64 : decode cX11_accessed 64 = .ok (.getfield 7, 3) := by decide +kernel
theorem dX11_accessed_67 : decode cX11_accessed 67 = .ok (.sipush 1404, 3) := by decide +kernel
theorem dX11_accessed_70 : decode cX11_accessed 70 = .ok (.dup2, 1) := by decide +kernel
theorem dX11_accessed_71 : decode cX11_accessed 71 = .ok (.iaload, 1) := by decide +kernel
theorem dX11_accessed_72 : decode cX11_accessed 72 = .ok (.iconst 1, 1) := by decide +kernel
theorem dX11_accessed_73 : decode cX11_accessed 73 = .ok (.isub, 1) := by decide +kernel
theorem dX11_accessed_74 : decode cX11_accessed 74 = .ok (.iastore, 1) := by decide +kernel
theorem dX11_accessed_75 : decode cX11_accessed 75 = .ok (.aload_n 0, 1) := by decide +kernel
theorem dX11_accessed_76 : decode cX11_accessed 76 = .ok (.getfield 7, 3) := by decide +kernel
theorem dX11_accessed_79 : decode cX11_accessed 79 = .ok (.sipush 1405, 3) := by decide +kernel
theorem dX11_accessed_82 : decode cX11_accessed 82 = .ok (.aload_n 0, 1) := by decide +kernel
theorem dX11_accessed_83 : decode cX11_accessed 83 = .ok (.getfield 7, 3) := by decide +kernel
theorem dX11_accessed_86 : decode cX11_accessed 86 = .ok (.sipush 1404, 3) := by decide +kernel
theorem dX11_accessed_89 : decode cX11_accessed 89 = .ok (.iaload, 1) := by decide +kernel
theorem dX11_accessed_90 : decode cX11_accessed 90 = .ok (.iadd, 1) := by decide +kernel
theorem dX11_accessed_91 : decode cX11_accessed 91 = .ok (.iload_n 1, 1) := by decide +kernel
theorem dX11_accessed_92 : decode cX11_accessed 92 = .ok (.iastore, 1) := by decide +kernel
theorem dX11_accessed_93 : decode cX11_accessed 93 = .ok (.aload_n 0, 1) := by decide +kernel
theorem dX11_accessed_94 : decode cX11_accessed 94 = .ok (.getfield 7, 3) := by decide +kernel
theorem dX11_accessed_97 : decode cX11_accessed 97 = .ok (.sipush 1404, 3) := by decide +kernel
theorem dX11_accessed_100 : decode cX11_accessed 100 = .ok (.dup2, 1) := by decide +kernel
theorem dX11_accessed_101 : decode cX11_accessed 101 = .ok (.iaload, 1) := by decide +kernel
theorem dX11_accessed_102 : decode cX11_accessed 102 = .ok (.iconst 1, 1) := by decide +kernel
theorem dX11_accessed_103 : decode cX11_accessed 103 = .ok (.iadd, 1) := by decide +kernel
theorem dX11_accessed_104 : decode cX11_accessed 104 = .ok (.iastore, 1) := by decide +kernel
theorem dX11_accessed_105 : decode cX11_accessed 105 = .ok (.aload_n 0, 1) := by decide +kernel
theorem dX11_accessed_106 : decode cX11_accessed 106 = .ok (.iload_n 1, 1) := by decide +kernel
theorem dX11_accessed_107 : decode cX11_accessed 107 = .ok (.invokevirtual 116, 3) := by decide +kernel
theorem dX11_accessed_110 : decode cX11_accessed 110 = .ok (.aload_n 0, 1) := by decide +kernel
theorem dX11_accessed_111 : decode cX11_accessed 111 = .ok (.iload_n 1, 1) := by decide +kernel
theorem dX11_accessed_112 : decode cX11_accessed 112 = .ok (.invokevirtual 70, 3) := by decide +kernel
theorem dX11_accessed_115 : decode cX11_accessed 115 = .ok (.istore_n 2, 1) := by decide +kernel
theorem dX11_accessed_116 : decode cX11_accessed 116 = .ok (.iload_n 2, 1) := by decide +kernel
theorem dX11_accessed_117 : decode cX11_accessed 117 = .ok (.ifCond .lt 36, 3) := by decide +kernel
theorem dX11_accessed_120 : decode cX11_accessed 120 = .ok (.aload_n 0, 1) := by decide +kernel
theorem dX11_accessed_121 : decode cX11_accessed 121 = .ok (.iload_n 2, 1) := by decide +kernel
theorem dX11_accessed_122 : decode cX11_accessed 122 = .ok (.aload_n 0, 1) := by decide +kernel
theorem dX11_accessed_123 : decode cX11_accessed 123 = .ok (.iload_n 2, 1) := by decide +kernel
theorem dX11_accessed_124 : decode cX11_accessed 124 = .ok (.iload_n 1, 1) := by decide +kernel
theorem dX11_accessed_125 : decode cX11_accessed 125 = .ok (.invokevirtual 90, 3) := by decide +kernel
theorem dX11_accessed_128 : decode cX11_accessed 128 = .ok (.invokevirtual 96, 3) := by decide +kernel
theorem dX11_accessed_131 : decode cX11_accessed 131 = .ok (.istore_n 3, 1) := by decide +kernel
theorem dX11_accessed_132 : decode cX11_accessed 132 = .ok (.aload_n 0, 1) := by decide +kernel
theorem dX11_accessed_133 : decode cX11_accessed 133 = .ok (.iload_n 2, 1) := by decide +kernel
theorem dX11_accessed_134 : decode cX11_accessed 134 = .ok (.ifCond .ne 7, 3) := by decide +kernel
theorem dX11_accessed_137 : decode cX11_accessed 137 = .ok (.iconst 0, 1) := by decide +kernel
theorem dX11_accessed_138 : decode cX11_accessed 138 = .ok (.goto 4, 3) := by decide +kernel
theorem dX11_accessed_141 : decode cX11_accessed 141 = .ok (.iconst 2, 1) := by decide +kernel
theorem dX11_accessed_142 : decode cX11_accessed 142 = .ok (.iload_n 3, 1) := by decide +kernel
theorem dX11_accessed_143 : decode cX11_accessed 143 = .ok (.invokevirtual 99, 3) := by decide +kernel
theorem dX11_accessed_146 : decode cX11_accessed 146 = .ok (.aload_n 0, 1) := by decide +kernel
theorem dX11_accessed_147 : decode cX11_accessed 147 = .ok (.invokevirtual 119, 3) := by decide +kernel
theorem dX11_accessed_150 : decode cX11_accessed 150 = .ok (.goto 59, 3) := by decide +kernel
theorem dX11_accessed_153 : decode cX11_accessed 153 = .ok (.aload_n 0, 1) := by decide +kernel
theorem dX11_accessed_154 : decode cX11_accessed 154 = .ok (.getfield 7, 3) := by decide +kernel
theorem dX11_accessed_157 : decode cX11_accessed 157 = .ok (.sipush 990, 3) := by decide +kernel
theorem dX11_accessed_160 : decode cX11_accessed 160 = .ok (.iload_n 1, 1) := by decide +kernel
theorem dX11_accessed_161 : decode cX11_accessed 161 = .ok (.iadd, 1) := by decide +kernel
theorem dX11_accessed_162 : decode cX11_accessed 162 = .ok (.iaload, 1) := by decide +kernel
theorem dX11_accessed_163 : decode cX11_accessed 163 = .ok (.aload_n 0, 1) := by decide +kernel
theorem dX11_accessed_164 : decode cX11_accessed 164 = .ok (.getfield 52, 3) := by decide +kernel
theorem dX11_accessed_167 : decode cX11_accessed 167 = .ok (.if_icmp .gt 42, 3) := by decide +kernel
theorem dX11_accessed_170 : decode cX11_accessed 170 = .ok (.aload_n 0, 1) := by decide +kernel
theorem dX11_accessed_171 : decode cX11_accessed 171 = .ok (.getfield 7, 3) := by decide +kernel
theorem dX11_accessed_174 : decode cX11_accessed 174 = .ok (.sipush 990, 3) := by decide +kernel
theorem dX11_accessed_177 : decode cX11_accessed 177 = .ok (.iload_n 1, 1) := by decide +kernel
theorem dX11_accessed_178 : decode cX11_accessed 178 = .ok (.iadd, 1) := by decide +kernel
theorem dX11_accessed_179 : decode cX11_accessed 179 = .ok (.iaload, 1) := by decide +kernel
theorem dX11_accessed_180 : decode cX11_accessed 180 = .ok (.aload_n 0, 1) := by decide +kernel
theorem dX11_accessed_181 : decode cX11_accessed 181 = .ok (.getfield 7, 3) := by decide +kernel
theorem dX11_accessed_184 : decode cX11_accessed 184 = .ok (.sipush 1393, 3) := by decide +kernel
theorem dX11_accessed_187 : decode cX11_accessed 187 = .ok (.iaload, 1) := by decide +kernel
theorem dX11_accessed_188 : decode cX11_accessed 188 = .ok (.if_icmp .le 11, 3) := by decide +kernel
theorem dX11_accessed_191 : decode cX11_accessed 191 = .ok (.aload_n 0, 1) := by decide +kernel
theorem dX11_accessed_192 : decode cX11_accessed 192 = .ok (.iload_n 1, 1) := by decide +kernel
theorem dX11_accessed_193 : decode cX11_accessed 193 = .ok (.invokevirtual 103, 3) := by decide +kernel
theorem dX11_accessed_196 : decode cX11_accessed 196 = .ok (.goto 13, 3) := by decide +kernel
theorem dX11_accessed_199 : decode cX11_accessed 199 = .ok (.aload_n 0, 1) := by decide +kernel
theorem dX11_accessed_200 : decode cX11_accessed 200 = .ok (.iconst 0, 1) := by decide +kernel
theorem dX11_accessed_201 : decode cX11_accessed 201 = .ok (.iload_n 1, 1) := by decide +kernel
theorem dX11_accessed_202 : decode cX11_accessed 202 = .ok (.invokevirtual 99, 3) := by decide +kernel
theorem dX11_accessed_205 : decode cX11_accessed 205 = .ok (.aload_n 0, 1) := by decide +kernel
theorem dX11_accessed_206 : decode cX11_accessed 206 = .ok (.invokevirtual 122, 3) := by decide +kernel
theorem dX11_accessed_209 : decode cX11_accessed 209 = .ok (.aload_n 0, 1) := by decide +kernel
theorem dX11_accessed_210 : decode cX11_accessed 210 = .ok (.getfield 7, 3) := by decide +kernel
theorem dX11_accessed_213 : decode cX11_accessed 213 = .ok (.sipush 1398, 3) := by decide +kernel
theorem dX11_accessed_216 : decode cX11_accessed 216 = .ok (.dup2, 1) := by decide +kernel
theorem dX11_accessed_217 : decode cX11_accessed 217 = .ok (.iaload, 1) := by decide +kernel
theorem dX11_accessed_218 : decode cX11_accessed 218 = .ok (.iload_n 2, 1) := by decide +kernel
theorem dX11_accessed_219 : decode cX11_accessed 219 = .ok (.ifCond .lt 7, 3) := by decide +kernel
theorem dX11_accessed_222 : decode cX11_accessed 222 = .ok (.iconst 1, 1) := by decide +kernel
theorem dX11_accessed_223 : decode cX11_accessed 223 = .ok (.goto 4, 3) := by decide +kernel
theorem dX11_accessed_226 : decode cX11_accessed 226 = .ok (.iconst 0, 1) := by decide +kernel
theorem dX11_accessed_227 : decode cX11_accessed 227 = .ok (.iadd, 1) := by decide +kernel
theorem dX11_accessed_228 : decode cX11_accessed 228 = .ok (.iastore, 1) := by decide +kernel
theorem dX11_accessed_229 : decode cX11_accessed 229 = .ok (.aload_n 0, 1) := by decide +kernel
theorem dX11_accessed_230 : decode cX11_accessed 230 = .ok (.getfield 7, 3) := by decide +kernel
theorem dX11_accessed_233 : decode cX11_accessed 233 = .ok (.sipush 604, 3) := by decide +kernel
theorem dX11_accessed_236 : decode cX11_accessed 236 = .ok (.iaload, 1) := by decide +kernel
theorem dX11_accessed_237 : decode cX11_accessed 237 = .ok (.ifCond .le 58, 3) := by decide +kernel
theorem dX11_accessed_240 : decode cX11_accessed 240 = .ok (.aload_n 0, 1) := by decide +kernel
theorem dX11_accessed_241 : decode cX11_accessed 241 = .ok (.getfield 7, 3) := by decide +kernel
theorem dX11_accessed_244 : decode cX11_accessed 244 = .ok (.sipush 1402, 3) := by decide +kernel
theorem dX11_accessed_247 : decode cX11_accessed 247 = .ok (.dup2, 1) := by decide +kernel
theorem dX11_accessed_248 : decode cX11_accessed 248 = .ok (.iaload, 1) := by decide +kernel
theorem dX11_accessed_249 : decode cX11_accessed 249 = .ok (.iconst 1, 1) := by decide +kernel
theorem dX11_accessed_250 : decode cX11_accessed 250 = .ok (.iadd, 1) := by decide +kernel
theorem dX11_accessed_251 : decode cX11_accessed 251 = .ok (.iastore, 1) := by decide +kernel
theorem dX11_accessed_252 : decode cX11_accessed 252 = .ok (.aload_n 0, 1) := by decide +kernel
theorem dX11_accessed_253 : decode cX11_accessed 253 = .ok (.getfield 7, 3) := by decide +kernel
theorem dX11_accessed_256 : decode cX11_accessed 256 = .ok (.sipush 1401, 3) := by decide +kernel
theorem dX11_accessed_259 : decode cX11_accessed 259 = .ok (.dup2, 1) := by decide +kernel
theorem dX11_accessed_260 : decode cX11_accessed 260 = .ok (.iaload, 1) := by decide +kernel
theorem dX11_accessed_261 : decode cX11_accessed 261 = .ok (.iload_n 2, 1) := by decide +kernel
theorem dX11_accessed_262 : decode cX11_accessed 262 = .ok (.ifCond .lt 7, 3) := by decide +kernel
theorem dX11_accessed_265 : decode cX11_accessed 265 = .ok (.iconst 1, 1) := by decide +kernel
theorem dX11_accessed_266 : decode cX11_accessed 266 = .ok (.goto 4, 3) := by decide +kernel
theorem dX11_accessed_269 : decode cX11_accessed 269 = .ok (.iconst 0, 1) := by decide +kernel
theorem dX11_accessed_270 : decode cX11_accessed 270 = .ok (.iadd, 1) := by decide +kernel
theorem dX11_accessed_271 : decode cX11_accessed 271 = .ok (.iastore, 1) := by decide +kernel
theorem dX11_accessed_272 : decode cX11_accessed 272 = .ok (.aload_n 0, 1) := by decide +kernel
theorem dX11_accessed_273 : decode cX11_accessed 273 = .ok (.getfield 7, 3) := by decide +kernel
theorem dX11_accessed_276 : decode cX11_accessed 276 = .ok (.sipush 1402, 3) := by decide +kernel
theorem dX11_accessed_279 : decode cX11_accessed 279 = .ok (.iaload, 1) := by decide +kernel
theorem dX11_accessed_280 : decode cX11_accessed 280 = .ok (.aload_n 0, 1) := by decide +kernel
theorem dX11_accessed_281 : decode cX11_accessed 281 = .ok (.getfield 7, 3) := by decide +kernel
theorem dX11_accessed_284 : decode cX11_accessed 284 = .ok (.sipush 605, 3) := by decide +kernel
theorem dX11_accessed_287 : decode cX11_accessed 287 = .ok (.iaload, 1) := by decide +kernel
theorem dX11_accessed_288 : decode cX11_accessed 288 = .ok (.if_icmp .ne 7, 3) := by decide +kernel
theorem dX11_accessed_291 : decode cX11_accessed 291 = .ok (.aload_n 0, 1) := by decide +kernel
theorem dX11_accessed_292 : decode cX11_accessed 292 = .ok (.invokevirtual 125, 3) := by decide +kernel
theorem dX11_accessed_295 : decode cX11_accessed 295 = .ok (.iload_n 2, 1) := by decide +kernel
theorem dX11_accessed_296 : decode cX11_accessed 296 = .ok (.ifCond .lt 9, 3) := by decide +kernel
theorem dX11_accessed_299 : decode cX11_accessed 299 = .ok (.iconst 2, 1) := by decide +kernel
theorem dX11_accessed_300 : decode cX11_accessed 300 = .ok (.iload_n 2, 1) := by decide +kernel
theorem dX11_accessed_301 : decode cX11_accessed 301 = .ok (.iadd, 1) := by decide +kernel
theorem dX11_accessed_302 : decode cX11_accessed 302 = .ok (.goto 16, 3) := by decide +kernel
theorem dX11_accessed_305 : decode cX11_accessed 305 = .ok (.aload_n 0, 1) := by decide +kernel
theorem dX11_accessed_306 : decode cX11_accessed 306 = .ok (.iload_n 1, 1) := by decide +kernel
theorem dX11_accessed_307 : decode cX11_accessed 307 = .ok (.invokevirtual 70, 3) := by decide +kernel
theorem dX11_accessed_310 : decode cX11_accessed 310 = .ok (.ifCond .lt 7, 3) := by decide +kernel
theorem dX11_accessed_313 : decode cX11_accessed 313 = .ok (.iconst 1, 1) := by decide +kernel
theorem dX11_accessed_314 : decode cX11_accessed 314 = .ok (.goto 4, 3) := by decide +kernel
theorem dX11_accessed_317 : decode cX11_accessed 317 = .ok (.iconst 0, 1) := by decide +kernel
theorem dX11_accessed_318 : decode cX11_accessed 318 = .ok (.ireturn, 1) := by decide +kernel
theorem dX11_climb_0 : decode cX11_climb 0 = .ok (.aload_n 0, 1) := by decide +kernel
theorem dX11_climb_1 : decode cX11_climb 1 = .ok (.getfield 7, 3) := by decide +kernel
theorem dX11_climb_4 : decode cX11_climb 4 = .ok (.sipush 1401, 3) := by decide +kernel
theorem dX11_climb_7 : decode cX11_climb 7 = .ok (.iaload, 1) := by decide +kernel
theorem dX11_climb_8 : decode cX11_climb 8 = .ok (.aload_n 0, 1) := by decide +kernel
theorem dX11_climb_9 : decode cX11_climb 9 = .ok (.getfield 7, 3) := by decide +kernel
theorem dX11_climb_12 : decode cX11_climb 12 = .ok (.sipush 1403, 3) := by decide +kernel
theorem dX11_climb_15 : decode cX11_climb 15 = .ok (.iaload, 1) := by decide +kernel
theorem dX11_climb_16 : decode cX11_climb 16 = .ok (.if_icmp .ge 20, 3) := by decide +kernel
theorem dX11_climb_19 : decode cX11_climb 19 = .ok (.aload_n 0, 1) := by decide +kernel
theorem dX11_climb_20 : decode cX11_climb 20 = .ok (.getfield 7, 3) := by decide +kernel
theorem dX11_climb_23 : decode cX11_climb 23 = .ok (.sipush 1400, 3) := by decide +kernel
theorem dX11_climb_26 : decode cX11_climb 26 = .ok (.aload_n 0, 1) := by decide +kernel
theorem dX11_climb_27 : decode cX11_climb 27 = .ok (.getfield 7, 3) := by decide +kernel
theorem dX11_climb_30 : decode cX11_climb 30 = .ok (.sipush 1400, 3) := by decide +kernel
theorem dX11_climb_33 : decode cX11_climb 33 = .ok (.iaload, 1) := by decide +kernel
theorem dX11_climb_34 : decode cX11_climb 34 = .ok (.ineg, 1) := by decide +kernel
theorem dX11_climb_35 : decode cX11_climb 35 = .ok (.iastore, 1) := by decide +kernel
theorem dX11_climb_36 : decode cX11_climb 36 = .ok (.aload_n 0, 1) := by decide +kernel
theorem dX11_climb_37 : decode cX11_climb 37 = .ok (.getfield 7, 3) := by decide +kernel
theorem dX11_climb_40 : decode cX11_climb 40 = .ok (.sipush 1403, 3) := by decide +kernel
theorem dX11_climb_43 : decode cX11_climb 43 = .ok (.aload_n 0, 1) := by decide +kernel
theorem dX11_climb_44 : decode cX11_climb 44 = .ok (.getfield 7, 3) := by decide +kernel
theorem dX11_climb_47 : decode cX11_climb 47 = .ok (.sipush 1401, 3) := by decide +kernel
theorem dX11_climb_50 : decode cX11_climb 50 = .ok (.iaload, 1) := by decide +kernel
theorem dX11_climb_51 : decode cX11_climb 51 = .ok (.iastore, 1) := by decide +kernel
theorem dX11_climb_52 : decode cX11_climb 52 = .ok (.aload_n 0, 1) := by decide +kernel
theorem dX11_climb_53 : decode cX11_climb 53 = .ok (.getfield 7, 3) := by decide +kernel
theorem dX11_climb_56 : decode cX11_climb 56 = .ok (.sipush 1402, 3) := by decide +kernel
theorem dX11_climb_59 : decode cX11_climb 59 = .ok (.iconst 0, 1) := by decide +kernel
theorem dX11_climb_60 : decode cX11_climb 60 = .ok (.iastore, 1) := by decide +kernel
theorem dX11_climb_61 : decode cX11_climb 61 = .ok (.aload_n 0, 1) := by decide +kernel
theorem dX11_climb_62 : decode cX11_climb 62 = .ok (.getfield 7, 3) := by decide +kernel
theorem dX11_climb_65 : decode cX11_climb 65 = .ok (.sipush 1401, 3) := by decide +kernel
theorem dX11_climb_68 : decode cX11_climb 68 = .ok (.iconst 0, 1) := by decide +kernel
theorem dX11_climb_69 : decode cX11_climb 69 = .ok (.iastore, 1) := by decide +kernel
theorem dX11_climb_70 : decode cX11_climb 70 = .ok (.aload_n 0, 1) := by decide +kernel
theorem dX11_climb_71 : decode cX11_climb 71 = .ok (.aload_n 0, 1) := by decide +kernel
theorem dX11_climb_72 : decode cX11_climb 72 = .ok (.getfield 7, 3) := by decide +kernel
theorem dX11_climb_75 : decode cX11_climb 75 = .ok (.sipush 1393, 3) := by decide +kernel
theorem dX11_climb_78 : decode cX11_climb 78 = .ok (.iaload, 1) := by decide +kernel
theorem dX11_climb_79 : decode cX11_climb 79 = .ok (.aload_n 0, 1) := by decide +kernel
theorem dX11_climb_80 : decode cX11_climb 80 = .ok (.getfield 7, 3) := by decide +kernel
theorem dX11_climb_83 : decode cX11_climb 83 = .ok (.sipush 1400, 3) := by decide +kernel
theorem dX11_climb_86 : decode cX11_climb 86 = .ok (.iaload, 1) := by decide +kernel
theorem dX11_climb_87 : decode cX11_climb 87 = .ok (.aload_n 0, 1) := by decide +kernel
theorem dX11_climb_88 : decode cX11_climb 88 = .ok (.getfield 7, 3) := by decide +kernel
theorem dX11_climb_91 : decode cX11_climb 91 = .ok (.sipush 604, 3) := by decide +kernel
theorem dX11_climb_94 : decode cX11_climb 94 = .ok (.iaload, 1) := by decide +kernel
theorem dX11_climb_95 : decode cX11_climb 95 = .ok (.imul, 1) := by decide +kernel
theorem dX11_climb_96 : decode cX11_climb 96 = .ok (.iadd, 1) := by decide +kernel
theorem dX11_climb_97 : decode cX11_climb 97 = .ok (.invokevirtual 55, 3) := by decide +kernel
theorem dX11_climb_100 : decode cX11_climb 100 = .ok (.aload_n 0, 1) := by decide +kernel
theorem dX11_climb_101 : decode cX11_climb 101 = .ok (.invokevirtual 119, 3) := by decide +kernel
theorem dX11_climb_104 : decode cX11_climb 104 = .ok (.aload_n 0, 1) := by decide +kernel
theorem dX11_climb_105 : decode cX11_climb 105 = .ok (.invokevirtual 106, 3) := by decide +kernel
theorem dX11_climb_108 : decode cX11_climb 108 = .ok (.aload_n 0, 1) := by decide +kernel
theorem dX11_climb_109 : decode cX11_climb 109 = .ok (.getfield 52, 3) := by decide +kernel
theorem dX11_climb_112 : decode cX11_climb 112 = .ok (.aload_n 0, 1) := by decide +kernel
theorem dX11_climb_113 : decode cX11_climb 113 = .ok (.getfield 7, 3) := by decide +kernel
theorem dX11_climb_116 : decode cX11_climb 116 = .ok (.sipush 1393, 3) := by decide +kernel
theorem dX11_climb_119 : decode cX11_climb 119 = .ok (.iaload, 1) := by decide +kernel
theorem dX11_climb_120 : decode cX11_climb 120 = .ok (.isub, 1) := by decide +kernel
theorem dX11_climb_121 : decode cX11_climb 121 = .ok (.if_icmp .le 29, 3) := by decide +kernel
theorem dX11_climb_124 : decode cX11_climb 124 = .ok (.aload_n 0, 1) := by decide +kernel
theorem dX11_climb_125 : decode cX11_climb 125 = .ok (.iconst 0, 1) := by decide +kernel
theorem dX11_climb_126 : decode cX11_climb 126 = .ok (.aload_n 0, 1) := by decide +kernel
theorem dX11_climb_127 : decode cX11_climb 127 = .ok (.aload_n 0, 1) := by decide +kernel
theorem dX11_climb_128 : decode cX11_climb 128 = .ok (.iconst 1, 1) := by decide +kernel
theorem dX11_climb_129 : decode cX11_climb 129 = .ok (.invokevirtual 84, 3) := by decide +kernel
theorem dX11_climb_132 : decode cX11_climb 132 = .ok (.ifCond .le 7, 3) := by decide +kernel
theorem dX11_climb_135 : decode cX11_climb 135 = .ok (.iconst 1, 1) := by decide +kernel
theorem dX11_climb_136 : decode cX11_climb 136 = .ok (.goto 4, 3) := by decide +kernel
theorem dX11_climb_139 : decode cX11_climb 139 = .ok (.iconst 2, 1) := by decide +kernel
theorem dX11_climb_140 : decode cX11_climb 140 = .ok (.iconst 0, 1) := by decide +kernel
theorem dX11_climb_141 : decode cX11_climb 141 = .ok (.invokevirtual 96, 3) := by decide +kernel
theorem dX11_climb_144 : decode cX11_climb 144 = .ok (.invokevirtual 99, 3) := by decide +kernel
theorem dX11_climb_147 : decode cX11_climb 147 = .ok (.goto (-43), 3) := by decide +kernel
theorem dX11_climb_150 : decode cX11_climb 150 = .ok (.aload_n 0, 1) := by decide +kernel
theorem dX11_climb_151 : decode cX11_climb 151 = .ok (.invokevirtual 122, 3) := by decide +kernel
theorem dX11_climb_154 : decode cX11_climb 154 = .ok (.return_, 1) := by decide +kernel
theorem dX11_access_0 : decode cX11_access 0 = .ok (.iload_n 1, 1) := by decide +kernel
theorem dX11_access_1 : decode cX11_access 1 = .ok (.invokestatic 63, 3) := by decide +kernel
theorem dX11_access_4 : decode cX11_access 4 = .ok (.ifCond .eq 11, 3) := by decide +kernel
theorem dX11_access_7 : decode cX11_access 7 = .ok (.aload_n 0, 1) := by decide +kernel
theorem dX11_access_8 : decode cX11_access 8 = .ok (.iload_n 1, 1) := by decide +kernel
theorem dX11_access_9 : decode cX11_access 9 = .ok (.invokevirtual 128, 3) := by decide +kernel
theorem dX11_access_12 : decode cX11_access 12 = .ok (.goto 5, 3) := by decide +kernel
theorem dX11_access_15 : decode cX11_access 15 = .ok (.bipush (-2), 2) := by decide +kernel
theorem dX11_access_17 : decode cX11_access 17 = .ok (.ireturn, 1) := by decide +kernel
theorem dX11_run_0 : decode cX11_run 0 = .ok (.iload_n 1, 1) := by decide +kernel
theorem dX11_run_1 : decode cX11_run 1 = .ok (.invokestatic 63, 3) := by decide +kernel
theorem dX11_run_4 : decode cX11_run 4 = .ok (.ifCond .eq 23, 3) := by decide +kernel
theorem dX11_run_7 : decode cX11_run 7 = .ok (.iload_n 2, 1) := by decide +kernel
theorem dX11_run_8 : decode cX11_run 8 = .ok (.iconst 0, 1) := by decide +kernel
theorem dX11_run_9 : decode cX11_run 9 = .ok (.bipush 99, 2) := by decide +kernel
theorem dX11_run_11 : decode cX11_run 11 = .ok (.invokestatic 59, 3) := by decide +kernel
theorem dX11_run_14 : decode cX11_run 14 = .ok (.ifCond .eq 13, 3) := by decide +kernel
theorem dX11_run_17 : decode cX11_run 17 = .ok (.iload_n 3, 1) := by decide +kernel
theorem dX11_run_18 : decode cX11_run 18 = .ok (.iconst 1, 1) := by decide +kernel
theorem dX11_run_19 : decode cX11_run 19 = .ok (.bipush 100, 2) := by decide +kernel
theorem dX11_run_21 : decode cX11_run 21 = .ok (.invokestatic 59, 3) := by decide +kernel
theorem dX11_run_24 : decode cX11_run 24 = .ok (.ifCond .ne 6, 3) := by decide +kernel
theorem dX11_run_27 : decode cX11_run 27 = .ok (.bipush (-2), 2) := by decide +kernel
theorem dX11_run_29 : decode cX11_run 29 = .ok (.ireturn, 1) := by decide +kernel
theorem dX11_run_30 : decode cX11_run 30 = .ok (.aload_n 0, 1) := by decide +kernel
theorem dX11_run_31 : decode cX11_run 31 = .ok (.getfield 7, 3) := by decide +kernel
theorem dX11_run_34 : decode cX11_run 34 = .ok (.sipush 1398, 3) := by decide +kernel
theorem dX11_run_37 : decode cX11_run 37 = .ok (.iaload, 1) := by decide +kernel
theorem dX11_run_38 : decode cX11_run 38 = .ok (.istore 4, 2) := by decide +kernel
theorem dX11_run_40 : decode cX11_run 40 = .ok (.iconst 0, 1) := by decide +kernel
theorem dX11_run_41 : decode cX11_run 41 = .ok (.istore 5, 2) := by decide +kernel
theorem dX11_run_43 : decode cX11_run 43 = .ok (.iload 5, 2) := by decide +kernel
theorem dX11_run_45 : decode cX11_run 45 = .ok (.iload_n 3, 1) := by decide +kernel
theorem dX11_run_46 : decode cX11_run 46 = .ok (.if_icmp .ge 24, 3) := by decide +kernel
theorem dX11_run_49 : decode cX11_run 49 = .ok (.aload_n 0, 1) := by decide +kernel
theorem dX11_run_50 : decode cX11_run 50 = .ok (.iload_n 1, 1) := by decide +kernel
theorem dX11_run_51 : decode cX11_run 51 = .ok (.iload 5, 2) := by decide +kernel
theorem dX11_run_53 : decode cX11_run 53 = .ok (.iload_n 2, 1) := by decide +kernel
theorem dX11_run_54 : decode cX11_run 54 = .ok (.imul, 1) := by decide +kernel
theorem dX11_run_55 : decode cX11_run 55 = .ok (.iadd, 1) := by decide +kernel
theorem dX11_run_56 : decode cX11_run 56 = .ok (.bipush 100, 2) := by decide +kernel
theorem dX11_run_58 : decode cX11_run 58 = .ok (.irem, 1) := by decide +kernel
theorem dX11_run_59 : decode cX11_run 59 = .ok (.invokevirtual 128, 3) := by decide +kernel
theorem dX11_run_62 : decode cX11_run 62 = .ok (.istore 6, 2) := by decide +kernel
theorem dX11_run_64 : decode cX11_run 64 = .ok (.iinc 5 1, 3) := by decide +kernel
theorem dX11_run_67 : decode cX11_run 67 = .ok (.goto (-24), 3) := by decide +kernel
theorem dX11_run_70 : decode cX11_run 70 = .ok (.aload_n 0, 1) := by decide +kernel
theorem dX11_run_71 : decode cX11_run 71 = .ok (.getfield 7, 3) := by decide +kernel
theorem dX11_run_74 : decode cX11_run 74 = .ok (.sipush 1398, 3) := by decide +kernel
theorem dX11_run_77 : decode cX11_run 77 = .ok (.iaload, 1) := by decide +kernel
theorem dX11_run_78 : decode cX11_run 78 = .ok (.iload 4, 2) := by decide +kernel
theorem dX11_run_80 : decode cX11_run 80 = .ok (.isub, 1) := by decide +kernel
theorem dX11_run_81 : decode cX11_run 81 = .ok (.ireturn, 1) := by decide +kernel
theorem dX11_add_0 : decode cX11_add 0 = .ok (.iload_n 1, 1) := by decide +kernel
theorem dX11_add_1 : decode cX11_add 1 = .ok (.invokestatic 63, 3) := by decide +kernel
theorem dX11_add_4 : decode cX11_add 4 = .ok (.ifCond .ne 6, 3) := by decide +kernel
theorem dX11_add_7 : decode cX11_add 7 = .ok (.bipush (-2), 2) := by decide +kernel
theorem dX11_add_9 : decode cX11_add 9 = .ok (.ireturn, 1) := by decide +kernel
theorem dX11_add_10 : decode cX11_add 10 = .ok (.aload_n 0, 1) := by decide +kernel
theorem dX11_add_11 : decode cX11_add 11 = .ok (.iload_n 1, 1) := by decide +kernel
theorem dX11_add_12 : decode cX11_add 12 = .ok (.invokevirtual 116, 3) := by decide +kernel
theorem dX11_add_15 : decode cX11_add 15 = .ok (.aload_n 0, 1) := by decide +kernel
theorem dX11_add_16 : decode cX11_add 16 = .ok (.iload_n 1, 1) := by decide +kernel
theorem dX11_add_17 : decode cX11_add 17 = .ok (.invokevirtual 113, 3) := by decide +kernel
theorem dX11_add_20 : decode cX11_add 20 = .ok (.ireturn, 1) := by decide +kernel
theorem dX11_estimate_0 : decode cX11_estimate 0 = .ok (.iload_n 1, 1) := by decide +kernel
theorem dX11_estimate_1 : decode cX11_estimate 1 = .ok (.invokestatic 63, 3) := by decide +kernel
theorem dX11_estimate_4 : decode cX11_estimate 4 = .ok (.ifCond .eq 11, 3) := by decide +kernel
theorem dX11_estimate_7 : decode cX11_estimate 7 = .ok (.aload_n 0, 1) := by decide +kernel
theorem dX11_estimate_8 : decode cX11_estimate 8 = .ok (.iload_n 1, 1) := by decide +kernel
theorem dX11_estimate_9 : decode cX11_estimate 9 = .ok (.invokevirtual 113, 3) := by decide +kernel
theorem dX11_estimate_12 : decode cX11_estimate 12 = .ok (.goto 5, 3) := by decide +kernel
theorem dX11_estimate_15 : decode cX11_estimate 15 = .ok (.bipush (-2), 2) := by decide +kernel
theorem dX11_estimate_17 : decode cX11_estimate 17 = .ok (.ireturn, 1) := by decide +kernel
theorem dX11_counter_0 : decode cX11_counter 0 = .ok (.iload_n 1, 1) := by decide +kernel
theorem dX11_counter_1 : decode cX11_counter 1 = .ok (.iconst 0, 1) := by decide +kernel
theorem dX11_counter_2 : decode cX11_counter 2 = .ok (.aload_n 0, 1) := by decide +kernel
theorem dX11_counter_3 : decode cX11_counter 3 = .ok (.getfield 48, 3) := by decide +kernel
theorem dX11_counter_6 : decode cX11_counter 6 = .ok (.iconst 1, 1) := by decide +kernel
theorem dX11_counter_7 : decode cX11_counter 7 = .ok (.isub, 1) := by decide +kernel
theorem dX11_counter_8 : decode cX11_counter 8 = .ok (.invokestatic 59, 3) := by decide +kernel
theorem dX11_counter_11 : decode cX11_counter 11 = .ok (.ifCond .eq 31, 3) := by decide +kernel
theorem dX11_counter_14 : decode cX11_counter 14 = .ok (.iload_n 2, 1) := by decide +kernel
theorem dX11_counter_15 : decode cX11_counter 15 = .ok (.iconst 0, 1) := by decide +kernel
theorem dX11_counter_16 : decode cX11_counter 16 = .ok (.bipush 63, 2) := by decide +kernel
theorem dX11_counter_18 : decode cX11_counter 18 = .ok (.invokestatic 59, 3) := by decide +kernel
theorem dX11_counter_21 : decode cX11_counter 21 = .ok (.ifCond .eq 21, 3) := by decide +kernel
theorem dX11_counter_24 : decode cX11_counter 24 = .ok (.aload_n 0, 1) := by decide +kernel
theorem dX11_counter_25 : decode cX11_counter 25 = .ok (.getfield 7, 3) := by decide +kernel
theorem dX11_counter_28 : decode cX11_counter 28 = .ok (.sipush 606, 3) := by decide +kernel
theorem dX11_counter_31 : decode cX11_counter 31 = .ok (.bipush 64, 2) := by decide +kernel
theorem dX11_counter_33 : decode cX11_counter 33 = .ok (.iload_n 1, 1) := by decide +kernel
theorem dX11_counter_34 : decode cX11_counter 34 = .ok (.imul, 1) := by decide +kernel
theorem dX11_counter_35 : decode cX11_counter 35 = .ok (.iadd, 1) := by decide +kernel
theorem dX11_counter_36 : decode cX11_counter 36 = .ok (.iload_n 2, 1) := by decide +kernel
theorem dX11_counter_37 : decode cX11_counter 37 = .ok (.iadd, 1) := by decide +kernel
theorem dX11_counter_38 : decode cX11_counter 38 = .ok (.iaload, 1) := by decide +kernel
theorem dX11_counter_39 : decode cX11_counter 39 = .ok (.goto 5, 3) := by decide +kernel
theorem dX11_counter_42 : decode cX11_counter 42 = .ok (.bipush (-2), 2) := by decide +kernel
theorem dX11_counter_44 : decode cX11_counter 44 = .ok (.ireturn, 1) := by decide +kernel
theorem dX11_bit_0 : decode cX11_bit 0 = .ok (.iload_n 1, 1) := by decide +kernel
theorem dX11_bit_1 : decode cX11_bit 1 = .ok (.iconst 0, 1) := by decide +kernel
theorem dX11_bit_2 : decode cX11_bit 2 = .ok (.bipush 127, 2) := by decide +kernel
theorem dX11_bit_4 : decode cX11_bit 4 = .ok (.invokestatic 59, 3) := by decide +kernel
theorem dX11_bit_7 : decode cX11_bit 7 = .ok (.ifCond .eq 16, 3) := by decide +kernel
theorem dX11_bit_10 : decode cX11_bit 10 = .ok (.aload_n 0, 1) := by decide +kernel
theorem dX11_bit_11 : decode cX11_bit 11 = .ok (.getfield 7, 3) := by decide +kernel
theorem dX11_bit_14 : decode cX11_bit 14 = .ok (.sipush 862, 3) := by decide +kernel
theorem dX11_bit_17 : decode cX11_bit 17 = .ok (.iload_n 1, 1) := by decide +kernel
theorem dX11_bit_18 : decode cX11_bit 18 = .ok (.iadd, 1) := by decide +kernel
theorem dX11_bit_19 : decode cX11_bit 19 = .ok (.iaload, 1) := by decide +kernel
theorem dX11_bit_20 : decode cX11_bit 20 = .ok (.goto 5, 3) := by decide +kernel
theorem dX11_bit_23 : decode cX11_bit 23 = .ok (.bipush (-2), 2) := by decide +kernel
theorem dX11_bit_25 : decode cX11_bit 25 = .ok (.ireturn, 1) := by decide +kernel
theorem dX11_remove_0 : decode cX11_remove 0 = .ok (.iload_n 1, 1) := by decide +kernel
theorem dX11_remove_1 : decode cX11_remove 1 = .ok (.invokestatic 63, 3) := by decide +kernel
theorem dX11_remove_4 : decode cX11_remove 4 = .ok (.ifCond .ne 6, 3) := by decide +kernel
theorem dX11_remove_7 : decode cX11_remove 7 = .ok (.bipush (-2), 2) := by decide +kernel
theorem dX11_remove_9 : decode cX11_remove 9 = .ok (.ireturn, 1) := by decide +kernel
theorem dX11_remove_10 : decode cX11_remove 10 = .ok (.aload_n 0, 1) := by decide +kernel
theorem dX11_remove_11 : decode cX11_remove 11 = .ok (.iload_n 1, 1) := by decide +kernel
theorem dX11_remove_12 : decode cX11_remove 12 = .ok (.invokevirtual 70, 3) := by decide +kernel
theorem dX11_remove_15 : decode cX11_remove 15 = .ok (.istore_n 2, 1) := by decide +kernel
theorem dX11_remove_16 : decode cX11_remove 16 = .ok (.iload_n 2, 1) := by decide +kernel
theorem dX11_remove_17 : decode cX11_remove 17 = .ok (.ifCond .lt 15, 3) := by decide +kernel
theorem dX11_remove_20 : decode cX11_remove 20 = .ok (.aload_n 0, 1) := by decide +kernel
theorem dX11_remove_21 : decode cX11_remove 21 = .ok (.iload_n 2, 1) := by decide +kernel
theorem dX11_remove_22 : decode cX11_remove 22 = .ok (.aload_n 0, 1) := by decide +kernel
theorem dX11_remove_23 : decode cX11_remove 23 = .ok (.iload_n 2, 1) := by decide +kernel
theorem dX11_remove_24 : decode cX11_remove 24 = .ok (.iload_n 1, 1) := by decide +kernel
theorem dX11_remove_25 : decode cX11_remove 25 = .ok (.invokevirtual 90, 3) := by decide +kernel
theorem dX11_remove_28 : decode cX11_remove 28 = .ok (.invokevirtual 96, 3) := by decide +kernel
theorem dX11_remove_31 : decode cX11_remove 31 = .ok (.istore_n 3, 1) := by decide +kernel
theorem dX11_remove_32 : decode cX11_remove 32 = .ok (.iload_n 2, 1) := by decide +kernel
theorem dX11_remove_33 : decode cX11_remove 33 = .ok (.ireturn, 1) := by decide +kernel
theorem dX11_where_0 : decode cX11_where 0 = .ok (.iload_n 1, 1) := by decide +kernel
theorem dX11_where_1 : decode cX11_where 1 = .ok (.invokestatic 63, 3) := by decide +kernel
theorem dX11_where_4 : decode cX11_where 4 = .ok (.ifCond .eq 11, 3) := by decide +kernel
theorem dX11_where_7 : decode cX11_where 7 = .ok (.aload_n 0, 1) := by decide +kernel
theorem dX11_where_8 : decode cX11_where 8 = .ok (.iload_n 1, 1) := by decide +kernel
theorem dX11_where_9 : decode cX11_where 9 = .ok (.invokevirtual 70, 3) := by decide +kernel
theorem dX11_where_12 : decode cX11_where 12 = .ok (.goto 5, 3) := by decide +kernel
theorem dX11_where_15 : decode cX11_where 15 = .ok (.bipush (-2), 2) := by decide +kernel
theorem dX11_where_17 : decode cX11_where 17 = .ok (.ireturn, 1) := by decide +kernel
theorem dX11_key_0 : decode cX11_key 0 = .ok (.iload_n 1, 1) := by decide +kernel
theorem dX11_key_1 : decode cX11_key 1 = .ok (.iconst 0, 1) := by decide +kernel
theorem dX11_key_2 : decode cX11_key 2 = .ok (.iconst 2, 1) := by decide +kernel
theorem dX11_key_3 : decode cX11_key 3 = .ok (.invokestatic 59, 3) := by decide +kernel
theorem dX11_key_6 : decode cX11_key 6 = .ok (.ifCond .ne 6, 3) := by decide +kernel
theorem dX11_key_9 : decode cX11_key 9 = .ok (.bipush (-2), 2) := by decide +kernel
theorem dX11_key_11 : decode cX11_key 11 = .ok (.ireturn, 1) := by decide +kernel
theorem dX11_key_12 : decode cX11_key 12 = .ok (.iload_n 2, 1) := by decide +kernel
theorem dX11_key_13 : decode cX11_key 13 = .ok (.iconst 0, 1) := by decide +kernel
theorem dX11_key_14 : decode cX11_key 14 = .ok (.aload_n 0, 1) := by decide +kernel
theorem dX11_key_15 : decode cX11_key 15 = .ok (.iload_n 1, 1) := by decide +kernel
theorem dX11_key_16 : decode cX11_key 16 = .ok (.invokevirtual 84, 3) := by decide +kernel
theorem dX11_key_19 : decode cX11_key 19 = .ok (.iconst 1, 1) := by decide +kernel
theorem dX11_key_20 : decode cX11_key 20 = .ok (.isub, 1) := by decide +kernel
theorem dX11_key_21 : decode cX11_key 21 = .ok (.invokestatic 59, 3) := by decide +kernel
theorem dX11_key_24 : decode cX11_key 24 = .ok (.ifCond .eq 12, 3) := by decide +kernel
theorem dX11_key_27 : decode cX11_key 27 = .ok (.aload_n 0, 1) := by decide +kernel
theorem dX11_key_28 : decode cX11_key 28 = .ok (.iload_n 1, 1) := by decide +kernel
theorem dX11_key_29 : decode cX11_key 29 = .ok (.iload_n 2, 1) := by decide +kernel
theorem dX11_key_30 : decode cX11_key 30 = .ok (.invokevirtual 87, 3) := by decide +kernel
theorem dX11_key_33 : decode cX11_key 33 = .ok (.goto 4, 3) := by decide +kernel
theorem dX11_key_36 : decode cX11_key 36 = .ok (.iconst (-1), 1) := by decide +kernel
theorem dX11_key_37 : decode cX11_key 37 = .ok (.ireturn, 1) := by decide +kernel
theorem dX11_about_0 : decode cX11_about 0 = .ok (.iload_n 1, 1) := by decide +kernel
theorem dX11_about_1 : decode cX11_about 1 = .ok (.tableswitch 213 0 15 #[79, 88, 97, 97, 97, 105, 123, 132, 141, 150, 159, 168, 177, 186, 195, 204], 79) := by decide +kernel
theorem dX11_about_80 : decode cX11_about 80 = .ok (.aload_n 0, 1) := by decide +kernel
theorem dX11_about_81 : decode cX11_about 81 = .ok (.getfield 7, 3) := by decide +kernel
theorem dX11_about_84 : decode cX11_about 84 = .ok (.sipush 1393, 3) := by decide +kernel
theorem dX11_about_87 : decode cX11_about 87 = .ok (.iaload, 1) := by decide +kernel
theorem dX11_about_88 : decode cX11_about 88 = .ok (.ireturn, 1) := by decide +kernel
theorem dX11_about_89 : decode cX11_about 89 = .ok (.aload_n 0, 1) := by decide +kernel
theorem dX11_about_90 : decode cX11_about 90 = .ok (.getfield 7, 3) := by decide +kernel
theorem dX11_about_93 : decode cX11_about 93 = .ok (.sipush 1394, 3) := by decide +kernel
theorem dX11_about_96 : decode cX11_about 96 = .ok (.iaload, 1) := by decide +kernel
theorem dX11_about_97 : decode cX11_about 97 = .ok (.ireturn, 1) := by decide +kernel
theorem dX11_about_98 : decode cX11_about 98 = .ok (.aload_n 0, 1) := by decide +kernel
theorem dX11_about_99 : decode cX11_about 99 = .ok (.iload_n 1, 1) := by decide +kernel
theorem dX11_about_100 : decode cX11_about 100 = .ok (.iconst 2, 1) := by decide +kernel
theorem dX11_about_101 : decode cX11_about 101 = .ok (.isub, 1) := by decide +kernel
theorem dX11_about_102 : decode cX11_about 102 = .ok (.invokevirtual 93, 3) := by decide +kernel
theorem dX11_about_105 : decode cX11_about 105 = .ok (.ireturn, 1) := by decide +kernel
theorem dX11_about_106 : decode cX11_about 106 = .ok (.aload_n 0, 1) := by decide +kernel
theorem dX11_about_107 : decode cX11_about 107 = .ok (.iconst 0, 1) := by decide +kernel
theorem dX11_about_108 : decode cX11_about 108 = .ok (.invokevirtual 84, 3) := by decide +kernel
theorem dX11_about_111 : decode cX11_about 111 = .ok (.aload_n 0, 1) := by decide +kernel
theorem dX11_about_112 : decode cX11_about 112 = .ok (.iconst 1, 1) := by decide +kernel
theorem dX11_about_113 : decode cX11_about 113 = .ok (.invokevirtual 84, 3) := by decide +kernel
theorem dX11_about_116 : decode cX11_about 116 = .ok (.iadd, 1) := by decide +kernel
theorem dX11_about_117 : decode cX11_about 117 = .ok (.aload_n 0, 1) := by decide +kernel
theorem dX11_about_118 : decode cX11_about 118 = .ok (.iconst 2, 1) := by decide +kernel
theorem dX11_about_119 : decode cX11_about 119 = .ok (.invokevirtual 84, 3) := by decide +kernel
theorem dX11_about_122 : decode cX11_about 122 = .ok (.iadd, 1) := by decide +kernel
theorem dX11_about_123 : decode cX11_about 123 = .ok (.ireturn, 1) := by decide +kernel
theorem dX11_about_124 : decode cX11_about 124 = .ok (.aload_n 0, 1) := by decide +kernel
theorem dX11_about_125 : decode cX11_about 125 = .ok (.getfield 7, 3) := by decide +kernel
theorem dX11_about_128 : decode cX11_about 128 = .ok (.sipush 1395, 3) := by decide +kernel
theorem dX11_about_131 : decode cX11_about 131 = .ok (.iaload, 1) := by decide +kernel
theorem dX11_about_132 : decode cX11_about 132 = .ok (.ireturn, 1) := by decide +kernel
theorem dX11_about_133 : decode cX11_about 133 = .ok (.aload_n 0, 1) := by decide +kernel
theorem dX11_about_134 : decode cX11_about 134 = .ok (.getfield 7, 3) := by decide +kernel
theorem dX11_about_137 : decode cX11_about 137 = .ok (.sipush 1396, 3) := by decide +kernel
theorem dX11_about_140 : decode cX11_about 140 = .ok (.iaload, 1) := by decide +kernel
theorem dX11_about_141 : decode cX11_about 141 = .ok (.ireturn, 1) := by decide +kernel
theorem dX11_about_142 : decode cX11_about 142 = .ok (.aload_n 0, 1) := by decide +kernel
theorem dX11_about_143 : decode cX11_about 143 = .ok (.getfield 7, 3) := by decide +kernel
theorem dX11_about_146 : decode cX11_about 146 = .ok (.sipush 1397, 3) := by decide +kernel
theorem dX11_about_149 : decode cX11_about 149 = .ok (.iaload, 1) := by decide +kernel
theorem dX11_about_150 : decode cX11_about 150 = .ok (.ireturn, 1) := by decide +kernel
theorem dX11_about_151 : decode cX11_about 151 = .ok (.aload_n 0, 1) := by decide +kernel
theorem dX11_about_152 : decode cX11_about 152 = .ok (.getfield 7, 3) := by decide +kernel
theorem dX11_about_155 : decode cX11_about 155 = .ok (.sipush 1398, 3) := by decide +kernel
theorem dX11_about_158 : decode cX11_about 158 = .ok (.iaload, 1) := by decide +kernel
theorem dX11_about_159 : decode cX11_about 159 = .ok (.ireturn, 1) := by decide +kernel
theorem dX11_about_160 : decode cX11_about 160 = .ok (.aload_n 0, 1) := by decide +kernel
theorem dX11_about_161 : decode cX11_about 161 = .ok (.getfield 7, 3) := by decide +kernel
theorem dX11_about_164 : decode cX11_about 164 = .ok (.sipush 1399, 3) := by decide +kernel
theorem dX11_about_167 : decode cX11_about 167 = .ok (.iaload, 1) := by decide +kernel
theorem dX11_about_168 : decode cX11_about 168 = .ok (.ireturn, 1) := by decide +kernel
theorem dX11_about_169 : decode cX11_about 169 = .ok (.aload_n 0, 1) := by decide +kernel
theorem dX11_about_170 : decode cX11_about 170 = .ok (.getfield 7, 3) := by decide +kernel
theorem dX11_about_173 : decode cX11_about 173 = .ok (.sipush 1400, 3) := by decide +kernel
theorem dX11_about_176 : decode cX11_about 176 = .ok (.iaload, 1) := by decide +kernel
theorem dX11_about_177 : decode cX11_about 177 = .ok (.ireturn, 1) := by decide +kernel
theorem dX11_about_178 : decode cX11_about 178 = .ok (.aload_n 0, 1) := by decide +kernel
theorem dX11_about_179 : decode cX11_about 179 = .ok (.getfield 7, 3) := by decide +kernel
theorem dX11_about_182 : decode cX11_about 182 = .ok (.sipush 1401, 3) := by decide +kernel
theorem dX11_about_185 : decode cX11_about 185 = .ok (.iaload, 1) := by decide +kernel
theorem dX11_about_186 : decode cX11_about 186 = .ok (.ireturn, 1) := by decide +kernel
theorem dX11_about_187 : decode cX11_about 187 = .ok (.aload_n 0, 1) := by decide +kernel
theorem dX11_about_188 : decode cX11_about 188 = .ok (.getfield 7, 3) := by decide +kernel
theorem dX11_about_191 : decode cX11_about 191 = .ok (.sipush 1402, 3) := by decide +kernel
theorem dX11_about_194 : decode cX11_about 194 = .ok (.iaload, 1) := by decide +kernel
theorem dX11_about_195 : decode cX11_about 195 = .ok (.ireturn, 1) := by decide +kernel
theorem dX11_about_196 : decode cX11_about 196 = .ok (.aload_n 0, 1) := by decide +kernel
theorem dX11_about_197 : decode cX11_about 197 = .ok (.getfield 7, 3) := by decide +kernel
theorem dX11_about_200 : decode cX11_about 200 = .ok (.sipush 1403, 3) := by decide +kernel
theorem dX11_about_203 : decode cX11_about 203 = .ok (.iaload, 1) := by decide +kernel
theorem dX11_about_204 : decode cX11_about 204 = .ok (.ireturn, 1) := by decide +kernel
theorem dX11_about_205 : decode cX11_about 205 = .ok (.aload_n 0, 1) := by decide +kernel
theorem dX11_about_206 : decode cX11_about 206 = .ok (.getfield 7, 3) := by decide +kernel
theorem dX11_about_209 : decode cX11_about 209 = .ok (.sipush 1404, 3) := by decide +kernel
theorem dX11_about_212 : decode cX11_about 212 = .ok (.iaload, 1) := by decide +kernel
theorem dX11_about_213 : decode cX11_about 213 = .ok (.ireturn, 1) := by decide +kernel
theorem dX11_about_214 : decode cX11_about 214 = .ok (.bipush (-2), 2) := by decide +kernel
theorem dX11_about_216 : decode cX11_about 216 = .ok (.ireturn, 1) := by decide +kernel
theorem dX11_trace_0 : decode cX11_trace 0 = .ok (.iload_n 1, 1) := by decide +kernel
theorem dX11_trace_1 : decode cX11_trace 1 = .ok (.iconst 0, 1) := by decide +kernel
theorem dX11_trace_2 : decode cX11_trace 2 = .ok (.aload_n 0, 1) := by decide +kernel
theorem dX11_trace_3 : decode cX11_trace 3 = .ok (.getfield 7, 3) := by decide +kernel
theorem dX11_trace_6 : decode cX11_trace 6 = .ok (.sipush 1404, 3) := by decide +kernel
theorem dX11_trace_9 : decode cX11_trace 9 = .ok (.iaload, 1) := by decide +kernel
theorem dX11_trace_10 : decode cX11_trace 10 = .ok (.iconst 1, 1) := by decide +kernel
theorem dX11_trace_11 : decode cX11_trace 11 = .ok (.isub, 1) := by decide +kernel
theorem dX11_trace_12 : decode cX11_trace 12 = .ok (.invokestatic 59, 3) := by decide +kernel
theorem dX11_trace_15 : decode cX11_trace 15 = .ok (.ifCond .eq 16, 3) := by decide +kernel
theorem dX11_trace_18 : decode cX11_trace 18 = .ok (.aload_n 0, 1) := by decide +kernel
theorem dX11_trace_19 : decode cX11_trace 19 = .ok (.getfield 7, 3) := by decide +kernel
theorem dX11_trace_22 : decode cX11_trace 22 = .ok (.sipush 1405, 3) := by decide +kernel
theorem dX11_trace_25 : decode cX11_trace 25 = .ok (.iload_n 1, 1) := by decide +kernel
theorem dX11_trace_26 : decode cX11_trace 26 = .ok (.iadd, 1) := by decide +kernel
theorem dX11_trace_27 : decode cX11_trace 27 = .ok (.iaload, 1) := by decide +kernel
theorem dX11_trace_28 : decode cX11_trace 28 = .ok (.goto 4, 3) := by decide +kernel
theorem dX11_trace_31 : decode cX11_trace 31 = .ok (.iconst (-1), 1) := by decide +kernel
theorem dX11_trace_32 : decode cX11_trace 32 = .ok (.ireturn, 1) := by decide +kernel
theorem dX11_seatOf_0 : decode cX11_seatOf 0 = .ok (.iconst 0, 1) := by decide +kernel
theorem dX11_seatOf_1 : decode cX11_seatOf 1 = .ok (.istore_n 2, 1) := by decide +kernel
theorem dX11_seatOf_2 : decode cX11_seatOf 2 = .ok (.iload_n 2, 1) := by decide +kernel
theorem dX11_seatOf_3 : decode cX11_seatOf 3 = .ok (.aload_n 0, 1) := by decide +kernel
theorem dX11_seatOf_4 : decode cX11_seatOf 4 = .ok (.getfield 131, 3) := by decide +kernel
theorem dX11_seatOf_7 : decode cX11_seatOf 7 = .ok (.if_icmp .ge 21, 3) := by decide +kernel
theorem dX11_seatOf_10 : decode cX11_seatOf 10 = .ok (.aload_n 0, 1) := by decide +kernel
theorem dX11_seatOf_11 : decode cX11_seatOf 11 = .ok (.getfield 23, 3) := by decide +kernel
theorem dX11_seatOf_14 : decode cX11_seatOf 14 = .ok (.iload_n 2, 1) := by decide +kernel
theorem dX11_seatOf_15 : decode cX11_seatOf 15 = .ok (.iaload, 1) := by decide +kernel
theorem dX11_seatOf_16 : decode cX11_seatOf 16 = .ok (.iload_n 1, 1) := by decide +kernel
theorem dX11_seatOf_17 : decode cX11_seatOf 17 = .ok (.if_icmp .ne 5, 3) := by decide +kernel
theorem dX11_seatOf_20 : decode cX11_seatOf 20 = .ok (.iload_n 2, 1) := by decide +kernel
theorem dX11_seatOf_21 : decode cX11_seatOf 21 = .ok (.ireturn, 1) := by decide +kernel
theorem dX11_seatOf_22 : decode cX11_seatOf 22 = .ok (.iinc 2 1, 3) := by decide +kernel
theorem dX11_seatOf_25 : decode cX11_seatOf 25 = .ok (.goto (-23), 3) := by decide +kernel
theorem dX11_seatOf_28 : decode cX11_seatOf 28 = .ok (.iconst (-1), 1) := by decide +kernel
theorem dX11_seatOf_29 : decode cX11_seatOf 29 = .ok (.ireturn, 1) := by decide +kernel
theorem dX11_again_0 : decode cX11_again 0 = .ok (.iload_n 2, 1) := by decide +kernel
theorem dX11_again_1 : decode cX11_again 1 = .ok (.iconst 1, 1) := by decide +kernel
theorem dX11_again_2 : decode cX11_again 2 = .ok (.iadd, 1) := by decide +kernel
theorem dX11_again_3 : decode cX11_again 3 = .ok (.istore 4, 2) := by decide +kernel
theorem dX11_again_5 : decode cX11_again 5 = .ok (.iload 4, 2) := by decide +kernel
theorem dX11_again_7 : decode cX11_again 7 = .ok (.iload_n 3, 1) := by decide +kernel
theorem dX11_again_8 : decode cX11_again 8 = .ok (.if_icmp .ge 27, 3) := by decide +kernel
theorem dX11_again_11 : decode cX11_again 11 = .ok (.aload_n 0, 1) := by decide +kernel
theorem dX11_again_12 : decode cX11_again 12 = .ok (.getfield 7, 3) := by decide +kernel
theorem dX11_again_15 : decode cX11_again 15 = .ok (.sipush 1405, 3) := by decide +kernel
theorem dX11_again_18 : decode cX11_again 18 = .ok (.iload 4, 2) := by decide +kernel
theorem dX11_again_20 : decode cX11_again 20 = .ok (.iadd, 1) := by decide +kernel
theorem dX11_again_21 : decode cX11_again 21 = .ok (.iaload, 1) := by decide +kernel
theorem dX11_again_22 : decode cX11_again 22 = .ok (.iload_n 1, 1) := by decide +kernel
theorem dX11_again_23 : decode cX11_again 23 = .ok (.if_icmp .ne 6, 3) := by decide +kernel
theorem dX11_again_26 : decode cX11_again 26 = .ok (.iload 4, 2) := by decide +kernel
theorem dX11_again_28 : decode cX11_again 28 = .ok (.ireturn, 1) := by decide +kernel
theorem dX11_again_29 : decode cX11_again 29 = .ok (.iinc 4 1, 3) := by decide +kernel
theorem dX11_again_32 : decode cX11_again 32 = .ok (.goto (-27), 3) := by decide +kernel
theorem dX11_again_35 : decode cX11_again 35 = .ok (.sipush 1000, 3) := by decide +kernel
theorem dX11_again_38 : decode cX11_again 38 = .ok (.ireturn, 1) := by decide +kernel
theorem dX11_isSooner_0 : decode cX11_isSooner 0 = .ok (.iload_n 1, 1) := by decide +kernel
theorem dX11_isSooner_1 : decode cX11_isSooner 1 = .ok (.tableswitch 124 0 3 #[31, 52, 124, 73], 31) := by decide +kernel
theorem dX11_isSooner_32 : decode cX11_isSooner 32 = .ok (.aload_n 0, 1) := by decide +kernel
theorem dX11_isSooner_33 : decode cX11_isSooner 33 = .ok (.getfield 32, 3) := by decide +kernel
theorem dX11_isSooner_36 : decode cX11_isSooner 36 = .ok (.iload_n 2, 1) := by decide +kernel
theorem dX11_isSooner_37 : decode cX11_isSooner 37 = .ok (.iaload, 1) := by decide +kernel
theorem dX11_isSooner_38 : decode cX11_isSooner 38 = .ok (.aload_n 0, 1) := by decide +kernel
theorem dX11_isSooner_39 : decode cX11_isSooner 39 = .ok (.getfield 32, 3) := by decide +kernel
theorem dX11_isSooner_42 : decode cX11_isSooner 42 = .ok (.iload_n 3, 1) := by decide +kernel
theorem dX11_isSooner_43 : decode cX11_isSooner 43 = .ok (.iaload, 1) := by decide +kernel
theorem dX11_isSooner_44 : decode cX11_isSooner 44 = .ok (.if_icmp .ge 7, 3) := by decide +kernel
theorem dX11_isSooner_47 : decode cX11_isSooner 47 = .ok (.iconst 1, 1) := by decide +kernel
theorem dX11_isSooner_48 : decode cX11_isSooner 48 = .ok (.goto 4, 3) := by decide +kernel
theorem dX11_isSooner_51 : decode cX11_isSooner 51 = .ok (.iconst 0, 1) := by decide +kernel
theorem dX11_isSooner_52 : decode cX11_isSooner 52 = .ok (.ireturn, 1) := by decide +kernel
theorem dX11_isSooner_53 : decode cX11_isSooner 53 = .ok (.aload_n 0, 1) := by decide +kernel
theorem dX11_isSooner_54 : decode cX11_isSooner 54 = .ok (.getfield 35, 3) := by decide +kernel
theorem dX11_isSooner_57 : decode cX11_isSooner 57 = .ok (.iload_n 2, 1) := by decide +kernel
theorem dX11_isSooner_58 : decode cX11_isSooner 58 = .ok (.iaload, 1) := by decide +kernel
theorem dX11_isSooner_59 : decode cX11_isSooner 59 = .ok (.aload_n 0, 1) := by decide +kernel
theorem dX11_isSooner_60 : decode cX11_isSooner 60 = .ok (.getfield 35, 3) := by decide +kernel
theorem dX11_isSooner_63 : decode cX11_isSooner 63 = .ok (.iload_n 3, 1) := by decide +kernel
theorem dX11_isSooner_64 : decode cX11_isSooner 64 = .ok (.iaload, 1) := by decide +kernel
theorem dX11_isSooner_65 : decode cX11_isSooner 65 = .ok (.if_icmp .ge 7, 3) := by decide +kernel
theorem dX11_isSooner_68 : decode cX11_isSooner 68 = .ok (.iconst 1, 1) := by decide +kernel
theorem dX11_isSooner_69 : decode cX11_isSooner 69 = .ok (.goto 4, 3) := by decide +kernel
theorem dX11_isSooner_72 : decode cX11_isSooner 72 = .ok (.iconst 0, 1) := by decide +kernel
theorem dX11_isSooner_73 : decode cX11_isSooner 73 = .ok (.ireturn, 1) := by decide +kernel
theorem dX11_isSooner_74 : decode cX11_isSooner 74 = .ok (.aload_n 0, 1) := by decide +kernel
theorem dX11_isSooner_75 : decode cX11_isSooner 75 = .ok (.getfield 29, 3) := by decide +kernel
theorem dX11_isSooner_78 : decode cX11_isSooner 78 = .ok (.iload_n 2, 1) := by decide +kernel
theorem dX11_isSooner_79 : decode cX11_isSooner 79 = .ok (.iaload, 1) := by decide +kernel
theorem dX11_isSooner_80 : decode cX11_isSooner 80 = .ok (.aload_n 0, 1) := by decide +kernel
theorem dX11_isSooner_81 : decode cX11_isSooner 81 = .ok (.getfield 29, 3) := by decide +kernel
theorem dX11_isSooner_84 : decode cX11_isSooner 84 = .ok (.iload_n 3, 1) := by decide +kernel
theorem dX11_isSooner_85 : decode cX11_isSooner 85 = .ok (.iaload, 1) := by decide +kernel
theorem dX11_isSooner_86 : decode cX11_isSooner 86 = .ok (.if_icmp .lt 33, 3) := by decide +kernel
theorem dX11_isSooner_89 : decode cX11_isSooner 89 = .ok (.aload_n 0, 1) := by decide +kernel
theorem dX11_isSooner_90 : decode cX11_isSooner 90 = .ok (.getfield 29, 3) := by decide +kernel
theorem dX11_isSooner_93 : decode cX11_isSooner 93 = .ok (.iload_n 2, 1) := by decide +kernel
theorem dX11_isSooner_94 : decode cX11_isSooner 94 = .ok (.iaload, 1) := by decide +kernel
theorem dX11_isSooner_95 : decode cX11_isSooner 95 = .ok (.aload_n 0, 1) := by decide +kernel
theorem dX11_isSooner_96 : decode cX11_isSooner 96 = .ok (.getfield 29, 3) := by decide +kernel
theorem dX11_isSooner_99 : decode cX11_isSooner 99 = .ok (.iload_n 3, 1) := by decide +kernel
theorem dX11_isSooner_100 : decode cX11_isSooner 100 = .ok (.iaload, 1) := by decide +kernel
theorem dX11_isSooner_101 : decode cX11_isSooner 101 = .ok (.if_icmp .ne 22, 3) := by decide +kernel
theorem dX11_isSooner_104 : decode cX11_isSooner 104 = .ok (.aload_n 0, 1) := by decide +kernel
theorem dX11_isSooner_105 : decode cX11_isSooner 105 = .ok (.getfield 32, 3) := by decide +kernel
theorem dX11_isSooner_108 : decode cX11_isSooner 108 = .ok (.iload_n 2, 1) := by decide +kernel
theorem dX11_isSooner_109 : decode cX11_isSooner 109 = .ok (.iaload, 1) := by decide +kernel
theorem dX11_isSooner_110 : decode cX11_isSooner 110 = .ok (.aload_n 0, 1) := by decide +kernel
theorem dX11_isSooner_111 : decode cX11_isSooner 111 = .ok (.getfield 32, 3) := by decide +kernel
theorem dX11_isSooner_114 : decode cX11_isSooner 114 = .ok (.iload_n 3, 1) := by decide +kernel
theorem dX11_isSooner_115 : decode cX11_isSooner 115 = .ok (.iaload, 1) := by decide +kernel
theorem dX11_isSooner_116 : decode cX11_isSooner 116 = .ok (.if_icmp .ge 7, 3) := by decide +kernel
theorem dX11_isSooner_119 : decode cX11_isSooner 119 = .ok (.iconst 1, 1) := by decide +kernel
theorem dX11_isSooner_120 : decode cX11_isSooner 120 = .ok (.goto 4, 3) := by decide +kernel
theorem dX11_isSooner_123 : decode cX11_isSooner 123 = .ok (.iconst 0, 1) := by decide +kernel
theorem dX11_isSooner_124 : decode cX11_isSooner 124 = .ok (.ireturn, 1) := by decide +kernel
theorem dX11_isSooner_125 : decode cX11_isSooner 125 = .ok (.aload_n 0, 1) := by decide +kernel
theorem dX11_isSooner_126 : decode cX11_isSooner 126 = .ok (.aload_n 0, 1) := by decide +kernel
theorem dX11_isSooner_127 : decode cX11_isSooner 127 = .ok (.getfield 23, 3) := by decide +kernel
theorem dX11_isSooner_130 : decode cX11_isSooner 130 = .ok (.iload_n 2, 1) := by decide +kernel
theorem dX11_isSooner_131 : decode cX11_isSooner 131 = .ok (.iaload, 1) := by decide +kernel
theorem dX11_isSooner_132 : decode cX11_isSooner 132 = .ok (.iload 4, 2) := by decide +kernel
theorem dX11_isSooner_134 : decode cX11_isSooner 134 = .ok (.iload 5, 2) := by decide +kernel
theorem dX11_isSooner_136 : decode cX11_isSooner 136 = .ok (.invokevirtual 134, 3) := by decide +kernel
theorem dX11_isSooner_139 : decode cX11_isSooner 139 = .ok (.istore 6, 2) := by decide +kernel
theorem dX11_isSooner_141 : decode cX11_isSooner 141 = .ok (.aload_n 0, 1) := by decide +kernel
theorem dX11_isSooner_142 : decode cX11_isSooner 142 = .ok (.aload_n 0, 1) := by decide +kernel
theorem dX11_isSooner_143 : decode cX11_isSooner 143 = .ok (.getfield 23, 3) := by decide +kernel
theorem dX11_isSooner_146 : decode cX11_isSooner 146 = .ok (.iload_n 3, 1) := by decide +kernel
theorem dX11_isSooner_147 : decode cX11_isSooner 147 = .ok (.iaload, 1) := by decide +kernel
theorem dX11_isSooner_148 : decode cX11_isSooner 148 = .ok (.iload 4, 2) := by decide +kernel
theorem dX11_isSooner_150 : decode cX11_isSooner 150 = .ok (.iload 5, 2) := by decide +kernel
theorem dX11_isSooner_152 : decode cX11_isSooner 152 = .ok (.invokevirtual 134, 3) := by decide +kernel
theorem dX11_isSooner_155 : decode cX11_isSooner 155 = .ok (.istore 7, 2) := by decide +kernel
theorem dX11_isSooner_157 : decode cX11_isSooner 157 = .ok (.iload 6, 2) := by decide +kernel
theorem dX11_isSooner_159 : decode cX11_isSooner 159 = .ok (.iload 7, 2) := by decide +kernel
theorem dX11_isSooner_161 : decode cX11_isSooner 161 = .ok (.if_icmp .gt 25, 3) := by decide +kernel
theorem dX11_isSooner_164 : decode cX11_isSooner 164 = .ok (.iload 6, 2) := by decide +kernel
theorem dX11_isSooner_166 : decode cX11_isSooner 166 = .ok (.iload 7, 2) := by decide +kernel
theorem dX11_isSooner_168 : decode cX11_isSooner 168 = .ok (.if_icmp .ne 22, 3) := by decide +kernel
theorem dX11_isSooner_171 : decode cX11_isSooner 171 = .ok (.aload_n 0, 1) := by decide +kernel
theorem dX11_isSooner_172 : decode cX11_isSooner 172 = .ok (.getfield 23, 3) := by decide +kernel
theorem dX11_isSooner_175 : decode cX11_isSooner 175 = .ok (.iload_n 2, 1) := by decide +kernel
theorem dX11_isSooner_176 : decode cX11_isSooner 176 = .ok (.iaload, 1) := by decide +kernel
theorem dX11_isSooner_177 : decode cX11_isSooner 177 = .ok (.aload_n 0, 1) := by decide +kernel
theorem dX11_isSooner_178 : decode cX11_isSooner 178 = .ok (.getfield 23, 3) := by decide +kernel
theorem dX11_isSooner_181 : decode cX11_isSooner 181 = .ok (.iload_n 3, 1) := by decide +kernel
theorem dX11_isSooner_182 : decode cX11_isSooner 182 = .ok (.iaload, 1) := by decide +kernel
theorem dX11_isSooner_183 : decode cX11_isSooner 183 = .ok (.if_icmp .ge 7, 3) := by decide +kernel
theorem dX11_isSooner_186 : decode cX11_isSooner 186 = .ok (.iconst 1, 1) := by decide +kernel
theorem dX11_isSooner_187 : decode cX11_isSooner 187 = .ok (.goto 4, 3) := by decide +kernel
theorem dX11_isSooner_190 : decode cX11_isSooner 190 = .ok (.iconst 0, 1) := by decide +kernel
theorem dX11_isSooner_191 : decode cX11_isSooner 191 = .ok (.ireturn, 1) := by decide +kernel
theorem dX11_seatThatGoes_0 : decode cX11_seatThatGoes 0 = .ok (.iload_n 1, 1) := by decide +kernel
theorem dX11_seatThatGoes_1 : decode cX11_seatThatGoes 1 = .ok (.iconst 2, 1) := by decide +kernel
theorem dX11_seatThatGoes_2 : decode cX11_seatThatGoes 2 = .ok (.if_icmp .ne 61, 3) := by decide +kernel
theorem dX11_seatThatGoes_5 : decode cX11_seatThatGoes 5 = .ok (.aload_n 0, 1) := by decide +kernel
theorem dX11_seatThatGoes_6 : decode cX11_seatThatGoes 6 = .ok (.getfield 26, 3) := by decide +kernel
theorem dX11_seatThatGoes_9 : decode cX11_seatThatGoes 9 = .ok (.aload_n 0, 1) := by decide +kernel
theorem dX11_seatThatGoes_10 : decode cX11_seatThatGoes 10 = .ok (.getfield 137, 3) := by decide +kernel
theorem dX11_seatThatGoes_13 : decode cX11_seatThatGoes 13 = .ok (.baload, 1) := by decide +kernel
theorem dX11_seatThatGoes_14 : decode cX11_seatThatGoes 14 = .ok (.ifCond .eq 28, 3) := by decide +kernel
theorem dX11_seatThatGoes_17 : decode cX11_seatThatGoes 17 = .ok (.aload_n 0, 1) := by decide +kernel
theorem dX11_seatThatGoes_18 : decode cX11_seatThatGoes 18 = .ok (.getfield 26, 3) := by decide +kernel
theorem dX11_seatThatGoes_21 : decode cX11_seatThatGoes 21 = .ok (.aload_n 0, 1) := by decide +kernel
theorem dX11_seatThatGoes_22 : decode cX11_seatThatGoes 22 = .ok (.getfield 137, 3) := by decide +kernel
theorem dX11_seatThatGoes_25 : decode cX11_seatThatGoes 25 = .ok (.iconst 0, 1) := by decide +kernel
theorem dX11_seatThatGoes_26 : decode cX11_seatThatGoes 26 = .ok (.bastore, 1) := by decide +kernel
theorem dX11_seatThatGoes_27 : decode cX11_seatThatGoes 27 = .ok (.aload_n 0, 1) := by decide +kernel
theorem dX11_seatThatGoes_28 : decode cX11_seatThatGoes 28 = .ok (.aload_n 0, 1) := by decide +kernel
theorem dX11_seatThatGoes_29 : decode cX11_seatThatGoes 29 = .ok (.getfield 137, 3) := by decide +kernel
theorem dX11_seatThatGoes_32 : decode cX11_seatThatGoes 32 = .ok (.iconst 1, 1) := by decide +kernel
theorem dX11_seatThatGoes_33 : decode cX11_seatThatGoes 33 = .ok (.iadd, 1) := by decide +kernel
theorem dX11_seatThatGoes_34 : decode cX11_seatThatGoes 34 = .ok (.iload_n 2, 1) := by decide +kernel
theorem dX11_seatThatGoes_35 : decode cX11_seatThatGoes 35 = .ok (.irem, 1) := by decide +kernel
theorem dX11_seatThatGoes_36 : decode cX11_seatThatGoes 36 = .ok (.putfield 137, 3) := by decide +kernel
theorem dX11_seatThatGoes_39 : decode cX11_seatThatGoes 39 = .ok (.goto (-34), 3) := by decide +kernel
theorem dX11_seatThatGoes_42 : decode cX11_seatThatGoes 42 = .ok (.aload_n 0, 1) := by decide +kernel
theorem dX11_seatThatGoes_43 : decode cX11_seatThatGoes 43 = .ok (.getfield 137, 3) := by decide +kernel
theorem dX11_seatThatGoes_46 : decode cX11_seatThatGoes 46 = .ok (.istore 5, 2) := by decide +kernel
theorem dX11_seatThatGoes_48 : decode cX11_seatThatGoes 48 = .ok (.aload_n 0, 1) := by decide +kernel
theorem dX11_seatThatGoes_49 : decode cX11_seatThatGoes 49 = .ok (.aload_n 0, 1) := by decide +kernel
theorem dX11_seatThatGoes_50 : decode cX11_seatThatGoes 50 = .ok (.getfield 137, 3) := by decide +kernel
theorem dX11_seatThatGoes_53 : decode cX11_seatThatGoes 53 = .ok (.iconst 1, 1) := by decide +kernel
theorem dX11_seatThatGoes_54 : decode cX11_seatThatGoes 54 = .ok (.iadd, 1) := by decide +kernel
theorem dX11_seatThatGoes_55 : decode cX11_seatThatGoes 55 = .ok (.iload_n 2, 1) := by decide +kernel
theorem dX11_seatThatGoes_56 : decode cX11_seatThatGoes 56 = .ok (.irem, 1) := by decide +kernel
theorem dX11_seatThatGoes_57 : decode cX11_seatThatGoes 57 = .ok (.putfield 137, 3) := by decide +kernel
theorem dX11_seatThatGoes_60 : decode cX11_seatThatGoes 60 = .ok (.iload 5, 2) := by decide +kernel
theorem dX11_seatThatGoes_62 : decode cX11_seatThatGoes 62 = .ok (.ireturn, 1) := by decide +kernel
theorem dX11_seatThatGoes_63 : decode cX11_seatThatGoes 63 = .ok (.iconst 0, 1) := by decide +kernel
theorem dX11_seatThatGoes_64 : decode cX11_seatThatGoes 64 = .ok (.istore 5, 2) := by decide +kernel
theorem dX11_seatThatGoes_66 : decode cX11_seatThatGoes 66 = .ok (.iconst 1, 1) := by decide +kernel
theorem dX11_seatThatGoes_67 : decode cX11_seatThatGoes 67 = .ok (.istore 6, 2) := by decide +kernel
theorem dX11_seatThatGoes_69 : decode cX11_seatThatGoes 69 = .ok (.iload 6, 2) := by decide +kernel
theorem dX11_seatThatGoes_71 : decode cX11_seatThatGoes 71 = .ok (.aload_n 0, 1) := by decide +kernel
theorem dX11_seatThatGoes_72 : decode cX11_seatThatGoes 72 = .ok (.getfield 131, 3) := by decide +kernel
theorem dX11_seatThatGoes_75 : decode cX11_seatThatGoes 75 = .ok (.if_icmp .ge 33, 3) := by decide +kernel
theorem dX11_seatThatGoes_78 : decode cX11_seatThatGoes 78 = .ok (.aload_n 0, 1) := by decide +kernel
theorem dX11_seatThatGoes_79 : decode cX11_seatThatGoes 79 = .ok (.iload_n 1, 1) := by decide +kernel
theorem dX11_seatThatGoes_80 : decode cX11_seatThatGoes 80 = .ok (.iload 6, 2) := by decide +kernel
theorem dX11_seatThatGoes_82 : decode cX11_seatThatGoes 82 = .ok (.iload 5, 2) := by decide +kernel
theorem dX11_seatThatGoes_84 : decode cX11_seatThatGoes 84 = .ok (.iload_n 3, 1) := by decide +kernel
theorem dX11_seatThatGoes_85 : decode cX11_seatThatGoes 85 = .ok (.iload 4, 2) := by decide +kernel
theorem dX11_seatThatGoes_87 : decode cX11_seatThatGoes 87 = .ok (.invokevirtual 140, 3) := by decide +kernel
theorem dX11_seatThatGoes_90 : decode cX11_seatThatGoes 90 = .ok (.ifCond .eq 8, 3) := by decide +kernel
theorem dX11_seatThatGoes_93 : decode cX11_seatThatGoes 93 = .ok (.iload 6, 2) := by decide +kernel
theorem dX11_seatThatGoes_95 : decode cX11_seatThatGoes 95 = .ok (.goto 5, 3) := by decide +kernel
theorem dX11_seatThatGoes_98 : decode cX11_seatThatGoes 98 = .ok (.iload 5, 2) := by decide +kernel
theorem dX11_seatThatGoes_100 : decode cX11_seatThatGoes 100 = .ok (.istore 5, 2) := by decide +kernel
theorem dX11_seatThatGoes_102 : decode cX11_seatThatGoes 102 = .ok (.iinc 6 1, 3) := by decide +kernel
theorem dX11_seatThatGoes_105 : decode cX11_seatThatGoes 105 = .ok (.goto (-36), 3) := by decide +kernel
theorem dX11_seatThatGoes_108 : decode cX11_seatThatGoes 108 = .ok (.iload 5, 2) := by decide +kernel
theorem dX11_seatThatGoes_110 : decode cX11_seatThatGoes 110 = .ok (.ireturn, 1) := by decide +kernel
theorem dX11_played_0 : decode cX11_played 0 = .ok (.aload_n 0, 1) := by decide +kernel
theorem dX11_played_1 : decode cX11_played 1 = .ok (.iconst 0, 1) := by decide +kernel
theorem dX11_played_2 : decode cX11_played 2 = .ok (.putfield 131, 3) := by decide +kernel
theorem dX11_played_5 : decode cX11_played 5 = .ok (.aload_n 0, 1) := by decide +kernel
theorem dX11_played_6 : decode cX11_played 6 = .ok (.iconst 0, 1) := by decide +kernel
theorem dX11_played_7 : decode cX11_played 7 = .ok (.putfield 137, 3) := by decide +kernel
theorem dX11_played_10 : decode cX11_played 10 = .ok (.iconst 0, 1) := by decide +kernel
theorem dX11_played_11 : decode cX11_played 11 = .ok (.istore 5, 2) := by decide +kernel
theorem dX11_played_13 : decode cX11_played 13 = .ok (.iload_n 3, 1) := by decide +kernel
theorem dX11_played_14 : decode cX11_played 14 = .ok (.istore 6, 2) := by decide +kernel
theorem dX11_played_16 : decode cX11_played 16 = .ok (.iload 6, 2) := by decide +kernel
theorem dX11_played_18 : decode cX11_played 18 = .ok (.iload 4, 2) := by decide +kernel
theorem dX11_played_20 : decode cX11_played 20 = .ok (.if_icmp .ge 151, 3) := by decide +kernel
theorem dX11_played_23 : decode cX11_played 23 = .ok (.aload_n 0, 1) := by decide +kernel
theorem dX11_played_24 : decode cX11_played 24 = .ok (.getfield 7, 3) := by decide +kernel
theorem dX11_played_27 : decode cX11_played 27 = .ok (.sipush 1405, 3) := by decide +kernel
theorem dX11_played_30 : decode cX11_played 30 = .ok (.iload 6, 2) := by decide +kernel
theorem dX11_played_32 : decode cX11_played 32 = .ok (.iadd, 1) := by decide +kernel
theorem dX11_played_33 : decode cX11_played 33 = .ok (.iaload, 1) := by decide +kernel
theorem dX11_played_34 : decode cX11_played 34 = .ok (.istore 7, 2) := by decide +kernel
theorem dX11_played_36 : decode cX11_played 36 = .ok (.aload_n 0, 1) := by decide +kernel
theorem dX11_played_37 : decode cX11_played 37 = .ok (.iload 7, 2) := by decide +kernel
theorem dX11_played_39 : decode cX11_played 39 = .ok (.invokevirtual 144, 3) := by decide +kernel
theorem dX11_played_42 : decode cX11_played 42 = .ok (.istore 8, 2) := by decide +kernel
theorem dX11_played_44 : decode cX11_played 44 = .ok (.iload 8, 2) := by decide +kernel
theorem dX11_played_46 : decode cX11_played 46 = .ok (.ifCond .lt 37, 3) := by decide +kernel
theorem dX11_played_49 : decode cX11_played 49 = .ok (.iinc 5 1, 3) := by decide +kernel
theorem dX11_played_52 : decode cX11_played 52 = .ok (.aload_n 0, 1) := by decide +kernel
theorem dX11_played_53 : decode cX11_played 53 = .ok (.getfield 26, 3) := by decide +kernel
theorem dX11_played_56 : decode cX11_played 56 = .ok (.iload 8, 2) := by decide +kernel
theorem dX11_played_58 : decode cX11_played 58 = .ok (.iconst 1, 1) := by decide +kernel
theorem dX11_played_59 : decode cX11_played 59 = .ok (.bastore, 1) := by decide +kernel
theorem dX11_played_60 : decode cX11_played 60 = .ok (.aload_n 0, 1) := by decide +kernel
theorem dX11_played_61 : decode cX11_played 61 = .ok (.getfield 29, 3) := by decide +kernel
theorem dX11_played_64 : decode cX11_played 64 = .ok (.iload 8, 2) := by decide +kernel
theorem dX11_played_66 : decode cX11_played 66 = .ok (.dup2, 1) := by decide +kernel
theorem dX11_played_67 : decode cX11_played 67 = .ok (.iaload, 1) := by decide +kernel
theorem dX11_played_68 : decode cX11_played 68 = .ok (.iconst 1, 1) := by decide +kernel
theorem dX11_played_69 : decode cX11_played 69 = .ok (.iadd, 1) := by decide +kernel
theorem dX11_played_70 : decode cX11_played 70 = .ok (.iastore, 1) := by decide +kernel
theorem dX11_played_71 : decode cX11_played 71 = .ok (.aload_n 0, 1) := by decide +kernel
theorem dX11_played_72 : decode cX11_played 72 = .ok (.getfield 32, 3) := by decide +kernel
theorem dX11_played_75 : decode cX11_played 75 = .ok (.iload 8, 2) := by decide +kernel
theorem dX11_played_77 : decode cX11_played 77 = .ok (.iload 6, 2) := by decide +kernel
theorem dX11_played_79 : decode cX11_played 79 = .ok (.iastore, 1) := by decide +kernel
theorem dX11_played_80 : decode cX11_played 80 = .ok (.goto 85, 3) := by decide +kernel
theorem dX11_played_83 : decode cX11_played 83 = .ok (.aload_n 0, 1) := by decide +kernel
theorem dX11_played_84 : decode cX11_played 84 = .ok (.getfield 131, 3) := by decide +kernel
theorem dX11_played_87 : decode cX11_played 87 = .ok (.iload_n 2, 1) := by decide +kernel
theorem dX11_played_88 : decode cX11_played 88 = .ok (.if_icmp .ge 22, 3) := by decide +kernel
theorem dX11_played_91 : decode cX11_played 91 = .ok (.aload_n 0, 1) := by decide +kernel
theorem dX11_played_92 : decode cX11_played 92 = .ok (.getfield 131, 3) := by decide +kernel
theorem dX11_played_95 : decode cX11_played 95 = .ok (.istore 8, 2) := by decide +kernel
theorem dX11_played_97 : decode cX11_played 97 = .ok (.aload_n 0, 1) := by decide +kernel
theorem dX11_played_98 : decode cX11_played 98 = .ok (.dup, 1) := by decide +kernel
theorem dX11_played_99 : decode cX11_played 99 = .ok (.getfield 131, 3) := by decide +kernel
theorem dX11_played_102 : decode cX11_played 102 = .ok (.iconst 1, 1) := by decide +kernel
theorem dX11_played_103 : decode cX11_played 103 = .ok (.iadd, 1) := by decide +kernel
theorem dX11_played_104 : decode cX11_played 104 = .ok (.putfield 131, 3) := by decide +kernel
theorem dX11_played_107 : decode cX11_played 107 = .ok (.goto 15, 3) := by decide +kernel
theorem dX11_played_110 : decode cX11_played 110 = .ok (.aload_n 0, 1) := by decide +kernel
theorem dX11_played_111 : decode cX11_played 111 = .ok (.iload_n 1, 1) := by decide +kernel
theorem dX11_played_112 : decode cX11_played 112 = .ok (.iload_n 2, 1) := by decide +kernel
theorem dX11_played_113 : decode cX11_played 113 = .ok (.iload 6, 2) := by decide +kernel
theorem dX11_played_115 : decode cX11_played 115 = .ok (.iload 4, 2) := by decide +kernel
theorem dX11_played_117 : decode cX11_played 117 = .ok (.invokevirtual 147, 3) := by decide +kernel
theorem dX11_played_120 : decode cX11_played 120 = .ok (.istore 8, 2) := by decide +kernel
theorem dX11_played_122 : decode cX11_played 122 = .ok (.aload_n 0, 1) := by decide +kernel
theorem dX11_played_123 : decode cX11_played 123 = .ok (.getfield 23, 3) := by decide +kernel
theorem dX11_played_126 : decode cX11_played 126 = .ok (.iload 8, 2) := by decide +kernel
theorem dX11_played_128 : decode cX11_played 128 = .ok (.iload 7, 2) := by decide +kernel
theorem dX11_played_130 : decode cX11_played 130 = .ok (.iastore, 1) := by decide +kernel
theorem dX11_played_131 : decode cX11_played 131 = .ok (.aload_n 0, 1) := by decide +kernel
theorem dX11_played_132 : decode cX11_played 132 = .ok (.getfield 26, 3) := by decide +kernel
theorem dX11_played_135 : decode cX11_played 135 = .ok (.iload 8, 2) := by decide +kernel
theorem dX11_played_137 : decode cX11_played 137 = .ok (.iconst 0, 1) := by decide +kernel
theorem dX11_played_138 : decode cX11_played 138 = .ok (.bastore, 1) := by decide +kernel
theorem dX11_played_139 : decode cX11_played 139 = .ok (.aload_n 0, 1) := by decide +kernel
theorem dX11_played_140 : decode cX11_played 140 = .ok (.getfield 29, 3) := by decide +kernel
theorem dX11_played_143 : decode cX11_played 143 = .ok (.iload 8, 2) := by decide +kernel
theorem dX11_played_145 : decode cX11_played 145 = .ok (.iconst 1, 1) := by decide +kernel
theorem dX11_played_146 : decode cX11_played 146 = .ok (.iastore, 1) := by decide +kernel
theorem dX11_played_147 : decode cX11_played 147 = .ok (.aload_n 0, 1) := by decide +kernel
theorem dX11_played_148 : decode cX11_played 148 = .ok (.getfield 32, 3) := by decide +kernel
theorem dX11_played_151 : decode cX11_played 151 = .ok (.iload 8, 2) := by decide +kernel
theorem dX11_played_153 : decode cX11_played 153 = .ok (.iload 6, 2) := by decide +kernel
theorem dX11_played_155 : decode cX11_played 155 = .ok (.iastore, 1) := by decide +kernel
theorem dX11_played_156 : decode cX11_played 156 = .ok (.aload_n 0, 1) := by decide +kernel
theorem dX11_played_157 : decode cX11_played 157 = .ok (.getfield 35, 3) := by decide +kernel
theorem dX11_played_160 : decode cX11_played 160 = .ok (.iload 8, 2) := by decide +kernel
theorem dX11_played_162 : decode cX11_played 162 = .ok (.iload 6, 2) := by decide +kernel
theorem dX11_played_164 : decode cX11_played 164 = .ok (.iastore, 1) := by decide +kernel
theorem dX11_played_165 : decode cX11_played 165 = .ok (.iinc 6 1, 3) := by decide +kernel
theorem dX11_played_168 : decode cX11_played 168 = .ok (.goto (-152), 3) := by decide +kernel
theorem dX11_played_171 : decode cX11_played 171 = .ok (.iload 5, 2) := by decide +kernel
theorem dX11_played_173 : decode cX11_played 173 = .ok (.ireturn, 1) := by decide +kernel
theorem dX11_indexIn_0 : decode cX11_indexIn 0 = .ok (.iconst 0, 1) := by decide +kernel
theorem dX11_indexIn_1 : decode cX11_indexIn 1 = .ok (.istore_n 3, 1) := by decide +kernel
theorem dX11_indexIn_2 : decode cX11_indexIn 2 = .ok (.iload_n 3, 1) := by decide +kernel
theorem dX11_indexIn_3 : decode cX11_indexIn 3 = .ok (.aload_n 0, 1) := by decide +kernel
theorem dX11_indexIn_4 : decode cX11_indexIn 4 = .ok (.getfield 41, 3) := by decide +kernel
theorem dX11_indexIn_7 : decode cX11_indexIn 7 = .ok (.iload_n 1, 1) := by decide +kernel
theorem dX11_indexIn_8 : decode cX11_indexIn 8 = .ok (.iaload, 1) := by decide +kernel
theorem dX11_indexIn_9 : decode cX11_indexIn 9 = .ok (.if_icmp .ge 26, 3) := by decide +kernel
theorem dX11_indexIn_12 : decode cX11_indexIn 12 = .ok (.aload_n 0, 1) := by decide +kernel
theorem dX11_indexIn_13 : decode cX11_indexIn 13 = .ok (.getfield 38, 3) := by decide +kernel
theorem dX11_indexIn_16 : decode cX11_indexIn 16 = .ok (.bipush 64, 2) := by decide +kernel
theorem dX11_indexIn_18 : decode cX11_indexIn 18 = .ok (.iload_n 1, 1) := by decide +kernel
theorem dX11_indexIn_19 : decode cX11_indexIn 19 = .ok (.imul, 1) := by decide +kernel
theorem dX11_indexIn_20 : decode cX11_indexIn 20 = .ok (.iload_n 3, 1) := by decide +kernel
theorem dX11_indexIn_21 : decode cX11_indexIn 21 = .ok (.iadd, 1) := by decide +kernel
theorem dX11_indexIn_22 : decode cX11_indexIn 22 = .ok (.iaload, 1) := by decide +kernel
theorem dX11_indexIn_23 : decode cX11_indexIn 23 = .ok (.iload_n 2, 1) := by decide +kernel
theorem dX11_indexIn_24 : decode cX11_indexIn 24 = .ok (.if_icmp .ne 5, 3) := by decide +kernel
theorem dX11_indexIn_27 : decode cX11_indexIn 27 = .ok (.iload_n 3, 1) := by decide +kernel
theorem dX11_indexIn_28 : decode cX11_indexIn 28 = .ok (.ireturn, 1) := by decide +kernel
theorem dX11_indexIn_29 : decode cX11_indexIn 29 = .ok (.iinc 3 1, 3) := by decide +kernel
theorem dX11_indexIn_32 : decode cX11_indexIn 32 = .ok (.goto (-30), 3) := by decide +kernel
theorem dX11_indexIn_35 : decode cX11_indexIn 35 = .ok (.iconst (-1), 1) := by decide +kernel
theorem dX11_indexIn_36 : decode cX11_indexIn 36 = .ok (.ireturn, 1) := by decide +kernel
theorem dX11_join_0 : decode cX11_join 0 = .ok (.aload_n 0, 1) := by decide +kernel
theorem dX11_join_1 : decode cX11_join 1 = .ok (.getfield 38, 3) := by decide +kernel
theorem dX11_join_4 : decode cX11_join 4 = .ok (.bipush 64, 2) := by decide +kernel
theorem dX11_join_6 : decode cX11_join 6 = .ok (.iload_n 1, 1) := by decide +kernel
theorem dX11_join_7 : decode cX11_join 7 = .ok (.imul, 1) := by decide +kernel
theorem dX11_join_8 : decode cX11_join 8 = .ok (.aload_n 0, 1) := by decide +kernel
theorem dX11_join_9 : decode cX11_join 9 = .ok (.getfield 41, 3) := by decide +kernel
theorem dX11_join_12 : decode cX11_join 12 = .ok (.iload_n 1, 1) := by decide +kernel
theorem dX11_join_13 : decode cX11_join 13 = .ok (.iaload, 1) := by decide +kernel
theorem dX11_join_14 : decode cX11_join 14 = .ok (.iadd, 1) := by decide +kernel
theorem dX11_join_15 : decode cX11_join 15 = .ok (.iload_n 2, 1) := by decide +kernel
theorem dX11_join_16 : decode cX11_join 16 = .ok (.iastore, 1) := by decide +kernel
theorem dX11_join_17 : decode cX11_join 17 = .ok (.aload_n 0, 1) := by decide +kernel
theorem dX11_join_18 : decode cX11_join 18 = .ok (.getfield 41, 3) := by decide +kernel
theorem dX11_join_21 : decode cX11_join 21 = .ok (.iload_n 1, 1) := by decide +kernel
theorem dX11_join_22 : decode cX11_join 22 = .ok (.dup2, 1) := by decide +kernel
theorem dX11_join_23 : decode cX11_join 23 = .ok (.iaload, 1) := by decide +kernel
theorem dX11_join_24 : decode cX11_join 24 = .ok (.iconst 1, 1) := by decide +kernel
theorem dX11_join_25 : decode cX11_join 25 = .ok (.iadd, 1) := by decide +kernel
theorem dX11_join_26 : decode cX11_join 26 = .ok (.iastore, 1) := by decide +kernel
theorem dX11_join_27 : decode cX11_join 27 = .ok (.return_, 1) := by decide +kernel
theorem dX11_leave_0 : decode cX11_leave 0 = .ok (.aload_n 0, 1) := by decide +kernel
theorem dX11_leave_1 : decode cX11_leave 1 = .ok (.getfield 38, 3) := by decide +kernel
theorem dX11_leave_4 : decode cX11_leave 4 = .ok (.bipush 64, 2) := by decide +kernel
theorem dX11_leave_6 : decode cX11_leave 6 = .ok (.iload_n 1, 1) := by decide +kernel
theorem dX11_leave_7 : decode cX11_leave 7 = .ok (.imul, 1) := by decide +kernel
theorem dX11_leave_8 : decode cX11_leave 8 = .ok (.iload_n 2, 1) := by decide +kernel
theorem dX11_leave_9 : decode cX11_leave 9 = .ok (.iadd, 1) := by decide +kernel
theorem dX11_leave_10 : decode cX11_leave 10 = .ok (.iaload, 1) := by decide +kernel
theorem dX11_leave_11 : decode cX11_leave 11 = .ok (.istore_n 3, 1) := by decide +kernel
theorem dX11_leave_12 : decode cX11_leave 12 = .ok (.iload_n 2, 1) := by decide +kernel
theorem dX11_leave_13 : decode cX11_leave 13 = .ok (.iconst 1, 1) := by decide +kernel
theorem dX11_leave_14 : decode cX11_leave 14 = .ok (.iadd, 1) := by decide +kernel
theorem dX11_leave_15 : decode cX11_leave 15 = .ok (.istore 4, 2) := by decide +kernel
theorem dX11_leave_17 : decode cX11_leave 17 = .ok (.iload 4, 2) := by decide +kernel
theorem dX11_leave_19 : decode cX11_leave 19 = .ok (.aload_n 0, 1) := by decide +kernel
theorem dX11_leave_20 : decode cX11_leave 20 = .ok (.getfield 41, 3) := by decide +kernel
theorem dX11_leave_23 : decode cX11_leave 23 = .ok (.iload_n 1, 1) := by decide +kernel
theorem dX11_leave_24 : decode cX11_leave 24 = .ok (.iaload, 1) := by decide +kernel
theorem dX11_leave_25 : decode cX11_leave 25 = .ok (.if_icmp .ge 35, 3) := by decide +kernel
theorem dX11_leave_28 : decode cX11_leave 28 = .ok (.aload_n 0, 1) := by decide +kernel
theorem dX11_leave_29 : decode cX11_leave 29 = .ok (.getfield 38, 3) := by decide +kernel
theorem dX11_leave_32 : decode cX11_leave 32 = .ok (.bipush 64, 2) := by decide +kernel
theorem dX11_leave_34 : decode cX11_leave 34 = .ok (.iload_n 1, 1) := by decide +kernel
theorem dX11_leave_35 : decode cX11_leave 35 = .ok (.imul, 1) := by decide +kernel
theorem dX11_leave_36 : decode cX11_leave 36 = .ok (.iload 4, 2) := by decide +kernel
theorem dX11_leave_38 : decode cX11_leave 38 = .ok (.iadd, 1) := by decide +kernel
theorem dX11_leave_39 : decode cX11_leave 39 = .ok (.iconst 1, 1) := by decide +kernel
theorem dX11_leave_40 : decode cX11_leave 40 = .ok (.isub, 1) := by decide +kernel
theorem dX11_leave_41 : decode cX11_leave 41 = .ok (.aload_n 0, 1) := by decide +kernel
theorem dX11_leave_42 : decode cX11_leave 42 = .ok (.getfield 38, 3) := by decide +kernel
theorem dX11_leave_45 : decode cX11_leave 45 = .ok (.bipush 64, 2) := by decide +kernel
theorem dX11_leave_47 : decode cX11_leave 47 = .ok (.iload_n 1, 1) := by decide +kernel
theorem dX11_leave_48 : decode cX11_leave 48 = .ok (.imul, 1) := by decide +kernel
theorem dX11_leave_49 : decode cX11_leave 49 = .ok (.iload 4, 2) := by decide +kernel
theorem dX11_leave_51 : decode cX11_leave 51 = .ok (.iadd, 1) := by decide +kernel
theorem dX11_leave_52 : decode cX11_leave 52 = .ok (.iaload, 1) := by decide +kernel
theorem dX11_leave_53 : decode cX11_leave 53 = .ok (.iastore, 1) := by decide +kernel
theorem dX11_leave_54 : decode cX11_leave 54 = .ok (.iinc 4 1, 3) := by decide +kernel
theorem dX11_leave_57 : decode cX11_leave 57 = .ok (.goto (-40), 3) := by decide +kernel
theorem dX11_leave_60 : decode cX11_leave 60 = .ok (.aload_n 0, 1) := by decide +kernel
theorem dX11_leave_61 : decode cX11_leave 61 = .ok (.getfield 41, 3) := by decide +kernel
theorem dX11_leave_64 : decode cX11_leave 64 = .ok (.iload_n 1, 1) := by decide +kernel
theorem dX11_leave_65 : decode cX11_leave 65 = .ok (.dup2, 1) := by decide +kernel
theorem dX11_leave_66 : decode cX11_leave 66 = .ok (.iaload, 1) := by decide +kernel
theorem dX11_leave_67 : decode cX11_leave 67 = .ok (.iconst 1, 1) := by decide +kernel
theorem dX11_leave_68 : decode cX11_leave 68 = .ok (.isub, 1) := by decide +kernel
theorem dX11_leave_69 : decode cX11_leave 69 = .ok (.iastore, 1) := by decide +kernel
theorem dX11_leave_70 : decode cX11_leave 70 = .ok (.iload_n 3, 1) := by decide +kernel
theorem dX11_leave_71 : decode cX11_leave 71 = .ok (.ireturn, 1) := by decide +kernel
theorem dX11_makeRoom_0 : decode cX11_makeRoom 0 = .ok (.aload_n 0, 1) := by decide +kernel
theorem dX11_makeRoom_1 : decode cX11_makeRoom 1 = .ok (.getfield 41, 3) := by decide +kernel
theorem dX11_makeRoom_4 : decode cX11_makeRoom 4 = .ok (.iconst 0, 1) := by decide +kernel
theorem dX11_makeRoom_5 : decode cX11_makeRoom 5 = .ok (.iaload, 1) := by decide +kernel
theorem dX11_makeRoom_6 : decode cX11_makeRoom 6 = .ok (.ifCond .le 37, 3) := by decide +kernel
theorem dX11_makeRoom_9 : decode cX11_makeRoom 9 = .ok (.aload_n 0, 1) := by decide +kernel
theorem dX11_makeRoom_10 : decode cX11_makeRoom 10 = .ok (.getfield 41, 3) := by decide +kernel
theorem dX11_makeRoom_13 : decode cX11_makeRoom 13 = .ok (.iconst 0, 1) := by decide +kernel
theorem dX11_makeRoom_14 : decode cX11_makeRoom 14 = .ok (.iaload, 1) := by decide +kernel
theorem dX11_makeRoom_15 : decode cX11_makeRoom 15 = .ok (.aload_n 0, 1) := by decide +kernel
theorem dX11_makeRoom_16 : decode cX11_makeRoom 16 = .ok (.getfield 151, 3) := by decide +kernel
theorem dX11_makeRoom_19 : decode cX11_makeRoom 19 = .ok (.if_icmp .gt 20, 3) := by decide +kernel
theorem dX11_makeRoom_22 : decode cX11_makeRoom 22 = .ok (.aload_n 0, 1) := by decide +kernel
theorem dX11_makeRoom_23 : decode cX11_makeRoom 23 = .ok (.getfield 41, 3) := by decide +kernel
theorem dX11_makeRoom_26 : decode cX11_makeRoom 26 = .ok (.iconst 0, 1) := by decide +kernel
theorem dX11_makeRoom_27 : decode cX11_makeRoom 27 = .ok (.iaload, 1) := by decide +kernel
theorem dX11_makeRoom_28 : decode cX11_makeRoom 28 = .ok (.aload_n 0, 1) := by decide +kernel
theorem dX11_makeRoom_29 : decode cX11_makeRoom 29 = .ok (.getfield 151, 3) := by decide +kernel
theorem dX11_makeRoom_32 : decode cX11_makeRoom 32 = .ok (.if_icmp .ne 11, 3) := by decide +kernel
theorem dX11_makeRoom_35 : decode cX11_makeRoom 35 = .ok (.iload_n 1, 1) := by decide +kernel
theorem dX11_makeRoom_36 : decode cX11_makeRoom 36 = .ok (.ifCond .eq 7, 3) := by decide +kernel
theorem dX11_makeRoom_39 : decode cX11_makeRoom 39 = .ok (.iconst 1, 1) := by decide +kernel
theorem dX11_makeRoom_40 : decode cX11_makeRoom 40 = .ok (.goto 4, 3) := by decide +kernel
theorem dX11_makeRoom_43 : decode cX11_makeRoom 43 = .ok (.iconst 0, 1) := by decide +kernel
theorem dX11_makeRoom_44 : decode cX11_makeRoom 44 = .ok (.istore_n 2, 1) := by decide +kernel
theorem dX11_makeRoom_45 : decode cX11_makeRoom 45 = .ok (.iload_n 2, 1) := by decide +kernel
theorem dX11_makeRoom_46 : decode cX11_makeRoom 46 = .ok (.ifCond .ne 21, 3) := by decide +kernel
theorem dX11_makeRoom_49 : decode cX11_makeRoom 49 = .ok (.aload_n 0, 1) := by decide +kernel
theorem dX11_makeRoom_50 : decode cX11_makeRoom 50 = .ok (.getfield 41, 3) := by decide +kernel
theorem dX11_makeRoom_53 : decode cX11_makeRoom 53 = .ok (.iconst 1, 1) := by decide +kernel
theorem dX11_makeRoom_54 : decode cX11_makeRoom 54 = .ok (.iaload, 1) := by decide +kernel
theorem dX11_makeRoom_55 : decode cX11_makeRoom 55 = .ok (.ifCond .ne 26, 3) := by decide +kernel
theorem dX11_makeRoom_58 : decode cX11_makeRoom 58 = .ok (.aload_n 0, 1) := by decide +kernel
theorem dX11_makeRoom_59 : decode cX11_makeRoom 59 = .ok (.getfield 41, 3) := by decide +kernel
theorem dX11_makeRoom_62 : decode cX11_makeRoom 62 = .ok (.iconst 0, 1) := by decide +kernel
theorem dX11_makeRoom_63 : decode cX11_makeRoom 63 = .ok (.iaload, 1) := by decide +kernel
theorem dX11_makeRoom_64 : decode cX11_makeRoom 64 = .ok (.ifCond .le 17, 3) := by decide +kernel
theorem dX11_makeRoom_67 : decode cX11_makeRoom 67 = .ok (.aload_n 0, 1) := by decide +kernel
theorem dX11_makeRoom_68 : decode cX11_makeRoom 68 = .ok (.iconst 2, 1) := by decide +kernel
theorem dX11_makeRoom_69 : decode cX11_makeRoom 69 = .ok (.aload_n 0, 1) := by decide +kernel
theorem dX11_makeRoom_70 : decode cX11_makeRoom 70 = .ok (.iconst 0, 1) := by decide +kernel
theorem dX11_makeRoom_71 : decode cX11_makeRoom 71 = .ok (.iconst 0, 1) := by decide +kernel
theorem dX11_makeRoom_72 : decode cX11_makeRoom 72 = .ok (.invokevirtual 154, 3) := by decide +kernel
theorem dX11_makeRoom_75 : decode cX11_makeRoom 75 = .ok (.invokevirtual 157, 3) := by decide +kernel
theorem dX11_makeRoom_78 : decode cX11_makeRoom 78 = .ok (.goto 23, 3) := by decide +kernel
theorem dX11_makeRoom_81 : decode cX11_makeRoom 81 = .ok (.aload_n 0, 1) := by decide +kernel
theorem dX11_makeRoom_82 : decode cX11_makeRoom 82 = .ok (.getfield 41, 3) := by decide +kernel
theorem dX11_makeRoom_85 : decode cX11_makeRoom 85 = .ok (.iconst 1, 1) := by decide +kernel
theorem dX11_makeRoom_86 : decode cX11_makeRoom 86 = .ok (.iaload, 1) := by decide +kernel
theorem dX11_makeRoom_87 : decode cX11_makeRoom 87 = .ok (.ifCond .le 14, 3) := by decide +kernel
theorem dX11_makeRoom_90 : decode cX11_makeRoom 90 = .ok (.aload_n 0, 1) := by decide +kernel
theorem dX11_makeRoom_91 : decode cX11_makeRoom 91 = .ok (.iconst 3, 1) := by decide +kernel
theorem dX11_makeRoom_92 : decode cX11_makeRoom 92 = .ok (.aload_n 0, 1) := by decide +kernel
theorem dX11_makeRoom_93 : decode cX11_makeRoom 93 = .ok (.iconst 1, 1) := by decide +kernel
theorem dX11_makeRoom_94 : decode cX11_makeRoom 94 = .ok (.iconst 0, 1) := by decide +kernel
theorem dX11_makeRoom_95 : decode cX11_makeRoom 95 = .ok (.invokevirtual 154, 3) := by decide +kernel
theorem dX11_makeRoom_98 : decode cX11_makeRoom 98 = .ok (.invokevirtual 157, 3) := by decide +kernel
theorem dX11_makeRoom_101 : decode cX11_makeRoom 101 = .ok (.return_, 1) := by decide +kernel
theorem dX11_otherKey_0 : decode cX11_otherKey 0 = .ok (.aload_n 0, 1) := by decide +kernel
theorem dX11_otherKey_1 : decode cX11_otherKey 1 = .ok (.getfield 41, 3) := by decide +kernel
theorem dX11_otherKey_4 : decode cX11_otherKey 4 = .ok (.iconst 0, 1) := by decide +kernel
theorem dX11_otherKey_5 : decode cX11_otherKey 5 = .ok (.iaload, 1) := by decide +kernel
theorem dX11_otherKey_6 : decode cX11_otherKey 6 = .ok (.aload_n 0, 1) := by decide +kernel
theorem dX11_otherKey_7 : decode cX11_otherKey 7 = .ok (.getfield 41, 3) := by decide +kernel
theorem dX11_otherKey_10 : decode cX11_otherKey 10 = .ok (.iconst 2, 1) := by decide +kernel
theorem dX11_otherKey_11 : decode cX11_otherKey 11 = .ok (.iaload, 1) := by decide +kernel
theorem dX11_otherKey_12 : decode cX11_otherKey 12 = .ok (.iadd, 1) := by decide +kernel
theorem dX11_otherKey_13 : decode cX11_otherKey 13 = .ok (.iload_n 2, 1) := by decide +kernel
theorem dX11_otherKey_14 : decode cX11_otherKey 14 = .ok (.if_icmp .ne 38, 3) := by decide +kernel
theorem dX11_otherKey_17 : decode cX11_otherKey 17 = .ok (.aload_n 0, 1) := by decide +kernel
theorem dX11_otherKey_18 : decode cX11_otherKey 18 = .ok (.getfield 41, 3) := by decide +kernel
theorem dX11_otherKey_21 : decode cX11_otherKey 21 = .ok (.iconst 0, 1) := by decide +kernel
theorem dX11_otherKey_22 : decode cX11_otherKey 22 = .ok (.iaload, 1) := by decide +kernel
theorem dX11_otherKey_23 : decode cX11_otherKey 23 = .ok (.iload_n 2, 1) := by decide +kernel
theorem dX11_otherKey_24 : decode cX11_otherKey 24 = .ok (.if_icmp .ge 18, 3) := by decide +kernel
theorem dX11_otherKey_27 : decode cX11_otherKey 27 = .ok (.aload_n 0, 1) := by decide +kernel
theorem dX11_otherKey_28 : decode cX11_otherKey 28 = .ok (.iconst 2, 1) := by decide +kernel
theorem dX11_otherKey_29 : decode cX11_otherKey 29 = .ok (.iconst 0, 1) := by decide +kernel
theorem dX11_otherKey_30 : decode cX11_otherKey 30 = .ok (.invokevirtual 154, 3) := by decide +kernel
theorem dX11_otherKey_33 : decode cX11_otherKey 33 = .ok (.istore_n 3, 1) := by decide +kernel
theorem dX11_otherKey_34 : decode cX11_otherKey 34 = .ok (.aload_n 0, 1) := by decide +kernel
theorem dX11_otherKey_35 : decode cX11_otherKey 35 = .ok (.iconst 0, 1) := by decide +kernel
theorem dX11_otherKey_36 : decode cX11_otherKey 36 = .ok (.invokevirtual 160, 3) := by decide +kernel
theorem dX11_otherKey_39 : decode cX11_otherKey 39 = .ok (.goto 89, 3) := by decide +kernel
theorem dX11_otherKey_42 : decode cX11_otherKey 42 = .ok (.aload_n 0, 1) := by decide +kernel
theorem dX11_otherKey_43 : decode cX11_otherKey 43 = .ok (.iconst 0, 1) := by decide +kernel
theorem dX11_otherKey_44 : decode cX11_otherKey 44 = .ok (.iconst 0, 1) := by decide +kernel
theorem dX11_otherKey_45 : decode cX11_otherKey 45 = .ok (.invokevirtual 154, 3) := by decide +kernel
theorem dX11_otherKey_48 : decode cX11_otherKey 48 = .ok (.istore_n 3, 1) := by decide +kernel
theorem dX11_otherKey_49 : decode cX11_otherKey 49 = .ok (.goto 79, 3) := by decide +kernel
theorem dX11_otherKey_52 : decode cX11_otherKey 52 = .ok (.aload_n 0, 1) := by decide +kernel
theorem dX11_otherKey_53 : decode cX11_otherKey 53 = .ok (.getfield 41, 3) := by decide +kernel
theorem dX11_otherKey_56 : decode cX11_otherKey 56 = .ok (.iconst 0, 1) := by decide +kernel
theorem dX11_otherKey_57 : decode cX11_otherKey 57 = .ok (.iaload, 1) := by decide +kernel
theorem dX11_otherKey_58 : decode cX11_otherKey 58 = .ok (.aload_n 0, 1) := by decide +kernel
theorem dX11_otherKey_59 : decode cX11_otherKey 59 = .ok (.getfield 41, 3) := by decide +kernel
theorem dX11_otherKey_62 : decode cX11_otherKey 62 = .ok (.iconst 1, 1) := by decide +kernel
theorem dX11_otherKey_63 : decode cX11_otherKey 63 = .ok (.iaload, 1) := by decide +kernel
theorem dX11_otherKey_64 : decode cX11_otherKey 64 = .ok (.iadd, 1) := by decide +kernel
theorem dX11_otherKey_65 : decode cX11_otherKey 65 = .ok (.aload_n 0, 1) := by decide +kernel
theorem dX11_otherKey_66 : decode cX11_otherKey 66 = .ok (.getfield 41, 3) := by decide +kernel
theorem dX11_otherKey_69 : decode cX11_otherKey 69 = .ok (.iconst 2, 1) := by decide +kernel
theorem dX11_otherKey_70 : decode cX11_otherKey 70 = .ok (.iaload, 1) := by decide +kernel
theorem dX11_otherKey_71 : decode cX11_otherKey 71 = .ok (.iadd, 1) := by decide +kernel
theorem dX11_otherKey_72 : decode cX11_otherKey 72 = .ok (.aload_n 0, 1) := by decide +kernel
theorem dX11_otherKey_73 : decode cX11_otherKey 73 = .ok (.getfield 41, 3) := by decide +kernel
theorem dX11_otherKey_76 : decode cX11_otherKey 76 = .ok (.iconst 3, 1) := by decide +kernel
theorem dX11_otherKey_77 : decode cX11_otherKey 77 = .ok (.iaload, 1) := by decide +kernel
theorem dX11_otherKey_78 : decode cX11_otherKey 78 = .ok (.iadd, 1) := by decide +kernel
theorem dX11_otherKey_79 : decode cX11_otherKey 79 = .ok (.iload_n 2, 1) := by decide +kernel
theorem dX11_otherKey_80 : decode cX11_otherKey 80 = .ok (.if_icmp .lt 48, 3) := by decide +kernel
theorem dX11_otherKey_83 : decode cX11_otherKey 83 = .ok (.aload_n 0, 1) := by decide +kernel
theorem dX11_otherKey_84 : decode cX11_otherKey 84 = .ok (.getfield 41, 3) := by decide +kernel
theorem dX11_otherKey_87 : decode cX11_otherKey 87 = .ok (.iconst 0, 1) := by decide +kernel
theorem dX11_otherKey_88 : decode cX11_otherKey 88 = .ok (.iaload, 1) := by decide +kernel
theorem dX11_otherKey_89 : decode cX11_otherKey 89 = .ok (.aload_n 0, 1) := by decide +kernel
theorem dX11_otherKey_90 : decode cX11_otherKey 90 = .ok (.getfield 41, 3) := by decide +kernel
theorem dX11_otherKey_93 : decode cX11_otherKey 93 = .ok (.iconst 1, 1) := by decide +kernel
theorem dX11_otherKey_94 : decode cX11_otherKey 94 = .ok (.iaload, 1) := by decide +kernel
theorem dX11_otherKey_95 : decode cX11_otherKey 95 = .ok (.iadd, 1) := by decide +kernel
theorem dX11_otherKey_96 : decode cX11_otherKey 96 = .ok (.aload_n 0, 1) := by decide +kernel
theorem dX11_otherKey_97 : decode cX11_otherKey 97 = .ok (.getfield 41, 3) := by decide +kernel
theorem dX11_otherKey_100 : decode cX11_otherKey 100 = .ok (.iconst 2, 1) := by decide +kernel
theorem dX11_otherKey_101 : decode cX11_otherKey 101 = .ok (.iaload, 1) := by decide +kernel
theorem dX11_otherKey_102 : decode cX11_otherKey 102 = .ok (.iadd, 1) := by decide +kernel
theorem dX11_otherKey_103 : decode cX11_otherKey 103 = .ok (.aload_n 0, 1) := by decide +kernel
theorem dX11_otherKey_104 : decode cX11_otherKey 104 = .ok (.getfield 41, 3) := by decide +kernel
theorem dX11_otherKey_107 : decode cX11_otherKey 107 = .ok (.iconst 3, 1) := by decide +kernel
theorem dX11_otherKey_108 : decode cX11_otherKey 108 = .ok (.iaload, 1) := by decide +kernel
theorem dX11_otherKey_109 : decode cX11_otherKey 109 = .ok (.iadd, 1) := by decide +kernel
theorem dX11_otherKey_110 : decode cX11_otherKey 110 = .ok (.iconst 2, 1) := by decide +kernel
theorem dX11_otherKey_111 : decode cX11_otherKey 111 = .ok (.iload_n 2, 1) := by decide +kernel
theorem dX11_otherKey_112 : decode cX11_otherKey 112 = .ok (.imul, 1) := by decide +kernel
theorem dX11_otherKey_113 : decode cX11_otherKey 113 = .ok (.if_icmp .ne 10, 3) := by decide +kernel
theorem dX11_otherKey_116 : decode cX11_otherKey 116 = .ok (.aload_n 0, 1) := by decide +kernel
theorem dX11_otherKey_117 : decode cX11_otherKey 117 = .ok (.iconst 3, 1) := by decide +kernel
theorem dX11_otherKey_118 : decode cX11_otherKey 118 = .ok (.iconst 0, 1) := by decide +kernel
theorem dX11_otherKey_119 : decode cX11_otherKey 119 = .ok (.invokevirtual 154, 3) := by decide +kernel
theorem dX11_otherKey_122 : decode cX11_otherKey 122 = .ok (.istore_n 3, 1) := by decide +kernel
theorem dX11_otherKey_123 : decode cX11_otherKey 123 = .ok (.aload_n 0, 1) := by decide +kernel
theorem dX11_otherKey_124 : decode cX11_otherKey 124 = .ok (.iconst 0, 1) := by decide +kernel
theorem dX11_otherKey_125 : decode cX11_otherKey 125 = .ok (.invokevirtual 160, 3) := by decide +kernel
theorem dX11_otherKey_128 : decode cX11_otherKey 128 = .ok (.aload_n 0, 1) := by decide +kernel
theorem dX11_otherKey_129 : decode cX11_otherKey 129 = .ok (.iconst 0, 1) := by decide +kernel
theorem dX11_otherKey_130 : decode cX11_otherKey 130 = .ok (.iload_n 1, 1) := by decide +kernel
theorem dX11_otherKey_131 : decode cX11_otherKey 131 = .ok (.invokevirtual 157, 3) := by decide +kernel
theorem dX11_otherKey_134 : decode cX11_otherKey 134 = .ok (.return_, 1) := by decide +kernel
theorem dX11_balanced_0 : decode cX11_balanced 0 = .ok (.iconst 0, 1) := by decide +kernel
theorem dX11_balanced_1 : decode cX11_balanced 1 = .ok (.istore 4, 2) := by decide +kernel
theorem dX11_balanced_3 : decode cX11_balanced 3 = .ok (.iload 4, 2) := by decide +kernel
theorem dX11_balanced_5 : decode cX11_balanced 5 = .ok (.iconst 4, 1) := by decide +kernel
theorem dX11_balanced_6 : decode cX11_balanced 6 = .ok (.if_icmp .ge 17, 3) := by decide +kernel
theorem dX11_balanced_9 : decode cX11_balanced 9 = .ok (.aload_n 0, 1) := by decide +kernel
theorem dX11_balanced_10 : decode cX11_balanced 10 = .ok (.getfield 41, 3) := by decide +kernel
theorem dX11_balanced_13 : decode cX11_balanced 13 = .ok (.iload 4, 2) := by decide +kernel
theorem dX11_balanced_15 : decode cX11_balanced 15 = .ok (.iconst 0, 1) := by decide +kernel
theorem dX11_balanced_16 : decode cX11_balanced 16 = .ok (.iastore, 1) := by decide +kernel
theorem dX11_balanced_17 : decode cX11_balanced 17 = .ok (.iinc 4 1, 3) := by decide +kernel
theorem dX11_balanced_20 : decode cX11_balanced 20 = .ok (.goto (-17), 3) := by decide +kernel
theorem dX11_balanced_23 : decode cX11_balanced 23 = .ok (.aload_n 0, 1) := by decide +kernel
theorem dX11_balanced_24 : decode cX11_balanced 24 = .ok (.iconst 0, 1) := by decide +kernel
theorem dX11_balanced_25 : decode cX11_balanced 25 = .ok (.putfield 151, 3) := by decide +kernel
theorem dX11_balanced_28 : decode cX11_balanced 28 = .ok (.iconst 0, 1) := by decide +kernel
theorem dX11_balanced_29 : decode cX11_balanced 29 = .ok (.istore 4, 2) := by decide +kernel
theorem dX11_balanced_31 : decode cX11_balanced 31 = .ok (.iload_n 2, 1) := by decide +kernel
theorem dX11_balanced_32 : decode cX11_balanced 32 = .ok (.istore 5, 2) := by decide +kernel
theorem dX11_balanced_34 : decode cX11_balanced 34 = .ok (.iload 5, 2) := by decide +kernel
theorem dX11_balanced_36 : decode cX11_balanced 36 = .ok (.iload_n 3, 1) := by decide +kernel
theorem dX11_balanced_37 : decode cX11_balanced 37 = .ok (.if_icmp .ge 262, 3) := by decide +kernel
theorem dX11_balanced_40 : decode cX11_balanced 40 = .ok (.aload_n 0, 1) := by decide +kernel
theorem dX11_balanced_41 : decode cX11_balanced 41 = .ok (.getfield 7, 3) := by decide +kernel
theorem dX11_balanced_44 : decode cX11_balanced 44 = .ok (.sipush 1405, 3) := by decide +kernel
theorem dX11_balanced_47 : decode cX11_balanced 47 = .ok (.iload 5, 2) := by decide +kernel
theorem dX11_balanced_49 : decode cX11_balanced 49 = .ok (.iadd, 1) := by decide +kernel
theorem dX11_balanced_50 : decode cX11_balanced 50 = .ok (.iaload, 1) := by decide +kernel
theorem dX11_balanced_51 : decode cX11_balanced 51 = .ok (.istore 6, 2) := by decide +kernel
theorem dX11_balanced_53 : decode cX11_balanced 53 = .ok (.aload_n 0, 1) := by decide +kernel
theorem dX11_balanced_54 : decode cX11_balanced 54 = .ok (.iconst 0, 1) := by decide +kernel
theorem dX11_balanced_55 : decode cX11_balanced 55 = .ok (.iload 6, 2) := by decide +kernel
theorem dX11_balanced_57 : decode cX11_balanced 57 = .ok (.invokevirtual 164, 3) := by decide +kernel
theorem dX11_balanced_60 : decode cX11_balanced 60 = .ok (.istore 7, 2) := by decide +kernel
theorem dX11_balanced_62 : decode cX11_balanced 62 = .ok (.aload_n 0, 1) := by decide +kernel
theorem dX11_balanced_63 : decode cX11_balanced 63 = .ok (.iconst 1, 1) := by decide +kernel
theorem dX11_balanced_64 : decode cX11_balanced 64 = .ok (.iload 6, 2) := by decide +kernel
theorem dX11_balanced_66 : decode cX11_balanced 66 = .ok (.invokevirtual 164, 3) := by decide +kernel
theorem dX11_balanced_69 : decode cX11_balanced 69 = .ok (.istore 8, 2) := by decide +kernel
theorem dX11_balanced_71 : decode cX11_balanced 71 = .ok (.aload_n 0, 1) := by decide +kernel
theorem dX11_balanced_72 : decode cX11_balanced 72 = .ok (.iconst 2, 1) := by decide +kernel
theorem dX11_balanced_73 : decode cX11_balanced 73 = .ok (.iload 6, 2) := by decide +kernel
theorem dX11_balanced_75 : decode cX11_balanced 75 = .ok (.invokevirtual 164, 3) := by decide +kernel
theorem dX11_balanced_78 : decode cX11_balanced 78 = .ok (.istore 9, 2) := by decide +kernel
theorem dX11_balanced_80 : decode cX11_balanced 80 = .ok (.aload_n 0, 1) := by decide +kernel
theorem dX11_balanced_81 : decode cX11_balanced 81 = .ok (.iconst 3, 1) := by decide +kernel
theorem dX11_balanced_82 : decode cX11_balanced 82 = .ok (.iload 6, 2) := by decide +kernel
theorem dX11_balanced_84 : decode cX11_balanced 84 = .ok (.invokevirtual 164, 3) := by decide +kernel
theorem dX11_balanced_87 : decode cX11_balanced 87 = .ok (.istore 10, 2) := by decide +kernel
theorem dX11_balanced_89 : decode cX11_balanced 89 = .ok (.iload 7, 2) := by decide +kernel
theorem dX11_balanced_91 : decode cX11_balanced 91 = .ok (.ifCond .ge 8, 3) := by decide +kernel
theorem dX11_balanced_94 : decode cX11_balanced 94 = .ok (.iload 8, 2) := by decide +kernel
theorem dX11_balanced_96 : decode cX11_balanced 96 = .ok (.ifCond .lt 40, 3) := by decide +kernel
theorem dX11_balanced_99 : decode cX11_balanced 99 = .ok (.iinc 4 1, 3) := by decide +kernel
theorem dX11_balanced_102 : decode cX11_balanced 102 = .ok (.iload 7, 2) := by decide +kernel
theorem dX11_balanced_104 : decode cX11_balanced 104 = .ok (.ifCond .lt 13, 3) := by decide +kernel
theorem dX11_balanced_107 : decode cX11_balanced 107 = .ok (.aload_n 0, 1) := by decide +kernel
theorem dX11_balanced_108 : decode cX11_balanced 108 = .ok (.iconst 0, 1) := by decide +kernel
theorem dX11_balanced_109 : decode cX11_balanced 109 = .ok (.iload 7, 2) := by decide +kernel
theorem dX11_balanced_111 : decode cX11_balanced 111 = .ok (.invokevirtual 154, 3) := by decide +kernel
theorem dX11_balanced_114 : decode cX11_balanced 114 = .ok (.goto 10, 3) := by decide +kernel
theorem dX11_balanced_117 : decode cX11_balanced 117 = .ok (.aload_n 0, 1) := by decide +kernel
theorem dX11_balanced_118 : decode cX11_balanced 118 = .ok (.iconst 1, 1) := by decide +kernel
theorem dX11_balanced_119 : decode cX11_balanced 119 = .ok (.iload 8, 2) := by decide +kernel
theorem dX11_balanced_121 : decode cX11_balanced 121 = .ok (.invokevirtual 154, 3) := by decide +kernel
theorem dX11_balanced_124 : decode cX11_balanced 124 = .ok (.istore 11, 2) := by decide +kernel
theorem dX11_balanced_126 : decode cX11_balanced 126 = .ok (.aload_n 0, 1) := by decide +kernel
theorem dX11_balanced_127 : decode cX11_balanced 127 = .ok (.iconst 1, 1) := by decide +kernel
theorem dX11_balanced_128 : decode cX11_balanced 128 = .ok (.iload 6, 2) := by decide +kernel
theorem dX11_balanced_130 : decode cX11_balanced 130 = .ok (.invokevirtual 157, 3) := by decide +kernel
theorem dX11_balanced_133 : decode cX11_balanced 133 = .ok (.goto 160, 3) := by decide +kernel
theorem dX11_balanced_136 : decode cX11_balanced 136 = .ok (.iload 9, 2) := by decide +kernel
theorem dX11_balanced_138 : decode cX11_balanced 138 = .ok (.ifCond .lt 73, 3) := by decide +kernel
theorem dX11_balanced_141 : decode cX11_balanced 141 = .ok (.aload_n 0, 1) := by decide +kernel
theorem dX11_balanced_142 : decode cX11_balanced 142 = .ok (.getfield 41, 3) := by decide +kernel
theorem dX11_balanced_145 : decode cX11_balanced 145 = .ok (.iconst 3, 1) := by decide +kernel
theorem dX11_balanced_146 : decode cX11_balanced 146 = .ok (.iaload, 1) := by decide +kernel
theorem dX11_balanced_147 : decode cX11_balanced 147 = .ok (.aload_n 0, 1) := by decide +kernel
theorem dX11_balanced_148 : decode cX11_balanced 148 = .ok (.getfield 41, 3) := by decide +kernel
theorem dX11_balanced_151 : decode cX11_balanced 151 = .ok (.iconst 2, 1) := by decide +kernel
theorem dX11_balanced_152 : decode cX11_balanced 152 = .ok (.iaload, 1) := by decide +kernel
theorem dX11_balanced_153 : decode cX11_balanced 153 = .ok (.idiv, 1) := by decide +kernel
theorem dX11_balanced_154 : decode cX11_balanced 154 = .ok (.istore 11, 2) := by decide +kernel
theorem dX11_balanced_156 : decode cX11_balanced 156 = .ok (.aload_n 0, 1) := by decide +kernel
theorem dX11_balanced_157 : decode cX11_balanced 157 = .ok (.aload_n 0, 1) := by decide +kernel
theorem dX11_balanced_158 : decode cX11_balanced 158 = .ok (.getfield 151, 3) := by decide +kernel
theorem dX11_balanced_161 : decode cX11_balanced 161 = .ok (.iload 11, 2) := by decide +kernel
theorem dX11_balanced_163 : decode cX11_balanced 163 = .ok (.iconst 1, 1) := by decide +kernel
theorem dX11_balanced_164 : decode cX11_balanced 164 = .ok (.if_icmp .ge 7, 3) := by decide +kernel
theorem dX11_balanced_167 : decode cX11_balanced 167 = .ok (.iconst 1, 1) := by decide +kernel
theorem dX11_balanced_168 : decode cX11_balanced 168 = .ok (.goto 5, 3) := by decide +kernel
theorem dX11_balanced_171 : decode cX11_balanced 171 = .ok (.iload 11, 2) := by decide +kernel
theorem dX11_balanced_173 : decode cX11_balanced 173 = .ok (.iadd, 1) := by decide +kernel
theorem dX11_balanced_174 : decode cX11_balanced 174 = .ok (.iconst 0, 1) := by decide +kernel
theorem dX11_balanced_175 : decode cX11_balanced 175 = .ok (.iload_n 1, 1) := by decide +kernel
theorem dX11_balanced_176 : decode cX11_balanced 176 = .ok (.invokestatic 44, 3) := by decide +kernel
theorem dX11_balanced_179 : decode cX11_balanced 179 = .ok (.putfield 151, 3) := by decide +kernel
theorem dX11_balanced_182 : decode cX11_balanced 182 = .ok (.aload_n 0, 1) := by decide +kernel
theorem dX11_balanced_183 : decode cX11_balanced 183 = .ok (.iconst 0, 1) := by decide +kernel
theorem dX11_balanced_184 : decode cX11_balanced 184 = .ok (.invokevirtual 160, 3) := by decide +kernel
theorem dX11_balanced_187 : decode cX11_balanced 187 = .ok (.aload_n 0, 1) := by decide +kernel
theorem dX11_balanced_188 : decode cX11_balanced 188 = .ok (.iconst 2, 1) := by decide +kernel
theorem dX11_balanced_189 : decode cX11_balanced 189 = .ok (.aload_n 0, 1) := by decide +kernel
theorem dX11_balanced_190 : decode cX11_balanced 190 = .ok (.iconst 2, 1) := by decide +kernel
theorem dX11_balanced_191 : decode cX11_balanced 191 = .ok (.iload 6, 2) := by decide +kernel
theorem dX11_balanced_193 : decode cX11_balanced 193 = .ok (.invokevirtual 164, 3) := by decide +kernel
theorem dX11_balanced_196 : decode cX11_balanced 196 = .ok (.invokevirtual 154, 3) := by decide +kernel
theorem dX11_balanced_199 : decode cX11_balanced 199 = .ok (.istore 12, 2) := by decide +kernel
theorem dX11_balanced_201 : decode cX11_balanced 201 = .ok (.aload_n 0, 1) := by decide +kernel
theorem dX11_balanced_202 : decode cX11_balanced 202 = .ok (.iconst 1, 1) := by decide +kernel
theorem dX11_balanced_203 : decode cX11_balanced 203 = .ok (.iload 6, 2) := by decide +kernel
theorem dX11_balanced_205 : decode cX11_balanced 205 = .ok (.invokevirtual 157, 3) := by decide +kernel
theorem dX11_balanced_208 : decode cX11_balanced 208 = .ok (.goto 85, 3) := by decide +kernel
theorem dX11_balanced_211 : decode cX11_balanced 211 = .ok (.iload 10, 2) := by decide +kernel
theorem dX11_balanced_213 : decode cX11_balanced 213 = .ok (.ifCond .lt 73, 3) := by decide +kernel
theorem dX11_balanced_216 : decode cX11_balanced 216 = .ok (.aload_n 0, 1) := by decide +kernel
theorem dX11_balanced_217 : decode cX11_balanced 217 = .ok (.getfield 41, 3) := by decide +kernel
theorem dX11_balanced_220 : decode cX11_balanced 220 = .ok (.iconst 2, 1) := by decide +kernel
theorem dX11_balanced_221 : decode cX11_balanced 221 = .ok (.iaload, 1) := by decide +kernel
theorem dX11_balanced_222 : decode cX11_balanced 222 = .ok (.aload_n 0, 1) := by decide +kernel
theorem dX11_balanced_223 : decode cX11_balanced 223 = .ok (.getfield 41, 3) := by decide +kernel
theorem dX11_balanced_226 : decode cX11_balanced 226 = .ok (.iconst 3, 1) := by decide +kernel
theorem dX11_balanced_227 : decode cX11_balanced 227 = .ok (.iaload, 1) := by decide +kernel
theorem dX11_balanced_228 : decode cX11_balanced 228 = .ok (.idiv, 1) := by decide +kernel
theorem dX11_balanced_229 : decode cX11_balanced 229 = .ok (.istore 11, 2) := by decide +kernel
theorem dX11_balanced_231 : decode cX11_balanced 231 = .ok (.aload_n 0, 1) := by decide +kernel
theorem dX11_balanced_232 : decode cX11_balanced 232 = .ok (.aload_n 0, 1) := by decide +kernel
theorem dX11_balanced_233 : decode cX11_balanced 233 = .ok (.getfield 151, 3) := by decide +kernel
theorem dX11_balanced_236 : decode cX11_balanced 236 = .ok (.iload 11, 2) := by decide +kernel
theorem dX11_balanced_238 : decode cX11_balanced 238 = .ok (.iconst 1, 1) := by decide +kernel
theorem dX11_balanced_239 : decode cX11_balanced 239 = .ok (.if_icmp .ge 7, 3) := by decide +kernel
theorem dX11_balanced_242 : decode cX11_balanced 242 = .ok (.iconst 1, 1) := by decide +kernel
theorem dX11_balanced_243 : decode cX11_balanced 243 = .ok (.goto 5, 3) := by decide +kernel
theorem dX11_balanced_246 : decode cX11_balanced 246 = .ok (.iload 11, 2) := by decide +kernel
theorem dX11_balanced_248 : decode cX11_balanced 248 = .ok (.isub, 1) := by decide +kernel
theorem dX11_balanced_249 : decode cX11_balanced 249 = .ok (.iconst 0, 1) := by decide +kernel
theorem dX11_balanced_250 : decode cX11_balanced 250 = .ok (.iload_n 1, 1) := by decide +kernel
theorem dX11_balanced_251 : decode cX11_balanced 251 = .ok (.invokestatic 44, 3) := by decide +kernel
theorem dX11_balanced_254 : decode cX11_balanced 254 = .ok (.putfield 151, 3) := by decide +kernel
theorem dX11_balanced_257 : decode cX11_balanced 257 = .ok (.aload_n 0, 1) := by decide +kernel
theorem dX11_balanced_258 : decode cX11_balanced 258 = .ok (.iconst 1, 1) := by decide +kernel
theorem dX11_balanced_259 : decode cX11_balanced 259 = .ok (.invokevirtual 160, 3) := by decide +kernel
theorem dX11_balanced_262 : decode cX11_balanced 262 = .ok (.aload_n 0, 1) := by decide +kernel
theorem dX11_balanced_263 : decode cX11_balanced 263 = .ok (.iconst 3, 1) := by decide +kernel
theorem dX11_balanced_264 : decode cX11_balanced 264 = .ok (.aload_n 0, 1) := by decide +kernel
theorem dX11_balanced_265 : decode cX11_balanced 265 = .ok (.iconst 3, 1) := by decide +kernel
theorem dX11_balanced_266 : decode cX11_balanced 266 = .ok (.iload 6, 2) := by decide +kernel
theorem dX11_balanced_268 : decode cX11_balanced 268 = .ok (.invokevirtual 164, 3) := by decide +kernel
theorem dX11_balanced_271 : decode cX11_balanced 271 = .ok (.invokevirtual 154, 3) := by decide +kernel
theorem dX11_balanced_274 : decode cX11_balanced 274 = .ok (.istore 12, 2) := by decide +kernel
theorem dX11_balanced_276 : decode cX11_balanced 276 = .ok (.aload_n 0, 1) := by decide +kernel
theorem dX11_balanced_277 : decode cX11_balanced 277 = .ok (.iconst 1, 1) := by decide +kernel
theorem dX11_balanced_278 : decode cX11_balanced 278 = .ok (.iload 6, 2) := by decide +kernel
theorem dX11_balanced_280 : decode cX11_balanced 280 = .ok (.invokevirtual 157, 3) := by decide +kernel
theorem dX11_balanced_283 : decode cX11_balanced 283 = .ok (.goto 10, 3) := by decide +kernel
theorem dX11_balanced_286 : decode cX11_balanced 286 = .ok (.aload_n 0, 1) := by decide +kernel
theorem dX11_balanced_287 : decode cX11_balanced 287 = .ok (.iload 6, 2) := by decide +kernel
theorem dX11_balanced_289 : decode cX11_balanced 289 = .ok (.iload_n 1, 1) := by decide +kernel
theorem dX11_balanced_290 : decode cX11_balanced 290 = .ok (.invokevirtual 167, 3) := by decide +kernel
theorem dX11_balanced_293 : decode cX11_balanced 293 = .ok (.iinc 5 1, 3) := by decide +kernel
theorem dX11_balanced_296 : decode cX11_balanced 296 = .ok (.goto (-262), 3) := by decide +kernel
theorem dX11_balanced_299 : decode cX11_balanced 299 = .ok (.iload 4, 2) := by decide +kernel
theorem dX11_balanced_301 : decode cX11_balanced 301 = .ok (.ireturn, 1) := by decide +kernel
theorem dX11_replay_0 : decode cX11_replay 0 = .ok (.iload_n 1, 1) := by decide +kernel
theorem dX11_replay_1 : decode cX11_replay 1 = .ok (.iconst 0, 1) := by decide +kernel
theorem dX11_replay_2 : decode cX11_replay 2 = .ok (.iconst 5, 1) := by decide +kernel
theorem dX11_replay_3 : decode cX11_replay 3 = .ok (.invokestatic 59, 3) := by decide +kernel
theorem dX11_replay_6 : decode cX11_replay 6 = .ok (.ifCond .eq 36, 3) := by decide +kernel
theorem dX11_replay_9 : decode cX11_replay 9 = .ok (.iload_n 2, 1) := by decide +kernel
theorem dX11_replay_10 : decode cX11_replay 10 = .ok (.iconst 1, 1) := by decide +kernel
theorem dX11_replay_11 : decode cX11_replay 11 = .ok (.bipush 30, 2) := by decide +kernel
theorem dX11_replay_13 : decode cX11_replay 13 = .ok (.invokestatic 59, 3) := by decide +kernel
theorem dX11_replay_16 : decode cX11_replay 16 = .ok (.ifCond .eq 26, 3) := by decide +kernel
theorem dX11_replay_19 : decode cX11_replay 19 = .ok (.iload_n 3, 1) := by decide +kernel
theorem dX11_replay_20 : decode cX11_replay 20 = .ok (.ifCond .lt 22, 3) := by decide +kernel
theorem dX11_replay_23 : decode cX11_replay 23 = .ok (.iload 4, 2) := by decide +kernel
theorem dX11_replay_25 : decode cX11_replay 25 = .ok (.iload_n 3, 1) := by decide +kernel
theorem dX11_replay_26 : decode cX11_replay 26 = .ok (.if_icmp .lt 16, 3) := by decide +kernel
theorem dX11_replay_29 : decode cX11_replay 29 = .ok (.iload 4, 2) := by decide +kernel
theorem dX11_replay_31 : decode cX11_replay 31 = .ok (.aload_n 0, 1) := by decide +kernel
theorem dX11_replay_32 : decode cX11_replay 32 = .ok (.getfield 7, 3) := by decide +kernel
theorem dX11_replay_35 : decode cX11_replay 35 = .ok (.sipush 1404, 3) := by decide +kernel
theorem dX11_replay_38 : decode cX11_replay 38 = .ok (.iaload, 1) := by decide +kernel
theorem dX11_replay_39 : decode cX11_replay 39 = .ok (.if_icmp .le 6, 3) := by decide +kernel
theorem dX11_replay_42 : decode cX11_replay 42 = .ok (.bipush (-2), 2) := by decide +kernel
theorem dX11_replay_44 : decode cX11_replay 44 = .ok (.ireturn, 1) := by decide +kernel
theorem dX11_replay_45 : decode cX11_replay 45 = .ok (.iload_n 1, 1) := by decide +kernel
theorem dX11_replay_46 : decode cX11_replay 46 = .ok (.iconst 5, 1) := by decide +kernel
theorem dX11_replay_47 : decode cX11_replay 47 = .ok (.if_icmp .ne 14, 3) := by decide +kernel
theorem dX11_replay_50 : decode cX11_replay 50 = .ok (.aload_n 0, 1) := by decide +kernel
theorem dX11_replay_51 : decode cX11_replay 51 = .ok (.iload_n 2, 1) := by decide +kernel
theorem dX11_replay_52 : decode cX11_replay 52 = .ok (.iload_n 3, 1) := by decide +kernel
theorem dX11_replay_53 : decode cX11_replay 53 = .ok (.iload 4, 2) := by decide +kernel
theorem dX11_replay_55 : decode cX11_replay 55 = .ok (.invokevirtual 170, 3) := by decide +kernel
theorem dX11_replay_58 : decode cX11_replay 58 = .ok (.goto 12, 3) := by decide +kernel
theorem dX11_replay_61 : decode cX11_replay 61 = .ok (.aload_n 0, 1) := by decide +kernel
theorem dX11_replay_62 : decode cX11_replay 62 = .ok (.iload_n 1, 1) := by decide +kernel
theorem dX11_replay_63 : decode cX11_replay 63 = .ok (.iload_n 2, 1) := by decide +kernel
theorem dX11_replay_64 : decode cX11_replay 64 = .ok (.iload_n 3, 1) := by decide +kernel
theorem dX11_replay_65 : decode cX11_replay 65 = .ok (.iload 4, 2) := by decide +kernel
theorem dX11_replay_67 : decode cX11_replay 67 = .ok (.invokevirtual 173, 3) := by decide +kernel
theorem dX11_replay_70 : decode cX11_replay 70 = .ok (.istore 5, 2) := by decide +kernel
theorem dX11_replay_72 : decode cX11_replay 72 = .ok (.aload_n 0, 1) := by decide +kernel
theorem dX11_replay_73 : decode cX11_replay 73 = .ok (.iconst 0, 1) := by decide +kernel
theorem dX11_replay_74 : decode cX11_replay 74 = .ok (.putfield 176, 3) := by decide +kernel
theorem dX11_replay_77 : decode cX11_replay 77 = .ok (.iconst 0, 1) := by decide +kernel
theorem dX11_replay_78 : decode cX11_replay 78 = .ok (.istore 6, 2) := by decide +kernel
theorem dX11_replay_80 : decode cX11_replay 80 = .ok (.iload 6, 2) := by decide +kernel
theorem dX11_replay_82 : decode cX11_replay 82 = .ok (.bipush 100, 2) := by decide +kernel
theorem dX11_replay_84 : decode cX11_replay 84 = .ok (.if_icmp .ge 84, 3) := by decide +kernel
theorem dX11_replay_87 : decode cX11_replay 87 = .ok (.iload_n 1, 1) := by decide +kernel
theorem dX11_replay_88 : decode cX11_replay 88 = .ok (.iconst 5, 1) := by decide +kernel
theorem dX11_replay_89 : decode cX11_replay 89 = .ok (.if_icmp .ne 31, 3) := by decide +kernel
theorem dX11_replay_92 : decode cX11_replay 92 = .ok (.aload_n 0, 1) := by decide +kernel
theorem dX11_replay_93 : decode cX11_replay 93 = .ok (.iconst 0, 1) := by decide +kernel
theorem dX11_replay_94 : decode cX11_replay 94 = .ok (.iload 6, 2) := by decide +kernel
theorem dX11_replay_96 : decode cX11_replay 96 = .ok (.invokevirtual 164, 3) := by decide +kernel
theorem dX11_replay_99 : decode cX11_replay 99 = .ok (.ifCond .ge 13, 3) := by decide +kernel
theorem dX11_replay_102 : decode cX11_replay 102 = .ok (.aload_n 0, 1) := by decide +kernel
theorem dX11_replay_103 : decode cX11_replay 103 = .ok (.iconst 1, 1) := by decide +kernel
theorem dX11_replay_104 : decode cX11_replay 104 = .ok (.iload 6, 2) := by decide +kernel
theorem dX11_replay_106 : decode cX11_replay 106 = .ok (.invokevirtual 164, 3) := by decide +kernel
theorem dX11_replay_109 : decode cX11_replay 109 = .ok (.ifCond .lt 7, 3) := by decide +kernel
theorem dX11_replay_112 : decode cX11_replay 112 = .ok (.iconst 1, 1) := by decide +kernel
theorem dX11_replay_113 : decode cX11_replay 113 = .ok (.goto 21, 3) := by decide +kernel
theorem dX11_replay_116 : decode cX11_replay 116 = .ok (.iconst 0, 1) := by decide +kernel
theorem dX11_replay_117 : decode cX11_replay 117 = .ok (.goto 17, 3) := by decide +kernel
theorem dX11_replay_120 : decode cX11_replay 120 = .ok (.aload_n 0, 1) := by decide +kernel
theorem dX11_replay_121 : decode cX11_replay 121 = .ok (.iload 6, 2) := by decide +kernel
theorem dX11_replay_123 : decode cX11_replay 123 = .ok (.invokevirtual 144, 3) := by decide +kernel
theorem dX11_replay_126 : decode cX11_replay 126 = .ok (.ifCond .lt 7, 3) := by decide +kernel
theorem dX11_replay_129 : decode cX11_replay 129 = .ok (.iconst 1, 1) := by decide +kernel
theorem dX11_replay_130 : decode cX11_replay 130 = .ok (.goto 4, 3) := by decide +kernel
theorem dX11_replay_133 : decode cX11_replay 133 = .ok (.iconst 0, 1) := by decide +kernel
theorem dX11_replay_134 : decode cX11_replay 134 = .ok (.istore 7, 2) := by decide +kernel
theorem dX11_replay_136 : decode cX11_replay 136 = .ok (.iload 7, 2) := by decide +kernel
theorem dX11_replay_138 : decode cX11_replay 138 = .ok (.ifCond .eq 24, 3) := by decide +kernel
theorem dX11_replay_141 : decode cX11_replay 141 = .ok (.aload_n 0, 1) := by decide +kernel
theorem dX11_replay_142 : decode cX11_replay 142 = .ok (.getfield 20, 3) := by decide +kernel
theorem dX11_replay_145 : decode cX11_replay 145 = .ok (.aload_n 0, 1) := by decide +kernel
theorem dX11_replay_146 : decode cX11_replay 146 = .ok (.getfield 176, 3) := by decide +kernel
theorem dX11_replay_149 : decode cX11_replay 149 = .ok (.iload 6, 2) := by decide +kernel
theorem dX11_replay_151 : decode cX11_replay 151 = .ok (.iastore, 1) := by decide +kernel
theorem dX11_replay_152 : decode cX11_replay 152 = .ok (.aload_n 0, 1) := by decide +kernel
theorem dX11_replay_153 : decode cX11_replay 153 = .ok (.dup, 1) := by decide +kernel
theorem dX11_replay_154 : decode cX11_replay 154 = .ok (.getfield 176, 3) := by decide +kernel
theorem dX11_replay_157 : decode cX11_replay 157 = .ok (.iconst 1, 1) := by decide +kernel
theorem dX11_replay_158 : decode cX11_replay 158 = .ok (.iadd, 1) := by decide +kernel
theorem dX11_replay_159 : decode cX11_replay 159 = .ok (.putfield 176, 3) := by decide +kernel
theorem dX11_replay_162 : decode cX11_replay 162 = .ok (.iinc 6 1, 3) := by decide +kernel
theorem dX11_replay_165 : decode cX11_replay 165 = .ok (.goto (-85), 3) := by decide +kernel
theorem dX11_replay_168 : decode cX11_replay 168 = .ok (.iload 5, 2) := by decide +kernel
theorem dX11_replay_170 : decode cX11_replay 170 = .ok (.ireturn, 1) := by decide +kernel
theorem dX11_kept_0 : decode cX11_kept 0 = .ok (.iload_n 1, 1) := by decide +kernel
theorem dX11_kept_1 : decode cX11_kept 1 = .ok (.iconst 0, 1) := by decide +kernel
theorem dX11_kept_2 : decode cX11_kept 2 = .ok (.aload_n 0, 1) := by decide +kernel
theorem dX11_kept_3 : decode cX11_kept 3 = .ok (.getfield 176, 3) := by decide +kernel
theorem dX11_kept_6 : decode cX11_kept 6 = .ok (.iconst 1, 1) := by decide +kernel
theorem dX11_kept_7 : decode cX11_kept 7 = .ok (.isub, 1) := by decide +kernel
theorem dX11_kept_8 : decode cX11_kept 8 = .ok (.invokestatic 59, 3) := by decide +kernel
theorem dX11_kept_11 : decode cX11_kept 11 = .ok (.ifCond .eq 12, 3) := by decide +kernel
theorem dX11_kept_14 : decode cX11_kept 14 = .ok (.aload_n 0, 1) := by decide +kernel
theorem dX11_kept_15 : decode cX11_kept 15 = .ok (.getfield 20, 3) := by decide +kernel
theorem dX11_kept_18 : decode cX11_kept 18 = .ok (.iload_n 1, 1) := by decide +kernel
theorem dX11_kept_19 : decode cX11_kept 19 = .ok (.iaload, 1) := by decide +kernel
theorem dX11_kept_20 : decode cX11_kept 20 = .ok (.goto 4, 3) := by decide +kernel
theorem dX11_kept_23 : decode cX11_kept 23 = .ok (.iconst (-1), 1) := by decide +kernel
theorem dX11_kept_24 : decode cX11_kept 24 = .ok (.ireturn, 1) := by decide +kernel
theorem dX11_save_0 : decode cX11_save 0 = .ok (.iload_n 1, 1) := by decide +kernel
theorem dX11_save_1 : decode cX11_save 1 = .ok (.iconst 0, 1) := by decide +kernel
theorem dX11_save_2 : decode cX11_save 2 = .ok (.iconst 3, 1) := by decide +kernel
theorem dX11_save_3 : decode cX11_save 3 = .ok (.invokestatic 59, 3) := by decide +kernel
theorem dX11_save_6 : decode cX11_save 6 = .ok (.ifCond .ne 6, 3) := by decide +kernel
theorem dX11_save_9 : decode cX11_save 9 = .ok (.bipush (-2), 2) := by decide +kernel
theorem dX11_save_11 : decode cX11_save 11 = .ok (.ireturn, 1) := by decide +kernel
theorem dX11_save_12 : decode cX11_save 12 = .ok (.iconst 0, 1) := by decide +kernel
theorem dX11_save_13 : decode cX11_save 13 = .ok (.istore_n 2, 1) := by decide +kernel
theorem dX11_save_14 : decode cX11_save 14 = .ok (.iload_n 2, 1) := by decide +kernel
theorem dX11_save_15 : decode cX11_save 15 = .ok (.sipush 1805, 3) := by decide +kernel
theorem dX11_save_18 : decode cX11_save 18 = .ok (.if_icmp .ge 27, 3) := by decide +kernel
theorem dX11_save_21 : decode cX11_save 21 = .ok (.aload_n 0, 1) := by decide +kernel
theorem dX11_save_22 : decode cX11_save 22 = .ok (.getfield 13, 3) := by decide +kernel
theorem dX11_save_25 : decode cX11_save 25 = .ok (.sipush 1805, 3) := by decide +kernel
theorem dX11_save_28 : decode cX11_save 28 = .ok (.iload_n 1, 1) := by decide +kernel
theorem dX11_save_29 : decode cX11_save 29 = .ok (.imul, 1) := by decide +kernel
theorem dX11_save_30 : decode cX11_save 30 = .ok (.iload_n 2, 1) := by decide +kernel
theorem dX11_save_31 : decode cX11_save 31 = .ok (.iadd, 1) := by decide +kernel
theorem dX11_save_32 : decode cX11_save 32 = .ok (.aload_n 0, 1) := by decide +kernel
theorem dX11_save_33 : decode cX11_save 33 = .ok (.getfield 7, 3) := by decide +kernel
theorem dX11_save_36 : decode cX11_save 36 = .ok (.iload_n 2, 1) := by decide +kernel
theorem dX11_save_37 : decode cX11_save 37 = .ok (.iaload, 1) := by decide +kernel
theorem dX11_save_38 : decode cX11_save 38 = .ok (.iastore, 1) := by decide +kernel
theorem dX11_save_39 : decode cX11_save 39 = .ok (.iinc 2 1, 3) := by decide +kernel
theorem dX11_save_42 : decode cX11_save 42 = .ok (.goto (-28), 3) := by decide +kernel
theorem dX11_save_45 : decode cX11_save 45 = .ok (.aload_n 0, 1) := by decide +kernel
theorem dX11_save_46 : decode cX11_save 46 = .ok (.getfield 16, 3) := by decide +kernel
theorem dX11_save_49 : decode cX11_save 49 = .ok (.iload_n 1, 1) := by decide +kernel
theorem dX11_save_50 : decode cX11_save 50 = .ok (.iconst 1, 1) := by decide +kernel
theorem dX11_save_51 : decode cX11_save 51 = .ok (.bastore, 1) := by decide +kernel
theorem dX11_save_52 : decode cX11_save 52 = .ok (.aload_n 0, 1) := by decide +kernel
theorem dX11_save_53 : decode cX11_save 53 = .ok (.getfield 7, 3) := by decide +kernel
theorem dX11_save_56 : decode cX11_save 56 = .ok (.sipush 1397, 3) := by decide +kernel
theorem dX11_save_59 : decode cX11_save 59 = .ok (.iaload, 1) := by decide +kernel
theorem dX11_save_60 : decode cX11_save 60 = .ok (.ireturn, 1) := by decide +kernel
theorem dX11_load_0 : decode cX11_load 0 = .ok (.iload_n 1, 1) := by decide +kernel
theorem dX11_load_1 : decode cX11_load 1 = .ok (.iconst 0, 1) := by decide +kernel
theorem dX11_load_2 : decode cX11_load 2 = .ok (.iconst 3, 1) := by decide +kernel
theorem dX11_load_3 : decode cX11_load 3 = .ok (.invokestatic 59, 3) := by decide +kernel
theorem dX11_load_6 : decode cX11_load 6 = .ok (.ifCond .ne 6, 3) := by decide +kernel
theorem dX11_load_9 : decode cX11_load 9 = .ok (.bipush (-2), 2) := by decide +kernel
theorem dX11_load_11 : decode cX11_load 11 = .ok (.ireturn, 1) := by decide +kernel
theorem dX11_load_12 : decode cX11_load 12 = .ok (.aload_n 0, 1) := by decide +kernel
theorem dX11_load_13 : decode cX11_load 13 = .ok (.getfield 16, 3) := by decide +kernel
theorem dX11_load_16 : decode cX11_load 16 = .ok (.iload_n 1, 1) := by decide +kernel
theorem dX11_load_17 : decode cX11_load 17 = .ok (.baload, 1) := by decide +kernel
theorem dX11_load_18 : decode cX11_load 18 = .ok (.ifCond .ne 5, 3) := by decide +kernel
theorem dX11_load_21 : decode cX11_load 21 = .ok (.iconst (-1), 1) := by decide +kernel
theorem dX11_load_22 : decode cX11_load 22 = .ok (.ireturn, 1) := by decide +kernel
theorem dX11_load_23 : decode cX11_load 23 = .ok (.iconst 0, 1) := by decide +kernel
theorem dX11_load_24 : decode cX11_load 24 = .ok (.istore_n 2, 1) := by decide +kernel
theorem dX11_load_25 : decode cX11_load 25 = .ok (.iload_n 2, 1) := by decide +kernel
theorem dX11_load_26 : decode cX11_load 26 = .ok (.sipush 1805, 3) := by decide +kernel
theorem dX11_load_29 : decode cX11_load 29 = .ok (.if_icmp .ge 27, 3) := by decide +kernel
theorem dX11_load_32 : decode cX11_load 32 = .ok (.aload_n 0, 1) := by decide +kernel
theorem dX11_load_33 : decode cX11_load 33 = .ok (.getfield 7, 3) := by decide +kernel
theorem dX11_load_36 : decode cX11_load 36 = .ok (.iload_n 2, 1) := by decide +kernel
theorem dX11_load_37 : decode cX11_load 37 = .ok (.aload_n 0, 1) := by decide +kernel
theorem dX11_load_38 : decode cX11_load 38 = .ok (.getfield 13, 3) := by decide +kernel
theorem dX11_load_41 : decode cX11_load 41 = .ok (.sipush 1805, 3) := by decide +kernel
theorem dX11_load_44 : decode cX11_load 44 = .ok (.iload_n 1, 1) := by decide +kernel
theorem dX11_load_45 : decode cX11_load 45 = .ok (.imul, 1) := by decide +kernel
theorem dX11_load_46 : decode cX11_load 46 = .ok (.iload_n 2, 1) := by decide +kernel
theorem dX11_load_47 : decode cX11_load 47 = .ok (.iadd, 1) := by decide +kernel
theorem dX11_load_48 : decode cX11_load 48 = .ok (.iaload, 1) := by decide +kernel
theorem dX11_load_49 : decode cX11_load 49 = .ok (.iastore, 1) := by decide +kernel
theorem dX11_load_50 : decode cX11_load 50 = .ok (.iinc 2 1, 3) := by decide +kernel
theorem dX11_load_53 : decode cX11_load 53 = .ok (.goto (-28), 3) := by decide +kernel
theorem dX11_load_56 : decode cX11_load 56 = .ok (.aload_n 0, 1) := by decide +kernel
theorem dX11_load_57 : decode cX11_load 57 = .ok (.getfield 7, 3) := by decide +kernel
theorem dX11_load_60 : decode cX11_load 60 = .ok (.sipush 1397, 3) := by decide +kernel
theorem dX11_load_63 : decode cX11_load 63 = .ok (.iaload, 1) := by decide +kernel
theorem dX11_load_64 : decode cX11_load 64 = .ok (.ireturn, 1) := by decide +kernel
theorem dX11_sound_0 : decode cX11_sound 0 = .ok (.aload_n 0, 1) := by decide +kernel
theorem dX11_sound_1 : decode cX11_sound 1 = .ok (.iconst 0, 1) := by decide +kernel
theorem dX11_sound_2 : decode cX11_sound 2 = .ok (.invokevirtual 93, 3) := by decide +kernel
theorem dX11_sound_5 : decode cX11_sound 5 = .ok (.aload_n 0, 1) := by decide +kernel
theorem dX11_sound_6 : decode cX11_sound 6 = .ok (.getfield 7, 3) := by decide +kernel
theorem dX11_sound_9 : decode cX11_sound 9 = .ok (.sipush 1393, 3) := by decide +kernel
theorem dX11_sound_12 : decode cX11_sound 12 = .ok (.iaload, 1) := by decide +kernel
theorem dX11_sound_13 : decode cX11_sound 13 = .ok (.if_icmp .gt 43, 3) := by decide +kernel
theorem dX11_sound_16 : decode cX11_sound 16 = .ok (.aload_n 0, 1) := by decide +kernel
theorem dX11_sound_17 : decode cX11_sound 17 = .ok (.invokevirtual 106, 3) := by decide +kernel
theorem dX11_sound_20 : decode cX11_sound 20 = .ok (.aload_n 0, 1) := by decide +kernel
theorem dX11_sound_21 : decode cX11_sound 21 = .ok (.getfield 52, 3) := by decide +kernel
theorem dX11_sound_24 : decode cX11_sound 24 = .ok (.aload_n 0, 1) := by decide +kernel
theorem dX11_sound_25 : decode cX11_sound 25 = .ok (.getfield 7, 3) := by decide +kernel
theorem dX11_sound_28 : decode cX11_sound 28 = .ok (.sipush 1393, 3) := by decide +kernel
theorem dX11_sound_31 : decode cX11_sound 31 = .ok (.iaload, 1) := by decide +kernel
theorem dX11_sound_32 : decode cX11_sound 32 = .ok (.isub, 1) := by decide +kernel
theorem dX11_sound_33 : decode cX11_sound 33 = .ok (.if_icmp .gt 23, 3) := by decide +kernel
theorem dX11_sound_36 : decode cX11_sound 36 = .ok (.aload_n 0, 1) := by decide +kernel
theorem dX11_sound_37 : decode cX11_sound 37 = .ok (.iconst 2, 1) := by decide +kernel
theorem dX11_sound_38 : decode cX11_sound 38 = .ok (.invokevirtual 93, 3) := by decide +kernel
theorem dX11_sound_41 : decode cX11_sound 41 = .ok (.aload_n 0, 1) := by decide +kernel
theorem dX11_sound_42 : decode cX11_sound 42 = .ok (.getfield 7, 3) := by decide +kernel
theorem dX11_sound_45 : decode cX11_sound 45 = .ok (.sipush 1394, 3) := by decide +kernel
theorem dX11_sound_48 : decode cX11_sound 48 = .ok (.iaload, 1) := by decide +kernel
theorem dX11_sound_49 : decode cX11_sound 49 = .ok (.if_icmp .gt 7, 3) := by decide +kernel
theorem dX11_sound_52 : decode cX11_sound 52 = .ok (.iconst 1, 1) := by decide +kernel
theorem dX11_sound_53 : decode cX11_sound 53 = .ok (.goto 4, 3) := by decide +kernel
theorem dX11_sound_56 : decode cX11_sound 56 = .ok (.iconst 0, 1) := by decide +kernel
theorem dX11_sound_57 : decode cX11_sound 57 = .ok (.istore_n 1, 1) := by decide +kernel
theorem dX11_sound_58 : decode cX11_sound 58 = .ok (.iconst 0, 1) := by decide +kernel
theorem dX11_sound_59 : decode cX11_sound 59 = .ok (.istore_n 2, 1) := by decide +kernel
theorem dX11_sound_60 : decode cX11_sound 60 = .ok (.iload_n 2, 1) := by decide +kernel
theorem dX11_sound_61 : decode cX11_sound 61 = .ok (.bipush 100, 2) := by decide +kernel
theorem dX11_sound_63 : decode cX11_sound 63 = .ok (.if_icmp .ge 123, 3) := by decide +kernel
theorem dX11_sound_66 : decode cX11_sound 66 = .ok (.iconst 0, 1) := by decide +kernel
theorem dX11_sound_67 : decode cX11_sound 67 = .ok (.istore_n 3, 1) := by decide +kernel
theorem dX11_sound_68 : decode cX11_sound 68 = .ok (.iconst 0, 1) := by decide +kernel
theorem dX11_sound_69 : decode cX11_sound 69 = .ok (.istore 4, 2) := by decide +kernel
theorem dX11_sound_71 : decode cX11_sound 71 = .ok (.iload 4, 2) := by decide +kernel
theorem dX11_sound_73 : decode cX11_sound 73 = .ok (.iconst 3, 1) := by decide +kernel
theorem dX11_sound_74 : decode cX11_sound 74 = .ok (.if_icmp .ge 49, 3) := by decide +kernel
theorem dX11_sound_77 : decode cX11_sound 77 = .ok (.iconst 0, 1) := by decide +kernel
theorem dX11_sound_78 : decode cX11_sound 78 = .ok (.istore 5, 2) := by decide +kernel
theorem dX11_sound_80 : decode cX11_sound 80 = .ok (.iload 5, 2) := by decide +kernel
theorem dX11_sound_82 : decode cX11_sound 82 = .ok (.aload_n 0, 1) := by decide +kernel
theorem dX11_sound_83 : decode cX11_sound 83 = .ok (.iload 4, 2) := by decide +kernel
theorem dX11_sound_85 : decode cX11_sound 85 = .ok (.invokevirtual 84, 3) := by decide +kernel
theorem dX11_sound_88 : decode cX11_sound 88 = .ok (.if_icmp .ge 29, 3) := by decide +kernel
theorem dX11_sound_91 : decode cX11_sound 91 = .ok (.iload_n 3, 1) := by decide +kernel
theorem dX11_sound_92 : decode cX11_sound 92 = .ok (.aload_n 0, 1) := by decide +kernel
theorem dX11_sound_93 : decode cX11_sound 93 = .ok (.iload 4, 2) := by decide +kernel
theorem dX11_sound_95 : decode cX11_sound 95 = .ok (.iload 5, 2) := by decide +kernel
theorem dX11_sound_97 : decode cX11_sound 97 = .ok (.invokevirtual 87, 3) := by decide +kernel
theorem dX11_sound_100 : decode cX11_sound 100 = .ok (.iload_n 2, 1) := by decide +kernel
theorem dX11_sound_101 : decode cX11_sound 101 = .ok (.if_icmp .ne 7, 3) := by decide +kernel
theorem dX11_sound_104 : decode cX11_sound 104 = .ok (.iconst 1, 1) := by decide +kernel
theorem dX11_sound_105 : decode cX11_sound 105 = .ok (.goto 4, 3) := by decide +kernel
theorem dX11_sound_108 : decode cX11_sound 108 = .ok (.iconst 0, 1) := by decide +kernel
theorem dX11_sound_109 : decode cX11_sound 109 = .ok (.iadd, 1) := by decide +kernel
theorem dX11_sound_110 : decode cX11_sound 110 = .ok (.istore_n 3, 1) := by decide +kernel
theorem dX11_sound_111 : decode cX11_sound 111 = .ok (.iinc 5 1, 3) := by decide +kernel
theorem dX11_sound_114 : decode cX11_sound 114 = .ok (.goto (-34), 3) := by decide +kernel
theorem dX11_sound_117 : decode cX11_sound 117 = .ok (.iinc 4 1, 3) := by decide +kernel
theorem dX11_sound_120 : decode cX11_sound 120 = .ok (.goto (-49), 3) := by decide +kernel
theorem dX11_sound_123 : decode cX11_sound 123 = .ok (.aload_n 0, 1) := by decide +kernel
theorem dX11_sound_124 : decode cX11_sound 124 = .ok (.getfield 7, 3) := by decide +kernel
theorem dX11_sound_127 : decode cX11_sound 127 = .ok (.sipush 1705, 3) := by decide +kernel
theorem dX11_sound_130 : decode cX11_sound 130 = .ok (.iload_n 2, 1) := by decide +kernel
theorem dX11_sound_131 : decode cX11_sound 131 = .ok (.iadd, 1) := by decide +kernel
theorem dX11_sound_132 : decode cX11_sound 132 = .ok (.iaload, 1) := by decide +kernel
theorem dX11_sound_133 : decode cX11_sound 133 = .ok (.bipush 15, 2) := by decide +kernel
theorem dX11_sound_135 : decode cX11_sound 135 = .ok (.if_icmp .ge 16, 3) := by decide +kernel
theorem dX11_sound_138 : decode cX11_sound 138 = .ok (.aload_n 0, 1) := by decide +kernel
theorem dX11_sound_139 : decode cX11_sound 139 = .ok (.getfield 7, 3) := by decide +kernel
theorem dX11_sound_142 : decode cX11_sound 142 = .ok (.sipush 1705, 3) := by decide +kernel
theorem dX11_sound_145 : decode cX11_sound 145 = .ok (.iload_n 2, 1) := by decide +kernel
theorem dX11_sound_146 : decode cX11_sound 146 = .ok (.iadd, 1) := by decide +kernel
theorem dX11_sound_147 : decode cX11_sound 147 = .ok (.iaload, 1) := by decide +kernel
theorem dX11_sound_148 : decode cX11_sound 148 = .ok (.goto 5, 3) := by decide +kernel
theorem dX11_sound_151 : decode cX11_sound 151 = .ok (.bipush 15, 2) := by decide +kernel
theorem dX11_sound_153 : decode cX11_sound 153 = .ok (.istore 4, 2) := by decide +kernel
theorem dX11_sound_155 : decode cX11_sound 155 = .ok (.iload_n 1, 1) := by decide +kernel
theorem dX11_sound_156 : decode cX11_sound 156 = .ok (.ifCond .eq 22, 3) := by decide +kernel
theorem dX11_sound_159 : decode cX11_sound 159 = .ok (.iload_n 3, 1) := by decide +kernel
theorem dX11_sound_160 : decode cX11_sound 160 = .ok (.iconst 2, 1) := by decide +kernel
theorem dX11_sound_161 : decode cX11_sound 161 = .ok (.if_icmp .ge 17, 3) := by decide +kernel
theorem dX11_sound_164 : decode cX11_sound 164 = .ok (.aload_n 0, 1) := by decide +kernel
theorem dX11_sound_165 : decode cX11_sound 165 = .ok (.iload_n 2, 1) := by decide +kernel
theorem dX11_sound_166 : decode cX11_sound 166 = .ok (.invokevirtual 113, 3) := by decide +kernel
theorem dX11_sound_169 : decode cX11_sound 169 = .ok (.iload 4, 2) := by decide +kernel
theorem dX11_sound_171 : decode cX11_sound 171 = .ok (.if_icmp .lt 7, 3) := by decide +kernel
theorem dX11_sound_174 : decode cX11_sound 174 = .ok (.iconst 1, 1) := by decide +kernel
theorem dX11_sound_175 : decode cX11_sound 175 = .ok (.goto 4, 3) := by decide +kernel
theorem dX11_sound_178 : decode cX11_sound 178 = .ok (.iconst 0, 1) := by decide +kernel
theorem dX11_sound_179 : decode cX11_sound 179 = .ok (.istore_n 1, 1) := by decide +kernel
theorem dX11_sound_180 : decode cX11_sound 180 = .ok (.iinc 2 1, 3) := by decide +kernel
theorem dX11_sound_183 : decode cX11_sound 183 = .ok (.goto (-123), 3) := by decide +kernel
theorem dX11_sound_186 : decode cX11_sound 186 = .ok (.iconst 0, 1) := by decide +kernel
theorem dX11_sound_187 : decode cX11_sound 187 = .ok (.istore_n 2, 1) := by decide +kernel
theorem dX11_sound_188 : decode cX11_sound 188 = .ok (.iload_n 2, 1) := by decide +kernel
theorem dX11_sound_189 : decode cX11_sound 189 = .ok (.sipush 256, 3) := by decide +kernel
theorem dX11_sound_192 : decode cX11_sound 192 = .ok (.if_icmp .ge 38, 3) := by decide +kernel
theorem dX11_sound_195 : decode cX11_sound 195 = .ok (.iload_n 1, 1) := by decide +kernel
theorem dX11_sound_196 : decode cX11_sound 196 = .ok (.ifCond .eq 26, 3) := by decide +kernel
theorem dX11_sound_199 : decode cX11_sound 199 = .ok (.aload_n 0, 1) := by decide +kernel
theorem dX11_sound_200 : decode cX11_sound 200 = .ok (.getfield 7, 3) := by decide +kernel
theorem dX11_sound_203 : decode cX11_sound 203 = .ok (.sipush 606, 3) := by decide +kernel
theorem dX11_sound_206 : decode cX11_sound 206 = .ok (.iload_n 2, 1) := by decide +kernel
theorem dX11_sound_207 : decode cX11_sound 207 = .ok (.iadd, 1) := by decide +kernel
theorem dX11_sound_208 : decode cX11_sound 208 = .ok (.iaload, 1) := by decide +kernel
theorem dX11_sound_209 : decode cX11_sound 209 = .ok (.iconst 0, 1) := by decide +kernel
theorem dX11_sound_210 : decode cX11_sound 210 = .ok (.bipush 15, 2) := by decide +kernel
theorem dX11_sound_212 : decode cX11_sound 212 = .ok (.invokestatic 59, 3) := by decide +kernel
theorem dX11_sound_215 : decode cX11_sound 215 = .ok (.ifCond .eq 7, 3) := by decide +kernel
theorem dX11_sound_218 : decode cX11_sound 218 = .ok (.iconst 1, 1) := by decide +kernel
theorem dX11_sound_219 : decode cX11_sound 219 = .ok (.goto 4, 3) := by decide +kernel
theorem dX11_sound_222 : decode cX11_sound 222 = .ok (.iconst 0, 1) := by decide +kernel
theorem dX11_sound_223 : decode cX11_sound 223 = .ok (.istore_n 1, 1) := by decide +kernel
theorem dX11_sound_224 : decode cX11_sound 224 = .ok (.iinc 2 1, 3) := by decide +kernel
theorem dX11_sound_227 : decode cX11_sound 227 = .ok (.goto (-39), 3) := by decide +kernel
theorem dX11_sound_230 : decode cX11_sound 230 = .ok (.iload_n 1, 1) := by decide +kernel
theorem dX11_sound_231 : decode cX11_sound 231 = .ok (.ifCond .eq 7, 3) := by decide +kernel
theorem dX11_sound_234 : decode cX11_sound 234 = .ok (.iconst 1, 1) := by decide +kernel
theorem dX11_sound_235 : decode cX11_sound 235 = .ok (.goto 4, 3) := by decide +kernel
theorem dX11_sound_238 : decode cX11_sound 238 = .ok (.iconst 0, 1) := by decide +kernel
theorem dX11_sound_239 : decode cX11_sound 239 = .ok (.ireturn, 1) := by decide +kernel
end
section
theorem dL_cell_0 : decode cL_cell 0 = .ok (.iload_n 1, 1) := by decide +kernel
theorem dL_cell_1 : decode cL_cell 1 = .ok (.aload_n 0, 1) := by decide +kernel
theorem dL_cell_2 : decode cL_cell 2 = .ok (.arraylength, 1) := by decide +kernel
theorem dL_cell_3 : decode cL_cell 3 = .ok (.if_icmp .ge 9, 3) := by decide +kernel
theorem dL_cell_6 : decode cL_cell 6 = .ok (.aload_n 0, 1) := by decide +kernel
theorem dL_cell_7 : decode cL_cell 7 = .ok (.iload_n 1, 1) := by decide +kernel
theorem dL_cell_8 : decode cL_cell 8 = .ok (.iaload, 1) := by decide +kernel
theorem dL_cell_9 : decode cL_cell 9 = .ok (.goto 4, 3) := by decide +kernel
theorem dL_cell_12 : decode cL_cell 12 = .ok (.iconst 0, 1) := by decide +kernel
theorem dL_cell_13 : decode cL_cell 13 = .ok (.ireturn, 1) := by decide +kernel
theorem dL_law_0 : decode cL_law 0 = .ok (.new 7, 3) := by decide +kernel
theorem dL_law_3 : decode cL_law 3 = .ok (.dup, 1) := by decide +kernel
theorem dL_law_4 : decode cL_law 4 = .ok (.aload_n 0, 1) := by decide +kernel
theorem dL_law_5 : decode cL_law 5 = .ok (.iconst 0, 1) := by decide +kernel
theorem dL_law_6 : decode cL_law 6 = .ok (.invokestatic 9, 3) := by decide +kernel
theorem dL_law_9 : decode cL_law 9 = .ok (.aload_n 0, 1) := by decide +kernel
theorem dL_law_10 : decode cL_law 10 = .ok (.iconst 1, 1) := by decide +kernel
theorem dL_law_11 : decode cL_law 11 = .ok (.invokestatic 9, 3) := by decide +kernel
theorem dL_law_14 : decode cL_law 14 = .ok (.aload_n 0, 1) := by decide +kernel
theorem dL_law_15 : decode cL_law 15 = .ok (.iconst 2, 1) := by decide +kernel
theorem dL_law_16 : decode cL_law 16 = .ok (.invokestatic 9, 3) := by decide +kernel
theorem dL_law_19 : decode cL_law 19 = .ok (.invokespecial 15, 3) := by decide +kernel
theorem dL_law_22 : decode cL_law 22 = .ok (.astore_n 1, 1) := by decide +kernel
theorem dL_law_23 : decode cL_law 23 = .ok (.new 18, 3) := by decide +kernel
theorem dL_law_26 : decode cL_law 26 = .ok (.dup, 1) := by decide +kernel
theorem dL_law_27 : decode cL_law 27 = .ok (.aload_n 0, 1) := by decide +kernel
theorem dL_law_28 : decode cL_law 28 = .ok (.iconst 0, 1) := by decide +kernel
theorem dL_law_29 : decode cL_law 29 = .ok (.invokestatic 9, 3) := by decide +kernel
theorem dL_law_32 : decode cL_law 32 = .ok (.aload_n 0, 1) := by decide +kernel
theorem dL_law_33 : decode cL_law 33 = .ok (.iconst 1, 1) := by decide +kernel
theorem dL_law_34 : decode cL_law 34 = .ok (.invokestatic 9, 3) := by decide +kernel
theorem dL_law_37 : decode cL_law 37 = .ok (.aload_n 0, 1) := by decide +kernel
theorem dL_law_38 : decode cL_law 38 = .ok (.iconst 2, 1) := by decide +kernel
theorem dL_law_39 : decode cL_law 39 = .ok (.invokestatic 9, 3) := by decide +kernel
theorem dL_law_42 : decode cL_law 42 = .ok (.invokespecial 20, 3) := by decide +kernel
theorem dL_law_45 : decode cL_law 45 = .ok (.astore_n 2, 1) := by decide +kernel
theorem dL_law_46 : decode cL_law 46 = .ok (.iconst 3, 1) := by decide +kernel
theorem dL_law_47 : decode cL_law 47 = .ok (.istore_n 3, 1) := by decide +kernel
theorem dL_law_48 : decode cL_law 48 = .ok (.iload_n 3, 1) := by decide +kernel
theorem dL_law_49 : decode cL_law 49 = .ok (.aload_n 0, 1) := by decide +kernel
theorem dL_law_50 : decode cL_law 50 = .ok (.arraylength, 1) := by decide +kernel
theorem dL_law_51 : decode cL_law 51 = .ok (.iconst 5, 1) := by decide +kernel
theorem dL_law_52 : decode cL_law 52 = .ok (.isub, 1) := by decide +kernel
theorem dL_law_53 : decode cL_law 53 = .ok (.if_icmp .gt 689, 3) := by decide +kernel
theorem dL_law_56 : decode cL_law 56 = .ok (.aload_n 0, 1) := by decide +kernel
theorem dL_law_57 : decode cL_law 57 = .ok (.iload_n 3, 1) := by decide +kernel
theorem dL_law_58 : decode cL_law 58 = .ok (.iaload, 1) := by decide +kernel
theorem dL_law_59 : decode cL_law 59 = .ok (.bipush 31, 2) := by decide +kernel
theorem dL_law_61 : decode cL_law 61 = .ok (.iand, 1) := by decide +kernel
theorem dL_law_62 : decode cL_law 62 = .ok (.tableswitch 674 0 19 #[94, 137, 180, 213, 246, 269, 312, 335, 358, 391, 414, 437, 460, 493, 516, 539, 592, 615, 638, 661], 94) := by decide +kernel
theorem dL_law_156 : decode cL_law 156 = .ok (.aload_n 1, 1) := by decide +kernel
theorem dL_law_157 : decode cL_law 157 = .ok (.aload_n 0, 1) := by decide +kernel
theorem dL_law_158 : decode cL_law 158 = .ok (.iload_n 3, 1) := by decide +kernel
theorem dL_law_159 : decode cL_law 159 = .ok (.iconst 1, 1) := by decide +kernel
theorem dL_law_160 : decode cL_law 160 = .ok (.iadd, 1) := by decide +kernel
theorem dL_law_161 : decode cL_law 161 = .ok (.iaload, 1) := by decide +kernel
theorem dL_law_162 : decode cL_law 162 = .ok (.aload_n 0, 1) := by decide +kernel
theorem dL_law_163 : decode cL_law 163 = .ok (.iload_n 3, 1) := by decide +kernel
theorem dL_law_164 : decode cL_law 164 = .ok (.iconst 2, 1) := by decide +kernel
theorem dL_law_165 : decode cL_law 165 = .ok (.iadd, 1) := by decide +kernel
theorem dL_law_166 : decode cL_law 166 = .ok (.iaload, 1) := by decide +kernel
theorem dL_law_167 : decode cL_law 167 = .ok (.aload_n 0, 1) := by decide +kernel
theorem dL_law_168 : decode cL_law 168 = .ok (.iload_n 3, 1) := by decide +kernel
theorem dL_law_169 : decode cL_law 169 = .ok (.iconst 3, 1) := by decide +kernel
theorem dL_law_170 : decode cL_law 170 = .ok (.iadd, 1) := by decide +kernel
theorem dL_law_171 : decode cL_law 171 = .ok (.iaload, 1) := by decide +kernel
theorem dL_law_172 : decode cL_law 172 = .ok (.invokevirtual 21, 3) := by decide +kernel
theorem dL_law_175 : decode cL_law 175 = .ok (.aload_n 2, 1) := by decide +kernel
theorem dL_law_176 : decode cL_law 176 = .ok (.aload_n 0, 1) := by decide +kernel
theorem dL_law_177 : decode cL_law 177 = .ok (.iload_n 3, 1) := by decide +kernel
theorem dL_law_178 : decode cL_law 178 = .ok (.iconst 1, 1) := by decide +kernel
theorem dL_law_179 : decode cL_law 179 = .ok (.iadd, 1) := by decide +kernel
theorem dL_law_180 : decode cL_law 180 = .ok (.iaload, 1) := by decide +kernel
theorem dL_law_181 : decode cL_law 181 = .ok (.aload_n 0, 1) := by decide +kernel
theorem dL_law_182 : decode cL_law 182 = .ok (.iload_n 3, 1) := by decide +kernel
theorem dL_law_183 : decode cL_law 183 = .ok (.iconst 2, 1) := by decide +kernel
theorem dL_law_184 : decode cL_law 184 = .ok (.iadd, 1) := by decide +kernel
theorem dL_law_185 : decode cL_law 185 = .ok (.iaload, 1) := by decide +kernel
theorem dL_law_186 : decode cL_law 186 = .ok (.aload_n 0, 1) := by decide +kernel
theorem dL_law_187 : decode cL_law 187 = .ok (.iload_n 3, 1) := by decide +kernel
theorem dL_law_188 : decode cL_law 188 = .ok (.iconst 3, 1) := by decide +kernel
theorem dL_law_189 : decode cL_law 189 = .ok (.iadd, 1) := by decide +kernel
theorem dL_law_190 : decode cL_law 190 = .ok (.iaload, 1) := by decide +kernel
theorem dL_law_191 : decode cL_law 191 = .ok (.invokevirtual 25, 3) := by decide +kernel
theorem dL_law_194 : decode cL_law 194 = .ok (.if_icmp .eq 542, 3) := by decide +kernel
theorem dL_law_197 : decode cL_law 197 = .ok (.iconst 0, 1) := by decide +kernel
theorem dL_law_198 : decode cL_law 198 = .ok (.ireturn, 1) := by decide +kernel
theorem dL_law_199 : decode cL_law 199 = .ok (.aload_n 1, 1) := by decide +kernel
theorem dL_law_200 : decode cL_law 200 = .ok (.aload_n 0, 1) := by decide +kernel
theorem dL_law_201 : decode cL_law 201 = .ok (.iload_n 3, 1) := by decide +kernel
theorem dL_law_202 : decode cL_law 202 = .ok (.iconst 1, 1) := by decide +kernel
theorem dL_law_203 : decode cL_law 203 = .ok (.iadd, 1) := by decide +kernel
theorem dL_law_204 : decode cL_law 204 = .ok (.iaload, 1) := by decide +kernel
theorem dL_law_205 : decode cL_law 205 = .ok (.aload_n 0, 1) := by decide +kernel
theorem dL_law_206 : decode cL_law 206 = .ok (.iload_n 3, 1) := by decide +kernel
theorem dL_law_207 : decode cL_law 207 = .ok (.iconst 2, 1) := by decide +kernel
theorem dL_law_208 : decode cL_law 208 = .ok (.iadd, 1) := by decide +kernel
theorem dL_law_209 : decode cL_law 209 = .ok (.iaload, 1) := by decide +kernel
theorem dL_law_210 : decode cL_law 210 = .ok (.aload_n 0, 1) := by decide +kernel
theorem dL_law_211 : decode cL_law 211 = .ok (.iload_n 3, 1) := by decide +kernel
theorem dL_law_212 : decode cL_law 212 = .ok (.iconst 3, 1) := by decide +kernel
theorem dL_law_213 : decode cL_law 213 = .ok (.iadd, 1) := by decide +kernel
theorem dL_law_214 : decode cL_law 214 = .ok (.iaload, 1) := by decide +kernel
theorem dL_law_215 : decode cL_law 215 = .ok (.invokevirtual 26, 3) := by decide +kernel
theorem dL_law_218 : decode cL_law 218 = .ok (.aload_n 2, 1) := by decide +kernel
theorem dL_law_219 : decode cL_law 219 = .ok (.aload_n 0, 1) := by decide +kernel
theorem dL_law_220 : decode cL_law 220 = .ok (.iload_n 3, 1) := by decide +kernel
theorem dL_law_221 : decode cL_law 221 = .ok (.iconst 1, 1) := by decide +kernel
theorem dL_law_222 : decode cL_law 222 = .ok (.iadd, 1) := by decide +kernel
theorem dL_law_223 : decode cL_law 223 = .ok (.iaload, 1) := by decide +kernel
theorem dL_law_224 : decode cL_law 224 = .ok (.aload_n 0, 1) := by decide +kernel
theorem dL_law_225 : decode cL_law 225 = .ok (.iload_n 3, 1) := by decide +kernel
theorem dL_law_226 : decode cL_law 226 = .ok (.iconst 2, 1) := by decide +kernel
theorem dL_law_227 : decode cL_law 227 = .ok (.iadd, 1) := by decide +kernel
theorem dL_law_228 : decode cL_law 228 = .ok (.iaload, 1) := by decide +kernel
theorem dL_law_229 : decode cL_law 229 = .ok (.aload_n 0, 1) := by decide +kernel
theorem dL_law_230 : decode cL_law 230 = .ok (.iload_n 3, 1) := by decide +kernel
theorem dL_law_231 : decode cL_law 231 = .ok (.iconst 3, 1) := by decide +kernel
theorem dL_law_232 : decode cL_law 232 = .ok (.iadd, 1) := by decide +kernel
theorem dL_law_233 : decode cL_law 233 = .ok (.iaload, 1) := by decide +kernel
theorem dL_law_234 : decode cL_law 234 = .ok (.invokevirtual 29, 3) := by decide +kernel
theorem dL_law_237 : decode cL_law 237 = .ok (.if_icmp .eq 499, 3) := by decide +kernel
theorem dL_law_240 : decode cL_law 240 = .ok (.iconst 0, 1) := by decide +kernel
theorem dL_law_241 : decode cL_law 241 = .ok (.ireturn, 1) := by decide +kernel
theorem dL_law_242 : decode cL_law 242 = .ok (.aload_n 1, 1) := by decide +kernel
theorem dL_law_243 : decode cL_law 243 = .ok (.aload_n 0, 1) := by decide +kernel
theorem dL_law_244 : decode cL_law 244 = .ok (.iload_n 3, 1) := by decide +kernel
theorem dL_law_245 : decode cL_law 245 = .ok (.iconst 1, 1) := by decide +kernel
theorem dL_law_246 : decode cL_law 246 = .ok (.iadd, 1) := by decide +kernel
theorem dL_law_247 : decode cL_law 247 = .ok (.iaload, 1) := by decide +kernel
theorem dL_law_248 : decode cL_law 248 = .ok (.aload_n 0, 1) := by decide +kernel
theorem dL_law_249 : decode cL_law 249 = .ok (.iload_n 3, 1) := by decide +kernel
theorem dL_law_250 : decode cL_law 250 = .ok (.iconst 2, 1) := by decide +kernel
theorem dL_law_251 : decode cL_law 251 = .ok (.iadd, 1) := by decide +kernel
theorem dL_law_252 : decode cL_law 252 = .ok (.iaload, 1) := by decide +kernel
theorem dL_law_253 : decode cL_law 253 = .ok (.invokevirtual 30, 3) := by decide +kernel
theorem dL_law_256 : decode cL_law 256 = .ok (.aload_n 2, 1) := by decide +kernel
theorem dL_law_257 : decode cL_law 257 = .ok (.aload_n 0, 1) := by decide +kernel
theorem dL_law_258 : decode cL_law 258 = .ok (.iload_n 3, 1) := by decide +kernel
theorem dL_law_259 : decode cL_law 259 = .ok (.iconst 1, 1) := by decide +kernel
theorem dL_law_260 : decode cL_law 260 = .ok (.iadd, 1) := by decide +kernel
theorem dL_law_261 : decode cL_law 261 = .ok (.iaload, 1) := by decide +kernel
theorem dL_law_262 : decode cL_law 262 = .ok (.aload_n 0, 1) := by decide +kernel
theorem dL_law_263 : decode cL_law 263 = .ok (.iload_n 3, 1) := by decide +kernel
theorem dL_law_264 : decode cL_law 264 = .ok (.iconst 2, 1) := by decide +kernel
theorem dL_law_265 : decode cL_law 265 = .ok (.iadd, 1) := by decide +kernel
theorem dL_law_266 : decode cL_law 266 = .ok (.iaload, 1) := by decide +kernel
theorem dL_law_267 : decode cL_law 267 = .ok (.invokevirtual 34, 3) := by decide +kernel
theorem dL_law_270 : decode cL_law 270 = .ok (.if_icmp .eq 466, 3) := by decide +kernel
theorem dL_law_273 : decode cL_law 273 = .ok (.iconst 0, 1) := by decide +kernel
theorem dL_law_274 : decode cL_law 274 = .ok (.ireturn, 1) := by decide +kernel
theorem dL_law_275 : decode cL_law 275 = .ok (.aload_n 1, 1) := by decide +kernel
theorem dL_law_276 : decode cL_law 276 = .ok (.aload_n 0, 1) := by decide +kernel
theorem dL_law_277 : decode cL_law 277 = .ok (.iload_n 3, 1) := by decide +kernel
theorem dL_law_278 : decode cL_law 278 = .ok (.iconst 1, 1) := by decide +kernel
theorem dL_law_279 : decode cL_law 279 = .ok (.iadd, 1) := by decide +kernel
theorem dL_law_280 : decode cL_law 280 = .ok (.iaload, 1) := by decide +kernel
theorem dL_law_281 : decode cL_law 281 = .ok (.aload_n 0, 1) := by decide +kernel
theorem dL_law_282 : decode cL_law 282 = .ok (.iload_n 3, 1) := by decide +kernel
theorem dL_law_283 : decode cL_law 283 = .ok (.iconst 2, 1) := by decide +kernel
theorem dL_law_284 : decode cL_law 284 = .ok (.iadd, 1) := by decide +kernel
theorem dL_law_285 : decode cL_law 285 = .ok (.iaload, 1) := by decide +kernel
theorem dL_law_286 : decode cL_law 286 = .ok (.invokevirtual 35, 3) := by decide +kernel
theorem dL_law_289 : decode cL_law 289 = .ok (.aload_n 2, 1) := by decide +kernel
theorem dL_law_290 : decode cL_law 290 = .ok (.aload_n 0, 1) := by decide +kernel
theorem dL_law_291 : decode cL_law 291 = .ok (.iload_n 3, 1) := by decide +kernel
theorem dL_law_292 : decode cL_law 292 = .ok (.iconst 1, 1) := by decide +kernel
theorem dL_law_293 : decode cL_law 293 = .ok (.iadd, 1) := by decide +kernel
theorem dL_law_294 : decode cL_law 294 = .ok (.iaload, 1) := by decide +kernel
theorem dL_law_295 : decode cL_law 295 = .ok (.aload_n 0, 1) := by decide +kernel
theorem dL_law_296 : decode cL_law 296 = .ok (.iload_n 3, 1) := by decide +kernel
theorem dL_law_297 : decode cL_law 297 = .ok (.iconst 2, 1) := by decide +kernel
theorem dL_law_298 : decode cL_law 298 = .ok (.iadd, 1) := by decide +kernel
theorem dL_law_299 : decode cL_law 299 = .ok (.iaload, 1) := by decide +kernel
theorem dL_law_300 : decode cL_law 300 = .ok (.invokevirtual 38, 3) := by decide +kernel
theorem dL_law_303 : decode cL_law 303 = .ok (.if_icmp .eq 433, 3) := by decide +kernel
theorem dL_law_306 : decode cL_law 306 = .ok (.iconst 0, 1) := by decide +kernel
theorem dL_law_307 : decode cL_law 307 = .ok (.ireturn, 1) := by decide +kernel
theorem dL_law_308 : decode cL_law 308 = .ok (.aload_n 1, 1) := by decide +kernel
theorem dL_law_309 : decode cL_law 309 = .ok (.aload_n 0, 1) := by decide +kernel
theorem dL_law_310 : decode cL_law 310 = .ok (.iload_n 3, 1) := by decide +kernel
theorem dL_law_311 : decode cL_law 311 = .ok (.iconst 1, 1) := by decide +kernel
theorem dL_law_312 : decode cL_law 312 = .ok (.iadd, 1) := by decide +kernel
theorem dL_law_313 : decode cL_law 313 = .ok (.iaload, 1) := by decide +kernel
theorem dL_law_314 : decode cL_law 314 = .ok (.invokevirtual 39, 3) := by decide +kernel
theorem dL_law_317 : decode cL_law 317 = .ok (.aload_n 2, 1) := by decide +kernel
theorem dL_law_318 : decode cL_law 318 = .ok (.aload_n 0, 1) := by decide +kernel
theorem dL_law_319 : decode cL_law 319 = .ok (.iload_n 3, 1) := by decide +kernel
theorem dL_law_320 : decode cL_law 320 = .ok (.iconst 1, 1) := by decide +kernel
theorem dL_law_321 : decode cL_law 321 = .ok (.iadd, 1) := by decide +kernel
theorem dL_law_322 : decode cL_law 322 = .ok (.iaload, 1) := by decide +kernel
theorem dL_law_323 : decode cL_law 323 = .ok (.invokevirtual 43, 3) := by decide +kernel
theorem dL_law_326 : decode cL_law 326 = .ok (.if_icmp .eq 410, 3) := by decide +kernel
theorem dL_law_329 : decode cL_law 329 = .ok (.iconst 0, 1) := by decide +kernel
theorem dL_law_330 : decode cL_law 330 = .ok (.ireturn, 1) := by decide +kernel
theorem dL_law_331 : decode cL_law 331 = .ok (.aload_n 1, 1) := by decide +kernel
theorem dL_law_332 : decode cL_law 332 = .ok (.aload_n 0, 1) := by decide +kernel
theorem dL_law_333 : decode cL_law 333 = .ok (.iload_n 3, 1) := by decide +kernel
theorem dL_law_334 : decode cL_law 334 = .ok (.iconst 1, 1) := by decide +kernel
theorem dL_law_335 : decode cL_law 335 = .ok (.iadd, 1) := by decide +kernel
theorem dL_law_336 : decode cL_law 336 = .ok (.iaload, 1) := by decide +kernel
theorem dL_law_337 : decode cL_law 337 = .ok (.aload_n 0, 1) := by decide +kernel
theorem dL_law_338 : decode cL_law 338 = .ok (.iload_n 3, 1) := by decide +kernel
theorem dL_law_339 : decode cL_law 339 = .ok (.iconst 2, 1) := by decide +kernel
theorem dL_law_340 : decode cL_law 340 = .ok (.iadd, 1) := by decide +kernel
theorem dL_law_341 : decode cL_law 341 = .ok (.iaload, 1) := by decide +kernel
theorem dL_law_342 : decode cL_law 342 = .ok (.aload_n 0, 1) := by decide +kernel
theorem dL_law_343 : decode cL_law 343 = .ok (.iload_n 3, 1) := by decide +kernel
theorem dL_law_344 : decode cL_law 344 = .ok (.iconst 3, 1) := by decide +kernel
theorem dL_law_345 : decode cL_law 345 = .ok (.iadd, 1) := by decide +kernel
theorem dL_law_346 : decode cL_law 346 = .ok (.iaload, 1) := by decide +kernel
theorem dL_law_347 : decode cL_law 347 = .ok (.invokevirtual 44, 3) := by decide +kernel
theorem dL_law_350 : decode cL_law 350 = .ok (.aload_n 2, 1) := by decide +kernel
theorem dL_law_351 : decode cL_law 351 = .ok (.aload_n 0, 1) := by decide +kernel
theorem dL_law_352 : decode cL_law 352 = .ok (.iload_n 3, 1) := by decide +kernel
theorem dL_law_353 : decode cL_law 353 = .ok (.iconst 1, 1) := by decide +kernel
theorem dL_law_354 : decode cL_law 354 = .ok (.iadd, 1) := by decide +kernel
theorem dL_law_355 : decode cL_law 355 = .ok (.iaload, 1) := by decide +kernel
theorem dL_law_356 : decode cL_law 356 = .ok (.aload_n 0, 1) := by decide +kernel
theorem dL_law_357 : decode cL_law 357 = .ok (.iload_n 3, 1) := by decide +kernel
theorem dL_law_358 : decode cL_law 358 = .ok (.iconst 2, 1) := by decide +kernel
theorem dL_law_359 : decode cL_law 359 = .ok (.iadd, 1) := by decide +kernel
theorem dL_law_360 : decode cL_law 360 = .ok (.iaload, 1) := by decide +kernel
theorem dL_law_361 : decode cL_law 361 = .ok (.aload_n 0, 1) := by decide +kernel
theorem dL_law_362 : decode cL_law 362 = .ok (.iload_n 3, 1) := by decide +kernel
theorem dL_law_363 : decode cL_law 363 = .ok (.iconst 3, 1) := by decide +kernel
theorem dL_law_364 : decode cL_law 364 = .ok (.iadd, 1) := by decide +kernel
theorem dL_law_365 : decode cL_law 365 = .ok (.iaload, 1) := by decide +kernel
theorem dL_law_366 : decode cL_law 366 = .ok (.invokevirtual 47, 3) := by decide +kernel
theorem dL_law_369 : decode cL_law 369 = .ok (.if_icmp .eq 367, 3) := by decide +kernel
theorem dL_law_372 : decode cL_law 372 = .ok (.iconst 0, 1) := by decide +kernel
theorem dL_law_373 : decode cL_law 373 = .ok (.ireturn, 1) := by decide +kernel
theorem dL_law_374 : decode cL_law 374 = .ok (.aload_n 1, 1) := by decide +kernel
theorem dL_law_375 : decode cL_law 375 = .ok (.aload_n 0, 1) := by decide +kernel
theorem dL_law_376 : decode cL_law 376 = .ok (.iload_n 3, 1) := by decide +kernel
theorem dL_law_377 : decode cL_law 377 = .ok (.iconst 1, 1) := by decide +kernel
theorem dL_law_378 : decode cL_law 378 = .ok (.iadd, 1) := by decide +kernel
theorem dL_law_379 : decode cL_law 379 = .ok (.iaload, 1) := by decide +kernel
theorem dL_law_380 : decode cL_law 380 = .ok (.invokevirtual 48, 3) := by decide +kernel
theorem dL_law_383 : decode cL_law 383 = .ok (.aload_n 2, 1) := by decide +kernel
theorem dL_law_384 : decode cL_law 384 = .ok (.aload_n 0, 1) := by decide +kernel
theorem dL_law_385 : decode cL_law 385 = .ok (.iload_n 3, 1) := by decide +kernel
theorem dL_law_386 : decode cL_law 386 = .ok (.iconst 1, 1) := by decide +kernel
theorem dL_law_387 : decode cL_law 387 = .ok (.iadd, 1) := by decide +kernel
theorem dL_law_388 : decode cL_law 388 = .ok (.iaload, 1) := by decide +kernel
theorem dL_law_389 : decode cL_law 389 = .ok (.invokevirtual 51, 3) := by decide +kernel
theorem dL_law_392 : decode cL_law 392 = .ok (.if_icmp .eq 344, 3) := by decide +kernel
theorem dL_law_395 : decode cL_law 395 = .ok (.iconst 0, 1) := by decide +kernel
theorem dL_law_396 : decode cL_law 396 = .ok (.ireturn, 1) := by decide +kernel
theorem dL_law_397 : decode cL_law 397 = .ok (.aload_n 1, 1) := by decide +kernel
theorem dL_law_398 : decode cL_law 398 = .ok (.aload_n 0, 1) := by decide +kernel
theorem dL_law_399 : decode cL_law 399 = .ok (.iload_n 3, 1) := by decide +kernel
theorem dL_law_400 : decode cL_law 400 = .ok (.iconst 1, 1) := by decide +kernel
theorem dL_law_401 : decode cL_law 401 = .ok (.iadd, 1) := by decide +kernel
theorem dL_law_402 : decode cL_law 402 = .ok (.iaload, 1) := by decide +kernel
theorem dL_law_403 : decode cL_law 403 = .ok (.invokevirtual 52, 3) := by decide +kernel
theorem dL_law_406 : decode cL_law 406 = .ok (.aload_n 2, 1) := by decide +kernel
theorem dL_law_407 : decode cL_law 407 = .ok (.aload_n 0, 1) := by decide +kernel
theorem dL_law_408 : decode cL_law 408 = .ok (.iload_n 3, 1) := by decide +kernel
theorem dL_law_409 : decode cL_law 409 = .ok (.iconst 1, 1) := by decide +kernel
theorem dL_law_410 : decode cL_law 410 = .ok (.iadd, 1) := by decide +kernel
theorem dL_law_411 : decode cL_law 411 = .ok (.iaload, 1) := by decide +kernel
theorem dL_law_412 : decode cL_law 412 = .ok (.invokevirtual 55, 3) := by decide +kernel
theorem dL_law_415 : decode cL_law 415 = .ok (.if_icmp .eq 321, 3) := by decide +kernel
theorem dL_law_418 : decode cL_law 418 = .ok (.iconst 0, 1) := by decide +kernel
theorem dL_law_419 : decode cL_law 419 = .ok (.ireturn, 1) := by decide +kernel
theorem dL_law_420 : decode cL_law 420 = .ok (.aload_n 1, 1) := by decide +kernel
theorem dL_law_421 : decode cL_law 421 = .ok (.aload_n 0, 1) := by decide +kernel
theorem dL_law_422 : decode cL_law 422 = .ok (.iload_n 3, 1) := by decide +kernel
theorem dL_law_423 : decode cL_law 423 = .ok (.iconst 1, 1) := by decide +kernel
theorem dL_law_424 : decode cL_law 424 = .ok (.iadd, 1) := by decide +kernel
theorem dL_law_425 : decode cL_law 425 = .ok (.iaload, 1) := by decide +kernel
theorem dL_law_426 : decode cL_law 426 = .ok (.aload_n 0, 1) := by decide +kernel
theorem dL_law_427 : decode cL_law 427 = .ok (.iload_n 3, 1) := by decide +kernel
theorem dL_law_428 : decode cL_law 428 = .ok (.iconst 2, 1) := by decide +kernel
theorem dL_law_429 : decode cL_law 429 = .ok (.iadd, 1) := by decide +kernel
theorem dL_law_430 : decode cL_law 430 = .ok (.iaload, 1) := by decide +kernel
theorem dL_law_431 : decode cL_law 431 = .ok (.invokevirtual 56, 3) := by decide +kernel
theorem dL_law_434 : decode cL_law 434 = .ok (.aload_n 2, 1) := by decide +kernel
theorem dL_law_435 : decode cL_law 435 = .ok (.aload_n 0, 1) := by decide +kernel
theorem dL_law_436 : decode cL_law 436 = .ok (.iload_n 3, 1) := by decide +kernel
theorem dL_law_437 : decode cL_law 437 = .ok (.iconst 1, 1) := by decide +kernel
theorem dL_law_438 : decode cL_law 438 = .ok (.iadd, 1) := by decide +kernel
theorem dL_law_439 : decode cL_law 439 = .ok (.iaload, 1) := by decide +kernel
theorem dL_law_440 : decode cL_law 440 = .ok (.aload_n 0, 1) := by decide +kernel
theorem dL_law_441 : decode cL_law 441 = .ok (.iload_n 3, 1) := by decide +kernel
theorem dL_law_442 : decode cL_law 442 = .ok (.iconst 2, 1) := by decide +kernel
theorem dL_law_443 : decode cL_law 443 = .ok (.iadd, 1) := by decide +kernel
theorem dL_law_444 : decode cL_law 444 = .ok (.iaload, 1) := by decide +kernel
theorem dL_law_445 : decode cL_law 445 = .ok (.invokevirtual 59, 3) := by decide +kernel
theorem dL_law_448 : decode cL_law 448 = .ok (.if_icmp .eq 288, 3) := by decide +kernel
theorem dL_law_451 : decode cL_law 451 = .ok (.iconst 0, 1) := by decide +kernel
theorem dL_law_452 : decode cL_law 452 = .ok (.ireturn, 1) := by decide +kernel
theorem dL_law_453 : decode cL_law 453 = .ok (.aload_n 1, 1) := by decide +kernel
theorem dL_law_454 : decode cL_law 454 = .ok (.aload_n 0, 1) := by decide +kernel
theorem dL_law_455 : decode cL_law 455 = .ok (.iload_n 3, 1) := by decide +kernel
theorem dL_law_456 : decode cL_law 456 = .ok (.iconst 1, 1) := by decide +kernel
theorem dL_law_457 : decode cL_law 457 = .ok (.iadd, 1) := by decide +kernel
theorem dL_law_458 : decode cL_law 458 = .ok (.iaload, 1) := by decide +kernel
theorem dL_law_459 : decode cL_law 459 = .ok (.invokevirtual 60, 3) := by decide +kernel
theorem dL_law_462 : decode cL_law 462 = .ok (.aload_n 2, 1) := by decide +kernel
theorem dL_law_463 : decode cL_law 463 = .ok (.aload_n 0, 1) := by decide +kernel
theorem dL_law_464 : decode cL_law 464 = .ok (.iload_n 3, 1) := by decide +kernel
theorem dL_law_465 : decode cL_law 465 = .ok (.iconst 1, 1) := by decide +kernel
theorem dL_law_466 : decode cL_law 466 = .ok (.iadd, 1) := by decide +kernel
theorem dL_law_467 : decode cL_law 467 = .ok (.iaload, 1) := by decide +kernel
theorem dL_law_468 : decode cL_law 468 = .ok (.invokevirtual 63, 3) := by decide +kernel
theorem dL_law_471 : decode cL_law 471 = .ok (.if_icmp .eq 265, 3) := by decide +kernel
theorem dL_law_474 : decode cL_law 474 = .ok (.iconst 0, 1) := by decide +kernel
theorem dL_law_475 : decode cL_law 475 = .ok (.ireturn, 1) := by decide +kernel
theorem dL_law_476 : decode cL_law 476 = .ok (.aload_n 1, 1) := by decide +kernel
theorem dL_law_477 : decode cL_law 477 = .ok (.aload_n 0, 1) := by decide +kernel
theorem dL_law_478 : decode cL_law 478 = .ok (.iload_n 3, 1) := by decide +kernel
theorem dL_law_479 : decode cL_law 479 = .ok (.iconst 1, 1) := by decide +kernel
theorem dL_law_480 : decode cL_law 480 = .ok (.iadd, 1) := by decide +kernel
theorem dL_law_481 : decode cL_law 481 = .ok (.iaload, 1) := by decide +kernel
theorem dL_law_482 : decode cL_law 482 = .ok (.invokevirtual 64, 3) := by decide +kernel
theorem dL_law_485 : decode cL_law 485 = .ok (.aload_n 2, 1) := by decide +kernel
theorem dL_law_486 : decode cL_law 486 = .ok (.aload_n 0, 1) := by decide +kernel
theorem dL_law_487 : decode cL_law 487 = .ok (.iload_n 3, 1) := by decide +kernel
theorem dL_law_488 : decode cL_law 488 = .ok (.iconst 1, 1) := by decide +kernel
theorem dL_law_489 : decode cL_law 489 = .ok (.iadd, 1) := by decide +kernel
theorem dL_law_490 : decode cL_law 490 = .ok (.iaload, 1) := by decide +kernel
theorem dL_law_491 : decode cL_law 491 = .ok (.invokevirtual 67, 3) := by decide +kernel
theorem dL_law_494 : decode cL_law 494 = .ok (.if_icmp .eq 242, 3) := by decide +kernel
theorem dL_law_497 : decode cL_law 497 = .ok (.iconst 0, 1) := by decide +kernel
theorem dL_law_498 : decode cL_law 498 = .ok (.ireturn, 1) := by decide +kernel
theorem dL_law_499 : decode cL_law 499 = .ok (.aload_n 1, 1) := by decide +kernel
theorem dL_law_500 : decode cL_law 500 = .ok (.aload_n 0, 1) := by decide +kernel
theorem dL_law_501 : decode cL_law 501 = .ok (.iload_n 3, 1) := by decide +kernel
theorem dL_law_502 : decode cL_law 502 = .ok (.iconst 1, 1) := by decide +kernel
theorem dL_law_503 : decode cL_law 503 = .ok (.iadd, 1) := by decide +kernel
theorem dL_law_504 : decode cL_law 504 = .ok (.iaload, 1) := by decide +kernel
theorem dL_law_505 : decode cL_law 505 = .ok (.invokevirtual 68, 3) := by decide +kernel
theorem dL_law_508 : decode cL_law 508 = .ok (.aload_n 2, 1) := by decide +kernel
theorem dL_law_509 : decode cL_law 509 = .ok (.aload_n 0, 1) := by decide +kernel
theorem dL_law_510 : decode cL_law 510 = .ok (.iload_n 3, 1) := by decide +kernel
theorem dL_law_511 : decode cL_law 511 = .ok (.iconst 1, 1) := by decide +kernel
theorem dL_law_512 : decode cL_law 512 = .ok (.iadd, 1) := by decide +kernel
theorem dL_law_513 : decode cL_law 513 = .ok (.iaload, 1) := by decide +kernel
theorem dL_law_514 : decode cL_law 514 = .ok (.invokevirtual 71, 3) := by decide +kernel
theorem dL_law_517 : decode cL_law 517 = .ok (.if_icmp .eq 219, 3) := by decide +kernel
theorem dL_law_520 : decode cL_law 520 = .ok (.iconst 0, 1) := by decide +kernel
theorem dL_law_521 : decode cL_law 521 = .ok (.ireturn, 1) := by decide +kernel
theorem dL_law_522 : decode cL_law 522 = .ok (.aload_n 1, 1) := by decide +kernel
theorem dL_law_523 : decode cL_law 523 = .ok (.aload_n 0, 1) := by decide +kernel
theorem dL_law_524 : decode cL_law 524 = .ok (.iload_n 3, 1) := by decide +kernel
theorem dL_law_525 : decode cL_law 525 = .ok (.iconst 1, 1) := by decide +kernel
theorem dL_law_526 : decode cL_law 526 = .ok (.iadd, 1) := by decide +kernel
theorem dL_law_527 : decode cL_law 527 = .ok (.iaload, 1) := by decide +kernel
theorem dL_law_528 : decode cL_law 528 = .ok (.aload_n 0, 1) := by decide +kernel
theorem dL_law_529 : decode cL_law 529 = .ok (.iload_n 3, 1) := by decide +kernel
theorem dL_law_530 : decode cL_law 530 = .ok (.iconst 2, 1) := by decide +kernel
theorem dL_law_531 : decode cL_law 531 = .ok (.iadd, 1) := by decide +kernel
theorem dL_law_532 : decode cL_law 532 = .ok (.iaload, 1) := by decide +kernel
theorem dL_law_533 : decode cL_law 533 = .ok (.invokevirtual 72, 3) := by decide +kernel
theorem dL_law_536 : decode cL_law 536 = .ok (.aload_n 2, 1) := by decide +kernel
theorem dL_law_537 : decode cL_law 537 = .ok (.aload_n 0, 1) := by decide +kernel
theorem dL_law_538 : decode cL_law 538 = .ok (.iload_n 3, 1) := by decide +kernel
theorem dL_law_539 : decode cL_law 539 = .ok (.iconst 1, 1) := by decide +kernel
theorem dL_law_540 : decode cL_law 540 = .ok (.iadd, 1) := by decide +kernel
theorem dL_law_541 : decode cL_law 541 = .ok (.iaload, 1) := by decide +kernel
theorem dL_law_542 : decode cL_law 542 = .ok (.aload_n 0, 1) := by decide +kernel
theorem dL_law_543 : decode cL_law 543 = .ok (.iload_n 3, 1) := by decide +kernel
theorem dL_law_544 : decode cL_law 544 = .ok (.iconst 2, 1) := by decide +kernel
theorem dL_law_545 : decode cL_law 545 = .ok (.iadd, 1) := by decide +kernel
theorem dL_law_546 : decode cL_law 546 = .ok (.iaload, 1) := by decide +kernel
theorem dL_law_547 : decode cL_law 547 = .ok (.invokevirtual 75, 3) := by decide +kernel
theorem dL_law_550 : decode cL_law 550 = .ok (.if_icmp .eq 186, 3) := by decide +kernel
theorem dL_law_553 : decode cL_law 553 = .ok (.iconst 0, 1) := by decide +kernel
theorem dL_law_554 : decode cL_law 554 = .ok (.ireturn, 1) := by decide +kernel
theorem dL_law_555 : decode cL_law 555 = .ok (.aload_n 1, 1) := by decide +kernel
theorem dL_law_556 : decode cL_law 556 = .ok (.aload_n 0, 1) := by decide +kernel
theorem dL_law_557 : decode cL_law 557 = .ok (.iload_n 3, 1) := by decide +kernel
theorem dL_law_558 : decode cL_law 558 = .ok (.iconst 1, 1) := by decide +kernel
theorem dL_law_559 : decode cL_law 559 = .ok (.iadd, 1) := by decide +kernel
theorem dL_law_560 : decode cL_law 560 = .ok (.iaload, 1) := by decide +kernel
theorem dL_law_561 : decode cL_law 561 = .ok (.invokevirtual 76, 3) := by decide +kernel
theorem dL_law_564 : decode cL_law 564 = .ok (.aload_n 2, 1) := by decide +kernel
theorem dL_law_565 : decode cL_law 565 = .ok (.aload_n 0, 1) := by decide +kernel
theorem dL_law_566 : decode cL_law 566 = .ok (.iload_n 3, 1) := by decide +kernel
theorem dL_law_567 : decode cL_law 567 = .ok (.iconst 1, 1) := by decide +kernel
theorem dL_law_568 : decode cL_law 568 = .ok (.iadd, 1) := by decide +kernel
theorem dL_law_569 : decode cL_law 569 = .ok (.iaload, 1) := by decide +kernel
theorem dL_law_570 : decode cL_law 570 = .ok (.invokevirtual 79, 3) := by decide +kernel
theorem dL_law_573 : decode cL_law 573 = .ok (.if_icmp .eq 163, 3) := by decide +kernel
theorem dL_law_576 : decode cL_law 576 = .ok (.iconst 0, 1) := by decide +kernel
theorem dL_law_577 : decode cL_law 577 = .ok (.ireturn, 1) := by decide +kernel
theorem dL_law_578 : decode cL_law 578 = .ok (.aload_n 1, 1) := by decide +kernel
theorem dL_law_579 : decode cL_law 579 = .ok (.aload_n 0, 1) := by decide +kernel
theorem dL_law_580 : decode cL_law 580 = .ok (.iload_n 3, 1) := by decide +kernel
theorem dL_law_581 : decode cL_law 581 = .ok (.iconst 1, 1) := by decide +kernel
theorem dL_law_582 : decode cL_law 582 = .ok (.iadd, 1) := by decide +kernel
theorem dL_law_583 : decode cL_law 583 = .ok (.iaload, 1) := by decide +kernel
theorem dL_law_584 : decode cL_law 584 = .ok (.invokevirtual 80, 3) := by decide +kernel
theorem dL_law_587 : decode cL_law 587 = .ok (.aload_n 2, 1) := by decide +kernel
theorem dL_law_588 : decode cL_law 588 = .ok (.aload_n 0, 1) := by decide +kernel
theorem dL_law_589 : decode cL_law 589 = .ok (.iload_n 3, 1) := by decide +kernel
theorem dL_law_590 : decode cL_law 590 = .ok (.iconst 1, 1) := by decide +kernel
theorem dL_law_591 : decode cL_law 591 = .ok (.iadd, 1) := by decide +kernel
theorem dL_law_592 : decode cL_law 592 = .ok (.iaload, 1) := by decide +kernel
theorem dL_law_593 : decode cL_law 593 = .ok (.invokevirtual 83, 3) := by decide +kernel
theorem dL_law_596 : decode cL_law 596 = .ok (.if_icmp .eq 140, 3) := by decide +kernel
theorem dL_law_599 : decode cL_law 599 = .ok (.iconst 0, 1) := by decide +kernel
theorem dL_law_600 : decode cL_law 600 = .ok (.ireturn, 1) := by decide +kernel
theorem dL_law_601 : decode cL_law 601 = .ok (.aload_n 1, 1) := by decide +kernel
theorem dL_law_602 : decode cL_law 602 = .ok (.aload_n 0, 1) := by decide +kernel
theorem dL_law_603 : decode cL_law 603 = .ok (.iload_n 3, 1) := by decide +kernel
theorem dL_law_604 : decode cL_law 604 = .ok (.iconst 1, 1) := by decide +kernel
theorem dL_law_605 : decode cL_law 605 = .ok (.iadd, 1) := by decide +kernel
theorem dL_law_606 : decode cL_law 606 = .ok (.iaload, 1) := by decide +kernel
theorem dL_law_607 : decode cL_law 607 = .ok (.aload_n 0, 1) := by decide +kernel
theorem dL_law_608 : decode cL_law 608 = .ok (.iload_n 3, 1) := by decide +kernel
theorem dL_law_609 : decode cL_law 609 = .ok (.iconst 2, 1) := by decide +kernel
theorem dL_law_610 : decode cL_law 610 = .ok (.iadd, 1) := by decide +kernel
theorem dL_law_611 : decode cL_law 611 = .ok (.iaload, 1) := by decide +kernel
theorem dL_law_612 : decode cL_law 612 = .ok (.aload_n 0, 1) := by decide +kernel
theorem dL_law_613 : decode cL_law 613 = .ok (.iload_n 3, 1) := by decide +kernel
theorem dL_law_614 : decode cL_law 614 = .ok (.iconst 3, 1) := by decide +kernel
theorem dL_law_615 : decode cL_law 615 = .ok (.iadd, 1) := by decide +kernel
theorem dL_law_616 : decode cL_law 616 = .ok (.iaload, 1) := by decide +kernel
theorem dL_law_617 : decode cL_law 617 = .ok (.aload_n 0, 1) := by decide +kernel
theorem dL_law_618 : decode cL_law 618 = .ok (.iload_n 3, 1) := by decide +kernel
theorem dL_law_619 : decode cL_law 619 = .ok (.iconst 4, 1) := by decide +kernel
theorem dL_law_620 : decode cL_law 620 = .ok (.iadd, 1) := by decide +kernel
theorem dL_law_621 : decode cL_law 621 = .ok (.iaload, 1) := by decide +kernel
theorem dL_law_622 : decode cL_law 622 = .ok (.invokevirtual 84, 3) := by decide +kernel
theorem dL_law_625 : decode cL_law 625 = .ok (.aload_n 2, 1) := by decide +kernel
theorem dL_law_626 : decode cL_law 626 = .ok (.aload_n 0, 1) := by decide +kernel
theorem dL_law_627 : decode cL_law 627 = .ok (.iload_n 3, 1) := by decide +kernel
theorem dL_law_628 : decode cL_law 628 = .ok (.iconst 1, 1) := by decide +kernel
theorem dL_law_629 : decode cL_law 629 = .ok (.iadd, 1) := by decide +kernel
theorem dL_law_630 : decode cL_law 630 = .ok (.iaload, 1) := by decide +kernel
theorem dL_law_631 : decode cL_law 631 = .ok (.aload_n 0, 1) := by decide +kernel
theorem dL_law_632 : decode cL_law 632 = .ok (.iload_n 3, 1) := by decide +kernel
theorem dL_law_633 : decode cL_law 633 = .ok (.iconst 2, 1) := by decide +kernel
theorem dL_law_634 : decode cL_law 634 = .ok (.iadd, 1) := by decide +kernel
theorem dL_law_635 : decode cL_law 635 = .ok (.iaload, 1) := by decide +kernel
theorem dL_law_636 : decode cL_law 636 = .ok (.aload_n 0, 1) := by decide +kernel
theorem dL_law_637 : decode cL_law 637 = .ok (.iload_n 3, 1) := by decide +kernel
theorem dL_law_638 : decode cL_law 638 = .ok (.iconst 3, 1) := by decide +kernel
theorem dL_law_639 : decode cL_law 639 = .ok (.iadd, 1) := by decide +kernel
theorem dL_law_640 : decode cL_law 640 = .ok (.iaload, 1) := by decide +kernel
theorem dL_law_641 : decode cL_law 641 = .ok (.aload_n 0, 1) := by decide +kernel
theorem dL_law_642 : decode cL_law 642 = .ok (.iload_n 3, 1) := by decide +kernel
theorem dL_law_643 : decode cL_law 643 = .ok (.iconst 4, 1) := by decide +kernel
theorem dL_law_644 : decode cL_law 644 = .ok (.iadd, 1) := by decide +kernel
theorem dL_law_645 : decode cL_law 645 = .ok (.iaload, 1) := by decide +kernel
theorem dL_law_646 : decode cL_law 646 = .ok (.invokevirtual 88, 3) := by decide +kernel
theorem dL_law_649 : decode cL_law 649 = .ok (.if_icmp .eq 87, 3) := by decide +kernel
theorem dL_law_652 : decode cL_law 652 = .ok (.iconst 0, 1) := by decide +kernel
theorem dL_law_653 : decode cL_law 653 = .ok (.ireturn, 1) := by decide +kernel
theorem dL_law_654 : decode cL_law 654 = .ok (.aload_n 1, 1) := by decide +kernel
theorem dL_law_655 : decode cL_law 655 = .ok (.aload_n 0, 1) := by decide +kernel
theorem dL_law_656 : decode cL_law 656 = .ok (.iload_n 3, 1) := by decide +kernel
theorem dL_law_657 : decode cL_law 657 = .ok (.iconst 1, 1) := by decide +kernel
theorem dL_law_658 : decode cL_law 658 = .ok (.iadd, 1) := by decide +kernel
theorem dL_law_659 : decode cL_law 659 = .ok (.iaload, 1) := by decide +kernel
theorem dL_law_660 : decode cL_law 660 = .ok (.invokevirtual 89, 3) := by decide +kernel
theorem dL_law_663 : decode cL_law 663 = .ok (.aload_n 2, 1) := by decide +kernel
theorem dL_law_664 : decode cL_law 664 = .ok (.aload_n 0, 1) := by decide +kernel
theorem dL_law_665 : decode cL_law 665 = .ok (.iload_n 3, 1) := by decide +kernel
theorem dL_law_666 : decode cL_law 666 = .ok (.iconst 1, 1) := by decide +kernel
theorem dL_law_667 : decode cL_law 667 = .ok (.iadd, 1) := by decide +kernel
theorem dL_law_668 : decode cL_law 668 = .ok (.iaload, 1) := by decide +kernel
theorem dL_law_669 : decode cL_law 669 = .ok (.invokevirtual 92, 3) := by decide +kernel
theorem dL_law_672 : decode cL_law 672 = .ok (.if_icmp .eq 64, 3) := by decide +kernel
theorem dL_law_675 : decode cL_law 675 = .ok (.iconst 0, 1) := by decide +kernel
theorem dL_law_676 : decode cL_law 676 = .ok (.ireturn, 1) := by decide +kernel
theorem dL_law_677 : decode cL_law 677 = .ok (.aload_n 1, 1) := by decide +kernel
theorem dL_law_678 : decode cL_law 678 = .ok (.aload_n 0, 1) := by decide +kernel
theorem dL_law_679 : decode cL_law 679 = .ok (.iload_n 3, 1) := by decide +kernel
theorem dL_law_680 : decode cL_law 680 = .ok (.iconst 1, 1) := by decide +kernel
theorem dL_law_681 : decode cL_law 681 = .ok (.iadd, 1) := by decide +kernel
theorem dL_law_682 : decode cL_law 682 = .ok (.iaload, 1) := by decide +kernel
theorem dL_law_683 : decode cL_law 683 = .ok (.invokevirtual 93, 3) := by decide +kernel
theorem dL_law_686 : decode cL_law 686 = .ok (.aload_n 2, 1) := by decide +kernel
theorem dL_law_687 : decode cL_law 687 = .ok (.aload_n 0, 1) := by decide +kernel
theorem dL_law_688 : decode cL_law 688 = .ok (.iload_n 3, 1) := by decide +kernel
theorem dL_law_689 : decode cL_law 689 = .ok (.iconst 1, 1) := by decide +kernel
theorem dL_law_690 : decode cL_law 690 = .ok (.iadd, 1) := by decide +kernel
theorem dL_law_691 : decode cL_law 691 = .ok (.iaload, 1) := by decide +kernel
theorem dL_law_692 : decode cL_law 692 = .ok (.invokevirtual 96, 3) := by decide +kernel
theorem dL_law_695 : decode cL_law 695 = .ok (.if_icmp .eq 41, 3) := by decide +kernel
theorem dL_law_698 : decode cL_law 698 = .ok (.iconst 0, 1) := by decide +kernel
theorem dL_law_699 : decode cL_law 699 = .ok (.ireturn, 1) := by decide +kernel
theorem dL_law_700 : decode cL_law 700 = .ok (.aload_n 1, 1) := by decide +kernel
theorem dL_law_701 : decode cL_law 701 = .ok (.aload_n 0, 1) := by decide +kernel
theorem dL_law_702 : decode cL_law 702 = .ok (.iload_n 3, 1) := by decide +kernel
theorem dL_law_703 : decode cL_law 703 = .ok (.iconst 1, 1) := by decide +kernel
theorem dL_law_704 : decode cL_law 704 = .ok (.iadd, 1) := by decide +kernel
theorem dL_law_705 : decode cL_law 705 = .ok (.iaload, 1) := by decide +kernel
theorem dL_law_706 : decode cL_law 706 = .ok (.invokevirtual 97, 3) := by decide +kernel
theorem dL_law_709 : decode cL_law 709 = .ok (.aload_n 2, 1) := by decide +kernel
theorem dL_law_710 : decode cL_law 710 = .ok (.aload_n 0, 1) := by decide +kernel
theorem dL_law_711 : decode cL_law 711 = .ok (.iload_n 3, 1) := by decide +kernel
theorem dL_law_712 : decode cL_law 712 = .ok (.iconst 1, 1) := by decide +kernel
theorem dL_law_713 : decode cL_law 713 = .ok (.iadd, 1) := by decide +kernel
theorem dL_law_714 : decode cL_law 714 = .ok (.iaload, 1) := by decide +kernel
theorem dL_law_715 : decode cL_law 715 = .ok (.invokevirtual 100, 3) := by decide +kernel
theorem dL_law_718 : decode cL_law 718 = .ok (.if_icmp .eq 18, 3) := by decide +kernel
theorem dL_law_721 : decode cL_law 721 = .ok (.iconst 0, 1) := by decide +kernel
theorem dL_law_722 : decode cL_law 722 = .ok (.ireturn, 1) := by decide +kernel
theorem dL_law_723 : decode cL_law 723 = .ok (.aload_n 1, 1) := by decide +kernel
theorem dL_law_724 : decode cL_law 724 = .ok (.invokevirtual 101, 3) := by decide +kernel
theorem dL_law_727 : decode cL_law 727 = .ok (.aload_n 2, 1) := by decide +kernel
theorem dL_law_728 : decode cL_law 728 = .ok (.invokevirtual 105, 3) := by decide +kernel
theorem dL_law_731 : decode cL_law 731 = .ok (.if_icmp .eq 5, 3) := by decide +kernel
theorem dL_law_734 : decode cL_law 734 = .ok (.iconst 0, 1) := by decide +kernel
theorem dL_law_735 : decode cL_law 735 = .ok (.ireturn, 1) := by decide +kernel
theorem dL_law_736 : decode cL_law 736 = .ok (.iinc 3 5, 3) := by decide +kernel
theorem dL_law_739 : decode cL_law 739 = .ok (.goto (-691), 3) := by decide +kernel
theorem dL_law_742 : decode cL_law 742 = .ok (.iconst 1, 1) := by decide +kernel
theorem dL_law_743 : decode cL_law 743 = .ok (.ireturn, 1) := by decide +kernel
end
section
def NF : Nat := 8000
def st {α β : Type} (m : β) (k : β → Option α) : Option α := k m
def wr {α β : Type} (n : Nat) (j : Int32) (m : β) (k : β → Option α) : Option α := if j < 0 ∨ n ≤ j.toNatClampNeg then none else k m
def b2 {α β : Type} (o : Option (Int32 × β)) (k : Int32 → β → Option α) : Option α := o.bind (fun q => k q.1 q.2)
theorem st_some {α β : Type} {m : β} {k : β → Option α} {r : α} (h : st m k = some r) : k m = some r := h
theorem wr_some {α β : Type} {n : Nat} {j : Int32} {m : β} {k : β → Option α} {r : α} (h : wr n j m k = some r) : vp_in j n ∧ k m = some r := by
  unfold wr at h
  split at h
  · cases h
  · exact ⟨by assumption, h⟩
theorem b2_some {α β : Type} {o : Option (Int32 × β)} {k : Int32 → β → Option α} {r : α} (h : b2 o k = some r) : ∃ v m, o = some (v, m) ∧ k v m = some r := by
  unfold b2 at h
  cases o with
  | none => cases h
  | some q => exact ⟨q.1, q.2, rfl, h⟩
/-- the first n places are v -/
def fl (n : Nat) (v : Int32) (x : Nat → Int32) : Nat → Int32 := fun j => if j < n then v else x j
theorem uI_o {M : Me} {t i o : Nat} {g : Sg} : uI M t i g t i o = g o := by rw [uI_at]
theorem uI_oth {M : Me} {t i u o : Nat} {g h : Sg} (hne : u ≠ t) (hO : M u i = h) : uI M t i g u i o = h o := by rw [uI_ne hne, hO]
theorem up_io {M : Me} {t i o : Nat} {S : Ob} : va_up M t S t i o = S i o := by rw [va_up_self]
theorem uI_gid {M : Me} {t i : Nat} {S : Ob} : uI (va_up M t S) t i (S i) = va_up M t S := by rw [uI_grp, up_id]
theorem uC_id {M : Me} {t i o : Nat} : uC M t i o (M t i o) = M := by
  unfold uC
  rw [up_id, uI_id]
theorem uC_uC {M : Me} {t i o : Nat} {x y : Nat → Int32} : uC (uC M t i o x) t i o y = uC M t i o y := by
  unfold uC
  rw [uI_uI, uI_at, up_uu]
theorem x_o {o n : Nat} (h : o < 6) : o < n + 6 := by omega
theorem x_lt {r k b N : Nat} (h : r < k) (h2 : k + b ≤ N) : r + b < N := by omega
theorem x_lt2 {r n : Nat} (h : r < n) : r + 6 < n + 6 := by omega
theorem sk6 {cy : Nat → ClassId} {ad : Nat → Nat → Nat → Nat} {t i r : Nat} {x : Nat → Int32} (h : r < 4) : ctSketch cy ad t i (r + 6) x = .inl (cy 0, 64, .inl x) := by
  show (Sum.inl (cy 0, (if r < 4 then 64 else 100), Sum.inl x) : va_E) = _
  rw [if_pos h]
theorem sk10 {cy : Nat → ClassId} {ad : Nat → Nat → Nat → Nat} {t i r : Nat} {x : Nat → Int32} (h : r < 4) : ctSketch cy ad t i (r + 10) x = .inl (cy 0, 100, .inl x) := by
  show (Sum.inl (cy 0, (if r + 4 < 4 then 64 else 100), Sum.inl x) : va_E) = _
  rw [if_neg (by omega)]
theorem sk14 {cy : Nat → ClassId} {ad : Nat → Nat → Nat → Nat} {t i r : Nat} {x : Nat → Int32} (h : r < 2) : ctSketch cy ad t i (r + 14) x = .inl (cy 0, 100, .inl x) := by
  show (Sum.inl (cy 0, (if r + 8 < 4 then 64 else 100), Sum.inl x) : va_E) = _
  rw [if_neg (by omega)]
def IsRows (cy : Nat → ClassId) (ad : Nat → Nat → Nat → Nat) (ns : List (Nat × Nat × Nat)) (t i n : Nat) : Prop := (∀ o x, ctA cy ad t i o x = ctRows cy ad n t i o x) ∧ ∀ o, o < n + 6 → (t, i, o) ∈ ns
def IsSketch (cy : Nat → ClassId) (ad : Nat → Nat → Nat → Nat) (ns : List (Nat × Nat × Nat)) (t i : Nat) : Prop := (∀ o x, ctA cy ad t i o x = ctSketch cy ad t i o x) ∧ ∀ o, o < 16 → (t, i, o) ∈ ns
def IsTrace (cy : Nat → ClassId) (ad : Nat → Nat → Nat → Nat) (ns : List (Nat × Nat × Nat)) (t i : Nat) : Prop := (∀ o x, ctA cy ad t i o x = ctTrace cy ad t i o x) ∧ ∀ o, o < 2 → (t, i, o) ∈ ns
def IsClimb (cy : Nat → ClassId) (ad : Nat → Nat → Nat → Nat) (ns : List (Nat × Nat × Nat)) (t i : Nat) : Prop := (∀ (o : Nat) (x : Nat → Int32), ctA cy ad t i o x = ctClimb x) ∧ ∀ o, o < 1 → (t, i, o) ∈ ns
def IsSeats (cy : Nat → ClassId) (ad : Nat → Nat → Nat → Nat) (ns : List (Nat × Nat × Nat)) (t i : Nat) : Prop := (∀ o x, ctA cy ad t i o x = ctSeats cy ad t i o x) ∧ ∀ o, o < 7 → (t, i, o) ∈ ns
def IsModel (cy : Nat → ClassId) (ad : Nat → Nat → Nat → Nat) (ns : List (Nat × Nat × Nat)) (t i : Nat) : Prop := (∀ o x, ctA cy ad t i o x = ctModel cy ad t i o x) ∧ ∀ o, o < 12 → (t, i, o) ∈ ns
def IsMain (cy : Nat → ClassId) (ad : Nat → Nat → Nat → Nat) (ns : List (Nat × Nat × Nat)) (t i : Nat) : Prop := (∀ o x, ctA cy ad t i o x = ctMain cy ad t i o x) ∧ ∀ o, o < 2 → (t, i, o) ∈ ns
def IsSt (cy : Nat → ClassId) (ad : Nat → Nat → Nat → Nat) (ns : List (Nat × Nat × Nat)) (t : Nat) : Prop := (∀ i o x, ctA cy ad t i o x = ctSt cy ad t i o x) ∧ ∀ i o, o < szSt i → (t, i, o) ∈ ns
def IsPl (cy : Nat → ClassId) (ad : Nat → Nat → Nat → Nat) (ns : List (Nat × Nat × Nat)) (t : Nat) : Prop := (∀ i o x, ctA cy ad t i o x = ctPl cy ad t i o x) ∧ ∀ i o, o < szPl i → (t, i, o) ∈ ns
section
variable {cy : Nat → ClassId} {ad : Nat → Nat → Nat → Nat} {ns : List (Nat × Nat × Nat)} {t : Nat}
theorem IsSt.at_2 (h : IsSt cy ad ns t) : IsSketch cy ad ns t 2 := ⟨fun o x => h.1 2 o x, fun o ho => h.2 2 o ho⟩
theorem IsSt.at_3 (h : IsSt cy ad ns t) : IsRows cy ad ns t 3 3 := ⟨fun o x => h.1 3 o x, fun o ho => h.2 3 o ho⟩
theorem IsSt.at_4 (h : IsSt cy ad ns t) : IsTrace cy ad ns t 4 := ⟨fun o x => h.1 4 o x, fun o ho => h.2 4 o ho⟩
theorem IsSt.at_5 (h : IsSt cy ad ns t) : IsClimb cy ad ns t 5 := ⟨fun o x => h.1 5 o x, fun o ho => h.2 5 o ho⟩
theorem IsPl.pl_7 (h : IsPl cy ad ns t) : IsRows cy ad ns t 7 4 := ⟨fun o x => h.1 7 o x, fun o ho => h.2 7 o ho⟩
theorem IsPl.seat (h : IsPl cy ad ns t) {i : Nat} (h1 : i < 5) : IsSeats cy ad ns t (i + 1) := by
  rcases (show i = 0 ∨ i = 1 ∨ i = 2 ∨ i = 3 ∨ i = 4 by omega) with rfl | rfl | rfl | rfl | rfl
  · exact ⟨fun o x => h.1 1 o x, fun o ho => h.2 1 o ho⟩
  · exact ⟨fun o x => h.1 2 o x, fun o ho => h.2 2 o ho⟩
  · exact ⟨fun o x => h.1 3 o x, fun o ho => h.2 3 o ho⟩
  · exact ⟨fun o x => h.1 4 o x, fun o ho => h.2 4 o ho⟩
  · exact ⟨fun o x => h.1 5 o x, fun o ho => h.2 5 o ho⟩
end
theorem ne_toInt {x v : Int32} {z : Int} (hz : v.toInt = z) (h : ¬ x = v) : x.toInt ≠ z := fun e => h (Int32.toInt_inj.mp (e.trans hz.symm))
section XB
variable {p : Program} {l : Launch} {e : Env} {R : Room} {s : State} {m : MethodId} {args : Array Value} {below : List Frame} {meth : Method} {c : Code} {H : Heap} {locs : List Loc} {cells slots : Nat} {Q : State → Prop}
variable {cc : ByteArray} {pc : Nat} {ls : Array Slot} {rest : List Value} {D : va_G} {cy : Nat → ClassId} {ad : Nat → Nat → Nat → Nat} {ns : List (Nat × Nat × Nat)} {A : Nat → Prop} {H0 : Heap} {M : Me}
theorem x_tab {dflt lo hi : Int} {offs : Array Int} {len : Nat} {x v : Int32} {off : Int} {tgt : Nat} (hxv : x = v) (hx : p.tables.exec = Jvm.exec) (hb : c.code = cc) (hdg : decode cc pc = .ok (.tableswitch dflt lo hi offs, len)) (h1 : ¬ v.toInt < lo) (h2 : ¬ hi < v.toInt) (ho : offs[(v.toInt - lo).toNat]? = some off) (ht : (pc : Int) + off = (tgt : Int))
    (k : W p l e R s m args below meth c H locs cells slots Q (F0 m tgt ls rest)) : W p l e R s m args below meth c H locs cells slots Q (F0 m pc ls (.int x :: rest)) := by
  subst hxv
  exact lv_tableIn hx hb hdg h1 h2 ho ht k
theorem x_copy {n : Nat} {own : String} {index : Nat} (hx : p.tables.exec = Jvm.exec) (hb : c.code = cc) (hml : c.maxLocals = ls.size) (hts : ∀ w ∈ tk_tb, w.before args s = true) (hown : s.vm.findClass own = some m.cls) (hK : va_K D vwCl (tyl cy) s) (hW : Wl D cy ad ns A H0 M H locs) {t i o t2 i2 o2 n0 n1 : Nat} {x y : Nat → Int32} {nn : Int32} {M2 : Me}
    (hn0 : (t, i, o) ∈ ns) (hM0 : M t i o = x) (hct0 : ctA cy ad t i o x = .inl (cy 0, n0, .inl x)) (hn1 : (t2, i2, o2) ∈ ns) (hM1 : M t2 i2 o2 = y) (hct1 : ∀ z, ctA cy ad t2 i2 o2 z = .inl (cy 0, n1, .inl z)) (hnn : nn.toNatClampNeg = n) (h3 : ¬ nn < 0) (h4 : n ≤ n0) (h5 : n ≤ n1) (hM2 : uC M t2 i2 o2 (va_cpy x y 0 0 n) = M2) (w1 : Cond.methodLink own index arraycopyName ∈ tk_tb)
    (hframes : 1 ≤ R.frames) (hlocals : (rest.map fun v => v.category).sum + (nativeFrameWords "java/lang/System" "arraycopy" 5 + 11) ≤ R.locals) (hdg : decode cc pc = .ok (.invokestatic index, 3))
    (kk : ∀ (H1 : Heap) (locs1 : List Loc), Wl D cy ad ns A H0 M2 H1 locs1 → W p l e R s m args below meth c H1 locs1 cells slots Q (F0 m (pc + 3) ls rest)) : W p l e R s m args below meth c H locs cells slots Q (F0 m pc ls (.int nn :: .int 0 :: .ref (ad t2 i2 o2) :: .int 0 :: .ref (ad t i o) :: rest)) := by
  subst hnn
  obtain ⟨q0, g0⟩ := wl_get (cy := cy) (ad := ad) (M := M) hn0
  obtain ⟨q1, g1⟩ := wl_get (cy := cy) (ad := ad) (M := M) hn1
  rw [hM0, hct0] at g0
  rw [hM1, hct1] at g1
  have z0 : (0 : Int32).toNatClampNeg = 0 := rfl
  refine va_copyi hx hb hml hown (hts _ w1) (hts _ t_685) (hts _ t_684) (hts _ t_15) hK hW.1 hW.2.1 hW.2.2 q0 q1 0 0 (ty := .int) g0 g1 rfl rfl rfl (by decide) (by decide) h3 (by rw [z0]; omega) (by rw [z0]; omega) (fun _ _ => rfl) hframes hlocals hdg (fun H1 locs1 hP hD hS => ?_)
  rw [z0] at hP hD
  have e := wl_set (x := va_cpy x y 0 0 nn.toNatClampNeg) hW.2.1 hn1 g1
  rw [hct1] at e
  rw [e, hM2] at hP hD
  exact kk H1 locs1 ⟨hP, hD, hS⟩
end XB
theorem fl_0 {v : Int32} {x : Nat → Int32} : fl 0 v x = x := by
  funext j
  simp [fl]
theorem fl_s {k : Nat} {v : Int32} {x : Nat → Int32} : upd (fl k v x) k v = fl (k + 1) v x := by
  funext j
  by_cases h : j = k
  · subst h
    simp [fl, upd]
  · by_cases h2 : j < k
    · simp [fl, upd, h, h2, show j < k + 1 by omega]
    · simp [fl, upd, h, h2, show ¬ j < k + 1 by omega]
set_option maxHeartbeats 4000000 in
set_option maxRecDepth 100000 in
theorem fill_ok (l : Launch) (D : va_G) (cy : Nat → ClassId) (ad : Nat → Nat → Nat → Nat) (ns : List (Nat × Nat × Nat)) (M : Me) {t i o n : Nat} {x : Nat → Int32} (v : Int32) (hn : (t, i, o) ∈ ns) (hM : M t i o = x) (hct : ∀ y, ctA cy ad t i o y = .inl (cy 0, n, .inl y)) (hN : n < 2147483648) :
    Cv l yJ7_fill_53178 (.code yJ7_fill_53178 cJ7_fill_53178 4 none :: tk_tb) { frames := 0, cells := 0, slots := 0, locals := 0 } D cy ad ns [.ref (ad t i o), .int v] M (uC M t i o (fl n v x)) := by
  refine Cv.of (by decide) (Nat.le_of_ble_eq_true rfl) ?_
  intro p e s m below meth c ls hE hW hl
  obtain ⟨hx, hb, hr, hml, hown, hts, hlk, hK⟩ := hE
  have hl : lv_has ls 4 [(0, .ref (ad t i o)), (1, .int v)] := hl
  have Lp : ∀ (d k : Nat), k + d = n → ∀ (H : Heap) (locs : List Loc) (ls : Array Slot), Wl D cy ad ns (Aw ad ns s.heap.size) s.heap (uC M t i o (fl k v x)) H locs → lv_has ls 4 [(0, .ref (ad t i o)), (1, .int v), (2, .int (nI k)), (3, .int (nI n))] → W p l e { frames := 0, cells := 0, slots := 0, locals := 0 } s m ([.ref (ad t i o), .int v] : List Value).toArray below meth c H locs 0 0 (QV below D cy ad ns [.ref (ad t i o), .int v] s (uC M t i o (fl n v x))) (F0 m 5 ls []) := by
    intro d
    induction d with
    | zero =>
      intro k hk H locs ls hW hl
      have hk : k = n := hk
      subst hk
      refine lv_iload_n hx hb dJ7_fill_53178_5 rfl (lv_at hl 2 rfl) ?_
      refine lv_iload_n hx hb dJ7_fill_53178_6 rfl (lv_at hl 3 rfl) ?_
      refine lv_icmp_ge (tgt := 20) hx hb dJ7_fill_53178_7 (by decide) (fun c1 => ?_) (fun c1 => absurd (nI_le (Nat.le_refl k) hN) c1)
      exact x_vret hx hb hr hlk hK hW rfl dJ7_fill_53178_20
    | succ d ih =>
      intro k hk H locs ls hW hl
      refine lv_iload_n hx hb dJ7_fill_53178_5 rfl (lv_at hl 2 rfl) ?_
      refine lv_iload_n hx hb dJ7_fill_53178_6 rfl (lv_at hl 3 rfl) ?_
      refine lv_icmp_ge (tgt := 20) hx hb dJ7_fill_53178_7 (by decide) (fun c1 => absurd c1 (nI_ge (by omega) hN)) (fun c1 => ?_)
      refine lv_aload_n hx hb dJ7_fill_53178_10 rfl (lv_at hl 0 rfl) ?_
      refine lv_iload_n hx hb dJ7_fill_53178_11 rfl (lv_at hl 2 rfl) ?_
      refine lv_iload_n hx hb dJ7_fill_53178_12 rfl (lv_at hl 1 rfl) ?_
      refine x_iast (M2 := uC M t i o (fl (k + 1) v x)) hx hb hK hW hn uC_at hct (vp_in_nI (by omega) hN) (by rw [nI_clamp (by omega), fl_s, uC_uC]) dJ7_fill_53178_13 (fun H locs hW => ?_)
      refine lv_iinc (v := nI (k + 1)) (lv' := [(2, .int (nI (k + 1))), (0, .ref (ad t i o)), (1, .int v), (3, .int (nI n))]) hx hb dJ7_fill_53178_14 hl (k := 2) rfl (by rw [← nI_1]; rfl) (by decide) rfl (fun ls hl => ?_)
      refine lv_goto (tgt := 5) hx hb dJ7_fill_53178_17 (by decide) ?_
      exact ih (k + 1) (by omega) H locs ls hW (lv_sub hl [1, 2, 0, 3] rfl)
  refine lv_iconst (v := 0) hx hb dJ7_fill_53178_0 (by decide) ?_
  refine lv_istore_n (lv' := [(2, .int 0), (0, .ref (ad t i o)), (1, .int v)]) hx hb dJ7_fill_53178_1 rfl hl (by decide) rfl (fun ls hl => ?_)
  refine lv_aload_n hx hb dJ7_fill_53178_2 rfl (lv_at hl 1 rfl) ?_
  refine x_alen (v := nI n) hx hb hK hW hn rfl (hct _) (by decide) rfl dJ7_fill_53178_3 ?_
  refine lv_istore_n (lv' := [(3, .int (nI n)), (2, .int 0), (0, .ref (ad t i o)), (1, .int v)]) hx hb dJ7_fill_53178_4 rfl hl (by decide) rfl (fun ls hl => ?_)
  exact Lp n 0 (by omega) _ _ _ (by rw [fl_0, ← hM, uC_id]; exact hW) (lv_sub hl [2, 3, 1, 0] rfl)
section XF
variable {p : Program} {l : Launch} {e : Env} {R : Room} {s : State} {m : MethodId} {args : Array Value} {below : List Frame} {meth : Method} {c : Code} {H : Heap} {locs : List Loc} {cells slots : Nat} {Q : State → Prop}
variable {cc : ByteArray} {pc : Nat} {ls : Array Slot} {rest : List Value} {D : va_G} {cy : Nat → ClassId} {ad : Nat → Nat → Nat → Nat} {ns : List (Nat × Nat × Nat)} {A : Nat → Prop} {H0 : Heap} {M : Me}
theorem x_fill {own : String} {index nL : Nat} (hx : p.tables.exec = Jvm.exec) (hb : c.code = cc) (hml : c.maxLocals = nL) (hts : ∀ w ∈ tk_tb, w.before args s = true) (hown : s.vm.findClass own = some m.cls) (hK : va_K D vwCl (tyl cy) s) (hW : Wl D cy ad ns A H0 M H locs) (hA : ∀ q, H0.size ≤ q → A q) {t i o n : Nat} {x : Nat → Int32} {v : Int32} {M2 : Me}
    (hn : (t, i, o) ∈ ns) (hM : M t i o = x) (hct : ∀ z, ctA cy ad t i o z = .inl (cy 0, n, .inl z)) (hN : n < 2147483648) (hM2 : uC M t i o (fl n v x) = M2) (w1 : Cond.methodLink own index yJ7_fill_53178 ∈ tk_tb) (hfr : 0 + 1 ≤ R.frames) (hlo : 8 + (4 + 11) + 0 ≤ R.locals) (hls : ls.size = nL) (hroom : 2 * (F0 m pc ls (.int v :: .ref (ad t i o) :: rest)).monitorRoom + (rest.map fun v => v.category).sum ≤ 8) (hdg : decode cc pc = .ok (.invokestatic index, 3)) (hf : cells ≤ R.cells ∧ slots ≤ R.slots)
    (kk : ∀ (H1 : Heap) (locs1 : List Loc), Wl D cy ad ns A H0 M2 H1 locs1 → W p l e R s m args below meth c H1 locs1 cells slots Q (F0 m (pc + 3) ls rest)) : W p l e R s m args below meth c H locs cells slots Q (F0 m pc ls (.int v :: .ref (ad t i o) :: rest)) := by
  subst hM2
  exact x_sv (n := 2) (As := [.ref (ad t i o), .int v]) (rest := rest) hx hb hml hts hown hK hW hA (fill_ok l D cy ad ns M v hn hM hct hN) w1 t_93 t_8 t_94 rfl (by decide +kernel) rfl rfl ⟨hfr, hlo⟩ hls rfl hroom hdg hf kk
end XF
end
