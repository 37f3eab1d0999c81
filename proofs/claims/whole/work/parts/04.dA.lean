theorem dJ7_fill_53178_0 : decode cJ7_fill_53178 0 = .ok (.iconst 0, 1) := by decide +kernel
theorem dJ7_fill_53178_1 : decode cJ7_fill_53178 1 = .ok (.istore_n 2, 1) := by decide +kernel
theorem dJ7_fill_53178_2 : decode cJ7_fill_53178 2 = .ok (.aload_n 0, 1) := by decide +kernel
theorem dJ7_fill_53178_3 : decode cJ7_fill_53178 3 = .ok (.arraylength, 1) := by decide +kernel
theorem dJ7_fill_53178_4 : decode cJ7_fill_53178 4 = .ok (.istore_n 3, 1) := by decide +kernel
theorem dJ7_fill_53178_5 : decode cJ7_fill_53178 5 = .ok (.iload_n 2, 1) := by decide +kernel
theorem dJ7_fill_53178_6 : decode cJ7_fill_53178 6 = .ok (.iload_n 3, 1) := by decide +kernel
theorem dJ7_fill_53178_7 : decode cJ7_fill_53178 7 = .ok (.if_icmp .ge 13, 3) := by decide +kernel
theorem dJ7_fill_53178_10 : decode cJ7_fill_53178 10 = .ok (.aload_n 0, 1) := by decide +kernel
theorem dJ7_fill_53178_11 : decode cJ7_fill_53178 11 = .ok (.iload_n 2, 1) := by decide +kernel
theorem dJ7_fill_53178_12 : decode cJ7_fill_53178 12 = .ok (.iload_n 1, 1) := by decide +kernel
theorem dJ7_fill_53178_13 : decode cJ7_fill_53178 13 = .ok (.iastore, 1) := by decide +kernel
theorem dJ7_fill_53178_14 : decode cJ7_fill_53178 14 = .ok (.iinc 2 1, 3) := by decide +kernel
theorem dJ7_fill_53178_17 : decode cJ7_fill_53178 17 = .ok (.goto (-12), 3) := by decide +kernel
theorem dJ7_fill_53178_20 : decode cJ7_fill_53178 20 = .ok (.return_, 1) := by decide +kernel
theorem dJ9_max_7cf53_0 : decode cJ9_max_7cf53 0 = .ok (.iload_n 0, 1) := by decide +kernel
theorem dJ9_max_7cf53_1 : decode cJ9_max_7cf53 1 = .ok (.iload_n 1, 1) := by decide +kernel
theorem dJ9_max_7cf53_2 : decode cJ9_max_7cf53 2 = .ok (.if_icmp .lt 7, 3) := by decide +kernel
theorem dJ9_max_7cf53_5 : decode cJ9_max_7cf53 5 = .ok (.iload_n 0, 1) := by decide +kernel
theorem dJ9_max_7cf53_6 : decode cJ9_max_7cf53 6 = .ok (.goto 4, 3) := by decide +kernel
theorem dJ9_max_7cf53_9 : decode cJ9_max_7cf53 9 = .ok (.iload_n 1, 1) := by decide +kernel
theorem dJ9_max_7cf53_10 : decode cJ9_max_7cf53 10 = .ok (.ireturn, 1) := by decide +kernel
theorem dJ9_min_7cf53_0 : decode cJ9_min_7cf53 0 = .ok (.iload_n 0, 1) := by decide +kernel
theorem dJ9_min_7cf53_1 : decode cJ9_min_7cf53 1 = .ok (.iload_n 1, 1) := by decide +kernel
theorem dJ9_min_7cf53_2 : decode cJ9_min_7cf53 2 = .ok (.if_icmp .gt 7, 3) := by decide +kernel
theorem dJ9_min_7cf53_5 : decode cJ9_min_7cf53 5 = .ok (.iload_n 0, 1) := by decide +kernel
theorem dJ9_min_7cf53_6 : decode cJ9_min_7cf53 6 = .ok (.goto 4, 3) := by decide +kernel
theorem dJ9_min_7cf53_9 : decode cJ9_min_7cf53 9 = .ok (.iload_n 1, 1) := by decide +kernel
theorem dJ9_min_7cf53_10 : decode cJ9_min_7cf53 10 = .ok (.ireturn, 1) := by decide +kernel
theorem dX0_init_0 : decode cX0_init 0 = .ok (.aload_n 0, 1) := by decide +kernel
theorem dX0_init_1 : decode cX0_init 1 = .ok (.invokespecial 3, 3) := by decide +kernel
theorem dX0_init_4 : decode cX0_init 4 = .ok (.aload_n 0, 1) := by decide +kernel
theorem dX0_init_5 : decode cX0_init 5 = .ok (.new 9, 3) := by decide +kernel
theorem dX0_init_8 : decode cX0_init 8 = .ok (.dup, 1) := by decide +kernel
theorem dX0_init_9 : decode cX0_init 9 = .ok (.iconst 3, 1) := by decide +kernel
theorem dX0_init_10 : decode cX0_init 10 = .ok (.invokespecial 11, 3) := by decide +kernel
theorem dX0_init_13 : decode cX0_init 13 = .ok (.putfield 14, 3) := by decide +kernel
theorem dX0_init_16 : decode cX0_init 16 = .ok (.aload_n 0, 1) := by decide +kernel
theorem dX0_init_17 : decode cX0_init 17 = .ok (.iconst 0, 1) := by decide +kernel
theorem dX0_init_18 : decode cX0_init 18 = .ok (.putfield 20, 3) := by decide +kernel
theorem dX0_init_21 : decode cX0_init 21 = .ok (.aload_n 0, 1) := by decide +kernel
theorem dX0_init_22 : decode cX0_init 22 = .ok (.iconst 0, 1) := by decide +kernel
theorem dX0_init_23 : decode cX0_init 23 = .ok (.putfield 24, 3) := by decide +kernel
theorem dX0_init_26 : decode cX0_init 26 = .ok (.aload_n 0, 1) := by decide +kernel
theorem dX0_init_27 : decode cX0_init 27 = .ok (.new 27, 3) := by decide +kernel
theorem dX0_init_30 : decode cX0_init 30 = .ok (.dup, 1) := by decide +kernel
theorem dX0_init_31 : decode cX0_init 31 = .ok (.iload_n 1, 1) := by decide +kernel
theorem dX0_init_32 : decode cX0_init 32 = .ok (.invokespecial 29, 3) := by decide +kernel
theorem dX0_init_35 : decode cX0_init 35 = .ok (.putfield 30, 3) := by decide +kernel
theorem dX0_init_38 : decode cX0_init 38 = .ok (.aload_n 0, 1) := by decide +kernel
theorem dX0_init_39 : decode cX0_init 39 = .ok (.iload_n 2, 1) := by decide +kernel
theorem dX0_init_40 : decode cX0_init 40 = .ok (.putfield 34, 3) := by decide +kernel
theorem dX0_init_43 : decode cX0_init 43 = .ok (.aload_n 0, 1) := by decide +kernel
theorem dX0_init_44 : decode cX0_init 44 = .ok (.iload_n 3, 1) := by decide +kernel
theorem dX0_init_45 : decode cX0_init 45 = .ok (.putfield 37, 3) := by decide +kernel
theorem dX0_init_48 : decode cX0_init 48 = .ok (.return_, 1) := by decide +kernel
theorem dX0_tellMode_0 : decode cX0_tellMode 0 = .ok (.aload_n 0, 1) := by decide +kernel
theorem dX0_tellMode_1 : decode cX0_tellMode 1 = .ok (.getfield 20, 3) := by decide +kernel
theorem dX0_tellMode_4 : decode cX0_tellMode 4 = .ok (.istore_n 2, 1) := by decide +kernel
theorem dX0_tellMode_5 : decode cX0_tellMode 5 = .ok (.aload_n 0, 1) := by decide +kernel
theorem dX0_tellMode_6 : decode cX0_tellMode 6 = .ok (.iload_n 1, 1) := by decide +kernel
theorem dX0_tellMode_7 : decode cX0_tellMode 7 = .ok (.putfield 20, 3) := by decide +kernel
theorem dX0_tellMode_10 : decode cX0_tellMode 10 = .ok (.iload_n 2, 1) := by decide +kernel
theorem dX0_tellMode_11 : decode cX0_tellMode 11 = .ok (.ireturn, 1) := by decide +kernel
theorem dX0_protectedLimit_0 : decode cX0_protectedLimit 0 = .ok (.aload_n 0, 1) := by decide +kernel
theorem dX0_protectedLimit_1 : decode cX0_protectedLimit 1 = .ok (.getfield 34, 3) := by decide +kernel
theorem dX0_protectedLimit_4 : decode cX0_protectedLimit 4 = .ok (.aload_n 0, 1) := by decide +kernel
theorem dX0_protectedLimit_5 : decode cX0_protectedLimit 5 = .ok (.getfield 37, 3) := by decide +kernel
theorem dX0_protectedLimit_8 : decode cX0_protectedLimit 8 = .ok (.isub, 1) := by decide +kernel
theorem dX0_protectedLimit_9 : decode cX0_protectedLimit 9 = .ok (.iconst 4, 1) := by decide +kernel
theorem dX0_protectedLimit_10 : decode cX0_protectedLimit 10 = .ok (.imul, 1) := by decide +kernel
theorem dX0_protectedLimit_11 : decode cX0_protectedLimit 11 = .ok (.iconst 5, 1) := by decide +kernel
theorem dX0_protectedLimit_12 : decode cX0_protectedLimit 12 = .ok (.idiv, 1) := by decide +kernel
theorem dX0_protectedLimit_13 : decode cX0_protectedLimit 13 = .ok (.ireturn, 1) := by decide +kernel
theorem dX0_keysThere_0 : decode cX0_keysThere 0 = .ok (.aload_n 0, 1) := by decide +kernel
theorem dX0_keysThere_1 : decode cX0_keysThere 1 = .ok (.getfield 14, 3) := by decide +kernel
theorem dX0_keysThere_4 : decode cX0_keysThere 4 = .ok (.getfield 40, 3) := by decide +kernel
theorem dX0_keysThere_7 : decode cX0_keysThere 7 = .ok (.iconst 0, 1) := by decide +kernel
theorem dX0_keysThere_8 : decode cX0_keysThere 8 = .ok (.iaload, 1) := by decide +kernel
theorem dX0_keysThere_9 : decode cX0_keysThere 9 = .ok (.aload_n 0, 1) := by decide +kernel
theorem dX0_keysThere_10 : decode cX0_keysThere 10 = .ok (.invokevirtual 44, 3) := by decide +kernel
theorem dX0_keysThere_13 : decode cX0_keysThere 13 = .ok (.iadd, 1) := by decide +kernel
theorem dX0_keysThere_14 : decode cX0_keysThere 14 = .ok (.ireturn, 1) := by decide +kernel
theorem dX0_keysInMain_0 : decode cX0_keysInMain 0 = .ok (.aload_n 0, 1) := by decide +kernel
theorem dX0_keysInMain_1 : decode cX0_keysInMain 1 = .ok (.getfield 14, 3) := by decide +kernel
theorem dX0_keysInMain_4 : decode cX0_keysInMain 4 = .ok (.getfield 40, 3) := by decide +kernel
theorem dX0_keysInMain_7 : decode cX0_keysInMain 7 = .ok (.iconst 1, 1) := by decide +kernel
theorem dX0_keysInMain_8 : decode cX0_keysInMain 8 = .ok (.iaload, 1) := by decide +kernel
theorem dX0_keysInMain_9 : decode cX0_keysInMain 9 = .ok (.aload_n 0, 1) := by decide +kernel
theorem dX0_keysInMain_10 : decode cX0_keysInMain 10 = .ok (.getfield 14, 3) := by decide +kernel
theorem dX0_keysInMain_13 : decode cX0_keysInMain 13 = .ok (.getfield 40, 3) := by decide +kernel
theorem dX0_keysInMain_16 : decode cX0_keysInMain 16 = .ok (.iconst 2, 1) := by decide +kernel
theorem dX0_keysInMain_17 : decode cX0_keysInMain 17 = .ok (.iaload, 1) := by decide +kernel
theorem dX0_keysInMain_18 : decode cX0_keysInMain 18 = .ok (.iadd, 1) := by decide +kernel
theorem dX0_keysInMain_19 : decode cX0_keysInMain 19 = .ok (.ireturn, 1) := by decide +kernel
theorem dX0_unitsInMain_0 : decode cX0_unitsInMain 0 = .ok (.aload_n 0, 1) := by decide +kernel
theorem dX0_unitsInMain_1 : decode cX0_unitsInMain 1 = .ok (.getfield 14, 3) := by decide +kernel
theorem dX0_unitsInMain_4 : decode cX0_unitsInMain 4 = .ok (.getfield 48, 3) := by decide +kernel
theorem dX0_unitsInMain_7 : decode cX0_unitsInMain 7 = .ok (.iconst 1, 1) := by decide +kernel
theorem dX0_unitsInMain_8 : decode cX0_unitsInMain 8 = .ok (.iaload, 1) := by decide +kernel
theorem dX0_unitsInMain_9 : decode cX0_unitsInMain 9 = .ok (.aload_n 0, 1) := by decide +kernel
theorem dX0_unitsInMain_10 : decode cX0_unitsInMain 10 = .ok (.getfield 14, 3) := by decide +kernel
theorem dX0_unitsInMain_13 : decode cX0_unitsInMain 13 = .ok (.getfield 48, 3) := by decide +kernel
theorem dX0_unitsInMain_16 : decode cX0_unitsInMain 16 = .ok (.iconst 2, 1) := by decide +kernel
theorem dX0_unitsInMain_17 : decode cX0_unitsInMain 17 = .ok (.iaload, 1) := by decide +kernel
theorem dX0_unitsInMain_18 : decode cX0_unitsInMain 18 = .ok (.iadd, 1) := by decide +kernel
theorem dX0_unitsInMain_19 : decode cX0_unitsInMain 19 = .ok (.ireturn, 1) := by decide +kernel
theorem dX0_touch_0 : decode cX0_touch 0 = .ok (.aload_n 0, 1) := by decide +kernel
theorem dX0_touch_1 : decode cX0_touch 1 = .ok (.getfield 14, 3) := by decide +kernel
theorem dX0_touch_4 : decode cX0_touch 4 = .ok (.getfield 51, 3) := by decide +kernel
theorem dX0_touch_7 : decode cX0_touch 7 = .ok (.iload_n 1, 1) := by decide +kernel
theorem dX0_touch_8 : decode cX0_touch 8 = .ok (.iaload, 1) := by decide +kernel
theorem dX0_touch_9 : decode cX0_touch 9 = .ok (.istore_n 2, 1) := by decide +kernel
theorem dX0_touch_10 : decode cX0_touch 10 = .ok (.iload_n 2, 1) := by decide +kernel
theorem dX0_touch_11 : decode cX0_touch 11 = .ok (.iconst 1, 1) := by decide +kernel
theorem dX0_touch_12 : decode cX0_touch 12 = .ok (.if_icmp .ne 19, 3) := by decide +kernel
theorem dX0_touch_15 : decode cX0_touch 15 = .ok (.aload_n 0, 1) := by decide +kernel
theorem dX0_touch_16 : decode cX0_touch 16 = .ok (.getfield 14, 3) := by decide +kernel
theorem dX0_touch_19 : decode cX0_touch 19 = .ok (.iconst 2, 1) := by decide +kernel
theorem dX0_touch_20 : decode cX0_touch 20 = .ok (.iload_n 1, 1) := by decide +kernel
theorem dX0_touch_21 : decode cX0_touch 21 = .ok (.invokevirtual 54, 3) := by decide +kernel
theorem dX0_touch_24 : decode cX0_touch 24 = .ok (.aload_n 0, 1) := by decide +kernel
theorem dX0_touch_25 : decode cX0_touch 25 = .ok (.invokevirtual 58, 3) := by decide +kernel
theorem dX0_touch_28 : decode cX0_touch 28 = .ok (.goto 17, 3) := by decide +kernel
theorem dX0_touch_31 : decode cX0_touch 31 = .ok (.iload_n 2, 1) := by decide +kernel
theorem dX0_touch_32 : decode cX0_touch 32 = .ok (.iconst (-1), 1) := by decide +kernel
theorem dX0_touch_33 : decode cX0_touch 33 = .ok (.if_icmp .eq 12, 3) := by decide +kernel
theorem dX0_touch_36 : decode cX0_touch 36 = .ok (.aload_n 0, 1) := by decide +kernel
theorem dX0_touch_37 : decode cX0_touch 37 = .ok (.getfield 14, 3) := by decide +kernel
theorem dX0_touch_40 : decode cX0_touch 40 = .ok (.iload_n 2, 1) := by decide +kernel
theorem dX0_touch_41 : decode cX0_touch 41 = .ok (.iload_n 1, 1) := by decide +kernel
theorem dX0_touch_42 : decode cX0_touch 42 = .ok (.invokevirtual 54, 3) := by decide +kernel
theorem dX0_touch_45 : decode cX0_touch 45 = .ok (.return_, 1) := by decide +kernel
theorem dX0_settle_0 : decode cX0_settle 0 = .ok (.aload_n 0, 1) := by decide +kernel
theorem dX0_settle_1 : decode cX0_settle 1 = .ok (.invokevirtual 61, 3) := by decide +kernel
theorem dX0_settle_4 : decode cX0_settle 4 = .ok (.istore_n 1, 1) := by decide +kernel
theorem dX0_settle_5 : decode cX0_settle 5 = .ok (.aload_n 0, 1) := by decide +kernel
theorem dX0_settle_6 : decode cX0_settle 6 = .ok (.getfield 14, 3) := by decide +kernel
theorem dX0_settle_9 : decode cX0_settle 9 = .ok (.getfield 40, 3) := by decide +kernel
theorem dX0_settle_12 : decode cX0_settle 12 = .ok (.iconst 2, 1) := by decide +kernel
theorem dX0_settle_13 : decode cX0_settle 13 = .ok (.iaload, 1) := by decide +kernel
theorem dX0_settle_14 : decode cX0_settle 14 = .ok (.istore_n 2, 1) := by decide +kernel
theorem dX0_settle_15 : decode cX0_settle 15 = .ok (.iload_n 2, 1) := by decide +kernel
theorem dX0_settle_16 : decode cX0_settle 16 = .ok (.ifCond .le 42, 3) := by decide +kernel
theorem dX0_settle_19 : decode cX0_settle 19 = .ok (.aload_n 0, 1) := by decide +kernel
theorem dX0_settle_20 : decode cX0_settle 20 = .ok (.getfield 14, 3) := by decide +kernel
theorem dX0_settle_23 : decode cX0_settle 23 = .ok (.getfield 48, 3) := by decide +kernel
theorem dX0_settle_26 : decode cX0_settle 26 = .ok (.iconst 2, 1) := by decide +kernel
theorem dX0_settle_27 : decode cX0_settle 27 = .ok (.iaload, 1) := by decide +kernel
theorem dX0_settle_28 : decode cX0_settle 28 = .ok (.iload_n 1, 1) := by decide +kernel
theorem dX0_settle_29 : decode cX0_settle 29 = .ok (.if_icmp .gt 4, 3) := by decide +kernel
theorem dX0_settle_32 : decode cX0_settle 32 = .ok (.return_, 1) := by decide +kernel
theorem dX0_settle_33 : decode cX0_settle 33 = .ok (.aload_n 0, 1) := by decide +kernel
theorem dX0_settle_34 : decode cX0_settle 34 = .ok (.getfield 14, 3) := by decide +kernel
theorem dX0_settle_37 : decode cX0_settle 37 = .ok (.iconst 1, 1) := by decide +kernel
theorem dX0_settle_38 : decode cX0_settle 38 = .ok (.aload_n 0, 1) := by decide +kernel
theorem dX0_settle_39 : decode cX0_settle 39 = .ok (.getfield 14, 3) := by decide +kernel
theorem dX0_settle_42 : decode cX0_settle 42 = .ok (.getfield 64, 3) := by decide +kernel
theorem dX0_settle_45 : decode cX0_settle 45 = .ok (.iconst 2, 1) := by decide +kernel
theorem dX0_settle_46 : decode cX0_settle 46 = .ok (.aaload, 1) := by decide +kernel
theorem dX0_settle_47 : decode cX0_settle 47 = .ok (.iconst 0, 1) := by decide +kernel
theorem dX0_settle_48 : decode cX0_settle 48 = .ok (.iaload, 1) := by decide +kernel
theorem dX0_settle_49 : decode cX0_settle 49 = .ok (.invokevirtual 54, 3) := by decide +kernel
theorem dX0_settle_52 : decode cX0_settle 52 = .ok (.iinc 2 (-1), 3) := by decide +kernel
theorem dX0_settle_55 : decode cX0_settle 55 = .ok (.goto (-40), 3) := by decide +kernel
theorem dX0_settle_58 : decode cX0_settle 58 = .ok (.return_, 1) := by decide +kernel
theorem dX0_bringIn_0 : decode cX0_bringIn 0 = .ok (.aload_n 0, 1) := by decide +kernel
theorem dX0_bringIn_1 : decode cX0_bringIn 1 = .ok (.getfield 14, 3) := by decide +kernel
theorem dX0_bringIn_4 : decode cX0_bringIn 4 = .ok (.getfield 68, 3) := by decide +kernel
theorem dX0_bringIn_7 : decode cX0_bringIn 7 = .ok (.iload_n 1, 1) := by decide +kernel
theorem dX0_bringIn_8 : decode cX0_bringIn 8 = .ok (.iaload, 1) := by decide +kernel
theorem dX0_bringIn_9 : decode cX0_bringIn 9 = .ok (.istore_n 2, 1) := by decide +kernel
theorem dX0_bringIn_10 : decode cX0_bringIn 10 = .ok (.iload_n 2, 1) := by decide +kernel
theorem dX0_bringIn_11 : decode cX0_bringIn 11 = .ok (.aload_n 0, 1) := by decide +kernel
theorem dX0_bringIn_12 : decode cX0_bringIn 12 = .ok (.getfield 34, 3) := by decide +kernel
theorem dX0_bringIn_15 : decode cX0_bringIn 15 = .ok (.if_icmp .le 4, 3) := by decide +kernel
theorem dX0_bringIn_18 : decode cX0_bringIn 18 = .ok (.return_, 1) := by decide +kernel
theorem dX0_bringIn_19 : decode cX0_bringIn 19 = .ok (.iload_n 2, 1) := by decide +kernel
theorem dX0_bringIn_20 : decode cX0_bringIn 20 = .ok (.aload_n 0, 1) := by decide +kernel
theorem dX0_bringIn_21 : decode cX0_bringIn 21 = .ok (.getfield 37, 3) := by decide +kernel
theorem dX0_bringIn_24 : decode cX0_bringIn 24 = .ok (.if_icmp .le 11, 3) := by decide +kernel
theorem dX0_bringIn_27 : decode cX0_bringIn 27 = .ok (.aload_n 0, 1) := by decide +kernel
theorem dX0_bringIn_28 : decode cX0_bringIn 28 = .ok (.iload_n 1, 1) := by decide +kernel
theorem dX0_bringIn_29 : decode cX0_bringIn 29 = .ok (.invokevirtual 71, 3) := by decide +kernel
theorem dX0_bringIn_32 : decode cX0_bringIn 32 = .ok (.goto 12, 3) := by decide +kernel
theorem dX0_bringIn_35 : decode cX0_bringIn 35 = .ok (.aload_n 0, 1) := by decide +kernel
theorem dX0_bringIn_36 : decode cX0_bringIn 36 = .ok (.getfield 14, 3) := by decide +kernel
theorem dX0_bringIn_39 : decode cX0_bringIn 39 = .ok (.iconst 0, 1) := by decide +kernel
theorem dX0_bringIn_40 : decode cX0_bringIn 40 = .ok (.iload_n 1, 1) := by decide +kernel
theorem dX0_bringIn_41 : decode cX0_bringIn 41 = .ok (.invokevirtual 74, 3) := by decide +kernel
theorem dX0_bringIn_44 : decode cX0_bringIn 44 = .ok (.return_, 1) := by decide +kernel
theorem dX0_overflow_0 : decode cX0_overflow 0 = .ok (.aload_n 0, 1) := by decide +kernel
theorem dX0_overflow_1 : decode cX0_overflow 1 = .ok (.getfield 14, 3) := by decide +kernel
theorem dX0_overflow_4 : decode cX0_overflow 4 = .ok (.getfield 40, 3) := by decide +kernel
theorem dX0_overflow_7 : decode cX0_overflow 7 = .ok (.iconst 0, 1) := by decide +kernel
theorem dX0_overflow_8 : decode cX0_overflow 8 = .ok (.iaload, 1) := by decide +kernel
theorem dX0_overflow_9 : decode cX0_overflow 9 = .ok (.istore_n 1, 1) := by decide +kernel
theorem dX0_overflow_10 : decode cX0_overflow 10 = .ok (.iload_n 1, 1) := by decide +kernel
theorem dX0_overflow_11 : decode cX0_overflow 11 = .ok (.ifCond .le 51, 3) := by decide +kernel
theorem dX0_overflow_14 : decode cX0_overflow 14 = .ok (.aload_n 0, 1) := by decide +kernel
theorem dX0_overflow_15 : decode cX0_overflow 15 = .ok (.getfield 14, 3) := by decide +kernel
theorem dX0_overflow_18 : decode cX0_overflow 18 = .ok (.getfield 48, 3) := by decide +kernel
theorem dX0_overflow_21 : decode cX0_overflow 21 = .ok (.iconst 0, 1) := by decide +kernel
theorem dX0_overflow_22 : decode cX0_overflow 22 = .ok (.iaload, 1) := by decide +kernel
theorem dX0_overflow_23 : decode cX0_overflow 23 = .ok (.aload_n 0, 1) := by decide +kernel
theorem dX0_overflow_24 : decode cX0_overflow 24 = .ok (.getfield 37, 3) := by decide +kernel
theorem dX0_overflow_27 : decode cX0_overflow 27 = .ok (.if_icmp .gt 4, 3) := by decide +kernel
theorem dX0_overflow_30 : decode cX0_overflow 30 = .ok (.return_, 1) := by decide +kernel
theorem dX0_overflow_31 : decode cX0_overflow 31 = .ok (.aload_n 0, 1) := by decide +kernel
theorem dX0_overflow_32 : decode cX0_overflow 32 = .ok (.getfield 14, 3) := by decide +kernel
theorem dX0_overflow_35 : decode cX0_overflow 35 = .ok (.getfield 64, 3) := by decide +kernel
theorem dX0_overflow_38 : decode cX0_overflow 38 = .ok (.iconst 0, 1) := by decide +kernel
theorem dX0_overflow_39 : decode cX0_overflow 39 = .ok (.aaload, 1) := by decide +kernel
theorem dX0_overflow_40 : decode cX0_overflow 40 = .ok (.iconst 0, 1) := by decide +kernel
theorem dX0_overflow_41 : decode cX0_overflow 41 = .ok (.iaload, 1) := by decide +kernel
theorem dX0_overflow_42 : decode cX0_overflow 42 = .ok (.istore_n 2, 1) := by decide +kernel
theorem dX0_overflow_43 : decode cX0_overflow 43 = .ok (.aload_n 0, 1) := by decide +kernel
theorem dX0_overflow_44 : decode cX0_overflow 44 = .ok (.getfield 14, 3) := by decide +kernel
theorem dX0_overflow_47 : decode cX0_overflow 47 = .ok (.iload_n 2, 1) := by decide +kernel
theorem dX0_overflow_48 : decode cX0_overflow 48 = .ok (.invokevirtual 77, 3) := by decide +kernel
theorem dX0_overflow_51 : decode cX0_overflow 51 = .ok (.aload_n 0, 1) := by decide +kernel
theorem dX0_overflow_52 : decode cX0_overflow 52 = .ok (.iload_n 2, 1) := by decide +kernel
theorem dX0_overflow_53 : decode cX0_overflow 53 = .ok (.invokevirtual 71, 3) := by decide +kernel
theorem dX0_overflow_56 : decode cX0_overflow 56 = .ok (.iinc 1 (-1), 3) := by decide +kernel
theorem dX0_overflow_59 : decode cX0_overflow 59 = .ok (.goto (-49), 3) := by decide +kernel
theorem dX0_overflow_62 : decode cX0_overflow 62 = .ok (.return_, 1) := by decide +kernel
theorem dX0_judge_0 : decode cX0_judge 0 = .ok (.aload_n 0, 1) := by decide +kernel
theorem dX0_judge_1 : decode cX0_judge 1 = .ok (.getfield 14, 3) := by decide +kernel
theorem dX0_judge_4 : decode cX0_judge 4 = .ok (.getfield 68, 3) := by decide +kernel
theorem dX0_judge_7 : decode cX0_judge 7 = .ok (.iload_n 1, 1) := by decide +kernel
theorem dX0_judge_8 : decode cX0_judge 8 = .ok (.iaload, 1) := by decide +kernel
theorem dX0_judge_9 : decode cX0_judge 9 = .ok (.aload_n 0, 1) := by decide +kernel
theorem dX0_judge_10 : decode cX0_judge 10 = .ok (.getfield 34, 3) := by decide +kernel
theorem dX0_judge_13 : decode cX0_judge 13 = .ok (.aload_n 0, 1) := by decide +kernel
theorem dX0_judge_14 : decode cX0_judge 14 = .ok (.getfield 37, 3) := by decide +kernel
theorem dX0_judge_17 : decode cX0_judge 17 = .ok (.isub, 1) := by decide +kernel
theorem dX0_judge_18 : decode cX0_judge 18 = .ok (.if_icmp .le 14, 3) := by decide +kernel
theorem dX0_judge_21 : decode cX0_judge 21 = .ok (.aload_n 0, 1) := by decide +kernel
theorem dX0_judge_22 : decode cX0_judge 22 = .ok (.dup, 1) := by decide +kernel
theorem dX0_judge_23 : decode cX0_judge 23 = .ok (.getfield 24, 3) := by decide +kernel
theorem dX0_judge_26 : decode cX0_judge 26 = .ok (.iconst 1, 1) := by decide +kernel
theorem dX0_judge_27 : decode cX0_judge 27 = .ok (.iadd, 1) := by decide +kernel
theorem dX0_judge_28 : decode cX0_judge 28 = .ok (.putfield 24, 3) := by decide +kernel
theorem dX0_judge_31 : decode cX0_judge 31 = .ok (.return_, 1) := by decide +kernel
theorem dX0_judge_32 : decode cX0_judge 32 = .ok (.aload_n 0, 1) := by decide +kernel
theorem dX0_judge_33 : decode cX0_judge 33 = .ok (.iload_n 1, 1) := by decide +kernel
theorem dX0_judge_34 : decode cX0_judge 34 = .ok (.invokevirtual 80, 3) := by decide +kernel
theorem dX0_judge_37 : decode cX0_judge 37 = .ok (.istore_n 2, 1) := by decide +kernel
theorem dX0_judge_38 : decode cX0_judge 38 = .ok (.aload_n 0, 1) := by decide +kernel
theorem dX0_judge_39 : decode cX0_judge 39 = .ok (.iload_n 1, 1) := by decide +kernel
theorem dX0_judge_40 : decode cX0_judge 40 = .ok (.iload_n 2, 1) := by decide +kernel
theorem dX0_judge_41 : decode cX0_judge 41 = .ok (.invokevirtual 84, 3) := by decide +kernel
theorem dX0_judge_44 : decode cX0_judge 44 = .ok (.istore_n 3, 1) := by decide +kernel
theorem dX0_judge_45 : decode cX0_judge 45 = .ok (.iconst 0, 1) := by decide +kernel
theorem dX0_judge_46 : decode cX0_judge 46 = .ok (.istore 4, 2) := by decide +kernel
theorem dX0_judge_48 : decode cX0_judge 48 = .ok (.iload 4, 2) := by decide +kernel
theorem dX0_judge_50 : decode cX0_judge 50 = .ok (.iload_n 3, 1) := by decide +kernel
theorem dX0_judge_51 : decode cX0_judge 51 = .ok (.if_icmp .ge 31, 3) := by decide +kernel
theorem dX0_judge_54 : decode cX0_judge 54 = .ok (.aload_n 0, 1) := by decide +kernel
theorem dX0_judge_55 : decode cX0_judge 55 = .ok (.getfield 14, 3) := by decide +kernel
theorem dX0_judge_58 : decode cX0_judge 58 = .ok (.aload_n 0, 1) := by decide +kernel
theorem dX0_judge_59 : decode cX0_judge 59 = .ok (.iconst 0, 1) := by decide +kernel
theorem dX0_judge_60 : decode cX0_judge 60 = .ok (.invokevirtual 88, 3) := by decide +kernel
theorem dX0_judge_63 : decode cX0_judge 63 = .ok (.invokevirtual 77, 3) := by decide +kernel
theorem dX0_judge_66 : decode cX0_judge 66 = .ok (.aload_n 0, 1) := by decide +kernel
theorem dX0_judge_67 : decode cX0_judge 67 = .ok (.dup, 1) := by decide +kernel
theorem dX0_judge_68 : decode cX0_judge 68 = .ok (.getfield 24, 3) := by decide +kernel
theorem dX0_judge_71 : decode cX0_judge 71 = .ok (.iconst 1, 1) := by decide +kernel
theorem dX0_judge_72 : decode cX0_judge 72 = .ok (.iadd, 1) := by decide +kernel
theorem dX0_judge_73 : decode cX0_judge 73 = .ok (.putfield 24, 3) := by decide +kernel
theorem dX0_judge_76 : decode cX0_judge 76 = .ok (.iinc 4 1, 3) := by decide +kernel
theorem dX0_judge_79 : decode cX0_judge 79 = .ok (.goto (-31), 3) := by decide +kernel
theorem dX0_judge_82 : decode cX0_judge 82 = .ok (.iload_n 3, 1) := by decide +kernel
theorem dX0_judge_83 : decode cX0_judge 83 = .ok (.iload_n 2, 1) := by decide +kernel
theorem dX0_judge_84 : decode cX0_judge 84 = .ok (.if_icmp .ne 13, 3) := by decide +kernel
theorem dX0_judge_87 : decode cX0_judge 87 = .ok (.aload_n 0, 1) := by decide +kernel
theorem dX0_judge_88 : decode cX0_judge 88 = .ok (.getfield 14, 3) := by decide +kernel
theorem dX0_judge_91 : decode cX0_judge 91 = .ok (.iconst 1, 1) := by decide +kernel
theorem dX0_judge_92 : decode cX0_judge 92 = .ok (.iload_n 1, 1) := by decide +kernel
theorem dX0_judge_93 : decode cX0_judge 93 = .ok (.invokevirtual 74, 3) := by decide +kernel
theorem dX0_judge_96 : decode cX0_judge 96 = .ok (.return_, 1) := by decide +kernel
theorem dX0_judge_97 : decode cX0_judge 97 = .ok (.aload_n 0, 1) := by decide +kernel
theorem dX0_judge_98 : decode cX0_judge 98 = .ok (.dup, 1) := by decide +kernel
theorem dX0_judge_99 : decode cX0_judge 99 = .ok (.getfield 24, 3) := by decide +kernel
theorem dX0_judge_102 : decode cX0_judge 102 = .ok (.iconst 1, 1) := by decide +kernel
theorem dX0_judge_103 : decode cX0_judge 103 = .ok (.iadd, 1) := by decide +kernel
theorem dX0_judge_104 : decode cX0_judge 104 = .ok (.putfield 24, 3) := by decide +kernel
theorem dX0_judge_107 : decode cX0_judge 107 = .ok (.aload_n 0, 1) := by decide +kernel
theorem dX0_judge_108 : decode cX0_judge 108 = .ok (.getfield 20, 3) := by decide +kernel
theorem dX0_judge_111 : decode cX0_judge 111 = .ok (.iconst 1, 1) := by decide +kernel
theorem dX0_judge_112 : decode cX0_judge 112 = .ok (.if_icmp .ne 8, 3) := by decide +kernel
theorem dX0_judge_115 : decode cX0_judge 115 = .ok (.aload_n 0, 1) := by decide +kernel
theorem dX0_judge_116 : decode cX0_judge 116 = .ok (.iload_n 2, 1) := by decide +kernel
theorem dX0_judge_117 : decode cX0_judge 117 = .ok (.invokevirtual 91, 3) := by decide +kernel
theorem dX0_judge_120 : decode cX0_judge 120 = .ok (.return_, 1) := by decide +kernel
theorem dX0_victimsNeeded_0 : decode cX0_victimsNeeded 0 = .ok (.aload_n 0, 1) := by decide +kernel
theorem dX0_victimsNeeded_1 : decode cX0_victimsNeeded 1 = .ok (.invokevirtual 94, 3) := by decide +kernel
theorem dX0_victimsNeeded_4 : decode cX0_victimsNeeded 4 = .ok (.aload_n 0, 1) := by decide +kernel
theorem dX0_victimsNeeded_5 : decode cX0_victimsNeeded 5 = .ok (.getfield 14, 3) := by decide +kernel
theorem dX0_victimsNeeded_8 : decode cX0_victimsNeeded 8 = .ok (.getfield 68, 3) := by decide +kernel
theorem dX0_victimsNeeded_11 : decode cX0_victimsNeeded 11 = .ok (.iload_n 1, 1) := by decide +kernel
theorem dX0_victimsNeeded_12 : decode cX0_victimsNeeded 12 = .ok (.iaload, 1) := by decide +kernel
theorem dX0_victimsNeeded_13 : decode cX0_victimsNeeded 13 = .ok (.iadd, 1) := by decide +kernel
theorem dX0_victimsNeeded_14 : decode cX0_victimsNeeded 14 = .ok (.aload_n 0, 1) := by decide +kernel
theorem dX0_victimsNeeded_15 : decode cX0_victimsNeeded 15 = .ok (.getfield 34, 3) := by decide +kernel
theorem dX0_victimsNeeded_18 : decode cX0_victimsNeeded 18 = .ok (.aload_n 0, 1) := by decide +kernel
theorem dX0_victimsNeeded_19 : decode cX0_victimsNeeded 19 = .ok (.getfield 37, 3) := by decide +kernel
theorem dX0_victimsNeeded_22 : decode cX0_victimsNeeded 22 = .ok (.isub, 1) := by decide +kernel
theorem dX0_victimsNeeded_23 : decode cX0_victimsNeeded 23 = .ok (.isub, 1) := by decide +kernel
theorem dX0_victimsNeeded_24 : decode cX0_victimsNeeded 24 = .ok (.istore_n 2, 1) := by decide +kernel
theorem dX0_victimsNeeded_25 : decode cX0_victimsNeeded 25 = .ok (.aload_n 0, 1) := by decide +kernel
theorem dX0_victimsNeeded_26 : decode cX0_victimsNeeded 26 = .ok (.invokevirtual 44, 3) := by decide +kernel
theorem dX0_victimsNeeded_29 : decode cX0_victimsNeeded 29 = .ok (.istore_n 3, 1) := by decide +kernel
theorem dX0_victimsNeeded_30 : decode cX0_victimsNeeded 30 = .ok (.iconst 0, 1) := by decide +kernel
theorem dX0_victimsNeeded_31 : decode cX0_victimsNeeded 31 = .ok (.istore 4, 2) := by decide +kernel
theorem dX0_victimsNeeded_33 : decode cX0_victimsNeeded 33 = .ok (.iload 4, 2) := by decide +kernel
theorem dX0_victimsNeeded_35 : decode cX0_victimsNeeded 35 = .ok (.iload_n 3, 1) := by decide +kernel
theorem dX0_victimsNeeded_36 : decode cX0_victimsNeeded 36 = .ok (.if_icmp .ge 30, 3) := by decide +kernel
theorem dX0_victimsNeeded_39 : decode cX0_victimsNeeded 39 = .ok (.iload_n 2, 1) := by decide +kernel
theorem dX0_victimsNeeded_40 : decode cX0_victimsNeeded 40 = .ok (.ifCond .le 26, 3) := by decide +kernel
theorem dX0_victimsNeeded_43 : decode cX0_victimsNeeded 43 = .ok (.iload_n 2, 1) := by decide +kernel
theorem dX0_victimsNeeded_44 : decode cX0_victimsNeeded 44 = .ok (.aload_n 0, 1) := by decide +kernel
theorem dX0_victimsNeeded_45 : decode cX0_victimsNeeded 45 = .ok (.getfield 14, 3) := by decide +kernel
theorem dX0_victimsNeeded_48 : decode cX0_victimsNeeded 48 = .ok (.getfield 68, 3) := by decide +kernel
theorem dX0_victimsNeeded_51 : decode cX0_victimsNeeded 51 = .ok (.aload_n 0, 1) := by decide +kernel
theorem dX0_victimsNeeded_52 : decode cX0_victimsNeeded 52 = .ok (.iload 4, 2) := by decide +kernel
theorem dX0_victimsNeeded_54 : decode cX0_victimsNeeded 54 = .ok (.invokevirtual 88, 3) := by decide +kernel
theorem dX0_victimsNeeded_57 : decode cX0_victimsNeeded 57 = .ok (.iaload, 1) := by decide +kernel
theorem dX0_victimsNeeded_58 : decode cX0_victimsNeeded 58 = .ok (.isub, 1) := by decide +kernel
theorem dX0_victimsNeeded_59 : decode cX0_victimsNeeded 59 = .ok (.istore_n 2, 1) := by decide +kernel
theorem dX0_victimsNeeded_60 : decode cX0_victimsNeeded 60 = .ok (.iinc 4 1, 3) := by decide +kernel
theorem dX0_victimsNeeded_63 : decode cX0_victimsNeeded 63 = .ok (.goto (-30), 3) := by decide +kernel
theorem dX0_victimsNeeded_66 : decode cX0_victimsNeeded 66 = .ok (.iload 4, 2) := by decide +kernel
theorem dX0_victimsNeeded_68 : decode cX0_victimsNeeded 68 = .ok (.ireturn, 1) := by decide +kernel
theorem dX0_victimsBeaten_0 : decode cX0_victimsBeaten 0 = .ok (.aload_n 0, 1) := by decide +kernel
theorem dX0_victimsBeaten_1 : decode cX0_victimsBeaten 1 = .ok (.getfield 20, 3) := by decide +kernel
theorem dX0_victimsBeaten_4 : decode cX0_victimsBeaten 4 = .ok (.iconst 2, 1) := by decide +kernel
theorem dX0_victimsBeaten_5 : decode cX0_victimsBeaten 5 = .ok (.if_icmp .ne 5, 3) := by decide +kernel
theorem dX0_victimsBeaten_8 : decode cX0_victimsBeaten 8 = .ok (.iload_n 2, 1) := by decide +kernel
theorem dX0_victimsBeaten_9 : decode cX0_victimsBeaten 9 = .ok (.ireturn, 1) := by decide +kernel
theorem dX0_victimsBeaten_10 : decode cX0_victimsBeaten 10 = .ok (.aload_n 0, 1) := by decide +kernel
theorem dX0_victimsBeaten_11 : decode cX0_victimsBeaten 11 = .ok (.getfield 30, 3) := by decide +kernel
theorem dX0_victimsBeaten_14 : decode cX0_victimsBeaten 14 = .ok (.iload_n 1, 1) := by decide +kernel
theorem dX0_victimsBeaten_15 : decode cX0_victimsBeaten 15 = .ok (.invokevirtual 97, 3) := by decide +kernel
theorem dX0_victimsBeaten_18 : decode cX0_victimsBeaten 18 = .ok (.istore_n 3, 1) := by decide +kernel
theorem dX0_victimsBeaten_19 : decode cX0_victimsBeaten 19 = .ok (.iconst 0, 1) := by decide +kernel
theorem dX0_victimsBeaten_20 : decode cX0_victimsBeaten 20 = .ok (.istore 4, 2) := by decide +kernel
theorem dX0_victimsBeaten_22 : decode cX0_victimsBeaten 22 = .ok (.iconst 0, 1) := by decide +kernel
theorem dX0_victimsBeaten_23 : decode cX0_victimsBeaten 23 = .ok (.istore 5, 2) := by decide +kernel
theorem dX0_victimsBeaten_25 : decode cX0_victimsBeaten 25 = .ok (.iload 5, 2) := by decide +kernel
theorem dX0_victimsBeaten_27 : decode cX0_victimsBeaten 27 = .ok (.iload_n 2, 1) := by decide +kernel
theorem dX0_victimsBeaten_28 : decode cX0_victimsBeaten 28 = .ok (.if_icmp .ge 47, 3) := by decide +kernel
theorem dX0_victimsBeaten_31 : decode cX0_victimsBeaten 31 = .ok (.aload_n 0, 1) := by decide +kernel
theorem dX0_victimsBeaten_32 : decode cX0_victimsBeaten 32 = .ok (.getfield 30, 3) := by decide +kernel
theorem dX0_victimsBeaten_35 : decode cX0_victimsBeaten 35 = .ok (.aload_n 0, 1) := by decide +kernel
theorem dX0_victimsBeaten_36 : decode cX0_victimsBeaten 36 = .ok (.iload 5, 2) := by decide +kernel
theorem dX0_victimsBeaten_38 : decode cX0_victimsBeaten 38 = .ok (.invokevirtual 88, 3) := by decide +kernel
theorem dX0_victimsBeaten_41 : decode cX0_victimsBeaten 41 = .ok (.invokevirtual 97, 3) := by decide +kernel
theorem dX0_victimsBeaten_44 : decode cX0_victimsBeaten 44 = .ok (.istore 6, 2) := by decide +kernel
theorem dX0_victimsBeaten_46 : decode cX0_victimsBeaten 46 = .ok (.iload 4, 2) := by decide +kernel
theorem dX0_victimsBeaten_48 : decode cX0_victimsBeaten 48 = .ok (.iload 6, 2) := by decide +kernel
theorem dX0_victimsBeaten_50 : decode cX0_victimsBeaten 50 = .ok (.iadd, 1) := by decide +kernel
theorem dX0_victimsBeaten_51 : decode cX0_victimsBeaten 51 = .ok (.istore 4, 2) := by decide +kernel
theorem dX0_victimsBeaten_53 : decode cX0_victimsBeaten 53 = .ok (.aload_n 0, 1) := by decide +kernel
theorem dX0_victimsBeaten_54 : decode cX0_victimsBeaten 54 = .ok (.getfield 20, 3) := by decide +kernel
theorem dX0_victimsBeaten_57 : decode cX0_victimsBeaten 57 = .ok (.ifCond .ne 12, 3) := by decide +kernel
theorem dX0_victimsBeaten_60 : decode cX0_victimsBeaten 60 = .ok (.iload_n 3, 1) := by decide +kernel
theorem dX0_victimsBeaten_61 : decode cX0_victimsBeaten 61 = .ok (.iload 6, 2) := by decide +kernel
theorem dX0_victimsBeaten_63 : decode cX0_victimsBeaten 63 = .ok (.if_icmp .gt 6, 3) := by decide +kernel
theorem dX0_victimsBeaten_66 : decode cX0_victimsBeaten 66 = .ok (.iload 5, 2) := by decide +kernel
theorem dX0_victimsBeaten_68 : decode cX0_victimsBeaten 68 = .ok (.ireturn, 1) := by decide +kernel
theorem dX0_victimsBeaten_69 : decode cX0_victimsBeaten 69 = .ok (.iinc 5 1, 3) := by decide +kernel
theorem dX0_victimsBeaten_72 : decode cX0_victimsBeaten 72 = .ok (.goto (-47), 3) := by decide +kernel
theorem dX0_victimsBeaten_75 : decode cX0_victimsBeaten 75 = .ok (.aload_n 0, 1) := by decide +kernel
theorem dX0_victimsBeaten_76 : decode cX0_victimsBeaten 76 = .ok (.getfield 20, 3) := by decide +kernel
theorem dX0_victimsBeaten_79 : decode cX0_victimsBeaten 79 = .ok (.ifCond .eq 9, 3) := by decide +kernel
theorem dX0_victimsBeaten_82 : decode cX0_victimsBeaten 82 = .ok (.iload_n 3, 1) := by decide +kernel
theorem dX0_victimsBeaten_83 : decode cX0_victimsBeaten 83 = .ok (.iload 4, 2) := by decide +kernel
theorem dX0_victimsBeaten_85 : decode cX0_victimsBeaten 85 = .ok (.if_icmp .le 7, 3) := by decide +kernel
theorem dX0_victimsBeaten_88 : decode cX0_victimsBeaten 88 = .ok (.iload_n 2, 1) := by decide +kernel
theorem dX0_victimsBeaten_89 : decode cX0_victimsBeaten 89 = .ok (.goto 4, 3) := by decide +kernel
theorem dX0_victimsBeaten_92 : decode cX0_victimsBeaten 92 = .ok (.iconst 0, 1) := by decide +kernel
theorem dX0_victimsBeaten_93 : decode cX0_victimsBeaten 93 = .ok (.ireturn, 1) := by decide +kernel
theorem dX0_spare_0 : decode cX0_spare 0 = .ok (.iload_n 1, 1) := by decide +kernel
theorem dX0_spare_1 : decode cX0_spare 1 = .ok (.aload_n 0, 1) := by decide +kernel
theorem dX0_spare_2 : decode cX0_spare 2 = .ok (.getfield 14, 3) := by decide +kernel
theorem dX0_spare_5 : decode cX0_spare 5 = .ok (.getfield 40, 3) := by decide +kernel
theorem dX0_spare_8 : decode cX0_spare 8 = .ok (.iconst 1, 1) := by decide +kernel
theorem dX0_spare_9 : decode cX0_spare 9 = .ok (.iaload, 1) := by decide +kernel
theorem dX0_spare_10 : decode cX0_spare 10 = .ok (.invokestatic 100, 3) := by decide +kernel
theorem dX0_spare_13 : decode cX0_spare 13 = .ok (.istore_n 2, 1) := by decide +kernel
theorem dX0_spare_14 : decode cX0_spare 14 = .ok (.iconst 0, 1) := by decide +kernel
theorem dX0_spare_15 : decode cX0_spare 15 = .ok (.istore_n 3, 1) := by decide +kernel
theorem dX0_spare_16 : decode cX0_spare 16 = .ok (.iload_n 3, 1) := by decide +kernel
theorem dX0_spare_17 : decode cX0_spare 17 = .ok (.iload_n 1, 1) := by decide +kernel
theorem dX0_spare_18 : decode cX0_spare 18 = .ok (.if_icmp .ge 42, 3) := by decide +kernel
theorem dX0_spare_21 : decode cX0_spare 21 = .ok (.iload_n 3, 1) := by decide +kernel
theorem dX0_spare_22 : decode cX0_spare 22 = .ok (.iload_n 2, 1) := by decide +kernel
theorem dX0_spare_23 : decode cX0_spare 23 = .ok (.if_icmp .ge 7, 3) := by decide +kernel
theorem dX0_spare_26 : decode cX0_spare 26 = .ok (.iconst 1, 1) := by decide +kernel
theorem dX0_spare_27 : decode cX0_spare 27 = .ok (.goto 4, 3) := by decide +kernel
theorem dX0_spare_30 : decode cX0_spare 30 = .ok (.iconst 2, 1) := by decide +kernel
theorem dX0_spare_31 : decode cX0_spare 31 = .ok (.istore 4, 2) := by decide +kernel
theorem dX0_spare_33 : decode cX0_spare 33 = .ok (.aload_n 0, 1) := by decide +kernel
theorem dX0_spare_34 : decode cX0_spare 34 = .ok (.getfield 14, 3) := by decide +kernel
theorem dX0_spare_37 : decode cX0_spare 37 = .ok (.iload 4, 2) := by decide +kernel
theorem dX0_spare_39 : decode cX0_spare 39 = .ok (.aload_n 0, 1) := by decide +kernel
theorem dX0_spare_40 : decode cX0_spare 40 = .ok (.getfield 14, 3) := by decide +kernel
theorem dX0_spare_43 : decode cX0_spare 43 = .ok (.getfield 64, 3) := by decide +kernel
theorem dX0_spare_46 : decode cX0_spare 46 = .ok (.iload 4, 2) := by decide +kernel
theorem dX0_spare_48 : decode cX0_spare 48 = .ok (.aaload, 1) := by decide +kernel
theorem dX0_spare_49 : decode cX0_spare 49 = .ok (.iconst 0, 1) := by decide +kernel
theorem dX0_spare_50 : decode cX0_spare 50 = .ok (.iaload, 1) := by decide +kernel
theorem dX0_spare_51 : decode cX0_spare 51 = .ok (.invokevirtual 54, 3) := by decide +kernel
theorem dX0_spare_54 : decode cX0_spare 54 = .ok (.iinc 3 1, 3) := by decide +kernel
theorem dX0_spare_57 : decode cX0_spare 57 = .ok (.goto (-41), 3) := by decide +kernel
theorem dX0_spare_60 : decode cX0_spare 60 = .ok (.return_, 1) := by decide +kernel
theorem dX0_victimAt_0 : decode cX0_victimAt 0 = .ok (.aload_n 0, 1) := by decide +kernel
theorem dX0_victimAt_1 : decode cX0_victimAt 1 = .ok (.getfield 14, 3) := by decide +kernel
theorem dX0_victimAt_4 : decode cX0_victimAt 4 = .ok (.getfield 40, 3) := by decide +kernel
theorem dX0_victimAt_7 : decode cX0_victimAt 7 = .ok (.iconst 1, 1) := by decide +kernel
theorem dX0_victimAt_8 : decode cX0_victimAt 8 = .ok (.iaload, 1) := by decide +kernel
theorem dX0_victimAt_9 : decode cX0_victimAt 9 = .ok (.istore_n 2, 1) := by decide +kernel
theorem dX0_victimAt_10 : decode cX0_victimAt 10 = .ok (.iload_n 1, 1) := by decide +kernel
theorem dX0_victimAt_11 : decode cX0_victimAt 11 = .ok (.iload_n 2, 1) := by decide +kernel
theorem dX0_victimAt_12 : decode cX0_victimAt 12 = .ok (.if_icmp .ge 15, 3) := by decide +kernel
theorem dX0_victimAt_15 : decode cX0_victimAt 15 = .ok (.aload_n 0, 1) := by decide +kernel
theorem dX0_victimAt_16 : decode cX0_victimAt 16 = .ok (.getfield 14, 3) := by decide +kernel
theorem dX0_victimAt_19 : decode cX0_victimAt 19 = .ok (.iconst 1, 1) := by decide +kernel
theorem dX0_victimAt_20 : decode cX0_victimAt 20 = .ok (.iload_n 1, 1) := by decide +kernel
theorem dX0_victimAt_21 : decode cX0_victimAt 21 = .ok (.invokevirtual 105, 3) := by decide +kernel
theorem dX0_victimAt_24 : decode cX0_victimAt 24 = .ok (.goto 14, 3) := by decide +kernel
theorem dX0_victimAt_27 : decode cX0_victimAt 27 = .ok (.aload_n 0, 1) := by decide +kernel
theorem dX0_victimAt_28 : decode cX0_victimAt 28 = .ok (.getfield 14, 3) := by decide +kernel
theorem dX0_victimAt_31 : decode cX0_victimAt 31 = .ok (.iconst 2, 1) := by decide +kernel
theorem dX0_victimAt_32 : decode cX0_victimAt 32 = .ok (.iload_n 1, 1) := by decide +kernel
theorem dX0_victimAt_33 : decode cX0_victimAt 33 = .ok (.iload_n 2, 1) := by decide +kernel
theorem dX0_victimAt_34 : decode cX0_victimAt 34 = .ok (.isub, 1) := by decide +kernel
theorem dX0_victimAt_35 : decode cX0_victimAt 35 = .ok (.invokevirtual 105, 3) := by decide +kernel
theorem dX0_victimAt_38 : decode cX0_victimAt 38 = .ok (.ireturn, 1) := by decide +kernel
theorem dX0_resize_0 : decode cX0_resize 0 = .ok (.aload_n 0, 1) := by decide +kernel
theorem dX0_resize_1 : decode cX0_resize 1 = .ok (.iconst 1, 1) := by decide +kernel
theorem dX0_resize_2 : decode cX0_resize 2 = .ok (.aload_n 0, 1) := by decide +kernel
theorem dX0_resize_3 : decode cX0_resize 3 = .ok (.getfield 34, 3) := by decide +kernel
theorem dX0_resize_6 : decode cX0_resize 6 = .ok (.iconst 1, 1) := by decide +kernel
theorem dX0_resize_7 : decode cX0_resize 7 = .ok (.isub, 1) := by decide +kernel
theorem dX0_resize_8 : decode cX0_resize 8 = .ok (.iload_n 1, 1) := by decide +kernel
theorem dX0_resize_9 : decode cX0_resize 9 = .ok (.invokestatic 100, 3) := by decide +kernel
theorem dX0_resize_12 : decode cX0_resize 12 = .ok (.invokestatic 108, 3) := by decide +kernel
theorem dX0_resize_15 : decode cX0_resize 15 = .ok (.putfield 37, 3) := by decide +kernel
theorem dX0_resize_18 : decode cX0_resize 18 = .ok (.aload_n 0, 1) := by decide +kernel
theorem dX0_resize_19 : decode cX0_resize 19 = .ok (.invokevirtual 58, 3) := by decide +kernel
theorem dX0_resize_22 : decode cX0_resize 22 = .ok (.aload_n 0, 1) := by decide +kernel
theorem dX0_resize_23 : decode cX0_resize 23 = .ok (.invokevirtual 44, 3) := by decide +kernel
theorem dX0_resize_26 : decode cX0_resize 26 = .ok (.istore_n 2, 1) := by decide +kernel
theorem dX0_resize_27 : decode cX0_resize 27 = .ok (.iload_n 2, 1) := by decide +kernel
theorem dX0_resize_28 : decode cX0_resize 28 = .ok (.ifCond .le 39, 3) := by decide +kernel
theorem dX0_resize_31 : decode cX0_resize 31 = .ok (.aload_n 0, 1) := by decide +kernel
theorem dX0_resize_32 : decode cX0_resize 32 = .ok (.invokevirtual 94, 3) := by decide +kernel
theorem dX0_resize_35 : decode cX0_resize 35 = .ok (.aload_n 0, 1) := by decide +kernel
theorem dX0_resize_36 : decode cX0_resize 36 = .ok (.getfield 34, 3) := by decide +kernel
theorem dX0_resize_39 : decode cX0_resize 39 = .ok (.aload_n 0, 1) := by decide +kernel
theorem dX0_resize_40 : decode cX0_resize 40 = .ok (.getfield 37, 3) := by decide +kernel
theorem dX0_resize_43 : decode cX0_resize 43 = .ok (.isub, 1) := by decide +kernel
theorem dX0_resize_44 : decode cX0_resize 44 = .ok (.if_icmp .gt 4, 3) := by decide +kernel
theorem dX0_resize_47 : decode cX0_resize 47 = .ok (.return_, 1) := by decide +kernel
theorem dX0_resize_48 : decode cX0_resize 48 = .ok (.aload_n 0, 1) := by decide +kernel
theorem dX0_resize_49 : decode cX0_resize 49 = .ok (.getfield 14, 3) := by decide +kernel
theorem dX0_resize_52 : decode cX0_resize 52 = .ok (.iconst 0, 1) := by decide +kernel
theorem dX0_resize_53 : decode cX0_resize 53 = .ok (.aload_n 0, 1) := by decide +kernel
theorem dX0_resize_54 : decode cX0_resize 54 = .ok (.iconst 0, 1) := by decide +kernel
theorem dX0_resize_55 : decode cX0_resize 55 = .ok (.invokevirtual 88, 3) := by decide +kernel
theorem dX0_resize_58 : decode cX0_resize 58 = .ok (.invokevirtual 54, 3) := by decide +kernel
theorem dX0_resize_61 : decode cX0_resize 61 = .ok (.iinc 2 (-1), 3) := by decide +kernel
theorem dX0_resize_64 : decode cX0_resize 64 = .ok (.goto (-37), 3) := by decide +kernel
theorem dX0_resize_67 : decode cX0_resize 67 = .ok (.return_, 1) := by decide +kernel
theorem dX0_isSound_0 : decode cX0_isSound 0 = .ok (.iconst 0, 1) := by decide +kernel
theorem dX0_isSound_1 : decode cX0_isSound 1 = .ok (.istore_n 1, 1) := by decide +kernel
theorem dX0_isSound_2 : decode cX0_isSound 2 = .ok (.iload_n 1, 1) := by decide +kernel
theorem dX0_isSound_3 : decode cX0_isSound 3 = .ok (.bipush 100, 2) := by decide +kernel
theorem dX0_isSound_5 : decode cX0_isSound 5 = .ok (.if_icmp .ge 23, 3) := by decide +kernel
theorem dX0_isSound_8 : decode cX0_isSound 8 = .ok (.aload_n 0, 1) := by decide +kernel
theorem dX0_isSound_9 : decode cX0_isSound 9 = .ok (.getfield 14, 3) := by decide +kernel
theorem dX0_isSound_12 : decode cX0_isSound 12 = .ok (.iload_n 1, 1) := by decide +kernel
theorem dX0_isSound_13 : decode cX0_isSound 13 = .ok (.invokevirtual 111, 3) := by decide +kernel
theorem dX0_isSound_16 : decode cX0_isSound 16 = .ok (.iconst 1, 1) := by decide +kernel
theorem dX0_isSound_17 : decode cX0_isSound 17 = .ok (.if_icmp .le 5, 3) := by decide +kernel
theorem dX0_isSound_20 : decode cX0_isSound 20 = .ok (.iconst 0, 1) := by decide +kernel
theorem dX0_isSound_21 : decode cX0_isSound 21 = .ok (.ireturn, 1) := by decide +kernel
theorem dX0_isSound_22 : decode cX0_isSound 22 = .ok (.iinc 1 1, 3) := by decide +kernel
theorem dX0_isSound_25 : decode cX0_isSound 25 = .ok (.goto (-23), 3) := by decide +kernel
theorem dX0_isSound_28 : decode cX0_isSound 28 = .ok (.aload_n 0, 1) := by decide +kernel
theorem dX0_isSound_29 : decode cX0_isSound 29 = .ok (.getfield 14, 3) := by decide +kernel
theorem dX0_isSound_32 : decode cX0_isSound 32 = .ok (.iconst 2, 1) := by decide +kernel
theorem dX0_isSound_33 : decode cX0_isSound 33 = .ok (.invokevirtual 114, 3) := by decide +kernel
theorem dX0_isSound_36 : decode cX0_isSound 36 = .ok (.istore_n 1, 1) := by decide +kernel
theorem dX0_isSound_37 : decode cX0_isSound 37 = .ok (.aload_n 0, 1) := by decide +kernel
theorem dX0_isSound_38 : decode cX0_isSound 38 = .ok (.getfield 14, 3) := by decide +kernel
theorem dX0_isSound_41 : decode cX0_isSound 41 = .ok (.iconst 0, 1) := by decide +kernel
theorem dX0_isSound_42 : decode cX0_isSound 42 = .ok (.invokevirtual 114, 3) := by decide +kernel
theorem dX0_isSound_45 : decode cX0_isSound 45 = .ok (.aload_n 0, 1) := by decide +kernel
theorem dX0_isSound_46 : decode cX0_isSound 46 = .ok (.getfield 37, 3) := by decide +kernel
theorem dX0_isSound_49 : decode cX0_isSound 49 = .ok (.if_icmp .gt 37, 3) := by decide +kernel
theorem dX0_isSound_52 : decode cX0_isSound 52 = .ok (.aload_n 0, 1) := by decide +kernel
theorem dX0_isSound_53 : decode cX0_isSound 53 = .ok (.getfield 14, 3) := by decide +kernel
theorem dX0_isSound_56 : decode cX0_isSound 56 = .ok (.iconst 1, 1) := by decide +kernel
theorem dX0_isSound_57 : decode cX0_isSound 57 = .ok (.invokevirtual 114, 3) := by decide +kernel
theorem dX0_isSound_60 : decode cX0_isSound 60 = .ok (.iload_n 1, 1) := by decide +kernel
theorem dX0_isSound_61 : decode cX0_isSound 61 = .ok (.iadd, 1) := by decide +kernel
theorem dX0_isSound_62 : decode cX0_isSound 62 = .ok (.aload_n 0, 1) := by decide +kernel
theorem dX0_isSound_63 : decode cX0_isSound 63 = .ok (.getfield 34, 3) := by decide +kernel
theorem dX0_isSound_66 : decode cX0_isSound 66 = .ok (.aload_n 0, 1) := by decide +kernel
theorem dX0_isSound_67 : decode cX0_isSound 67 = .ok (.getfield 37, 3) := by decide +kernel
theorem dX0_isSound_70 : decode cX0_isSound 70 = .ok (.isub, 1) := by decide +kernel
theorem dX0_isSound_71 : decode cX0_isSound 71 = .ok (.if_icmp .gt 15, 3) := by decide +kernel
theorem dX0_isSound_74 : decode cX0_isSound 74 = .ok (.iload_n 1, 1) := by decide +kernel
theorem dX0_isSound_75 : decode cX0_isSound 75 = .ok (.aload_n 0, 1) := by decide +kernel
theorem dX0_isSound_76 : decode cX0_isSound 76 = .ok (.invokevirtual 61, 3) := by decide +kernel
theorem dX0_isSound_79 : decode cX0_isSound 79 = .ok (.if_icmp .gt 7, 3) := by decide +kernel
theorem dX0_isSound_82 : decode cX0_isSound 82 = .ok (.iconst 1, 1) := by decide +kernel
theorem dX0_isSound_83 : decode cX0_isSound 83 = .ok (.goto 4, 3) := by decide +kernel
theorem dX0_isSound_86 : decode cX0_isSound 86 = .ok (.iconst 0, 1) := by decide +kernel
theorem dX0_isSound_87 : decode cX0_isSound 87 = .ok (.ireturn, 1) := by decide +kernel
theorem dX0_copyFrom_0 : decode cX0_copyFrom 0 = .ok (.aload_n 0, 1) := by decide +kernel
theorem dX0_copyFrom_1 : decode cX0_copyFrom 1 = .ok (.getfield 30, 3) := by decide +kernel
theorem dX0_copyFrom_4 : decode cX0_copyFrom 4 = .ok (.aload_n 1, 1) := by decide +kernel
theorem dX0_copyFrom_5 : decode cX0_copyFrom 5 = .ok (.getfield 30, 3) := by decide +kernel
theorem dX0_copyFrom_8 : decode cX0_copyFrom 8 = .ok (.invokevirtual 117, 3) := by decide +kernel
theorem dX0_copyFrom_11 : decode cX0_copyFrom 11 = .ok (.aload_n 0, 1) := by decide +kernel
theorem dX0_copyFrom_12 : decode cX0_copyFrom 12 = .ok (.getfield 14, 3) := by decide +kernel
theorem dX0_copyFrom_15 : decode cX0_copyFrom 15 = .ok (.aload_n 1, 1) := by decide +kernel
theorem dX0_copyFrom_16 : decode cX0_copyFrom 16 = .ok (.getfield 14, 3) := by decide +kernel
theorem dX0_copyFrom_19 : decode cX0_copyFrom 19 = .ok (.invokevirtual 121, 3) := by decide +kernel
theorem dX0_copyFrom_22 : decode cX0_copyFrom 22 = .ok (.aload_n 0, 1) := by decide +kernel
theorem dX0_copyFrom_23 : decode cX0_copyFrom 23 = .ok (.aload_n 1, 1) := by decide +kernel
theorem dX0_copyFrom_24 : decode cX0_copyFrom 24 = .ok (.getfield 20, 3) := by decide +kernel
theorem dX0_copyFrom_27 : decode cX0_copyFrom 27 = .ok (.putfield 20, 3) := by decide +kernel
theorem dX0_copyFrom_30 : decode cX0_copyFrom 30 = .ok (.aload_n 0, 1) := by decide +kernel
theorem dX0_copyFrom_31 : decode cX0_copyFrom 31 = .ok (.aload_n 1, 1) := by decide +kernel
theorem dX0_copyFrom_32 : decode cX0_copyFrom 32 = .ok (.getfield 37, 3) := by decide +kernel
theorem dX0_copyFrom_35 : decode cX0_copyFrom 35 = .ok (.putfield 37, 3) := by decide +kernel
theorem dX0_copyFrom_38 : decode cX0_copyFrom 38 = .ok (.aload_n 0, 1) := by decide +kernel
theorem dX0_copyFrom_39 : decode cX0_copyFrom 39 = .ok (.aload_n 1, 1) := by decide +kernel
theorem dX0_copyFrom_40 : decode cX0_copyFrom 40 = .ok (.getfield 24, 3) := by decide +kernel
theorem dX0_copyFrom_43 : decode cX0_copyFrom 43 = .ok (.putfield 24, 3) := by decide +kernel
theorem dX0_copyFrom_46 : decode cX0_copyFrom 46 = .ok (.return_, 1) := by decide +kernel
theorem dX1_init_0 : decode cX1_init 0 = .ok (.aload_n 0, 1) := by decide +kernel
theorem dX1_init_1 : decode cX1_init 1 = .ok (.invokespecial 1, 3) := by decide +kernel
theorem dX1_init_4 : decode cX1_init 4 = .ok (.aload_n 0, 1) := by decide +kernel
theorem dX1_init_5 : decode cX1_init 5 = .ok (.iconst 0, 1) := by decide +kernel
theorem dX1_init_6 : decode cX1_init 6 = .ok (.putfield 7, 3) := by decide +kernel
theorem dX1_init_9 : decode cX1_init 9 = .ok (.aload_n 0, 1) := by decide +kernel
theorem dX1_init_10 : decode cX1_init 10 = .ok (.bipush 20, 2) := by decide +kernel
theorem dX1_init_12 : decode cX1_init 12 = .ok (.putfield 13, 3) := by decide +kernel
theorem dX1_init_15 : decode cX1_init 15 = .ok (.aload_n 0, 1) := by decide +kernel
theorem dX1_init_16 : decode cX1_init 16 = .ok (.iconst 1, 1) := by decide +kernel
theorem dX1_init_17 : decode cX1_init 17 = .ok (.putfield 16, 3) := by decide +kernel
theorem dX1_init_20 : decode cX1_init 20 = .ok (.aload_n 0, 1) := by decide +kernel
theorem dX1_init_21 : decode cX1_init 21 = .ok (.iconst 0, 1) := by decide +kernel
theorem dX1_init_22 : decode cX1_init 22 = .ok (.putfield 19, 3) := by decide +kernel
theorem dX1_init_25 : decode cX1_init 25 = .ok (.aload_n 0, 1) := by decide +kernel
theorem dX1_init_26 : decode cX1_init 26 = .ok (.iconst 0, 1) := by decide +kernel
theorem dX1_init_27 : decode cX1_init 27 = .ok (.putfield 22, 3) := by decide +kernel
theorem dX1_init_30 : decode cX1_init 30 = .ok (.aload_n 0, 1) := by decide +kernel
theorem dX1_init_31 : decode cX1_init 31 = .ok (.iconst 0, 1) := by decide +kernel
theorem dX1_init_32 : decode cX1_init 32 = .ok (.putfield 25, 3) := by decide +kernel
theorem dX1_init_35 : decode cX1_init 35 = .ok (.return_, 1) := by decide +kernel
theorem dX1_tellStep_0 : decode cX1_tellStep 0 = .ok (.aload_n 0, 1) := by decide +kernel
theorem dX1_tellStep_1 : decode cX1_tellStep 1 = .ok (.getfield 7, 3) := by decide +kernel
theorem dX1_tellStep_4 : decode cX1_tellStep 4 = .ok (.istore_n 2, 1) := by decide +kernel
theorem dX1_tellStep_5 : decode cX1_tellStep 5 = .ok (.aload_n 0, 1) := by decide +kernel
theorem dX1_tellStep_6 : decode cX1_tellStep 6 = .ok (.iload_n 1, 1) := by decide +kernel
theorem dX1_tellStep_7 : decode cX1_tellStep 7 = .ok (.putfield 7, 3) := by decide +kernel
theorem dX1_tellStep_10 : decode cX1_tellStep 10 = .ok (.aload_n 0, 1) := by decide +kernel
theorem dX1_tellStep_11 : decode cX1_tellStep 11 = .ok (.invokevirtual 28, 3) := by decide +kernel
theorem dX1_tellStep_14 : decode cX1_tellStep 14 = .ok (.iload_n 2, 1) := by decide +kernel
theorem dX1_tellStep_15 : decode cX1_tellStep 15 = .ok (.ireturn, 1) := by decide +kernel
theorem dX1_tellPeriod_0 : decode cX1_tellPeriod 0 = .ok (.aload_n 0, 1) := by decide +kernel
theorem dX1_tellPeriod_1 : decode cX1_tellPeriod 1 = .ok (.getfield 13, 3) := by decide +kernel
theorem dX1_tellPeriod_4 : decode cX1_tellPeriod 4 = .ok (.istore_n 2, 1) := by decide +kernel
theorem dX1_tellPeriod_5 : decode cX1_tellPeriod 5 = .ok (.aload_n 0, 1) := by decide +kernel
theorem dX1_tellPeriod_6 : decode cX1_tellPeriod 6 = .ok (.iload_n 1, 1) := by decide +kernel
theorem dX1_tellPeriod_7 : decode cX1_tellPeriod 7 = .ok (.putfield 13, 3) := by decide +kernel
theorem dX1_tellPeriod_10 : decode cX1_tellPeriod 10 = .ok (.aload_n 0, 1) := by decide +kernel
theorem dX1_tellPeriod_11 : decode cX1_tellPeriod 11 = .ok (.invokevirtual 28, 3) := by decide +kernel
theorem dX1_tellPeriod_14 : decode cX1_tellPeriod 14 = .ok (.iload_n 2, 1) := by decide +kernel
theorem dX1_tellPeriod_15 : decode cX1_tellPeriod 15 = .ok (.ireturn, 1) := by decide +kernel
theorem dX1_beginAnew_0 : decode cX1_beginAnew 0 = .ok (.aload_n 0, 1) := by decide +kernel
theorem dX1_beginAnew_1 : decode cX1_beginAnew 1 = .ok (.iconst 0, 1) := by decide +kernel
theorem dX1_beginAnew_2 : decode cX1_beginAnew 2 = .ok (.putfield 19, 3) := by decide +kernel
theorem dX1_beginAnew_5 : decode cX1_beginAnew 5 = .ok (.aload_n 0, 1) := by decide +kernel
theorem dX1_beginAnew_6 : decode cX1_beginAnew 6 = .ok (.iconst 0, 1) := by decide +kernel
theorem dX1_beginAnew_7 : decode cX1_beginAnew 7 = .ok (.putfield 22, 3) := by decide +kernel
theorem dX1_beginAnew_10 : decode cX1_beginAnew 10 = .ok (.aload_n 0, 1) := by decide +kernel
theorem dX1_beginAnew_11 : decode cX1_beginAnew 11 = .ok (.iconst 0, 1) := by decide +kernel
theorem dX1_beginAnew_12 : decode cX1_beginAnew 12 = .ok (.putfield 25, 3) := by decide +kernel
theorem dX1_beginAnew_15 : decode cX1_beginAnew 15 = .ok (.return_, 1) := by decide +kernel
theorem dX1_growthAfter_0 : decode cX1_growthAfter 0 = .ok (.aload_n 0, 1) := by decide +kernel
theorem dX1_growthAfter_1 : decode cX1_growthAfter 1 = .ok (.getfield 7, 3) := by decide +kernel
theorem dX1_growthAfter_4 : decode cX1_growthAfter 4 = .ok (.ifCond .ne 5, 3) := by decide +kernel
theorem dX1_growthAfter_7 : decode cX1_growthAfter 7 = .ok (.iconst 0, 1) := by decide +kernel
theorem dX1_growthAfter_8 : decode cX1_growthAfter 8 = .ok (.ireturn, 1) := by decide +kernel
theorem dX1_growthAfter_9 : decode cX1_growthAfter 9 = .ok (.aload_n 0, 1) := by decide +kernel
theorem dX1_growthAfter_10 : decode cX1_growthAfter 10 = .ok (.dup, 1) := by decide +kernel
theorem dX1_growthAfter_11 : decode cX1_growthAfter 11 = .ok (.getfield 22, 3) := by decide +kernel
theorem dX1_growthAfter_14 : decode cX1_growthAfter 14 = .ok (.iconst 1, 1) := by decide +kernel
theorem dX1_growthAfter_15 : decode cX1_growthAfter 15 = .ok (.iadd, 1) := by decide +kernel
theorem dX1_growthAfter_16 : decode cX1_growthAfter 16 = .ok (.putfield 22, 3) := by decide +kernel
theorem dX1_growthAfter_19 : decode cX1_growthAfter 19 = .ok (.iload_n 1, 1) := by decide +kernel
theorem dX1_growthAfter_20 : decode cX1_growthAfter 20 = .ok (.ifCond .eq 13, 3) := by decide +kernel
theorem dX1_growthAfter_23 : decode cX1_growthAfter 23 = .ok (.aload_n 0, 1) := by decide +kernel
theorem dX1_growthAfter_24 : decode cX1_growthAfter 24 = .ok (.dup, 1) := by decide +kernel
theorem dX1_growthAfter_25 : decode cX1_growthAfter 25 = .ok (.getfield 19, 3) := by decide +kernel
theorem dX1_growthAfter_28 : decode cX1_growthAfter 28 = .ok (.iconst 1, 1) := by decide +kernel
theorem dX1_growthAfter_29 : decode cX1_growthAfter 29 = .ok (.iadd, 1) := by decide +kernel
theorem dX1_growthAfter_30 : decode cX1_growthAfter 30 = .ok (.putfield 19, 3) := by decide +kernel
theorem dX1_growthAfter_33 : decode cX1_growthAfter 33 = .ok (.aload_n 0, 1) := by decide +kernel
theorem dX1_growthAfter_34 : decode cX1_growthAfter 34 = .ok (.getfield 22, 3) := by decide +kernel
theorem dX1_growthAfter_37 : decode cX1_growthAfter 37 = .ok (.aload_n 0, 1) := by decide +kernel
theorem dX1_growthAfter_38 : decode cX1_growthAfter 38 = .ok (.getfield 13, 3) := by decide +kernel
theorem dX1_growthAfter_41 : decode cX1_growthAfter 41 = .ok (.if_icmp .ge 5, 3) := by decide +kernel
theorem dX1_growthAfter_44 : decode cX1_growthAfter 44 = .ok (.iconst 0, 1) := by decide +kernel
theorem dX1_growthAfter_45 : decode cX1_growthAfter 45 = .ok (.ireturn, 1) := by decide +kernel
theorem dX1_growthAfter_46 : decode cX1_growthAfter 46 = .ok (.aload_n 0, 1) := by decide +kernel
theorem dX1_growthAfter_47 : decode cX1_growthAfter 47 = .ok (.getfield 19, 3) := by decide +kernel
theorem dX1_growthAfter_50 : decode cX1_growthAfter 50 = .ok (.aload_n 0, 1) := by decide +kernel
theorem dX1_growthAfter_51 : decode cX1_growthAfter 51 = .ok (.getfield 25, 3) := by decide +kernel
theorem dX1_growthAfter_54 : decode cX1_growthAfter 54 = .ok (.if_icmp .ge 12, 3) := by decide +kernel
theorem dX1_growthAfter_57 : decode cX1_growthAfter 57 = .ok (.aload_n 0, 1) := by decide +kernel
theorem dX1_growthAfter_58 : decode cX1_growthAfter 58 = .ok (.aload_n 0, 1) := by decide +kernel
theorem dX1_growthAfter_59 : decode cX1_growthAfter 59 = .ok (.getfield 16, 3) := by decide +kernel
theorem dX1_growthAfter_62 : decode cX1_growthAfter 62 = .ok (.ineg, 1) := by decide +kernel
theorem dX1_growthAfter_63 : decode cX1_growthAfter 63 = .ok (.putfield 16, 3) := by decide +kernel
theorem dX1_growthAfter_66 : decode cX1_growthAfter 66 = .ok (.aload_n 0, 1) := by decide +kernel
theorem dX1_growthAfter_67 : decode cX1_growthAfter 67 = .ok (.aload_n 0, 1) := by decide +kernel
theorem dX1_growthAfter_68 : decode cX1_growthAfter 68 = .ok (.getfield 19, 3) := by decide +kernel
theorem dX1_growthAfter_71 : decode cX1_growthAfter 71 = .ok (.putfield 25, 3) := by decide +kernel
theorem dX1_growthAfter_74 : decode cX1_growthAfter 74 = .ok (.aload_n 0, 1) := by decide +kernel
theorem dX1_growthAfter_75 : decode cX1_growthAfter 75 = .ok (.iconst 0, 1) := by decide +kernel
theorem dX1_growthAfter_76 : decode cX1_growthAfter 76 = .ok (.putfield 19, 3) := by decide +kernel
theorem dX1_growthAfter_79 : decode cX1_growthAfter 79 = .ok (.aload_n 0, 1) := by decide +kernel
theorem dX1_growthAfter_80 : decode cX1_growthAfter 80 = .ok (.iconst 0, 1) := by decide +kernel
theorem dX1_growthAfter_81 : decode cX1_growthAfter 81 = .ok (.putfield 22, 3) := by decide +kernel
theorem dX1_growthAfter_84 : decode cX1_growthAfter 84 = .ok (.aload_n 0, 1) := by decide +kernel
theorem dX1_growthAfter_85 : decode cX1_growthAfter 85 = .ok (.getfield 16, 3) := by decide +kernel
theorem dX1_growthAfter_88 : decode cX1_growthAfter 88 = .ok (.aload_n 0, 1) := by decide +kernel
theorem dX1_growthAfter_89 : decode cX1_growthAfter 89 = .ok (.getfield 7, 3) := by decide +kernel
theorem dX1_growthAfter_92 : decode cX1_growthAfter 92 = .ok (.imul, 1) := by decide +kernel
theorem dX1_growthAfter_93 : decode cX1_growthAfter 93 = .ok (.ireturn, 1) := by decide +kernel
theorem dX1_copyFrom_0 : decode cX1_copyFrom 0 = .ok (.aload_n 0, 1) := by decide +kernel
theorem dX1_copyFrom_1 : decode cX1_copyFrom 1 = .ok (.aload_n 1, 1) := by decide +kernel
theorem dX1_copyFrom_2 : decode cX1_copyFrom 2 = .ok (.getfield 7, 3) := by decide +kernel
theorem dX1_copyFrom_5 : decode cX1_copyFrom 5 = .ok (.putfield 7, 3) := by decide +kernel
theorem dX1_copyFrom_8 : decode cX1_copyFrom 8 = .ok (.aload_n 0, 1) := by decide +kernel
theorem dX1_copyFrom_9 : decode cX1_copyFrom 9 = .ok (.aload_n 1, 1) := by decide +kernel
theorem dX1_copyFrom_10 : decode cX1_copyFrom 10 = .ok (.getfield 13, 3) := by decide +kernel
theorem dX1_copyFrom_13 : decode cX1_copyFrom 13 = .ok (.putfield 13, 3) := by decide +kernel
theorem dX1_copyFrom_16 : decode cX1_copyFrom 16 = .ok (.aload_n 0, 1) := by decide +kernel
theorem dX1_copyFrom_17 : decode cX1_copyFrom 17 = .ok (.aload_n 1, 1) := by decide +kernel
theorem dX1_copyFrom_18 : decode cX1_copyFrom 18 = .ok (.getfield 16, 3) := by decide +kernel
theorem dX1_copyFrom_21 : decode cX1_copyFrom 21 = .ok (.putfield 16, 3) := by decide +kernel
theorem dX1_copyFrom_24 : decode cX1_copyFrom 24 = .ok (.aload_n 0, 1) := by decide +kernel
theorem dX1_copyFrom_25 : decode cX1_copyFrom 25 = .ok (.aload_n 1, 1) := by decide +kernel
theorem dX1_copyFrom_26 : decode cX1_copyFrom 26 = .ok (.getfield 19, 3) := by decide +kernel
theorem dX1_copyFrom_29 : decode cX1_copyFrom 29 = .ok (.putfield 19, 3) := by decide +kernel
theorem dX1_copyFrom_32 : decode cX1_copyFrom 32 = .ok (.aload_n 0, 1) := by decide +kernel
theorem dX1_copyFrom_33 : decode cX1_copyFrom 33 = .ok (.aload_n 1, 1) := by decide +kernel
theorem dX1_copyFrom_34 : decode cX1_copyFrom 34 = .ok (.getfield 22, 3) := by decide +kernel
theorem dX1_copyFrom_37 : decode cX1_copyFrom 37 = .ok (.putfield 22, 3) := by decide +kernel
theorem dX1_copyFrom_40 : decode cX1_copyFrom 40 = .ok (.aload_n 0, 1) := by decide +kernel
theorem dX1_copyFrom_41 : decode cX1_copyFrom 41 = .ok (.aload_n 1, 1) := by decide +kernel
theorem dX1_copyFrom_42 : decode cX1_copyFrom 42 = .ok (.getfield 25, 3) := by decide +kernel
theorem dX1_copyFrom_45 : decode cX1_copyFrom 45 = .ok (.putfield 25, 3) := by decide +kernel
theorem dX1_copyFrom_48 : decode cX1_copyFrom 48 = .ok (.return_, 1) := by decide +kernel
theorem dX2_init_0 : decode cX2_init 0 = .ok (.aload_n 0, 1) := by decide +kernel
theorem dX2_init_1 : decode cX2_init 1 = .ok (.invokespecial 3, 3) := by decide +kernel
theorem dX2_init_4 : decode cX2_init 4 = .ok (.aload_n 0, 1) := by decide +kernel
theorem dX2_init_5 : decode cX2_init 5 = .ok (.new 9, 3) := by decide +kernel
theorem dX2_init_8 : decode cX2_init 8 = .ok (.dup, 1) := by decide +kernel
theorem dX2_init_9 : decode cX2_init 9 = .ok (.iconst 4, 1) := by decide +kernel
theorem dX2_init_10 : decode cX2_init 10 = .ok (.invokespecial 11, 3) := by decide +kernel
theorem dX2_init_13 : decode cX2_init 13 = .ok (.putfield 14, 3) := by decide +kernel
theorem dX2_init_16 : decode cX2_init 16 = .ok (.aload_n 0, 1) := by decide +kernel
theorem dX2_init_17 : decode cX2_init 17 = .ok (.iconst 1, 1) := by decide +kernel
theorem dX2_init_18 : decode cX2_init 18 = .ok (.putfield 20, 3) := by decide +kernel
theorem dX2_init_21 : decode cX2_init 21 = .ok (.aload_n 0, 1) := by decide +kernel
theorem dX2_init_22 : decode cX2_init 22 = .ok (.iconst 0, 1) := by decide +kernel
theorem dX2_init_23 : decode cX2_init 23 = .ok (.putfield 24, 3) := by decide +kernel
theorem dX2_init_26 : decode cX2_init 26 = .ok (.return_, 1) := by decide +kernel
theorem dX2_begin_0 : decode cX2_begin 0 = .ok (.aload_n 0, 1) := by decide +kernel
theorem dX2_begin_1 : decode cX2_begin 1 = .ok (.getfield 14, 3) := by decide +kernel
theorem dX2_begin_4 : decode cX2_begin 4 = .ok (.invokevirtual 27, 3) := by decide +kernel
theorem dX2_begin_7 : decode cX2_begin 7 = .ok (.aload_n 0, 1) := by decide +kernel
theorem dX2_begin_8 : decode cX2_begin 8 = .ok (.iload_n 1, 1) := by decide +kernel
theorem dX2_begin_9 : decode cX2_begin 9 = .ok (.putfield 20, 3) := by decide +kernel
theorem dX2_begin_12 : decode cX2_begin 12 = .ok (.aload_n 0, 1) := by decide +kernel
theorem dX2_begin_13 : decode cX2_begin 13 = .ok (.iconst 0, 1) := by decide +kernel
theorem dX2_begin_14 : decode cX2_begin 14 = .ok (.putfield 24, 3) := by decide +kernel
theorem dX2_begin_17 : decode cX2_begin 17 = .ok (.return_, 1) := by decide +kernel
theorem dX2_asks_0 : decode cX2_asks 0 = .ok (.aload_n 0, 1) := by decide +kernel
theorem dX2_asks_1 : decode cX2_asks 1 = .ok (.getfield 14, 3) := by decide +kernel
theorem dX2_asks_4 : decode cX2_asks 4 = .ok (.getfield 30, 3) := by decide +kernel
theorem dX2_asks_7 : decode cX2_asks 7 = .ok (.iload_n 1, 1) := by decide +kernel
theorem dX2_asks_8 : decode cX2_asks 8 = .ok (.iaload, 1) := by decide +kernel
theorem dX2_asks_9 : decode cX2_asks 9 = .ok (.istore 4, 2) := by decide +kernel
theorem dX2_asks_11 : decode cX2_asks 11 = .ok (.iload 4, 2) := by decide +kernel
theorem dX2_asks_13 : decode cX2_asks 13 = .ok (.iconst (-1), 1) := by decide +kernel
theorem dX2_asks_14 : decode cX2_asks 14 = .ok (.if_icmp .ne 18, 3) := by decide +kernel
theorem dX2_asks_17 : decode cX2_asks 17 = .ok (.aload_n 0, 1) := by decide +kernel
theorem dX2_asks_18 : decode cX2_asks 18 = .ok (.invokevirtual 34, 3) := by decide +kernel
theorem dX2_asks_21 : decode cX2_asks 21 = .ok (.aload_n 0, 1) := by decide +kernel
theorem dX2_asks_22 : decode cX2_asks 22 = .ok (.getfield 14, 3) := by decide +kernel
theorem dX2_asks_25 : decode cX2_asks 25 = .ok (.iconst 0, 1) := by decide +kernel
theorem dX2_asks_26 : decode cX2_asks 26 = .ok (.iload_n 1, 1) := by decide +kernel
theorem dX2_asks_27 : decode cX2_asks 27 = .ok (.invokevirtual 37, 3) := by decide +kernel
theorem dX2_asks_30 : decode cX2_asks 30 = .ok (.iconst 0, 1) := by decide +kernel
theorem dX2_asks_31 : decode cX2_asks 31 = .ok (.ireturn, 1) := by decide +kernel
theorem dX2_asks_32 : decode cX2_asks 32 = .ok (.iload 4, 2) := by decide +kernel
theorem dX2_asks_34 : decode cX2_asks 34 = .ok (.iconst 2, 1) := by decide +kernel
theorem dX2_asks_35 : decode cX2_asks 35 = .ok (.if_icmp .ne 48, 3) := by decide +kernel
theorem dX2_asks_38 : decode cX2_asks 38 = .ok (.aload_n 0, 1) := by decide +kernel
theorem dX2_asks_39 : decode cX2_asks 39 = .ok (.aload_n 0, 1) := by decide +kernel
theorem dX2_asks_40 : decode cX2_asks 40 = .ok (.getfield 20, 3) := by decide +kernel
theorem dX2_asks_43 : decode cX2_asks 43 = .ok (.aload_n 0, 1) := by decide +kernel
theorem dX2_asks_44 : decode cX2_asks 44 = .ok (.getfield 24, 3) := by decide +kernel
theorem dX2_asks_47 : decode cX2_asks 47 = .ok (.aload_n 0, 1) := by decide +kernel
theorem dX2_asks_48 : decode cX2_asks 48 = .ok (.getfield 14, 3) := by decide +kernel
theorem dX2_asks_51 : decode cX2_asks 51 = .ok (.getfield 41, 3) := by decide +kernel
theorem dX2_asks_54 : decode cX2_asks 54 = .ok (.iconst 3, 1) := by decide +kernel
theorem dX2_asks_55 : decode cX2_asks 55 = .ok (.iaload, 1) := by decide +kernel
theorem dX2_asks_56 : decode cX2_asks 56 = .ok (.aload_n 0, 1) := by decide +kernel
theorem dX2_asks_57 : decode cX2_asks 57 = .ok (.getfield 14, 3) := by decide +kernel
theorem dX2_asks_60 : decode cX2_asks 60 = .ok (.getfield 41, 3) := by decide +kernel
theorem dX2_asks_63 : decode cX2_asks 63 = .ok (.iconst 2, 1) := by decide +kernel
theorem dX2_asks_64 : decode cX2_asks 64 = .ok (.iaload, 1) := by decide +kernel
theorem dX2_asks_65 : decode cX2_asks 65 = .ok (.invokestatic 44, 3) := by decide +kernel
theorem dX2_asks_68 : decode cX2_asks 68 = .ok (.iadd, 1) := by decide +kernel
theorem dX2_asks_69 : decode cX2_asks 69 = .ok (.invokestatic 48, 3) := by decide +kernel
theorem dX2_asks_72 : decode cX2_asks 72 = .ok (.putfield 24, 3) := by decide +kernel
theorem dX2_asks_75 : decode cX2_asks 75 = .ok (.aload_n 0, 1) := by decide +kernel
theorem dX2_asks_76 : decode cX2_asks 76 = .ok (.iconst 0, 1) := by decide +kernel
theorem dX2_asks_77 : decode cX2_asks 77 = .ok (.invokevirtual 53, 3) := by decide +kernel
theorem dX2_asks_80 : decode cX2_asks 80 = .ok (.goto 48, 3) := by decide +kernel
theorem dX2_asks_83 : decode cX2_asks 83 = .ok (.iload 4, 2) := by decide +kernel
theorem dX2_asks_85 : decode cX2_asks 85 = .ok (.iconst 3, 1) := by decide +kernel
theorem dX2_asks_86 : decode cX2_asks 86 = .ok (.if_icmp .ne 42, 3) := by decide +kernel
theorem dX2_asks_89 : decode cX2_asks 89 = .ok (.aload_n 0, 1) := by decide +kernel
theorem dX2_asks_90 : decode cX2_asks 90 = .ok (.iconst 0, 1) := by decide +kernel
theorem dX2_asks_91 : decode cX2_asks 91 = .ok (.aload_n 0, 1) := by decide +kernel
theorem dX2_asks_92 : decode cX2_asks 92 = .ok (.getfield 24, 3) := by decide +kernel
theorem dX2_asks_95 : decode cX2_asks 95 = .ok (.aload_n 0, 1) := by decide +kernel
theorem dX2_asks_96 : decode cX2_asks 96 = .ok (.getfield 14, 3) := by decide +kernel
theorem dX2_asks_99 : decode cX2_asks 99 = .ok (.getfield 41, 3) := by decide +kernel
theorem dX2_asks_102 : decode cX2_asks 102 = .ok (.iconst 2, 1) := by decide +kernel
theorem dX2_asks_103 : decode cX2_asks 103 = .ok (.iaload, 1) := by decide +kernel
theorem dX2_asks_104 : decode cX2_asks 104 = .ok (.aload_n 0, 1) := by decide +kernel
theorem dX2_asks_105 : decode cX2_asks 105 = .ok (.getfield 14, 3) := by decide +kernel
theorem dX2_asks_108 : decode cX2_asks 108 = .ok (.getfield 41, 3) := by decide +kernel
theorem dX2_asks_111 : decode cX2_asks 111 = .ok (.iconst 3, 1) := by decide +kernel
theorem dX2_asks_112 : decode cX2_asks 112 = .ok (.iaload, 1) := by decide +kernel
theorem dX2_asks_113 : decode cX2_asks 113 = .ok (.invokestatic 44, 3) := by decide +kernel
theorem dX2_asks_116 : decode cX2_asks 116 = .ok (.isub, 1) := by decide +kernel
theorem dX2_asks_117 : decode cX2_asks 117 = .ok (.invokestatic 57, 3) := by decide +kernel
theorem dX2_asks_120 : decode cX2_asks 120 = .ok (.putfield 24, 3) := by decide +kernel
theorem dX2_asks_123 : decode cX2_asks 123 = .ok (.aload_n 0, 1) := by decide +kernel
theorem dX2_asks_124 : decode cX2_asks 124 = .ok (.iconst 1, 1) := by decide +kernel
theorem dX2_asks_125 : decode cX2_asks 125 = .ok (.invokevirtual 53, 3) := by decide +kernel
theorem dX2_asks_128 : decode cX2_asks 128 = .ok (.aload_n 0, 1) := by decide +kernel
theorem dX2_asks_129 : decode cX2_asks 129 = .ok (.getfield 14, 3) := by decide +kernel
theorem dX2_asks_132 : decode cX2_asks 132 = .ok (.iconst 1, 1) := by decide +kernel
theorem dX2_asks_133 : decode cX2_asks 133 = .ok (.iload_n 1, 1) := by decide +kernel
theorem dX2_asks_134 : decode cX2_asks 134 = .ok (.invokevirtual 60, 3) := by decide +kernel
theorem dX2_asks_137 : decode cX2_asks 137 = .ok (.iload 4, 2) := by decide +kernel
theorem dX2_asks_139 : decode cX2_asks 139 = .ok (.ifCond .eq 9, 3) := by decide +kernel
theorem dX2_asks_142 : decode cX2_asks 142 = .ok (.iload 4, 2) := by decide +kernel
theorem dX2_asks_144 : decode cX2_asks 144 = .ok (.iconst 1, 1) := by decide +kernel
theorem dX2_asks_145 : decode cX2_asks 145 = .ok (.if_icmp .ne 7, 3) := by decide +kernel
theorem dX2_asks_148 : decode cX2_asks 148 = .ok (.iconst 1, 1) := by decide +kernel
theorem dX2_asks_149 : decode cX2_asks 149 = .ok (.goto 4, 3) := by decide +kernel
theorem dX2_asks_152 : decode cX2_asks 152 = .ok (.iconst 0, 1) := by decide +kernel
theorem dX2_asks_153 : decode cX2_asks 153 = .ok (.ireturn, 1) := by decide +kernel
theorem dX2_holds_0 : decode cX2_holds 0 = .ok (.aload_n 0, 1) := by decide +kernel
theorem dX2_holds_1 : decode cX2_holds 1 = .ok (.getfield 14, 3) := by decide +kernel
theorem dX2_holds_4 : decode cX2_holds 4 = .ok (.getfield 30, 3) := by decide +kernel
theorem dX2_holds_7 : decode cX2_holds 7 = .ok (.iload_n 1, 1) := by decide +kernel
theorem dX2_holds_8 : decode cX2_holds 8 = .ok (.iaload, 1) := by decide +kernel
theorem dX2_holds_9 : decode cX2_holds 9 = .ok (.ifCond .eq 16, 3) := by decide +kernel
theorem dX2_holds_12 : decode cX2_holds 12 = .ok (.aload_n 0, 1) := by decide +kernel
theorem dX2_holds_13 : decode cX2_holds 13 = .ok (.getfield 14, 3) := by decide +kernel
theorem dX2_holds_16 : decode cX2_holds 16 = .ok (.getfield 30, 3) := by decide +kernel
theorem dX2_holds_19 : decode cX2_holds 19 = .ok (.iload_n 1, 1) := by decide +kernel
theorem dX2_holds_20 : decode cX2_holds 20 = .ok (.iaload, 1) := by decide +kernel
theorem dX2_holds_21 : decode cX2_holds 21 = .ok (.iconst 1, 1) := by decide +kernel
theorem dX2_holds_22 : decode cX2_holds 22 = .ok (.if_icmp .ne 7, 3) := by decide +kernel
theorem dX2_holds_25 : decode cX2_holds 25 = .ok (.iconst 1, 1) := by decide +kernel
theorem dX2_holds_26 : decode cX2_holds 26 = .ok (.goto 4, 3) := by decide +kernel
theorem dX2_holds_29 : decode cX2_holds 29 = .ok (.iconst 0, 1) := by decide +kernel
theorem dX2_holds_30 : decode cX2_holds 30 = .ok (.ireturn, 1) := by decide +kernel
theorem dX2_ratio_0 : decode cX2_ratio 0 = .ok (.iload_n 1, 1) := by decide +kernel
theorem dX2_ratio_1 : decode cX2_ratio 1 = .ok (.ifCond .le 13, 3) := by decide +kernel
theorem dX2_ratio_4 : decode cX2_ratio 4 = .ok (.iconst 1, 1) := by decide +kernel
theorem dX2_ratio_5 : decode cX2_ratio 5 = .ok (.iload_n 0, 1) := by decide +kernel
theorem dX2_ratio_6 : decode cX2_ratio 6 = .ok (.iload_n 1, 1) := by decide +kernel
theorem dX2_ratio_7 : decode cX2_ratio 7 = .ok (.idiv, 1) := by decide +kernel
theorem dX2_ratio_8 : decode cX2_ratio 8 = .ok (.invokestatic 57, 3) := by decide +kernel
theorem dX2_ratio_11 : decode cX2_ratio 11 = .ok (.goto 4, 3) := by decide +kernel
theorem dX2_ratio_14 : decode cX2_ratio 14 = .ok (.iconst 1, 1) := by decide +kernel
theorem dX2_ratio_15 : decode cX2_ratio 15 = .ok (.ireturn, 1) := by decide +kernel
theorem dX2_makeRoomForNew_0 : decode cX2_makeRoomForNew 0 = .ok (.aload_n 0, 1) := by decide +kernel
theorem dX2_makeRoomForNew_1 : decode cX2_makeRoomForNew 1 = .ok (.getfield 14, 3) := by decide +kernel
theorem dX2_makeRoomForNew_4 : decode cX2_makeRoomForNew 4 = .ok (.getfield 41, 3) := by decide +kernel
theorem dX2_makeRoomForNew_7 : decode cX2_makeRoomForNew 7 = .ok (.iconst 0, 1) := by decide +kernel
theorem dX2_makeRoomForNew_8 : decode cX2_makeRoomForNew 8 = .ok (.iaload, 1) := by decide +kernel
theorem dX2_makeRoomForNew_9 : decode cX2_makeRoomForNew 9 = .ok (.istore_n 1, 1) := by decide +kernel
theorem dX2_makeRoomForNew_10 : decode cX2_makeRoomForNew 10 = .ok (.iload_n 1, 1) := by decide +kernel
theorem dX2_makeRoomForNew_11 : decode cX2_makeRoomForNew 11 = .ok (.aload_n 0, 1) := by decide +kernel
theorem dX2_makeRoomForNew_12 : decode cX2_makeRoomForNew 12 = .ok (.getfield 14, 3) := by decide +kernel
theorem dX2_makeRoomForNew_15 : decode cX2_makeRoomForNew 15 = .ok (.getfield 41, 3) := by decide +kernel
theorem dX2_makeRoomForNew_18 : decode cX2_makeRoomForNew 18 = .ok (.iconst 2, 1) := by decide +kernel
theorem dX2_makeRoomForNew_19 : decode cX2_makeRoomForNew 19 = .ok (.iaload, 1) := by decide +kernel
theorem dX2_makeRoomForNew_20 : decode cX2_makeRoomForNew 20 = .ok (.iadd, 1) := by decide +kernel
theorem dX2_makeRoomForNew_21 : decode cX2_makeRoomForNew 21 = .ok (.istore_n 2, 1) := by decide +kernel
theorem dX2_makeRoomForNew_22 : decode cX2_makeRoomForNew 22 = .ok (.iload_n 2, 1) := by decide +kernel
theorem dX2_makeRoomForNew_23 : decode cX2_makeRoomForNew 23 = .ok (.aload_n 0, 1) := by decide +kernel
theorem dX2_makeRoomForNew_24 : decode cX2_makeRoomForNew 24 = .ok (.getfield 14, 3) := by decide +kernel
theorem dX2_makeRoomForNew_27 : decode cX2_makeRoomForNew 27 = .ok (.getfield 41, 3) := by decide +kernel
theorem dX2_makeRoomForNew_30 : decode cX2_makeRoomForNew 30 = .ok (.iconst 1, 1) := by decide +kernel
theorem dX2_makeRoomForNew_31 : decode cX2_makeRoomForNew 31 = .ok (.iaload, 1) := by decide +kernel
theorem dX2_makeRoomForNew_32 : decode cX2_makeRoomForNew 32 = .ok (.iadd, 1) := by decide +kernel
theorem dX2_makeRoomForNew_33 : decode cX2_makeRoomForNew 33 = .ok (.aload_n 0, 1) := by decide +kernel
theorem dX2_makeRoomForNew_34 : decode cX2_makeRoomForNew 34 = .ok (.getfield 14, 3) := by decide +kernel
theorem dX2_makeRoomForNew_37 : decode cX2_makeRoomForNew 37 = .ok (.getfield 41, 3) := by decide +kernel
theorem dX2_makeRoomForNew_40 : decode cX2_makeRoomForNew 40 = .ok (.iconst 3, 1) := by decide +kernel
theorem dX2_makeRoomForNew_41 : decode cX2_makeRoomForNew 41 = .ok (.iaload, 1) := by decide +kernel
theorem dX2_makeRoomForNew_42 : decode cX2_makeRoomForNew 42 = .ok (.iadd, 1) := by decide +kernel
theorem dX2_makeRoomForNew_43 : decode cX2_makeRoomForNew 43 = .ok (.istore_n 3, 1) := by decide +kernel
theorem dX2_makeRoomForNew_44 : decode cX2_makeRoomForNew 44 = .ok (.iload_n 2, 1) := by decide +kernel
theorem dX2_makeRoomForNew_45 : decode cX2_makeRoomForNew 45 = .ok (.aload_n 0, 1) := by decide +kernel
theorem dX2_makeRoomForNew_46 : decode cX2_makeRoomForNew 46 = .ok (.getfield 20, 3) := by decide +kernel
theorem dX2_makeRoomForNew_49 : decode cX2_makeRoomForNew 49 = .ok (.if_icmp .lt 38, 3) := by decide +kernel
theorem dX2_makeRoomForNew_52 : decode cX2_makeRoomForNew 52 = .ok (.iload_n 1, 1) := by decide +kernel
theorem dX2_makeRoomForNew_53 : decode cX2_makeRoomForNew 53 = .ok (.aload_n 0, 1) := by decide +kernel
theorem dX2_makeRoomForNew_54 : decode cX2_makeRoomForNew 54 = .ok (.getfield 20, 3) := by decide +kernel
theorem dX2_makeRoomForNew_57 : decode cX2_makeRoomForNew 57 = .ok (.if_icmp .ge 19, 3) := by decide +kernel
theorem dX2_makeRoomForNew_60 : decode cX2_makeRoomForNew 60 = .ok (.aload_n 0, 1) := by decide +kernel
theorem dX2_makeRoomForNew_61 : decode cX2_makeRoomForNew 61 = .ok (.getfield 14, 3) := by decide +kernel
theorem dX2_makeRoomForNew_64 : decode cX2_makeRoomForNew 64 = .ok (.iconst 2, 1) := by decide +kernel
theorem dX2_makeRoomForNew_65 : decode cX2_makeRoomForNew 65 = .ok (.invokevirtual 63, 3) := by decide +kernel
theorem dX2_makeRoomForNew_68 : decode cX2_makeRoomForNew 68 = .ok (.aload_n 0, 1) := by decide +kernel
theorem dX2_makeRoomForNew_69 : decode cX2_makeRoomForNew 69 = .ok (.iconst 0, 1) := by decide +kernel
theorem dX2_makeRoomForNew_70 : decode cX2_makeRoomForNew 70 = .ok (.invokevirtual 53, 3) := by decide +kernel
theorem dX2_makeRoomForNew_73 : decode cX2_makeRoomForNew 73 = .ok (.goto 45, 3) := by decide +kernel
theorem dX2_makeRoomForNew_76 : decode cX2_makeRoomForNew 76 = .ok (.aload_n 0, 1) := by decide +kernel
theorem dX2_makeRoomForNew_77 : decode cX2_makeRoomForNew 77 = .ok (.getfield 14, 3) := by decide +kernel
theorem dX2_makeRoomForNew_80 : decode cX2_makeRoomForNew 80 = .ok (.iconst 0, 1) := by decide +kernel
theorem dX2_makeRoomForNew_81 : decode cX2_makeRoomForNew 81 = .ok (.invokevirtual 63, 3) := by decide +kernel
theorem dX2_makeRoomForNew_84 : decode cX2_makeRoomForNew 84 = .ok (.goto 34, 3) := by decide +kernel
theorem dX2_makeRoomForNew_87 : decode cX2_makeRoomForNew 87 = .ok (.iload_n 3, 1) := by decide +kernel
theorem dX2_makeRoomForNew_88 : decode cX2_makeRoomForNew 88 = .ok (.aload_n 0, 1) := by decide +kernel
theorem dX2_makeRoomForNew_89 : decode cX2_makeRoomForNew 89 = .ok (.getfield 20, 3) := by decide +kernel
theorem dX2_makeRoomForNew_92 : decode cX2_makeRoomForNew 92 = .ok (.if_icmp .lt 26, 3) := by decide +kernel
theorem dX2_makeRoomForNew_95 : decode cX2_makeRoomForNew 95 = .ok (.iload_n 3, 1) := by decide +kernel
theorem dX2_makeRoomForNew_96 : decode cX2_makeRoomForNew 96 = .ok (.iconst 2, 1) := by decide +kernel
theorem dX2_makeRoomForNew_97 : decode cX2_makeRoomForNew 97 = .ok (.aload_n 0, 1) := by decide +kernel
theorem dX2_makeRoomForNew_98 : decode cX2_makeRoomForNew 98 = .ok (.getfield 20, 3) := by decide +kernel
theorem dX2_makeRoomForNew_101 : decode cX2_makeRoomForNew 101 = .ok (.imul, 1) := by decide +kernel
theorem dX2_makeRoomForNew_102 : decode cX2_makeRoomForNew 102 = .ok (.if_icmp .lt 11, 3) := by decide +kernel
theorem dX2_makeRoomForNew_105 : decode cX2_makeRoomForNew 105 = .ok (.aload_n 0, 1) := by decide +kernel
theorem dX2_makeRoomForNew_106 : decode cX2_makeRoomForNew 106 = .ok (.getfield 14, 3) := by decide +kernel
theorem dX2_makeRoomForNew_109 : decode cX2_makeRoomForNew 109 = .ok (.iconst 3, 1) := by decide +kernel
theorem dX2_makeRoomForNew_110 : decode cX2_makeRoomForNew 110 = .ok (.invokevirtual 63, 3) := by decide +kernel
theorem dX2_makeRoomForNew_113 : decode cX2_makeRoomForNew 113 = .ok (.aload_n 0, 1) := by decide +kernel
theorem dX2_makeRoomForNew_114 : decode cX2_makeRoomForNew 114 = .ok (.iconst 0, 1) := by decide +kernel
theorem dX2_makeRoomForNew_115 : decode cX2_makeRoomForNew 115 = .ok (.invokevirtual 53, 3) := by decide +kernel
theorem dX2_makeRoomForNew_118 : decode cX2_makeRoomForNew 118 = .ok (.return_, 1) := by decide +kernel
theorem dX2_makeRoom_0 : decode cX2_makeRoom 0 = .ok (.aload_n 0, 1) := by decide +kernel
theorem dX2_makeRoom_1 : decode cX2_makeRoom 1 = .ok (.getfield 14, 3) := by decide +kernel
theorem dX2_makeRoom_4 : decode cX2_makeRoom 4 = .ok (.getfield 41, 3) := by decide +kernel
theorem dX2_makeRoom_7 : decode cX2_makeRoom 7 = .ok (.iconst 0, 1) := by decide +kernel
theorem dX2_makeRoom_8 : decode cX2_makeRoom 8 = .ok (.iaload, 1) := by decide +kernel
theorem dX2_makeRoom_9 : decode cX2_makeRoom 9 = .ok (.istore_n 2, 1) := by decide +kernel
theorem dX2_makeRoom_10 : decode cX2_makeRoom 10 = .ok (.iload_n 2, 1) := by decide +kernel
theorem dX2_makeRoom_11 : decode cX2_makeRoom 11 = .ok (.ifCond .le 27, 3) := by decide +kernel
theorem dX2_makeRoom_14 : decode cX2_makeRoom 14 = .ok (.iload_n 2, 1) := by decide +kernel
theorem dX2_makeRoom_15 : decode cX2_makeRoom 15 = .ok (.aload_n 0, 1) := by decide +kernel
theorem dX2_makeRoom_16 : decode cX2_makeRoom 16 = .ok (.getfield 24, 3) := by decide +kernel
theorem dX2_makeRoom_19 : decode cX2_makeRoom 19 = .ok (.if_icmp .gt 15, 3) := by decide +kernel
theorem dX2_makeRoom_22 : decode cX2_makeRoom 22 = .ok (.iload_n 2, 1) := by decide +kernel
theorem dX2_makeRoom_23 : decode cX2_makeRoom 23 = .ok (.aload_n 0, 1) := by decide +kernel
theorem dX2_makeRoom_24 : decode cX2_makeRoom 24 = .ok (.getfield 24, 3) := by decide +kernel
theorem dX2_makeRoom_27 : decode cX2_makeRoom 27 = .ok (.if_icmp .ne 11, 3) := by decide +kernel
theorem dX2_makeRoom_30 : decode cX2_makeRoom 30 = .ok (.iload_n 1, 1) := by decide +kernel
theorem dX2_makeRoom_31 : decode cX2_makeRoom 31 = .ok (.ifCond .eq 7, 3) := by decide +kernel
theorem dX2_makeRoom_34 : decode cX2_makeRoom 34 = .ok (.iconst 1, 1) := by decide +kernel
theorem dX2_makeRoom_35 : decode cX2_makeRoom 35 = .ok (.goto 4, 3) := by decide +kernel
theorem dX2_makeRoom_38 : decode cX2_makeRoom 38 = .ok (.iconst 0, 1) := by decide +kernel
theorem dX2_makeRoom_39 : decode cX2_makeRoom 39 = .ok (.istore_n 3, 1) := by decide +kernel
theorem dX2_makeRoom_40 : decode cX2_makeRoom 40 = .ok (.iload_n 3, 1) := by decide +kernel
theorem dX2_makeRoom_41 : decode cX2_makeRoom 41 = .ok (.ifCond .ne 15, 3) := by decide +kernel
theorem dX2_makeRoom_44 : decode cX2_makeRoom 44 = .ok (.aload_n 0, 1) := by decide +kernel
theorem dX2_makeRoom_45 : decode cX2_makeRoom 45 = .ok (.getfield 14, 3) := by decide +kernel
theorem dX2_makeRoom_48 : decode cX2_makeRoom 48 = .ok (.getfield 41, 3) := by decide +kernel
theorem dX2_makeRoom_51 : decode cX2_makeRoom 51 = .ok (.iconst 1, 1) := by decide +kernel
theorem dX2_makeRoom_52 : decode cX2_makeRoom 52 = .ok (.iaload, 1) := by decide +kernel
theorem dX2_makeRoom_53 : decode cX2_makeRoom 53 = .ok (.ifCond .ne 15, 3) := by decide +kernel
theorem dX2_makeRoom_56 : decode cX2_makeRoom 56 = .ok (.aload_n 0, 1) := by decide +kernel
theorem dX2_makeRoom_57 : decode cX2_makeRoom 57 = .ok (.getfield 14, 3) := by decide +kernel
theorem dX2_makeRoom_60 : decode cX2_makeRoom 60 = .ok (.iconst 0, 1) := by decide +kernel
theorem dX2_makeRoom_61 : decode cX2_makeRoom 61 = .ok (.iconst 2, 1) := by decide +kernel
theorem dX2_makeRoom_62 : decode cX2_makeRoom 62 = .ok (.invokevirtual 66, 3) := by decide +kernel
theorem dX2_makeRoom_65 : decode cX2_makeRoom 65 = .ok (.goto 12, 3) := by decide +kernel
theorem dX2_makeRoom_68 : decode cX2_makeRoom 68 = .ok (.aload_n 0, 1) := by decide +kernel
theorem dX2_makeRoom_69 : decode cX2_makeRoom 69 = .ok (.getfield 14, 3) := by decide +kernel
theorem dX2_makeRoom_72 : decode cX2_makeRoom 72 = .ok (.iconst 1, 1) := by decide +kernel
theorem dX2_makeRoom_73 : decode cX2_makeRoom 73 = .ok (.iconst 3, 1) := by decide +kernel
theorem dX2_makeRoom_74 : decode cX2_makeRoom 74 = .ok (.invokevirtual 66, 3) := by decide +kernel
theorem dX2_makeRoom_77 : decode cX2_makeRoom 77 = .ok (.return_, 1) := by decide +kernel
theorem dX3_init_0 : decode cX3_init 0 = .ok (.aload_n 0, 1) := by decide +kernel
theorem dX3_init_1 : decode cX3_init 1 = .ok (.invokespecial 3, 3) := by decide +kernel
theorem dX3_init_4 : decode cX3_init 4 = .ok (.aload_n 0, 1) := by decide +kernel
theorem dX3_init_5 : decode cX3_init 5 = .ok (.bipush 6, 2) := by decide +kernel
theorem dX3_init_7 : decode cX3_init 7 = .ok (.anewarray 11, 3) := by decide +kernel
theorem dX3_init_10 : decode cX3_init 10 = .ok (.putfield 13, 3) := by decide +kernel
theorem dX3_init_13 : decode cX3_init 13 = .ok (.aload_n 0, 1) := by decide +kernel
theorem dX3_init_14 : decode cX3_init 14 = .ok (.sipush 300, 3) := by decide +kernel
theorem dX3_init_17 : decode cX3_init 17 = .ok (.newarray .int, 2) := by decide +kernel
theorem dX3_init_19 : decode cX3_init 19 = .ok (.putfield 17, 3) := by decide +kernel
theorem dX3_init_22 : decode cX3_init 22 = .ok (.aload_n 0, 1) := by decide +kernel
theorem dX3_init_23 : decode cX3_init 23 = .ok (.bipush 100, 2) := by decide +kernel
theorem dX3_init_25 : decode cX3_init 25 = .ok (.newarray .int, 2) := by decide +kernel
theorem dX3_init_27 : decode cX3_init 27 = .ok (.putfield 21, 3) := by decide +kernel
theorem dX3_init_30 : decode cX3_init 30 = .ok (.aload_n 0, 1) := by decide +kernel
theorem dX3_init_31 : decode cX3_init 31 = .ok (.bipush 30, 2) := by decide +kernel
theorem dX3_init_33 : decode cX3_init 33 = .ok (.newarray .int, 2) := by decide +kernel
theorem dX3_init_35 : decode cX3_init 35 = .ok (.putfield 24, 3) := by decide +kernel
theorem dX3_init_38 : decode cX3_init 38 = .ok (.aload_n 0, 1) := by decide +kernel
theorem dX3_init_39 : decode cX3_init 39 = .ok (.iconst 0, 1) := by decide +kernel
theorem dX3_init_40 : decode cX3_init 40 = .ok (.putfield 27, 3) := by decide +kernel
theorem dX3_init_43 : decode cX3_init 43 = .ok (.aload_n 0, 1) := by decide +kernel
theorem dX3_init_44 : decode cX3_init 44 = .ok (.getfield 13, 3) := by decide +kernel
theorem dX3_init_47 : decode cX3_init 47 = .ok (.iconst 0, 1) := by decide +kernel
theorem dX3_init_48 : decode cX3_init 48 = .ok (.new 31, 3) := by decide +kernel
theorem dX3_init_51 : decode cX3_init 51 = .ok (.dup, 1) := by decide +kernel
theorem dX3_init_52 : decode cX3_init 52 = .ok (.iconst 0, 1) := by decide +kernel
theorem dX3_init_53 : decode cX3_init 53 = .ok (.invokespecial 33, 3) := by decide +kernel
theorem dX3_init_56 : decode cX3_init 56 = .ok (.aastore, 1) := by decide +kernel
theorem dX3_init_57 : decode cX3_init 57 = .ok (.aload_n 0, 1) := by decide +kernel
theorem dX3_init_58 : decode cX3_init 58 = .ok (.getfield 13, 3) := by decide +kernel
theorem dX3_init_61 : decode cX3_init 61 = .ok (.iconst 1, 1) := by decide +kernel
theorem dX3_init_62 : decode cX3_init 62 = .ok (.new 31, 3) := by decide +kernel
theorem dX3_init_65 : decode cX3_init 65 = .ok (.dup, 1) := by decide +kernel
theorem dX3_init_66 : decode cX3_init 66 = .ok (.iconst 1, 1) := by decide +kernel
theorem dX3_init_67 : decode cX3_init 67 = .ok (.invokespecial 33, 3) := by decide +kernel
theorem dX3_init_70 : decode cX3_init 70 = .ok (.aastore, 1) := by decide +kernel
theorem dX3_init_71 : decode cX3_init 71 = .ok (.aload_n 0, 1) := by decide +kernel
theorem dX3_init_72 : decode cX3_init 72 = .ok (.getfield 13, 3) := by decide +kernel
theorem dX3_init_75 : decode cX3_init 75 = .ok (.iconst 2, 1) := by decide +kernel
theorem dX3_init_76 : decode cX3_init 76 = .ok (.new 31, 3) := by decide +kernel
theorem dX3_init_79 : decode cX3_init 79 = .ok (.dup, 1) := by decide +kernel
theorem dX3_init_80 : decode cX3_init 80 = .ok (.iconst 2, 1) := by decide +kernel
theorem dX3_init_81 : decode cX3_init 81 = .ok (.invokespecial 33, 3) := by decide +kernel
theorem dX3_init_84 : decode cX3_init 84 = .ok (.aastore, 1) := by decide +kernel
theorem dX3_init_85 : decode cX3_init 85 = .ok (.aload_n 0, 1) := by decide +kernel
theorem dX3_init_86 : decode cX3_init 86 = .ok (.getfield 13, 3) := by decide +kernel
theorem dX3_init_89 : decode cX3_init 89 = .ok (.iconst 3, 1) := by decide +kernel
theorem dX3_init_90 : decode cX3_init 90 = .ok (.new 31, 3) := by decide +kernel
theorem dX3_init_93 : decode cX3_init 93 = .ok (.dup, 1) := by decide +kernel
theorem dX3_init_94 : decode cX3_init 94 = .ok (.iconst 3, 1) := by decide +kernel
theorem dX3_init_95 : decode cX3_init 95 = .ok (.invokespecial 33, 3) := by decide +kernel
theorem dX3_init_98 : decode cX3_init 98 = .ok (.aastore, 1) := by decide +kernel
theorem dX3_init_99 : decode cX3_init 99 = .ok (.aload_n 0, 1) := by decide +kernel
theorem dX3_init_100 : decode cX3_init 100 = .ok (.getfield 13, 3) := by decide +kernel
theorem dX3_init_103 : decode cX3_init 103 = .ok (.iconst 4, 1) := by decide +kernel
theorem dX3_init_104 : decode cX3_init 104 = .ok (.new 31, 3) := by decide +kernel
theorem dX3_init_107 : decode cX3_init 107 = .ok (.dup, 1) := by decide +kernel
theorem dX3_init_108 : decode cX3_init 108 = .ok (.iconst 4, 1) := by decide +kernel
theorem dX3_init_109 : decode cX3_init 109 = .ok (.invokespecial 33, 3) := by decide +kernel
theorem dX3_init_112 : decode cX3_init 112 = .ok (.aastore, 1) := by decide +kernel
theorem dX3_init_113 : decode cX3_init 113 = .ok (.aload_n 0, 1) := by decide +kernel
theorem dX3_init_114 : decode cX3_init 114 = .ok (.getfield 13, 3) := by decide +kernel
theorem dX3_init_117 : decode cX3_init 117 = .ok (.iconst 5, 1) := by decide +kernel
theorem dX3_init_118 : decode cX3_init 118 = .ok (.new 36, 3) := by decide +kernel
theorem dX3_init_121 : decode cX3_init 121 = .ok (.dup, 1) := by decide +kernel
theorem dX3_init_122 : decode cX3_init 122 = .ok (.invokespecial 38, 3) := by decide +kernel
theorem dX3_init_125 : decode cX3_init 125 = .ok (.aastore, 1) := by decide +kernel
theorem dX3_init_126 : decode cX3_init 126 = .ok (.return_, 1) := by decide +kernel
theorem dX3_play_0 : decode cX3_play 0 = .ok (.aload_n 0, 1) := by decide +kernel
theorem dX3_play_1 : decode cX3_play 1 = .ok (.getfield 13, 3) := by decide +kernel
theorem dX3_play_4 : decode cX3_play 4 = .ok (.iload_n 1, 1) := by decide +kernel
theorem dX3_play_5 : decode cX3_play 5 = .ok (.aaload, 1) := by decide +kernel
theorem dX3_play_6 : decode cX3_play 6 = .ok (.astore 6, 2) := by decide +kernel
theorem dX3_play_8 : decode cX3_play 8 = .ok (.aload_n 0, 1) := by decide +kernel
theorem dX3_play_9 : decode cX3_play 9 = .ok (.aload_n 3, 1) := by decide +kernel
theorem dX3_play_10 : decode cX3_play 10 = .ok (.iload 4, 2) := by decide +kernel
theorem dX3_play_12 : decode cX3_play 12 = .ok (.iload 5, 2) := by decide +kernel
theorem dX3_play_14 : decode cX3_play 14 = .ok (.invokevirtual 39, 3) := by decide +kernel
theorem dX3_play_17 : decode cX3_play 17 = .ok (.aload 6, 2) := by decide +kernel
theorem dX3_play_19 : decode cX3_play 19 = .ok (.iload_n 2, 1) := by decide +kernel
theorem dX3_play_20 : decode cX3_play 20 = .ok (.invokevirtual 43, 3) := by decide +kernel
theorem dX3_play_23 : decode cX3_play 23 = .ok (.iconst 0, 1) := by decide +kernel
theorem dX3_play_24 : decode cX3_play 24 = .ok (.istore 7, 2) := by decide +kernel
theorem dX3_play_26 : decode cX3_play 26 = .ok (.iload 4, 2) := by decide +kernel
theorem dX3_play_28 : decode cX3_play 28 = .ok (.istore 8, 2) := by decide +kernel
theorem dX3_play_30 : decode cX3_play 30 = .ok (.iload 8, 2) := by decide +kernel
theorem dX3_play_32 : decode cX3_play 32 = .ok (.iload 5, 2) := by decide +kernel
theorem dX3_play_34 : decode cX3_play 34 = .ok (.if_icmp .ge 35, 3) := by decide +kernel
theorem dX3_play_37 : decode cX3_play 37 = .ok (.aload 6, 2) := by decide +kernel
theorem dX3_play_39 : decode cX3_play 39 = .ok (.aload_n 3, 1) := by decide +kernel
theorem dX3_play_40 : decode cX3_play 40 = .ok (.iload 8, 2) := by decide +kernel
theorem dX3_play_42 : decode cX3_play 42 = .ok (.invokevirtual 46, 3) := by decide +kernel
theorem dX3_play_45 : decode cX3_play 45 = .ok (.iload 8, 2) := by decide +kernel
theorem dX3_play_47 : decode cX3_play 47 = .ok (.aload_n 0, 1) := by decide +kernel
theorem dX3_play_48 : decode cX3_play 48 = .ok (.getfield 17, 3) := by decide +kernel
theorem dX3_play_51 : decode cX3_play 51 = .ok (.iload 8, 2) := by decide +kernel
theorem dX3_play_53 : decode cX3_play 53 = .ok (.iaload, 1) := by decide +kernel
theorem dX3_play_54 : decode cX3_play 54 = .ok (.invokevirtual 52, 3) := by decide +kernel
theorem dX3_play_57 : decode cX3_play 57 = .ok (.ifCond .eq 6, 3) := by decide +kernel
theorem dX3_play_60 : decode cX3_play 60 = .ok (.iinc 7 1, 3) := by decide +kernel
theorem dX3_play_63 : decode cX3_play 63 = .ok (.iinc 8 1, 3) := by decide +kernel
theorem dX3_play_66 : decode cX3_play 66 = .ok (.goto (-36), 3) := by decide +kernel
theorem dX3_play_69 : decode cX3_play 69 = .ok (.aload_n 0, 1) := by decide +kernel
theorem dX3_play_70 : decode cX3_play 70 = .ok (.aload 6, 2) := by decide +kernel
theorem dX3_play_72 : decode cX3_play 72 = .ok (.invokevirtual 56, 3) := by decide +kernel
theorem dX3_play_75 : decode cX3_play 75 = .ok (.iload 7, 2) := by decide +kernel
theorem dX3_play_77 : decode cX3_play 77 = .ok (.ireturn, 1) := by decide +kernel
theorem dX3_lookAhead_0 : decode cX3_lookAhead 0 = .ok (.aload_n 0, 1) := by decide +kernel
theorem dX3_lookAhead_1 : decode cX3_lookAhead 1 = .ok (.getfield 21, 3) := by decide +kernel
theorem dX3_lookAhead_4 : decode cX3_lookAhead 4 = .ok (.sipush 300, 3) := by decide +kernel
theorem dX3_lookAhead_7 : decode cX3_lookAhead 7 = .ok (.invokestatic 60, 3) := by decide +kernel
theorem dX3_lookAhead_10 : decode cX3_lookAhead 10 = .ok (.iload_n 3, 1) := by decide +kernel
theorem dX3_lookAhead_11 : decode cX3_lookAhead 11 = .ok (.iconst 1, 1) := by decide +kernel
theorem dX3_lookAhead_12 : decode cX3_lookAhead 12 = .ok (.isub, 1) := by decide +kernel
theorem dX3_lookAhead_13 : decode cX3_lookAhead 13 = .ok (.istore 4, 2) := by decide +kernel
theorem dX3_lookAhead_15 : decode cX3_lookAhead 15 = .ok (.iload 4, 2) := by decide +kernel
theorem dX3_lookAhead_17 : decode cX3_lookAhead 17 = .ok (.iload_n 2, 1) := by decide +kernel
theorem dX3_lookAhead_18 : decode cX3_lookAhead 18 = .ok (.if_icmp .lt 40, 3) := by decide +kernel
theorem dX3_lookAhead_21 : decode cX3_lookAhead 21 = .ok (.aload_n 1, 1) := by decide +kernel
theorem dX3_lookAhead_22 : decode cX3_lookAhead 22 = .ok (.iload 4, 2) := by decide +kernel
theorem dX3_lookAhead_24 : decode cX3_lookAhead 24 = .ok (.invokevirtual 46, 3) := by decide +kernel
theorem dX3_lookAhead_27 : decode cX3_lookAhead 27 = .ok (.istore 5, 2) := by decide +kernel
theorem dX3_lookAhead_29 : decode cX3_lookAhead 29 = .ok (.aload_n 0, 1) := by decide +kernel
theorem dX3_lookAhead_30 : decode cX3_lookAhead 30 = .ok (.getfield 17, 3) := by decide +kernel
theorem dX3_lookAhead_33 : decode cX3_lookAhead 33 = .ok (.iload 4, 2) := by decide +kernel
theorem dX3_lookAhead_35 : decode cX3_lookAhead 35 = .ok (.aload_n 0, 1) := by decide +kernel
theorem dX3_lookAhead_36 : decode cX3_lookAhead 36 = .ok (.getfield 21, 3) := by decide +kernel
theorem dX3_lookAhead_39 : decode cX3_lookAhead 39 = .ok (.iload 5, 2) := by decide +kernel
theorem dX3_lookAhead_41 : decode cX3_lookAhead 41 = .ok (.iaload, 1) := by decide +kernel
theorem dX3_lookAhead_42 : decode cX3_lookAhead 42 = .ok (.iastore, 1) := by decide +kernel
theorem dX3_lookAhead_43 : decode cX3_lookAhead 43 = .ok (.aload_n 0, 1) := by decide +kernel
theorem dX3_lookAhead_44 : decode cX3_lookAhead 44 = .ok (.getfield 21, 3) := by decide +kernel
theorem dX3_lookAhead_47 : decode cX3_lookAhead 47 = .ok (.iload 5, 2) := by decide +kernel
theorem dX3_lookAhead_49 : decode cX3_lookAhead 49 = .ok (.iload 4, 2) := by decide +kernel
theorem dX3_lookAhead_51 : decode cX3_lookAhead 51 = .ok (.iastore, 1) := by decide +kernel
theorem dX3_lookAhead_52 : decode cX3_lookAhead 52 = .ok (.iinc 4 (-1), 3) := by decide +kernel
theorem dX3_lookAhead_55 : decode cX3_lookAhead 55 = .ok (.goto (-40), 3) := by decide +kernel
theorem dX3_lookAhead_58 : decode cX3_lookAhead 58 = .ok (.return_, 1) := by decide +kernel
theorem dX3_keepFrom_0 : decode cX3_keepFrom 0 = .ok (.aload_n 0, 1) := by decide +kernel
theorem dX3_keepFrom_1 : decode cX3_keepFrom 1 = .ok (.iconst 0, 1) := by decide +kernel
theorem dX3_keepFrom_2 : decode cX3_keepFrom 2 = .ok (.putfield 27, 3) := by decide +kernel
theorem dX3_keepFrom_5 : decode cX3_keepFrom 5 = .ok (.iconst 0, 1) := by decide +kernel
theorem dX3_keepFrom_6 : decode cX3_keepFrom 6 = .ok (.istore_n 2, 1) := by decide +kernel
theorem dX3_keepFrom_7 : decode cX3_keepFrom 7 = .ok (.iload_n 2, 1) := by decide +kernel
theorem dX3_keepFrom_8 : decode cX3_keepFrom 8 = .ok (.bipush 100, 2) := by decide +kernel
theorem dX3_keepFrom_10 : decode cX3_keepFrom 10 = .ok (.if_icmp .ge 46, 3) := by decide +kernel
theorem dX3_keepFrom_13 : decode cX3_keepFrom 13 = .ok (.aload_n 0, 1) := by decide +kernel
theorem dX3_keepFrom_14 : decode cX3_keepFrom 14 = .ok (.getfield 27, 3) := by decide +kernel
theorem dX3_keepFrom_17 : decode cX3_keepFrom 17 = .ok (.bipush 30, 2) := by decide +kernel
theorem dX3_keepFrom_19 : decode cX3_keepFrom 19 = .ok (.if_icmp .ge 37, 3) := by decide +kernel
theorem dX3_keepFrom_22 : decode cX3_keepFrom 22 = .ok (.aload_n 1, 1) := by decide +kernel
theorem dX3_keepFrom_23 : decode cX3_keepFrom 23 = .ok (.iload_n 2, 1) := by decide +kernel
theorem dX3_keepFrom_24 : decode cX3_keepFrom 24 = .ok (.invokevirtual 66, 3) := by decide +kernel
theorem dX3_keepFrom_27 : decode cX3_keepFrom 27 = .ok (.ifCond .eq 23, 3) := by decide +kernel
theorem dX3_keepFrom_30 : decode cX3_keepFrom 30 = .ok (.aload_n 0, 1) := by decide +kernel
theorem dX3_keepFrom_31 : decode cX3_keepFrom 31 = .ok (.getfield 24, 3) := by decide +kernel
theorem dX3_keepFrom_34 : decode cX3_keepFrom 34 = .ok (.aload_n 0, 1) := by decide +kernel
theorem dX3_keepFrom_35 : decode cX3_keepFrom 35 = .ok (.getfield 27, 3) := by decide +kernel
theorem dX3_keepFrom_38 : decode cX3_keepFrom 38 = .ok (.iload_n 2, 1) := by decide +kernel
theorem dX3_keepFrom_39 : decode cX3_keepFrom 39 = .ok (.iastore, 1) := by decide +kernel
theorem dX3_keepFrom_40 : decode cX3_keepFrom 40 = .ok (.aload_n 0, 1) := by decide +kernel
theorem dX3_keepFrom_41 : decode cX3_keepFrom 41 = .ok (.dup, 1) := by decide +kernel
theorem dX3_keepFrom_42 : decode cX3_keepFrom 42 = .ok (.getfield 27, 3) := by decide +kernel
theorem dX3_keepFrom_45 : decode cX3_keepFrom 45 = .ok (.iconst 1, 1) := by decide +kernel
theorem dX3_keepFrom_46 : decode cX3_keepFrom 46 = .ok (.iadd, 1) := by decide +kernel
theorem dX3_keepFrom_47 : decode cX3_keepFrom 47 = .ok (.putfield 27, 3) := by decide +kernel
theorem dX3_keepFrom_50 : decode cX3_keepFrom 50 = .ok (.iinc 2 1, 3) := by decide +kernel
theorem dX3_keepFrom_53 : decode cX3_keepFrom 53 = .ok (.goto (-46), 3) := by decide +kernel
theorem dX3_keepFrom_56 : decode cX3_keepFrom 56 = .ok (.return_, 1) := by decide +kernel
theorem dX3_keptAt_0 : decode cX3_keptAt 0 = .ok (.iload_n 1, 1) := by decide +kernel
theorem dX3_keptAt_1 : decode cX3_keptAt 1 = .ok (.ifCond .lt 20, 3) := by decide +kernel
theorem dX3_keptAt_4 : decode cX3_keptAt 4 = .ok (.iload_n 1, 1) := by decide +kernel
theorem dX3_keptAt_5 : decode cX3_keptAt 5 = .ok (.aload_n 0, 1) := by decide +kernel
theorem dX3_keptAt_6 : decode cX3_keptAt 6 = .ok (.getfield 27, 3) := by decide +kernel
theorem dX3_keptAt_9 : decode cX3_keptAt 9 = .ok (.if_icmp .ge 12, 3) := by decide +kernel
theorem dX3_keptAt_12 : decode cX3_keptAt 12 = .ok (.aload_n 0, 1) := by decide +kernel
theorem dX3_keptAt_13 : decode cX3_keptAt 13 = .ok (.getfield 24, 3) := by decide +kernel
theorem dX3_keptAt_16 : decode cX3_keptAt 16 = .ok (.iload_n 1, 1) := by decide +kernel
theorem dX3_keptAt_17 : decode cX3_keptAt 17 = .ok (.iaload, 1) := by decide +kernel
theorem dX3_keptAt_18 : decode cX3_keptAt 18 = .ok (.goto 4, 3) := by decide +kernel
theorem dX3_keptAt_21 : decode cX3_keptAt 21 = .ok (.iconst (-1), 1) := by decide +kernel
theorem dX3_keptAt_22 : decode cX3_keptAt 22 = .ok (.ireturn, 1) := by decide +kernel
theorem dX4_init_0 : decode cX4_init 0 = .ok (.aload_n 0, 1) := by decide +kernel
theorem dX4_init_1 : decode cX4_init 1 = .ok (.invokespecial 1, 3) := by decide +kernel
theorem dX4_init_4 : decode cX4_init 4 = .ok (.return_, 1) := by decide +kernel
theorem dX5_init_0 : decode cX5_init 0 = .ok (.aload_n 0, 1) := by decide +kernel
theorem dX5_init_1 : decode cX5_init 1 = .ok (.invokespecial 3, 3) := by decide +kernel
theorem dX5_init_4 : decode cX5_init 4 = .ok (.aload_n 0, 1) := by decide +kernel
theorem dX5_init_5 : decode cX5_init 5 = .ok (.bipush 100, 2) := by decide +kernel
theorem dX5_init_7 : decode cX5_init 7 = .ok (.newarray .int, 2) := by decide +kernel
theorem dX5_init_9 : decode cX5_init 9 = .ok (.putfield 9, 3) := by decide +kernel
theorem dX5_init_12 : decode cX5_init 12 = .ok (.aload_n 0, 1) := by decide +kernel
theorem dX5_init_13 : decode cX5_init 13 = .ok (.bipush 100, 2) := by decide +kernel
theorem dX5_init_15 : decode cX5_init 15 = .ok (.newarray .int, 2) := by decide +kernel
theorem dX5_init_17 : decode cX5_init 17 = .ok (.putfield 15, 3) := by decide +kernel
theorem dX5_init_20 : decode cX5_init 20 = .ok (.iconst 1, 1) := by decide +kernel
theorem dX5_init_21 : decode cX5_init 21 = .ok (.iload_n 1, 1) := by decide +kernel
theorem dX5_init_22 : decode cX5_init 22 = .ok (.invokestatic 18, 3) := by decide +kernel
theorem dX5_init_25 : decode cX5_init 25 = .ok (.istore_n 2, 1) := by decide +kernel
theorem dX5_init_26 : decode cX5_init 26 = .ok (.aload_n 0, 1) := by decide +kernel
theorem dX5_init_27 : decode cX5_init 27 = .ok (.iload_n 2, 1) := by decide +kernel
theorem dX5_init_28 : decode cX5_init 28 = .ok (.bipush 100, 2) := by decide +kernel
theorem dX5_init_30 : decode cX5_init 30 = .ok (.multianewarray 24 2, 4) := by decide +kernel
theorem dX5_init_34 : decode cX5_init 34 = .ok (.putfield 26, 3) := by decide +kernel
theorem dX5_init_37 : decode cX5_init 37 = .ok (.aload_n 0, 1) := by decide +kernel
theorem dX5_init_38 : decode cX5_init 38 = .ok (.iload_n 2, 1) := by decide +kernel
theorem dX5_init_39 : decode cX5_init 39 = .ok (.newarray .int, 2) := by decide +kernel
theorem dX5_init_41 : decode cX5_init 41 = .ok (.putfield 29, 3) := by decide +kernel
theorem dX5_init_44 : decode cX5_init 44 = .ok (.aload_n 0, 1) := by decide +kernel
theorem dX5_init_45 : decode cX5_init 45 = .ok (.iload_n 2, 1) := by decide +kernel
theorem dX5_init_46 : decode cX5_init 46 = .ok (.newarray .int, 2) := by decide +kernel
theorem dX5_init_48 : decode cX5_init 48 = .ok (.putfield 32, 3) := by decide +kernel
theorem dX5_init_51 : decode cX5_init 51 = .ok (.aload_n 0, 1) := by decide +kernel
theorem dX5_init_52 : decode cX5_init 52 = .ok (.getfield 9, 3) := by decide +kernel
theorem dX5_init_55 : decode cX5_init 55 = .ok (.iconst (-1), 1) := by decide +kernel
theorem dX5_init_56 : decode cX5_init 56 = .ok (.invokestatic 35, 3) := by decide +kernel
theorem dX5_init_59 : decode cX5_init 59 = .ok (.aload_n 0, 1) := by decide +kernel
theorem dX5_init_60 : decode cX5_init 60 = .ok (.getfield 15, 3) := by decide +kernel
theorem dX5_init_63 : decode cX5_init 63 = .ok (.iconst 1, 1) := by decide +kernel
theorem dX5_init_64 : decode cX5_init 64 = .ok (.invokestatic 35, 3) := by decide +kernel
theorem dX5_init_67 : decode cX5_init 67 = .ok (.return_, 1) := by decide +kernel
theorem dX5_clear_0 : decode cX5_clear 0 = .ok (.aload_n 0, 1) := by decide +kernel
theorem dX5_clear_1 : decode cX5_clear 1 = .ok (.getfield 29, 3) := by decide +kernel
theorem dX5_clear_4 : decode cX5_clear 4 = .ok (.iconst 0, 1) := by decide +kernel
theorem dX5_clear_5 : decode cX5_clear 5 = .ok (.invokestatic 35, 3) := by decide +kernel
theorem dX5_clear_8 : decode cX5_clear 8 = .ok (.aload_n 0, 1) := by decide +kernel
theorem dX5_clear_9 : decode cX5_clear 9 = .ok (.getfield 32, 3) := by decide +kernel
theorem dX5_clear_12 : decode cX5_clear 12 = .ok (.iconst 0, 1) := by decide +kernel
theorem dX5_clear_13 : decode cX5_clear 13 = .ok (.invokestatic 35, 3) := by decide +kernel
theorem dX5_clear_16 : decode cX5_clear 16 = .ok (.aload_n 0, 1) := by decide +kernel
theorem dX5_clear_17 : decode cX5_clear 17 = .ok (.getfield 9, 3) := by decide +kernel
theorem dX5_clear_20 : decode cX5_clear 20 = .ok (.iconst (-1), 1) := by decide +kernel
theorem dX5_clear_21 : decode cX5_clear 21 = .ok (.invokestatic 35, 3) := by decide +kernel
theorem dX5_clear_24 : decode cX5_clear 24 = .ok (.return_, 1) := by decide +kernel
theorem dX5_keyAt_0 : decode cX5_keyAt 0 = .ok (.iload_n 2, 1) := by decide +kernel
theorem dX5_keyAt_1 : decode cX5_keyAt 1 = .ok (.ifCond .lt 24, 3) := by decide +kernel
theorem dX5_keyAt_4 : decode cX5_keyAt 4 = .ok (.iload_n 2, 1) := by decide +kernel
theorem dX5_keyAt_5 : decode cX5_keyAt 5 = .ok (.aload_n 0, 1) := by decide +kernel
theorem dX5_keyAt_6 : decode cX5_keyAt 6 = .ok (.getfield 29, 3) := by decide +kernel
theorem dX5_keyAt_9 : decode cX5_keyAt 9 = .ok (.iload_n 1, 1) := by decide +kernel
theorem dX5_keyAt_10 : decode cX5_keyAt 10 = .ok (.iaload, 1) := by decide +kernel
theorem dX5_keyAt_11 : decode cX5_keyAt 11 = .ok (.if_icmp .ge 14, 3) := by decide +kernel
theorem dX5_keyAt_14 : decode cX5_keyAt 14 = .ok (.aload_n 0, 1) := by decide +kernel
theorem dX5_keyAt_15 : decode cX5_keyAt 15 = .ok (.getfield 26, 3) := by decide +kernel
theorem dX5_keyAt_18 : decode cX5_keyAt 18 = .ok (.iload_n 1, 1) := by decide +kernel
theorem dX5_keyAt_19 : decode cX5_keyAt 19 = .ok (.aaload, 1) := by decide +kernel
theorem dX5_keyAt_20 : decode cX5_keyAt 20 = .ok (.iload_n 2, 1) := by decide +kernel
theorem dX5_keyAt_21 : decode cX5_keyAt 21 = .ok (.iaload, 1) := by decide +kernel
theorem dX5_keyAt_22 : decode cX5_keyAt 22 = .ok (.goto 4, 3) := by decide +kernel
theorem dX5_keyAt_25 : decode cX5_keyAt 25 = .ok (.iconst (-1), 1) := by decide +kernel
theorem dX5_keyAt_26 : decode cX5_keyAt 26 = .ok (.ireturn, 1) := by decide +kernel
theorem dX5_takeOut_0 : decode cX5_takeOut 0 = .ok (.aload_n 0, 1) := by decide +kernel
theorem dX5_takeOut_1 : decode cX5_takeOut 1 = .ok (.getfield 9, 3) := by decide +kernel
theorem dX5_takeOut_4 : decode cX5_takeOut 4 = .ok (.iload_n 1, 1) := by decide +kernel
theorem dX5_takeOut_5 : decode cX5_takeOut 5 = .ok (.iaload, 1) := by decide +kernel
theorem dX5_takeOut_6 : decode cX5_takeOut 6 = .ok (.istore_n 2, 1) := by decide +kernel
theorem dX5_takeOut_7 : decode cX5_takeOut 7 = .ok (.iload_n 2, 1) := by decide +kernel
theorem dX5_takeOut_8 : decode cX5_takeOut 8 = .ok (.iconst (-1), 1) := by decide +kernel
theorem dX5_takeOut_9 : decode cX5_takeOut 9 = .ok (.if_icmp .ne 4, 3) := by decide +kernel
theorem dX5_takeOut_12 : decode cX5_takeOut 12 = .ok (.return_, 1) := by decide +kernel
theorem dX5_takeOut_13 : decode cX5_takeOut 13 = .ok (.aload_n 0, 1) := by decide +kernel
theorem dX5_takeOut_14 : decode cX5_takeOut 14 = .ok (.getfield 26, 3) := by decide +kernel
theorem dX5_takeOut_17 : decode cX5_takeOut 17 = .ok (.iload_n 2, 1) := by decide +kernel
theorem dX5_takeOut_18 : decode cX5_takeOut 18 = .ok (.aaload, 1) := by decide +kernel
theorem dX5_takeOut_19 : decode cX5_takeOut 19 = .ok (.astore_n 3, 1) := by decide +kernel
theorem dX5_takeOut_20 : decode cX5_takeOut 20 = .ok (.aload_n 0, 1) := by decide +kernel
theorem dX5_takeOut_21 : decode cX5_takeOut 21 = .ok (.getfield 29, 3) := by decide +kernel
theorem dX5_takeOut_24 : decode cX5_takeOut 24 = .ok (.iload_n 2, 1) := by decide +kernel
theorem dX5_takeOut_25 : decode cX5_takeOut 25 = .ok (.iaload, 1) := by decide +kernel
theorem dX5_takeOut_26 : decode cX5_takeOut 26 = .ok (.iconst 1, 1) := by decide +kernel
theorem dX5_takeOut_27 : decode cX5_takeOut 27 = .ok (.isub, 1) := by decide +kernel
theorem dX5_takeOut_28 : decode cX5_takeOut 28 = .ok (.istore 4, 2) := by decide +kernel
theorem dX5_takeOut_30 : decode cX5_takeOut 30 = .ok (.iconst 0, 1) := by decide +kernel
theorem dX5_takeOut_31 : decode cX5_takeOut 31 = .ok (.istore 5, 2) := by decide +kernel
theorem dX5_takeOut_33 : decode cX5_takeOut 33 = .ok (.iconst 0, 1) := by decide +kernel
theorem dX5_takeOut_34 : decode cX5_takeOut 34 = .ok (.istore 6, 2) := by decide +kernel
theorem dX5_takeOut_36 : decode cX5_takeOut 36 = .ok (.iload 6, 2) := by decide +kernel
theorem dX5_takeOut_38 : decode cX5_takeOut 38 = .ok (.iload 4, 2) := by decide +kernel
theorem dX5_takeOut_40 : decode cX5_takeOut 40 = .ok (.if_icmp .ge 44, 3) := by decide +kernel
theorem dX5_takeOut_43 : decode cX5_takeOut 43 = .ok (.iload 5, 2) := by decide +kernel
theorem dX5_takeOut_45 : decode cX5_takeOut 45 = .ok (.ifCond .ne 11, 3) := by decide +kernel
theorem dX5_takeOut_48 : decode cX5_takeOut 48 = .ok (.aload_n 3, 1) := by decide +kernel
theorem dX5_takeOut_49 : decode cX5_takeOut 49 = .ok (.iload 6, 2) := by decide +kernel
theorem dX5_takeOut_51 : decode cX5_takeOut 51 = .ok (.iaload, 1) := by decide +kernel
theorem dX5_takeOut_52 : decode cX5_takeOut 52 = .ok (.iload_n 1, 1) := by decide +kernel
theorem dX5_takeOut_53 : decode cX5_takeOut 53 = .ok (.if_icmp .ne 7, 3) := by decide +kernel
theorem dX5_takeOut_56 : decode cX5_takeOut 56 = .ok (.iconst 1, 1) := by decide +kernel
theorem dX5_takeOut_57 : decode cX5_takeOut 57 = .ok (.goto 4, 3) := by decide +kernel
theorem dX5_takeOut_60 : decode cX5_takeOut 60 = .ok (.iconst 0, 1) := by decide +kernel
theorem dX5_takeOut_61 : decode cX5_takeOut 61 = .ok (.istore 5, 2) := by decide +kernel
theorem dX5_takeOut_63 : decode cX5_takeOut 63 = .ok (.iload 5, 2) := by decide +kernel
theorem dX5_takeOut_65 : decode cX5_takeOut 65 = .ok (.ifCond .eq 13, 3) := by decide +kernel
theorem dX5_takeOut_68 : decode cX5_takeOut 68 = .ok (.aload_n 3, 1) := by decide +kernel
theorem dX5_takeOut_69 : decode cX5_takeOut 69 = .ok (.iload 6, 2) := by decide +kernel
theorem dX5_takeOut_71 : decode cX5_takeOut 71 = .ok (.aload_n 3, 1) := by decide +kernel
theorem dX5_takeOut_72 : decode cX5_takeOut 72 = .ok (.iload 6, 2) := by decide +kernel
theorem dX5_takeOut_74 : decode cX5_takeOut 74 = .ok (.iconst 1, 1) := by decide +kernel
theorem dX5_takeOut_75 : decode cX5_takeOut 75 = .ok (.iadd, 1) := by decide +kernel
theorem dX5_takeOut_76 : decode cX5_takeOut 76 = .ok (.iaload, 1) := by decide +kernel
theorem dX5_takeOut_77 : decode cX5_takeOut 77 = .ok (.iastore, 1) := by decide +kernel
theorem dX5_takeOut_78 : decode cX5_takeOut 78 = .ok (.iinc 6 1, 3) := by decide +kernel
theorem dX5_takeOut_81 : decode cX5_takeOut 81 = .ok (.goto (-45), 3) := by decide +kernel
theorem dX5_takeOut_84 : decode cX5_takeOut 84 = .ok (.aload_n 0, 1) := by decide +kernel
theorem dX5_takeOut_85 : decode cX5_takeOut 85 = .ok (.getfield 29, 3) := by decide +kernel
theorem dX5_takeOut_88 : decode cX5_takeOut 88 = .ok (.iload_n 2, 1) := by decide +kernel
theorem dX5_takeOut_89 : decode cX5_takeOut 89 = .ok (.iload 4, 2) := by decide +kernel
theorem dX5_takeOut_91 : decode cX5_takeOut 91 = .ok (.iastore, 1) := by decide +kernel
theorem dX5_takeOut_92 : decode cX5_takeOut 92 = .ok (.aload_n 0, 1) := by decide +kernel
theorem dX5_takeOut_93 : decode cX5_takeOut 93 = .ok (.getfield 32, 3) := by decide +kernel
theorem dX5_takeOut_96 : decode cX5_takeOut 96 = .ok (.iload_n 2, 1) := by decide +kernel
theorem dX5_takeOut_97 : decode cX5_takeOut 97 = .ok (.dup2, 1) := by decide +kernel
theorem dX5_takeOut_98 : decode cX5_takeOut 98 = .ok (.iaload, 1) := by decide +kernel
theorem dX5_takeOut_99 : decode cX5_takeOut 99 = .ok (.aload_n 0, 1) := by decide +kernel
theorem dX5_takeOut_100 : decode cX5_takeOut 100 = .ok (.getfield 15, 3) := by decide +kernel
theorem dX5_takeOut_103 : decode cX5_takeOut 103 = .ok (.iload_n 1, 1) := by decide +kernel
theorem dX5_takeOut_104 : decode cX5_takeOut 104 = .ok (.iaload, 1) := by decide +kernel
theorem dX5_takeOut_105 : decode cX5_takeOut 105 = .ok (.isub, 1) := by decide +kernel
theorem dX5_takeOut_106 : decode cX5_takeOut 106 = .ok (.iastore, 1) := by decide +kernel
theorem dX5_takeOut_107 : decode cX5_takeOut 107 = .ok (.aload_n 0, 1) := by decide +kernel
theorem dX5_takeOut_108 : decode cX5_takeOut 108 = .ok (.getfield 9, 3) := by decide +kernel
theorem dX5_takeOut_111 : decode cX5_takeOut 111 = .ok (.iload_n 1, 1) := by decide +kernel
theorem dX5_takeOut_112 : decode cX5_takeOut 112 = .ok (.iconst (-1), 1) := by decide +kernel
theorem dX5_takeOut_113 : decode cX5_takeOut 113 = .ok (.iastore, 1) := by decide +kernel
theorem dX5_takeOut_114 : decode cX5_takeOut 114 = .ok (.return_, 1) := by decide +kernel
theorem dX5_append_0 : decode cX5_append 0 = .ok (.aload_n 0, 1) := by decide +kernel
theorem dX5_append_1 : decode cX5_append 1 = .ok (.getfield 29, 3) := by decide +kernel
theorem dX5_append_4 : decode cX5_append 4 = .ok (.iload_n 1, 1) := by decide +kernel
theorem dX5_append_5 : decode cX5_append 5 = .ok (.iaload, 1) := by decide +kernel
theorem dX5_append_6 : decode cX5_append 6 = .ok (.istore_n 3, 1) := by decide +kernel
theorem dX5_append_7 : decode cX5_append 7 = .ok (.iload_n 3, 1) := by decide +kernel
theorem dX5_append_8 : decode cX5_append 8 = .ok (.bipush 100, 2) := by decide +kernel
theorem dX5_append_10 : decode cX5_append 10 = .ok (.if_icmp .lt 4, 3) := by decide +kernel
theorem dX5_append_13 : decode cX5_append 13 = .ok (.return_, 1) := by decide +kernel
theorem dX5_append_14 : decode cX5_append 14 = .ok (.aload_n 0, 1) := by decide +kernel
theorem dX5_append_15 : decode cX5_append 15 = .ok (.getfield 26, 3) := by decide +kernel
theorem dX5_append_18 : decode cX5_append 18 = .ok (.iload_n 1, 1) := by decide +kernel
theorem dX5_append_19 : decode cX5_append 19 = .ok (.aaload, 1) := by decide +kernel
theorem dX5_append_20 : decode cX5_append 20 = .ok (.iload_n 3, 1) := by decide +kernel
theorem dX5_append_21 : decode cX5_append 21 = .ok (.iload_n 2, 1) := by decide +kernel
theorem dX5_append_22 : decode cX5_append 22 = .ok (.iastore, 1) := by decide +kernel
theorem dX5_append_23 : decode cX5_append 23 = .ok (.aload_n 0, 1) := by decide +kernel
theorem dX5_append_24 : decode cX5_append 24 = .ok (.getfield 29, 3) := by decide +kernel
theorem dX5_append_27 : decode cX5_append 27 = .ok (.iload_n 1, 1) := by decide +kernel
theorem dX5_append_28 : decode cX5_append 28 = .ok (.iload_n 3, 1) := by decide +kernel
theorem dX5_append_29 : decode cX5_append 29 = .ok (.iconst 1, 1) := by decide +kernel
theorem dX5_append_30 : decode cX5_append 30 = .ok (.iadd, 1) := by decide +kernel
theorem dX5_append_31 : decode cX5_append 31 = .ok (.iastore, 1) := by decide +kernel
theorem dX5_append_32 : decode cX5_append 32 = .ok (.aload_n 0, 1) := by decide +kernel
theorem dX5_append_33 : decode cX5_append 33 = .ok (.getfield 32, 3) := by decide +kernel
theorem dX5_append_36 : decode cX5_append 36 = .ok (.iload_n 1, 1) := by decide +kernel
theorem dX5_append_37 : decode cX5_append 37 = .ok (.dup2, 1) := by decide +kernel
theorem dX5_append_38 : decode cX5_append 38 = .ok (.iaload, 1) := by decide +kernel
theorem dX5_append_39 : decode cX5_append 39 = .ok (.aload_n 0, 1) := by decide +kernel
theorem dX5_append_40 : decode cX5_append 40 = .ok (.getfield 15, 3) := by decide +kernel
theorem dX5_append_43 : decode cX5_append 43 = .ok (.iload_n 2, 1) := by decide +kernel
theorem dX5_append_44 : decode cX5_append 44 = .ok (.iaload, 1) := by decide +kernel
theorem dX5_append_45 : decode cX5_append 45 = .ok (.iadd, 1) := by decide +kernel
theorem dX5_append_46 : decode cX5_append 46 = .ok (.iastore, 1) := by decide +kernel
theorem dX5_append_47 : decode cX5_append 47 = .ok (.aload_n 0, 1) := by decide +kernel
theorem dX5_append_48 : decode cX5_append 48 = .ok (.getfield 9, 3) := by decide +kernel
theorem dX5_append_51 : decode cX5_append 51 = .ok (.iload_n 2, 1) := by decide +kernel
theorem dX5_append_52 : decode cX5_append 52 = .ok (.iload_n 1, 1) := by decide +kernel
theorem dX5_append_53 : decode cX5_append 53 = .ok (.iastore, 1) := by decide +kernel
theorem dX5_append_54 : decode cX5_append 54 = .ok (.return_, 1) := by decide +kernel
theorem dX5_moveToLast_0 : decode cX5_moveToLast 0 = .ok (.aload_n 0, 1) := by decide +kernel
theorem dX5_moveToLast_1 : decode cX5_moveToLast 1 = .ok (.iload_n 2, 1) := by decide +kernel
theorem dX5_moveToLast_2 : decode cX5_moveToLast 2 = .ok (.invokevirtual 41, 3) := by decide +kernel
theorem dX5_moveToLast_5 : decode cX5_moveToLast 5 = .ok (.aload_n 0, 1) := by decide +kernel
theorem dX5_moveToLast_6 : decode cX5_moveToLast 6 = .ok (.iload_n 1, 1) := by decide +kernel
theorem dX5_moveToLast_7 : decode cX5_moveToLast 7 = .ok (.iload_n 2, 1) := by decide +kernel
theorem dX5_moveToLast_8 : decode cX5_moveToLast 8 = .ok (.invokevirtual 45, 3) := by decide +kernel
theorem dX5_moveToLast_11 : decode cX5_moveToLast 11 = .ok (.return_, 1) := by decide +kernel
theorem dX5_moveFirst_0 : decode cX5_moveFirst 0 = .ok (.aload_n 0, 1) := by decide +kernel
theorem dX5_moveFirst_1 : decode cX5_moveFirst 1 = .ok (.iload_n 1, 1) := by decide +kernel
theorem dX5_moveFirst_2 : decode cX5_moveFirst 2 = .ok (.iconst 0, 1) := by decide +kernel
theorem dX5_moveFirst_3 : decode cX5_moveFirst 3 = .ok (.invokevirtual 49, 3) := by decide +kernel
theorem dX5_moveFirst_6 : decode cX5_moveFirst 6 = .ok (.istore_n 3, 1) := by decide +kernel
theorem dX5_moveFirst_7 : decode cX5_moveFirst 7 = .ok (.iload_n 3, 1) := by decide +kernel
theorem dX5_moveFirst_8 : decode cX5_moveFirst 8 = .ok (.iconst (-1), 1) := by decide +kernel
theorem dX5_moveFirst_9 : decode cX5_moveFirst 9 = .ok (.if_icmp .eq 14, 3) := by decide +kernel
theorem dX5_moveFirst_12 : decode cX5_moveFirst 12 = .ok (.aload_n 0, 1) := by decide +kernel
theorem dX5_moveFirst_13 : decode cX5_moveFirst 13 = .ok (.iload_n 3, 1) := by decide +kernel
theorem dX5_moveFirst_14 : decode cX5_moveFirst 14 = .ok (.invokevirtual 41, 3) := by decide +kernel
theorem dX5_moveFirst_17 : decode cX5_moveFirst 17 = .ok (.aload_n 0, 1) := by decide +kernel
theorem dX5_moveFirst_18 : decode cX5_moveFirst 18 = .ok (.iload_n 2, 1) := by decide +kernel
theorem dX5_moveFirst_19 : decode cX5_moveFirst 19 = .ok (.iload_n 3, 1) := by decide +kernel
theorem dX5_moveFirst_20 : decode cX5_moveFirst 20 = .ok (.invokevirtual 45, 3) := by decide +kernel
theorem dX5_moveFirst_23 : decode cX5_moveFirst 23 = .ok (.return_, 1) := by decide +kernel
theorem dX5_dropFirst_0 : decode cX5_dropFirst 0 = .ok (.aload_n 0, 1) := by decide +kernel
theorem dX5_dropFirst_1 : decode cX5_dropFirst 1 = .ok (.iload_n 1, 1) := by decide +kernel
theorem dX5_dropFirst_2 : decode cX5_dropFirst 2 = .ok (.iconst 0, 1) := by decide +kernel
theorem dX5_dropFirst_3 : decode cX5_dropFirst 3 = .ok (.invokevirtual 49, 3) := by decide +kernel
theorem dX5_dropFirst_6 : decode cX5_dropFirst 6 = .ok (.istore_n 2, 1) := by decide +kernel
theorem dX5_dropFirst_7 : decode cX5_dropFirst 7 = .ok (.iload_n 2, 1) := by decide +kernel
theorem dX5_dropFirst_8 : decode cX5_dropFirst 8 = .ok (.iconst (-1), 1) := by decide +kernel
theorem dX5_dropFirst_9 : decode cX5_dropFirst 9 = .ok (.if_icmp .eq 8, 3) := by decide +kernel
theorem dX5_dropFirst_12 : decode cX5_dropFirst 12 = .ok (.aload_n 0, 1) := by decide +kernel
theorem dX5_dropFirst_13 : decode cX5_dropFirst 13 = .ok (.iload_n 2, 1) := by decide +kernel
theorem dX5_dropFirst_14 : decode cX5_dropFirst 14 = .ok (.invokevirtual 41, 3) := by decide +kernel
theorem dX5_dropFirst_17 : decode cX5_dropFirst 17 = .ok (.return_, 1) := by decide +kernel
theorem dX5_appearancesOf_0 : decode cX5_appearancesOf 0 = .ok (.iconst 0, 1) := by decide +kernel
theorem dX5_appearancesOf_1 : decode cX5_appearancesOf 1 = .ok (.istore_n 2, 1) := by decide +kernel
theorem dX5_appearancesOf_2 : decode cX5_appearancesOf 2 = .ok (.iconst 0, 1) := by decide +kernel
theorem dX5_appearancesOf_3 : decode cX5_appearancesOf 3 = .ok (.istore_n 3, 1) := by decide +kernel
theorem dX5_appearancesOf_4 : decode cX5_appearancesOf 4 = .ok (.iload_n 3, 1) := by decide +kernel
theorem dX5_appearancesOf_5 : decode cX5_appearancesOf 5 = .ok (.aload_n 0, 1) := by decide +kernel
theorem dX5_appearancesOf_6 : decode cX5_appearancesOf 6 = .ok (.getfield 26, 3) := by decide +kernel
theorem dX5_appearancesOf_9 : decode cX5_appearancesOf 9 = .ok (.arraylength, 1) := by decide +kernel
theorem dX5_appearancesOf_10 : decode cX5_appearancesOf 10 = .ok (.if_icmp .ge 45, 3) := by decide +kernel
theorem dX5_appearancesOf_13 : decode cX5_appearancesOf 13 = .ok (.iconst 0, 1) := by decide +kernel
theorem dX5_appearancesOf_14 : decode cX5_appearancesOf 14 = .ok (.istore 4, 2) := by decide +kernel
theorem dX5_appearancesOf_16 : decode cX5_appearancesOf 16 = .ok (.iload 4, 2) := by decide +kernel
theorem dX5_appearancesOf_18 : decode cX5_appearancesOf 18 = .ok (.aload_n 0, 1) := by decide +kernel
theorem dX5_appearancesOf_19 : decode cX5_appearancesOf 19 = .ok (.getfield 29, 3) := by decide +kernel
theorem dX5_appearancesOf_22 : decode cX5_appearancesOf 22 = .ok (.iload_n 3, 1) := by decide +kernel
theorem dX5_appearancesOf_23 : decode cX5_appearancesOf 23 = .ok (.iaload, 1) := by decide +kernel
theorem dX5_appearancesOf_24 : decode cX5_appearancesOf 24 = .ok (.if_icmp .ge 25, 3) := by decide +kernel
theorem dX5_appearancesOf_27 : decode cX5_appearancesOf 27 = .ok (.aload_n 0, 1) := by decide +kernel
theorem dX5_appearancesOf_28 : decode cX5_appearancesOf 28 = .ok (.getfield 26, 3) := by decide +kernel
theorem dX5_appearancesOf_31 : decode cX5_appearancesOf 31 = .ok (.iload_n 3, 1) := by decide +kernel
theorem dX5_appearancesOf_32 : decode cX5_appearancesOf 32 = .ok (.aaload, 1) := by decide +kernel
theorem dX5_appearancesOf_33 : decode cX5_appearancesOf 33 = .ok (.iload 4, 2) := by decide +kernel
theorem dX5_appearancesOf_35 : decode cX5_appearancesOf 35 = .ok (.iaload, 1) := by decide +kernel
theorem dX5_appearancesOf_36 : decode cX5_appearancesOf 36 = .ok (.iload_n 1, 1) := by decide +kernel
theorem dX5_appearancesOf_37 : decode cX5_appearancesOf 37 = .ok (.if_icmp .ne 6, 3) := by decide +kernel
theorem dX5_appearancesOf_40 : decode cX5_appearancesOf 40 = .ok (.iinc 2 1, 3) := by decide +kernel
theorem dX5_appearancesOf_43 : decode cX5_appearancesOf 43 = .ok (.iinc 4 1, 3) := by decide +kernel
theorem dX5_appearancesOf_46 : decode cX5_appearancesOf 46 = .ok (.goto (-30), 3) := by decide +kernel
theorem dX5_appearancesOf_49 : decode cX5_appearancesOf 49 = .ok (.iinc 3 1, 3) := by decide +kernel
theorem dX5_appearancesOf_52 : decode cX5_appearancesOf 52 = .ok (.goto (-48), 3) := by decide +kernel
theorem dX5_appearancesOf_55 : decode cX5_appearancesOf 55 = .ok (.iload_n 2, 1) := by decide +kernel
theorem dX5_appearancesOf_56 : decode cX5_appearancesOf 56 = .ok (.ireturn, 1) := by decide +kernel
theorem dX5_countedUnits_0 : decode cX5_countedUnits 0 = .ok (.iconst 0, 1) := by decide +kernel
theorem dX5_countedUnits_1 : decode cX5_countedUnits 1 = .ok (.istore_n 2, 1) := by decide +kernel
theorem dX5_countedUnits_2 : decode cX5_countedUnits 2 = .ok (.iconst 0, 1) := by decide +kernel
theorem dX5_countedUnits_3 : decode cX5_countedUnits 3 = .ok (.istore_n 3, 1) := by decide +kernel
theorem dX5_countedUnits_4 : decode cX5_countedUnits 4 = .ok (.iload_n 3, 1) := by decide +kernel
theorem dX5_countedUnits_5 : decode cX5_countedUnits 5 = .ok (.aload_n 0, 1) := by decide +kernel
theorem dX5_countedUnits_6 : decode cX5_countedUnits 6 = .ok (.getfield 29, 3) := by decide +kernel
theorem dX5_countedUnits_9 : decode cX5_countedUnits 9 = .ok (.iload_n 1, 1) := by decide +kernel
theorem dX5_countedUnits_10 : decode cX5_countedUnits 10 = .ok (.iaload, 1) := by decide +kernel
theorem dX5_countedUnits_11 : decode cX5_countedUnits 11 = .ok (.if_icmp .ge 25, 3) := by decide +kernel
theorem dX5_countedUnits_14 : decode cX5_countedUnits 14 = .ok (.iload_n 2, 1) := by decide +kernel
theorem dX5_countedUnits_15 : decode cX5_countedUnits 15 = .ok (.aload_n 0, 1) := by decide +kernel
theorem dX5_countedUnits_16 : decode cX5_countedUnits 16 = .ok (.getfield 15, 3) := by decide +kernel
theorem dX5_countedUnits_19 : decode cX5_countedUnits 19 = .ok (.aload_n 0, 1) := by decide +kernel
theorem dX5_countedUnits_20 : decode cX5_countedUnits 20 = .ok (.getfield 26, 3) := by decide +kernel
theorem dX5_countedUnits_23 : decode cX5_countedUnits 23 = .ok (.iload_n 1, 1) := by decide +kernel
theorem dX5_countedUnits_24 : decode cX5_countedUnits 24 = .ok (.aaload, 1) := by decide +kernel
theorem dX5_countedUnits_25 : decode cX5_countedUnits 25 = .ok (.iload_n 3, 1) := by decide +kernel
theorem dX5_countedUnits_26 : decode cX5_countedUnits 26 = .ok (.iaload, 1) := by decide +kernel
theorem dX5_countedUnits_27 : decode cX5_countedUnits 27 = .ok (.iaload, 1) := by decide +kernel
theorem dX5_countedUnits_28 : decode cX5_countedUnits 28 = .ok (.iadd, 1) := by decide +kernel
theorem dX5_countedUnits_29 : decode cX5_countedUnits 29 = .ok (.istore_n 2, 1) := by decide +kernel
theorem dX5_countedUnits_30 : decode cX5_countedUnits 30 = .ok (.iinc 3 1, 3) := by decide +kernel
theorem dX5_countedUnits_33 : decode cX5_countedUnits 33 = .ok (.goto (-29), 3) := by decide +kernel
theorem dX5_countedUnits_36 : decode cX5_countedUnits 36 = .ok (.iload_n 2, 1) := by decide +kernel
theorem dX5_countedUnits_37 : decode cX5_countedUnits 37 = .ok (.ireturn, 1) := by decide +kernel
theorem dX5_copyFrom_0 : decode cX5_copyFrom 0 = .ok (.iconst 0, 1) := by decide +kernel
theorem dX5_copyFrom_1 : decode cX5_copyFrom 1 = .ok (.istore_n 2, 1) := by decide +kernel
theorem dX5_copyFrom_2 : decode cX5_copyFrom 2 = .ok (.iload_n 2, 1) := by decide +kernel
theorem dX5_copyFrom_3 : decode cX5_copyFrom 3 = .ok (.aload_n 0, 1) := by decide +kernel
theorem dX5_copyFrom_4 : decode cX5_copyFrom 4 = .ok (.getfield 26, 3) := by decide +kernel
theorem dX5_copyFrom_7 : decode cX5_copyFrom 7 = .ok (.arraylength, 1) := by decide +kernel
theorem dX5_copyFrom_8 : decode cX5_copyFrom 8 = .ok (.if_icmp .ge 61, 3) := by decide +kernel
theorem dX5_copyFrom_11 : decode cX5_copyFrom 11 = .ok (.iload_n 2, 1) := by decide +kernel
theorem dX5_copyFrom_12 : decode cX5_copyFrom 12 = .ok (.aload_n 1, 1) := by decide +kernel
theorem dX5_copyFrom_13 : decode cX5_copyFrom 13 = .ok (.getfield 26, 3) := by decide +kernel
theorem dX5_copyFrom_16 : decode cX5_copyFrom 16 = .ok (.arraylength, 1) := by decide +kernel
theorem dX5_copyFrom_17 : decode cX5_copyFrom 17 = .ok (.if_icmp .ge 52, 3) := by decide +kernel
theorem dX5_copyFrom_20 : decode cX5_copyFrom 20 = .ok (.aload_n 1, 1) := by decide +kernel
theorem dX5_copyFrom_21 : decode cX5_copyFrom 21 = .ok (.getfield 26, 3) := by decide +kernel
theorem dX5_copyFrom_24 : decode cX5_copyFrom 24 = .ok (.iload_n 2, 1) := by decide +kernel
theorem dX5_copyFrom_25 : decode cX5_copyFrom 25 = .ok (.aaload, 1) := by decide +kernel
theorem dX5_copyFrom_26 : decode cX5_copyFrom 26 = .ok (.iconst 0, 1) := by decide +kernel
theorem dX5_copyFrom_27 : decode cX5_copyFrom 27 = .ok (.aload_n 0, 1) := by decide +kernel
theorem dX5_copyFrom_28 : decode cX5_copyFrom 28 = .ok (.getfield 26, 3) := by decide +kernel
theorem dX5_copyFrom_31 : decode cX5_copyFrom 31 = .ok (.iload_n 2, 1) := by decide +kernel
theorem dX5_copyFrom_32 : decode cX5_copyFrom 32 = .ok (.aaload, 1) := by decide +kernel
theorem dX5_copyFrom_33 : decode cX5_copyFrom 33 = .ok (.iconst 0, 1) := by decide +kernel
theorem dX5_copyFrom_34 : decode cX5_copyFrom 34 = .ok (.bipush 100, 2) := by decide +kernel
theorem dX5_copyFrom_36 : decode cX5_copyFrom 36 = .ok (.invokestatic 52, 3) := by decide +kernel
theorem dX5_copyFrom_39 : decode cX5_copyFrom 39 = .ok (.aload_n 0, 1) := by decide +kernel
theorem dX5_copyFrom_40 : decode cX5_copyFrom 40 = .ok (.getfield 29, 3) := by decide +kernel
theorem dX5_copyFrom_43 : decode cX5_copyFrom 43 = .ok (.iload_n 2, 1) := by decide +kernel
theorem dX5_copyFrom_44 : decode cX5_copyFrom 44 = .ok (.aload_n 1, 1) := by decide +kernel
theorem dX5_copyFrom_45 : decode cX5_copyFrom 45 = .ok (.getfield 29, 3) := by decide +kernel
theorem dX5_copyFrom_48 : decode cX5_copyFrom 48 = .ok (.iload_n 2, 1) := by decide +kernel
theorem dX5_copyFrom_49 : decode cX5_copyFrom 49 = .ok (.iaload, 1) := by decide +kernel
theorem dX5_copyFrom_50 : decode cX5_copyFrom 50 = .ok (.iastore, 1) := by decide +kernel
theorem dX5_copyFrom_51 : decode cX5_copyFrom 51 = .ok (.aload_n 0, 1) := by decide +kernel
theorem dX5_copyFrom_52 : decode cX5_copyFrom 52 = .ok (.getfield 32, 3) := by decide +kernel
theorem dX5_copyFrom_55 : decode cX5_copyFrom 55 = .ok (.iload_n 2, 1) := by decide +kernel
theorem dX5_copyFrom_56 : decode cX5_copyFrom 56 = .ok (.aload_n 1, 1) := by decide +kernel
theorem dX5_copyFrom_57 : decode cX5_copyFrom 57 = .ok (.getfield 32, 3) := by decide +kernel
theorem dX5_copyFrom_60 : decode cX5_copyFrom 60 = .ok (.iload_n 2, 1) := by decide +kernel
theorem dX5_copyFrom_61 : decode cX5_copyFrom 61 = .ok (.iaload, 1) := by decide +kernel
theorem dX5_copyFrom_62 : decode cX5_copyFrom 62 = .ok (.iastore, 1) := by decide +kernel
theorem dX5_copyFrom_63 : decode cX5_copyFrom 63 = .ok (.iinc 2 1, 3) := by decide +kernel
theorem dX5_copyFrom_66 : decode cX5_copyFrom 66 = .ok (.goto (-64), 3) := by decide +kernel
theorem dX5_copyFrom_69 : decode cX5_copyFrom 69 = .ok (.aload_n 1, 1) := by decide +kernel
theorem dX5_copyFrom_70 : decode cX5_copyFrom 70 = .ok (.getfield 9, 3) := by decide +kernel
theorem dX5_copyFrom_73 : decode cX5_copyFrom 73 = .ok (.iconst 0, 1) := by decide +kernel
theorem dX5_copyFrom_74 : decode cX5_copyFrom 74 = .ok (.aload_n 0, 1) := by decide +kernel
theorem dX5_copyFrom_75 : decode cX5_copyFrom 75 = .ok (.getfield 9, 3) := by decide +kernel
theorem dX5_copyFrom_78 : decode cX5_copyFrom 78 = .ok (.iconst 0, 1) := by decide +kernel
theorem dX5_copyFrom_79 : decode cX5_copyFrom 79 = .ok (.bipush 100, 2) := by decide +kernel
theorem dX5_copyFrom_81 : decode cX5_copyFrom 81 = .ok (.invokestatic 52, 3) := by decide +kernel
theorem dX5_copyFrom_84 : decode cX5_copyFrom 84 = .ok (.aload_n 1, 1) := by decide +kernel
theorem dX5_copyFrom_85 : decode cX5_copyFrom 85 = .ok (.getfield 15, 3) := by decide +kernel
theorem dX5_copyFrom_88 : decode cX5_copyFrom 88 = .ok (.iconst 0, 1) := by decide +kernel
theorem dX5_copyFrom_89 : decode cX5_copyFrom 89 = .ok (.aload_n 0, 1) := by decide +kernel
theorem dX5_copyFrom_90 : decode cX5_copyFrom 90 = .ok (.getfield 15, 3) := by decide +kernel
theorem dX5_copyFrom_93 : decode cX5_copyFrom 93 = .ok (.iconst 0, 1) := by decide +kernel
theorem dX5_copyFrom_94 : decode cX5_copyFrom 94 = .ok (.bipush 100, 2) := by decide +kernel
theorem dX5_copyFrom_96 : decode cX5_copyFrom 96 = .ok (.invokestatic 52, 3) := by decide +kernel
theorem dX5_copyFrom_99 : decode cX5_copyFrom 99 = .ok (.return_, 1) := by decide +kernel
theorem dX6_init_0 : decode cX6_init 0 = .ok (.aload_n 0, 1) := by decide +kernel
theorem dX6_init_1 : decode cX6_init 1 = .ok (.invokespecial 3, 3) := by decide +kernel
theorem dX6_init_4 : decode cX6_init 4 = .ok (.aload_n 0, 1) := by decide +kernel
theorem dX6_init_5 : decode cX6_init 5 = .ok (.bipush 30, 2) := by decide +kernel
theorem dX6_init_7 : decode cX6_init 7 = .ok (.newarray .int, 2) := by decide +kernel
theorem dX6_init_9 : decode cX6_init 9 = .ok (.putfield 9, 3) := by decide +kernel
theorem dX6_init_12 : decode cX6_init 12 = .ok (.aload_n 0, 1) := by decide +kernel
theorem dX6_init_13 : decode cX6_init 13 = .ok (.bipush 30, 2) := by decide +kernel
theorem dX6_init_15 : decode cX6_init 15 = .ok (.newarray .int, 2) := by decide +kernel
theorem dX6_init_17 : decode cX6_init 17 = .ok (.putfield 15, 3) := by decide +kernel
theorem dX6_init_20 : decode cX6_init 20 = .ok (.aload_n 0, 1) := by decide +kernel
theorem dX6_init_21 : decode cX6_init 21 = .ok (.bipush 30, 2) := by decide +kernel
theorem dX6_init_23 : decode cX6_init 23 = .ok (.newarray .int, 2) := by decide +kernel
theorem dX6_init_25 : decode cX6_init 25 = .ok (.putfield 18, 3) := by decide +kernel
theorem dX6_init_28 : decode cX6_init 28 = .ok (.aload_n 0, 1) := by decide +kernel
theorem dX6_init_29 : decode cX6_init 29 = .ok (.bipush 30, 2) := by decide +kernel
theorem dX6_init_31 : decode cX6_init 31 = .ok (.newarray .int, 2) := by decide +kernel
theorem dX6_init_33 : decode cX6_init 33 = .ok (.putfield 21, 3) := by decide +kernel
theorem dX6_init_36 : decode cX6_init 36 = .ok (.aload_n 0, 1) := by decide +kernel
theorem dX6_init_37 : decode cX6_init 37 = .ok (.bipush 30, 2) := by decide +kernel
theorem dX6_init_39 : decode cX6_init 39 = .ok (.newarray .int, 2) := by decide +kernel
theorem dX6_init_41 : decode cX6_init 41 = .ok (.putfield 24, 3) := by decide +kernel
theorem dX6_init_44 : decode cX6_init 44 = .ok (.aload_n 0, 1) := by decide +kernel
theorem dX6_init_45 : decode cX6_init 45 = .ok (.bipush 30, 2) := by decide +kernel
theorem dX6_init_47 : decode cX6_init 47 = .ok (.newarray .int, 2) := by decide +kernel
theorem dX6_init_49 : decode cX6_init 49 = .ok (.putfield 27, 3) := by decide +kernel
theorem dX6_init_52 : decode cX6_init 52 = .ok (.aload_n 0, 1) := by decide +kernel
theorem dX6_init_53 : decode cX6_init 53 = .ok (.iconst 1, 1) := by decide +kernel
theorem dX6_init_54 : decode cX6_init 54 = .ok (.putfield 30, 3) := by decide +kernel
theorem dX6_init_57 : decode cX6_init 57 = .ok (.aload_n 0, 1) := by decide +kernel
theorem dX6_init_58 : decode cX6_init 58 = .ok (.iconst 0, 1) := by decide +kernel
theorem dX6_init_59 : decode cX6_init 59 = .ok (.putfield 34, 3) := by decide +kernel
theorem dX6_init_62 : decode cX6_init 62 = .ok (.aload_n 0, 1) := by decide +kernel
theorem dX6_init_63 : decode cX6_init 63 = .ok (.iconst 0, 1) := by decide +kernel
theorem dX6_init_64 : decode cX6_init 64 = .ok (.putfield 37, 3) := by decide +kernel
theorem dX6_init_67 : decode cX6_init 67 = .ok (.aload_n 0, 1) := by decide +kernel
theorem dX6_init_68 : decode cX6_init 68 = .ok (.iload_n 1, 1) := by decide +kernel
theorem dX6_init_69 : decode cX6_init 69 = .ok (.putfield 40, 3) := by decide +kernel
theorem dX6_init_72 : decode cX6_init 72 = .ok (.return_, 1) := by decide +kernel
theorem dX6_begin_0 : decode cX6_begin 0 = .ok (.aload_n 0, 1) := by decide +kernel
theorem dX6_begin_1 : decode cX6_begin 1 = .ok (.iconst 1, 1) := by decide +kernel
theorem dX6_begin_2 : decode cX6_begin 2 = .ok (.bipush 30, 2) := by decide +kernel
theorem dX6_begin_4 : decode cX6_begin 4 = .ok (.iload_n 1, 1) := by decide +kernel
theorem dX6_begin_5 : decode cX6_begin 5 = .ok (.invokestatic 43, 3) := by decide +kernel
theorem dX6_begin_8 : decode cX6_begin 8 = .ok (.invokestatic 49, 3) := by decide +kernel
theorem dX6_begin_11 : decode cX6_begin 11 = .ok (.putfield 30, 3) := by decide +kernel
theorem dX6_begin_14 : decode cX6_begin 14 = .ok (.aload_n 0, 1) := by decide +kernel
theorem dX6_begin_15 : decode cX6_begin 15 = .ok (.iconst 0, 1) := by decide +kernel
theorem dX6_begin_16 : decode cX6_begin 16 = .ok (.putfield 34, 3) := by decide +kernel
theorem dX6_begin_19 : decode cX6_begin 19 = .ok (.aload_n 0, 1) := by decide +kernel
theorem dX6_begin_20 : decode cX6_begin 20 = .ok (.iconst 0, 1) := by decide +kernel
theorem dX6_begin_21 : decode cX6_begin 21 = .ok (.putfield 37, 3) := by decide +kernel
theorem dX6_begin_24 : decode cX6_begin 24 = .ok (.return_, 1) := by decide +kernel
theorem dX6_asks_0 : decode cX6_asks 0 = .ok (.aload_n 0, 1) := by decide +kernel
theorem dX6_asks_1 : decode cX6_asks 1 = .ok (.iload_n 1, 1) := by decide +kernel
theorem dX6_asks_2 : decode cX6_asks 2 = .ok (.invokevirtual 52, 3) := by decide +kernel
theorem dX6_asks_5 : decode cX6_asks 5 = .ok (.istore 4, 2) := by decide +kernel
theorem dX6_asks_7 : decode cX6_asks 7 = .ok (.iload 4, 2) := by decide +kernel
theorem dX6_asks_9 : decode cX6_asks 9 = .ok (.iconst (-1), 1) := by decide +kernel
theorem dX6_asks_10 : decode cX6_asks 10 = .ok (.if_icmp .eq 7, 3) := by decide +kernel
theorem dX6_asks_13 : decode cX6_asks 13 = .ok (.iconst 1, 1) := by decide +kernel
theorem dX6_asks_14 : decode cX6_asks 14 = .ok (.goto 4, 3) := by decide +kernel
theorem dX6_asks_17 : decode cX6_asks 17 = .ok (.iconst 0, 1) := by decide +kernel
theorem dX6_asks_18 : decode cX6_asks 18 = .ok (.istore 5, 2) := by decide +kernel
theorem dX6_asks_20 : decode cX6_asks 20 = .ok (.iload 5, 2) := by decide +kernel
theorem dX6_asks_22 : decode cX6_asks 22 = .ok (.ifCond .ne 33, 3) := by decide +kernel
theorem dX6_asks_25 : decode cX6_asks 25 = .ok (.aload_n 0, 1) := by decide +kernel
theorem dX6_asks_26 : decode cX6_asks 26 = .ok (.invokevirtual 56, 3) := by decide +kernel
theorem dX6_asks_29 : decode cX6_asks 29 = .ok (.istore 4, 2) := by decide +kernel
theorem dX6_asks_31 : decode cX6_asks 31 = .ok (.aload_n 0, 1) := by decide +kernel
theorem dX6_asks_32 : decode cX6_asks 32 = .ok (.getfield 9, 3) := by decide +kernel
theorem dX6_asks_35 : decode cX6_asks 35 = .ok (.iload 4, 2) := by decide +kernel
theorem dX6_asks_37 : decode cX6_asks 37 = .ok (.iload_n 1, 1) := by decide +kernel
theorem dX6_asks_38 : decode cX6_asks 38 = .ok (.iastore, 1) := by decide +kernel
theorem dX6_asks_39 : decode cX6_asks 39 = .ok (.aload_n 0, 1) := by decide +kernel
theorem dX6_asks_40 : decode cX6_asks 40 = .ok (.getfield 15, 3) := by decide +kernel
theorem dX6_asks_43 : decode cX6_asks 43 = .ok (.iload 4, 2) := by decide +kernel
theorem dX6_asks_45 : decode cX6_asks 45 = .ok (.iload_n 2, 1) := by decide +kernel
theorem dX6_asks_46 : decode cX6_asks 46 = .ok (.iastore, 1) := by decide +kernel
theorem dX6_asks_47 : decode cX6_asks 47 = .ok (.aload_n 0, 1) := by decide +kernel
theorem dX6_asks_48 : decode cX6_asks 48 = .ok (.getfield 21, 3) := by decide +kernel
theorem dX6_asks_51 : decode cX6_asks 51 = .ok (.iload 4, 2) := by decide +kernel
theorem dX6_asks_53 : decode cX6_asks 53 = .ok (.iconst 0, 1) := by decide +kernel
theorem dX6_asks_54 : decode cX6_asks 54 = .ok (.iastore, 1) := by decide +kernel
theorem dX6_asks_55 : decode cX6_asks 55 = .ok (.aload_n 0, 1) := by decide +kernel
theorem dX6_asks_56 : decode cX6_asks 56 = .ok (.getfield 27, 3) := by decide +kernel
theorem dX6_asks_59 : decode cX6_asks 59 = .ok (.iload 4, 2) := by decide +kernel
theorem dX6_asks_61 : decode cX6_asks 61 = .ok (.iload 5, 2) := by decide +kernel
theorem dX6_asks_63 : decode cX6_asks 63 = .ok (.ifCond .eq 7, 3) := by decide +kernel
theorem dX6_asks_66 : decode cX6_asks 66 = .ok (.iconst 1, 1) := by decide +kernel
theorem dX6_asks_67 : decode cX6_asks 67 = .ok (.goto 4, 3) := by decide +kernel
theorem dX6_asks_70 : decode cX6_asks 70 = .ok (.iconst 0, 1) := by decide +kernel
theorem dX6_asks_71 : decode cX6_asks 71 = .ok (.iastore, 1) := by decide +kernel
theorem dX6_asks_72 : decode cX6_asks 72 = .ok (.aload_n 0, 1) := by decide +kernel
theorem dX6_asks_73 : decode cX6_asks 73 = .ok (.getfield 18, 3) := by decide +kernel
theorem dX6_asks_76 : decode cX6_asks 76 = .ok (.iload 4, 2) := by decide +kernel
theorem dX6_asks_78 : decode cX6_asks 78 = .ok (.iload_n 2, 1) := by decide +kernel
theorem dX6_asks_79 : decode cX6_asks 79 = .ok (.iastore, 1) := by decide +kernel
theorem dX6_asks_80 : decode cX6_asks 80 = .ok (.aload_n 0, 1) := by decide +kernel
theorem dX6_asks_81 : decode cX6_asks 81 = .ok (.getfield 21, 3) := by decide +kernel
theorem dX6_asks_84 : decode cX6_asks 84 = .ok (.iload 4, 2) := by decide +kernel
theorem dX6_asks_86 : decode cX6_asks 86 = .ok (.dup2, 1) := by decide +kernel
theorem dX6_asks_87 : decode cX6_asks 87 = .ok (.iaload, 1) := by decide +kernel
theorem dX6_asks_88 : decode cX6_asks 88 = .ok (.iconst 1, 1) := by decide +kernel
theorem dX6_asks_89 : decode cX6_asks 89 = .ok (.iadd, 1) := by decide +kernel
theorem dX6_asks_90 : decode cX6_asks 90 = .ok (.iastore, 1) := by decide +kernel
theorem dX6_asks_91 : decode cX6_asks 91 = .ok (.aload_n 0, 1) := by decide +kernel
theorem dX6_asks_92 : decode cX6_asks 92 = .ok (.getfield 24, 3) := by decide +kernel
theorem dX6_asks_95 : decode cX6_asks 95 = .ok (.iload 4, 2) := by decide +kernel
theorem dX6_asks_97 : decode cX6_asks 97 = .ok (.iload_n 3, 1) := by decide +kernel
theorem dX6_asks_98 : decode cX6_asks 98 = .ok (.iastore, 1) := by decide +kernel
theorem dX6_asks_99 : decode cX6_asks 99 = .ok (.iload 5, 2) := by decide +kernel
theorem dX6_asks_101 : decode cX6_asks 101 = .ok (.ireturn, 1) := by decide +kernel
theorem dX6_holds_0 : decode cX6_holds 0 = .ok (.aload_n 0, 1) := by decide +kernel
theorem dX6_holds_1 : decode cX6_holds 1 = .ok (.iload_n 1, 1) := by decide +kernel
theorem dX6_holds_2 : decode cX6_holds 2 = .ok (.invokevirtual 52, 3) := by decide +kernel
theorem dX6_holds_5 : decode cX6_holds 5 = .ok (.iconst (-1), 1) := by decide +kernel
theorem dX6_holds_6 : decode cX6_holds 6 = .ok (.if_icmp .eq 7, 3) := by decide +kernel
theorem dX6_holds_9 : decode cX6_holds 9 = .ok (.iconst 1, 1) := by decide +kernel
theorem dX6_holds_10 : decode cX6_holds 10 = .ok (.goto 4, 3) := by decide +kernel
theorem dX6_holds_13 : decode cX6_holds 13 = .ok (.iconst 0, 1) := by decide +kernel
theorem dX6_holds_14 : decode cX6_holds 14 = .ok (.ireturn, 1) := by decide +kernel
theorem dX6_seatOf_0 : decode cX6_seatOf 0 = .ok (.iconst 0, 1) := by decide +kernel
theorem dX6_seatOf_1 : decode cX6_seatOf 1 = .ok (.istore_n 2, 1) := by decide +kernel
theorem dX6_seatOf_2 : decode cX6_seatOf 2 = .ok (.iload_n 2, 1) := by decide +kernel
theorem dX6_seatOf_3 : decode cX6_seatOf 3 = .ok (.aload_n 0, 1) := by decide +kernel
theorem dX6_seatOf_4 : decode cX6_seatOf 4 = .ok (.getfield 34, 3) := by decide +kernel
theorem dX6_seatOf_7 : decode cX6_seatOf 7 = .ok (.if_icmp .ge 21, 3) := by decide +kernel
theorem dX6_seatOf_10 : decode cX6_seatOf 10 = .ok (.aload_n 0, 1) := by decide +kernel
theorem dX6_seatOf_11 : decode cX6_seatOf 11 = .ok (.getfield 9, 3) := by decide +kernel
theorem dX6_seatOf_14 : decode cX6_seatOf 14 = .ok (.iload_n 2, 1) := by decide +kernel
theorem dX6_seatOf_15 : decode cX6_seatOf 15 = .ok (.iaload, 1) := by decide +kernel
theorem dX6_seatOf_16 : decode cX6_seatOf 16 = .ok (.iload_n 1, 1) := by decide +kernel
theorem dX6_seatOf_17 : decode cX6_seatOf 17 = .ok (.if_icmp .ne 5, 3) := by decide +kernel
theorem dX6_seatOf_20 : decode cX6_seatOf 20 = .ok (.iload_n 2, 1) := by decide +kernel
theorem dX6_seatOf_21 : decode cX6_seatOf 21 = .ok (.ireturn, 1) := by decide +kernel
theorem dX6_seatOf_22 : decode cX6_seatOf 22 = .ok (.iinc 2 1, 3) := by decide +kernel
theorem dX6_seatOf_25 : decode cX6_seatOf 25 = .ok (.goto (-23), 3) := by decide +kernel
theorem dX6_seatOf_28 : decode cX6_seatOf 28 = .ok (.iconst (-1), 1) := by decide +kernel
theorem dX6_seatOf_29 : decode cX6_seatOf 29 = .ok (.ireturn, 1) := by decide +kernel
theorem dX6_freeSeat_0 : decode cX6_freeSeat 0 = .ok (.aload_n 0, 1) := by decide +kernel
theorem dX6_freeSeat_1 : decode cX6_freeSeat 1 = .ok (.getfield 34, 3) := by decide +kernel
theorem dX6_freeSeat_4 : decode cX6_freeSeat 4 = .ok (.aload_n 0, 1) := by decide +kernel
theorem dX6_freeSeat_5 : decode cX6_freeSeat 5 = .ok (.getfield 30, 3) := by decide +kernel
theorem dX6_freeSeat_8 : decode cX6_freeSeat 8 = .ok (.if_icmp .ge 20, 3) := by decide +kernel
theorem dX6_freeSeat_11 : decode cX6_freeSeat 11 = .ok (.aload_n 0, 1) := by decide +kernel
theorem dX6_freeSeat_12 : decode cX6_freeSeat 12 = .ok (.dup, 1) := by decide +kernel
theorem dX6_freeSeat_13 : decode cX6_freeSeat 13 = .ok (.getfield 34, 3) := by decide +kernel
theorem dX6_freeSeat_16 : decode cX6_freeSeat 16 = .ok (.iconst 1, 1) := by decide +kernel
theorem dX6_freeSeat_17 : decode cX6_freeSeat 17 = .ok (.iadd, 1) := by decide +kernel
theorem dX6_freeSeat_18 : decode cX6_freeSeat 18 = .ok (.putfield 34, 3) := by decide +kernel
theorem dX6_freeSeat_21 : decode cX6_freeSeat 21 = .ok (.aload_n 0, 1) := by decide +kernel
theorem dX6_freeSeat_22 : decode cX6_freeSeat 22 = .ok (.getfield 34, 3) := by decide +kernel
theorem dX6_freeSeat_25 : decode cX6_freeSeat 25 = .ok (.iconst 1, 1) := by decide +kernel
theorem dX6_freeSeat_26 : decode cX6_freeSeat 26 = .ok (.isub, 1) := by decide +kernel
theorem dX6_freeSeat_27 : decode cX6_freeSeat 27 = .ok (.ireturn, 1) := by decide +kernel
theorem dX6_freeSeat_28 : decode cX6_freeSeat 28 = .ok (.aload_n 0, 1) := by decide +kernel
theorem dX6_freeSeat_29 : decode cX6_freeSeat 29 = .ok (.getfield 40, 3) := by decide +kernel
theorem dX6_freeSeat_32 : decode cX6_freeSeat 32 = .ok (.iconst 2, 1) := by decide +kernel
theorem dX6_freeSeat_33 : decode cX6_freeSeat 33 = .ok (.if_icmp .ne 10, 3) := by decide +kernel
theorem dX6_freeSeat_36 : decode cX6_freeSeat 36 = .ok (.aload_n 0, 1) := by decide +kernel
theorem dX6_freeSeat_37 : decode cX6_freeSeat 37 = .ok (.invokevirtual 60, 3) := by decide +kernel
theorem dX6_freeSeat_40 : decode cX6_freeSeat 40 = .ok (.goto 7, 3) := by decide +kernel
theorem dX6_freeSeat_43 : decode cX6_freeSeat 43 = .ok (.aload_n 0, 1) := by decide +kernel
theorem dX6_freeSeat_44 : decode cX6_freeSeat 44 = .ok (.invokevirtual 63, 3) := by decide +kernel
theorem dX6_freeSeat_47 : decode cX6_freeSeat 47 = .ok (.ireturn, 1) := by decide +kernel
theorem dX6_seatByHand_0 : decode cX6_seatByHand 0 = .ok (.aload_n 0, 1) := by decide +kernel
theorem dX6_seatByHand_1 : decode cX6_seatByHand 1 = .ok (.getfield 30, 3) := by decide +kernel
theorem dX6_seatByHand_4 : decode cX6_seatByHand 4 = .ok (.istore_n 1, 1) := by decide +kernel
theorem dX6_seatByHand_5 : decode cX6_seatByHand 5 = .ok (.iload_n 1, 1) := by decide +kernel
theorem dX6_seatByHand_6 : decode cX6_seatByHand 6 = .ok (.ifCond .le 44, 3) := by decide +kernel
theorem dX6_seatByHand_9 : decode cX6_seatByHand 9 = .ok (.aload_n 0, 1) := by decide +kernel
theorem dX6_seatByHand_10 : decode cX6_seatByHand 10 = .ok (.getfield 27, 3) := by decide +kernel
theorem dX6_seatByHand_13 : decode cX6_seatByHand 13 = .ok (.aload_n 0, 1) := by decide +kernel
theorem dX6_seatByHand_14 : decode cX6_seatByHand 14 = .ok (.getfield 37, 3) := by decide +kernel
theorem dX6_seatByHand_17 : decode cX6_seatByHand 17 = .ok (.iaload, 1) := by decide +kernel
theorem dX6_seatByHand_18 : decode cX6_seatByHand 18 = .ok (.iconst 1, 1) := by decide +kernel
theorem dX6_seatByHand_19 : decode cX6_seatByHand 19 = .ok (.if_icmp .ne 31, 3) := by decide +kernel
theorem dX6_seatByHand_22 : decode cX6_seatByHand 22 = .ok (.aload_n 0, 1) := by decide +kernel
theorem dX6_seatByHand_23 : decode cX6_seatByHand 23 = .ok (.getfield 27, 3) := by decide +kernel
theorem dX6_seatByHand_26 : decode cX6_seatByHand 26 = .ok (.aload_n 0, 1) := by decide +kernel
theorem dX6_seatByHand_27 : decode cX6_seatByHand 27 = .ok (.getfield 37, 3) := by decide +kernel
theorem dX6_seatByHand_30 : decode cX6_seatByHand 30 = .ok (.iconst 0, 1) := by decide +kernel
theorem dX6_seatByHand_31 : decode cX6_seatByHand 31 = .ok (.iastore, 1) := by decide +kernel
theorem dX6_seatByHand_32 : decode cX6_seatByHand 32 = .ok (.aload_n 0, 1) := by decide +kernel
theorem dX6_seatByHand_33 : decode cX6_seatByHand 33 = .ok (.aload_n 0, 1) := by decide +kernel
theorem dX6_seatByHand_34 : decode cX6_seatByHand 34 = .ok (.aload_n 0, 1) := by decide +kernel
theorem dX6_seatByHand_35 : decode cX6_seatByHand 35 = .ok (.getfield 37, 3) := by decide +kernel
theorem dX6_seatByHand_38 : decode cX6_seatByHand 38 = .ok (.invokevirtual 66, 3) := by decide +kernel
theorem dX6_seatByHand_41 : decode cX6_seatByHand 41 = .ok (.putfield 37, 3) := by decide +kernel
theorem dX6_seatByHand_44 : decode cX6_seatByHand 44 = .ok (.iinc 1 (-1), 3) := by decide +kernel
theorem dX6_seatByHand_47 : decode cX6_seatByHand 47 = .ok (.goto (-42), 3) := by decide +kernel
theorem dX6_seatByHand_50 : decode cX6_seatByHand 50 = .ok (.aload_n 0, 1) := by decide +kernel
theorem dX6_seatByHand_51 : decode cX6_seatByHand 51 = .ok (.getfield 37, 3) := by decide +kernel
theorem dX6_seatByHand_54 : decode cX6_seatByHand 54 = .ok (.istore_n 1, 1) := by decide +kernel
theorem dX6_seatByHand_55 : decode cX6_seatByHand 55 = .ok (.aload_n 0, 1) := by decide +kernel
theorem dX6_seatByHand_56 : decode cX6_seatByHand 56 = .ok (.aload_n 0, 1) := by decide +kernel
theorem dX6_seatByHand_57 : decode cX6_seatByHand 57 = .ok (.aload_n 0, 1) := by decide +kernel
theorem dX6_seatByHand_58 : decode cX6_seatByHand 58 = .ok (.getfield 37, 3) := by decide +kernel
theorem dX6_seatByHand_61 : decode cX6_seatByHand 61 = .ok (.invokevirtual 66, 3) := by decide +kernel
theorem dX6_seatByHand_64 : decode cX6_seatByHand 64 = .ok (.putfield 37, 3) := by decide +kernel
theorem dX6_seatByHand_67 : decode cX6_seatByHand 67 = .ok (.iload_n 1, 1) := by decide +kernel
theorem dX6_seatByHand_68 : decode cX6_seatByHand 68 = .ok (.ireturn, 1) := by decide +kernel
theorem dX6_nextSeat_0 : decode cX6_nextSeat 0 = .ok (.iload_n 1, 1) := by decide +kernel
theorem dX6_nextSeat_1 : decode cX6_nextSeat 1 = .ok (.iconst 1, 1) := by decide +kernel
theorem dX6_nextSeat_2 : decode cX6_nextSeat 2 = .ok (.iadd, 1) := by decide +kernel
theorem dX6_nextSeat_3 : decode cX6_nextSeat 3 = .ok (.aload_n 0, 1) := by decide +kernel
theorem dX6_nextSeat_4 : decode cX6_nextSeat 4 = .ok (.getfield 30, 3) := by decide +kernel
theorem dX6_nextSeat_7 : decode cX6_nextSeat 7 = .ok (.if_icmp .ge 9, 3) := by decide +kernel
theorem dX6_nextSeat_10 : decode cX6_nextSeat 10 = .ok (.iload_n 1, 1) := by decide +kernel
theorem dX6_nextSeat_11 : decode cX6_nextSeat 11 = .ok (.iconst 1, 1) := by decide +kernel
theorem dX6_nextSeat_12 : decode cX6_nextSeat 12 = .ok (.iadd, 1) := by decide +kernel
theorem dX6_nextSeat_13 : decode cX6_nextSeat 13 = .ok (.goto 4, 3) := by decide +kernel
theorem dX6_nextSeat_16 : decode cX6_nextSeat 16 = .ok (.iconst 0, 1) := by decide +kernel
theorem dX6_nextSeat_17 : decode cX6_nextSeat 17 = .ok (.ireturn, 1) := by decide +kernel
theorem dX6_seatByRank_0 : decode cX6_seatByRank 0 = .ok (.iconst 0, 1) := by decide +kernel
theorem dX6_seatByRank_1 : decode cX6_seatByRank 1 = .ok (.istore_n 1, 1) := by decide +kernel
theorem dX6_seatByRank_2 : decode cX6_seatByRank 2 = .ok (.iconst 1, 1) := by decide +kernel
theorem dX6_seatByRank_3 : decode cX6_seatByRank 3 = .ok (.istore_n 2, 1) := by decide +kernel
theorem dX6_seatByRank_4 : decode cX6_seatByRank 4 = .ok (.iload_n 2, 1) := by decide +kernel
theorem dX6_seatByRank_5 : decode cX6_seatByRank 5 = .ok (.aload_n 0, 1) := by decide +kernel
theorem dX6_seatByRank_6 : decode cX6_seatByRank 6 = .ok (.getfield 34, 3) := by decide +kernel
theorem dX6_seatByRank_9 : decode cX6_seatByRank 9 = .ok (.if_icmp .ge 20, 3) := by decide +kernel
theorem dX6_seatByRank_12 : decode cX6_seatByRank 12 = .ok (.aload_n 0, 1) := by decide +kernel
theorem dX6_seatByRank_13 : decode cX6_seatByRank 13 = .ok (.iload_n 2, 1) := by decide +kernel
theorem dX6_seatByRank_14 : decode cX6_seatByRank 14 = .ok (.iload_n 1, 1) := by decide +kernel
theorem dX6_seatByRank_15 : decode cX6_seatByRank 15 = .ok (.invokevirtual 69, 3) := by decide +kernel
theorem dX6_seatByRank_18 : decode cX6_seatByRank 18 = .ok (.ifCond .eq 5, 3) := by decide +kernel
theorem dX6_seatByRank_21 : decode cX6_seatByRank 21 = .ok (.iload_n 2, 1) := by decide +kernel
theorem dX6_seatByRank_22 : decode cX6_seatByRank 22 = .ok (.istore_n 1, 1) := by decide +kernel
theorem dX6_seatByRank_23 : decode cX6_seatByRank 23 = .ok (.iinc 2 1, 3) := by decide +kernel
theorem dX6_seatByRank_26 : decode cX6_seatByRank 26 = .ok (.goto (-22), 3) := by decide +kernel
theorem dX6_seatByRank_29 : decode cX6_seatByRank 29 = .ok (.iload_n 1, 1) := by decide +kernel
theorem dX6_seatByRank_30 : decode cX6_seatByRank 30 = .ok (.ireturn, 1) := by decide +kernel
theorem dX6_goesBefore_0 : decode cX6_goesBefore 0 = .ok (.aload_n 0, 1) := by decide +kernel
theorem dX6_goesBefore_1 : decode cX6_goesBefore 1 = .ok (.getfield 40, 3) := by decide +kernel
theorem dX6_goesBefore_4 : decode cX6_goesBefore 4 = .ok (.tableswitch 155 1 4 #[32, 155, 53, 104], 32) := by decide +kernel
theorem dX6_goesBefore_36 : decode cX6_goesBefore 36 = .ok (.aload_n 0, 1) := by decide +kernel
theorem dX6_goesBefore_37 : decode cX6_goesBefore 37 = .ok (.getfield 15, 3) := by decide +kernel
theorem dX6_goesBefore_40 : decode cX6_goesBefore 40 = .ok (.iload_n 1, 1) := by decide +kernel
theorem dX6_goesBefore_41 : decode cX6_goesBefore 41 = .ok (.iaload, 1) := by decide +kernel
theorem dX6_goesBefore_42 : decode cX6_goesBefore 42 = .ok (.aload_n 0, 1) := by decide +kernel
theorem dX6_goesBefore_43 : decode cX6_goesBefore 43 = .ok (.getfield 15, 3) := by decide +kernel
theorem dX6_goesBefore_46 : decode cX6_goesBefore 46 = .ok (.iload_n 2, 1) := by decide +kernel
theorem dX6_goesBefore_47 : decode cX6_goesBefore 47 = .ok (.iaload, 1) := by decide +kernel
theorem dX6_goesBefore_48 : decode cX6_goesBefore 48 = .ok (.if_icmp .ge 7, 3) := by decide +kernel
theorem dX6_goesBefore_51 : decode cX6_goesBefore 51 = .ok (.iconst 1, 1) := by decide +kernel
theorem dX6_goesBefore_52 : decode cX6_goesBefore 52 = .ok (.goto 4, 3) := by decide +kernel
theorem dX6_goesBefore_55 : decode cX6_goesBefore 55 = .ok (.iconst 0, 1) := by decide +kernel
theorem dX6_goesBefore_56 : decode cX6_goesBefore 56 = .ok (.ireturn, 1) := by decide +kernel
theorem dX6_goesBefore_57 : decode cX6_goesBefore 57 = .ok (.aload_n 0, 1) := by decide +kernel
theorem dX6_goesBefore_58 : decode cX6_goesBefore 58 = .ok (.getfield 21, 3) := by decide +kernel
theorem dX6_goesBefore_61 : decode cX6_goesBefore 61 = .ok (.iload_n 1, 1) := by decide +kernel
theorem dX6_goesBefore_62 : decode cX6_goesBefore 62 = .ok (.iaload, 1) := by decide +kernel
theorem dX6_goesBefore_63 : decode cX6_goesBefore 63 = .ok (.aload_n 0, 1) := by decide +kernel
theorem dX6_goesBefore_64 : decode cX6_goesBefore 64 = .ok (.getfield 21, 3) := by decide +kernel
theorem dX6_goesBefore_67 : decode cX6_goesBefore 67 = .ok (.iload_n 2, 1) := by decide +kernel
theorem dX6_goesBefore_68 : decode cX6_goesBefore 68 = .ok (.iaload, 1) := by decide +kernel
theorem dX6_goesBefore_69 : decode cX6_goesBefore 69 = .ok (.if_icmp .lt 33, 3) := by decide +kernel
theorem dX6_goesBefore_72 : decode cX6_goesBefore 72 = .ok (.aload_n 0, 1) := by decide +kernel
theorem dX6_goesBefore_73 : decode cX6_goesBefore 73 = .ok (.getfield 21, 3) := by decide +kernel
theorem dX6_goesBefore_76 : decode cX6_goesBefore 76 = .ok (.iload_n 1, 1) := by decide +kernel
theorem dX6_goesBefore_77 : decode cX6_goesBefore 77 = .ok (.iaload, 1) := by decide +kernel
theorem dX6_goesBefore_78 : decode cX6_goesBefore 78 = .ok (.aload_n 0, 1) := by decide +kernel
theorem dX6_goesBefore_79 : decode cX6_goesBefore 79 = .ok (.getfield 21, 3) := by decide +kernel
theorem dX6_goesBefore_82 : decode cX6_goesBefore 82 = .ok (.iload_n 2, 1) := by decide +kernel
theorem dX6_goesBefore_83 : decode cX6_goesBefore 83 = .ok (.iaload, 1) := by decide +kernel
theorem dX6_goesBefore_84 : decode cX6_goesBefore 84 = .ok (.if_icmp .ne 22, 3) := by decide +kernel
theorem dX6_goesBefore_87 : decode cX6_goesBefore 87 = .ok (.aload_n 0, 1) := by decide +kernel
theorem dX6_goesBefore_88 : decode cX6_goesBefore 88 = .ok (.getfield 18, 3) := by decide +kernel
theorem dX6_goesBefore_91 : decode cX6_goesBefore 91 = .ok (.iload_n 1, 1) := by decide +kernel
theorem dX6_goesBefore_92 : decode cX6_goesBefore 92 = .ok (.iaload, 1) := by decide +kernel
theorem dX6_goesBefore_93 : decode cX6_goesBefore 93 = .ok (.aload_n 0, 1) := by decide +kernel
theorem dX6_goesBefore_94 : decode cX6_goesBefore 94 = .ok (.getfield 18, 3) := by decide +kernel
theorem dX6_goesBefore_97 : decode cX6_goesBefore 97 = .ok (.iload_n 2, 1) := by decide +kernel
theorem dX6_goesBefore_98 : decode cX6_goesBefore 98 = .ok (.iaload, 1) := by decide +kernel
theorem dX6_goesBefore_99 : decode cX6_goesBefore 99 = .ok (.if_icmp .ge 7, 3) := by decide +kernel
theorem dX6_goesBefore_102 : decode cX6_goesBefore 102 = .ok (.iconst 1, 1) := by decide +kernel
theorem dX6_goesBefore_103 : decode cX6_goesBefore 103 = .ok (.goto 4, 3) := by decide +kernel
theorem dX6_goesBefore_106 : decode cX6_goesBefore 106 = .ok (.iconst 0, 1) := by decide +kernel
theorem dX6_goesBefore_107 : decode cX6_goesBefore 107 = .ok (.ireturn, 1) := by decide +kernel
theorem dX6_goesBefore_108 : decode cX6_goesBefore 108 = .ok (.aload_n 0, 1) := by decide +kernel
theorem dX6_goesBefore_109 : decode cX6_goesBefore 109 = .ok (.getfield 24, 3) := by decide +kernel
theorem dX6_goesBefore_112 : decode cX6_goesBefore 112 = .ok (.iload_n 1, 1) := by decide +kernel
theorem dX6_goesBefore_113 : decode cX6_goesBefore 113 = .ok (.iaload, 1) := by decide +kernel
theorem dX6_goesBefore_114 : decode cX6_goesBefore 114 = .ok (.aload_n 0, 1) := by decide +kernel
theorem dX6_goesBefore_115 : decode cX6_goesBefore 115 = .ok (.getfield 24, 3) := by decide +kernel
theorem dX6_goesBefore_118 : decode cX6_goesBefore 118 = .ok (.iload_n 2, 1) := by decide +kernel
theorem dX6_goesBefore_119 : decode cX6_goesBefore 119 = .ok (.iaload, 1) := by decide +kernel
theorem dX6_goesBefore_120 : decode cX6_goesBefore 120 = .ok (.if_icmp .gt 33, 3) := by decide +kernel
theorem dX6_goesBefore_123 : decode cX6_goesBefore 123 = .ok (.aload_n 0, 1) := by decide +kernel
theorem dX6_goesBefore_124 : decode cX6_goesBefore 124 = .ok (.getfield 24, 3) := by decide +kernel
theorem dX6_goesBefore_127 : decode cX6_goesBefore 127 = .ok (.iload_n 1, 1) := by decide +kernel
theorem dX6_goesBefore_128 : decode cX6_goesBefore 128 = .ok (.iaload, 1) := by decide +kernel
theorem dX6_goesBefore_129 : decode cX6_goesBefore 129 = .ok (.aload_n 0, 1) := by decide +kernel
theorem dX6_goesBefore_130 : decode cX6_goesBefore 130 = .ok (.getfield 24, 3) := by decide +kernel
theorem dX6_goesBefore_133 : decode cX6_goesBefore 133 = .ok (.iload_n 2, 1) := by decide +kernel
theorem dX6_goesBefore_134 : decode cX6_goesBefore 134 = .ok (.iaload, 1) := by decide +kernel
theorem dX6_goesBefore_135 : decode cX6_goesBefore 135 = .ok (.if_icmp .ne 22, 3) := by decide +kernel
theorem dX6_goesBefore_138 : decode cX6_goesBefore 138 = .ok (.aload_n 0, 1) := by decide +kernel
theorem dX6_goesBefore_139 : decode cX6_goesBefore 139 = .ok (.getfield 9, 3) := by decide +kernel
theorem dX6_goesBefore_142 : decode cX6_goesBefore 142 = .ok (.iload_n 1, 1) := by decide +kernel
theorem dX6_goesBefore_143 : decode cX6_goesBefore 143 = .ok (.iaload, 1) := by decide +kernel
theorem dX6_goesBefore_144 : decode cX6_goesBefore 144 = .ok (.aload_n 0, 1) := by decide +kernel
theorem dX6_goesBefore_145 : decode cX6_goesBefore 145 = .ok (.getfield 9, 3) := by decide +kernel
theorem dX6_goesBefore_148 : decode cX6_goesBefore 148 = .ok (.iload_n 2, 1) := by decide +kernel
theorem dX6_goesBefore_149 : decode cX6_goesBefore 149 = .ok (.iaload, 1) := by decide +kernel
theorem dX6_goesBefore_150 : decode cX6_goesBefore 150 = .ok (.if_icmp .ge 7, 3) := by decide +kernel
theorem dX6_goesBefore_153 : decode cX6_goesBefore 153 = .ok (.iconst 1, 1) := by decide +kernel
theorem dX6_goesBefore_154 : decode cX6_goesBefore 154 = .ok (.goto 4, 3) := by decide +kernel
theorem dX6_goesBefore_157 : decode cX6_goesBefore 157 = .ok (.iconst 0, 1) := by decide +kernel
theorem dX6_goesBefore_158 : decode cX6_goesBefore 158 = .ok (.ireturn, 1) := by decide +kernel
theorem dX6_goesBefore_159 : decode cX6_goesBefore 159 = .ok (.aload_n 0, 1) := by decide +kernel
theorem dX6_goesBefore_160 : decode cX6_goesBefore 160 = .ok (.getfield 18, 3) := by decide +kernel
theorem dX6_goesBefore_163 : decode cX6_goesBefore 163 = .ok (.iload_n 1, 1) := by decide +kernel
theorem dX6_goesBefore_164 : decode cX6_goesBefore 164 = .ok (.iaload, 1) := by decide +kernel
theorem dX6_goesBefore_165 : decode cX6_goesBefore 165 = .ok (.aload_n 0, 1) := by decide +kernel
theorem dX6_goesBefore_166 : decode cX6_goesBefore 166 = .ok (.getfield 18, 3) := by decide +kernel
theorem dX6_goesBefore_169 : decode cX6_goesBefore 169 = .ok (.iload_n 2, 1) := by decide +kernel
theorem dX6_goesBefore_170 : decode cX6_goesBefore 170 = .ok (.iaload, 1) := by decide +kernel
theorem dX6_goesBefore_171 : decode cX6_goesBefore 171 = .ok (.if_icmp .ge 7, 3) := by decide +kernel
theorem dX6_goesBefore_174 : decode cX6_goesBefore 174 = .ok (.iconst 1, 1) := by decide +kernel
theorem dX6_goesBefore_175 : decode cX6_goesBefore 175 = .ok (.goto 4, 3) := by decide +kernel
theorem dX6_goesBefore_178 : decode cX6_goesBefore 178 = .ok (.iconst 0, 1) := by decide +kernel
theorem dX6_goesBefore_179 : decode cX6_goesBefore 179 = .ok (.ireturn, 1) := by decide +kernel
