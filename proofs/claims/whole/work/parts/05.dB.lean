theorem dX7_init_0 : decode cX7_init 0 = .ok (.aload_n 0, 1) := by decide +kernel
theorem dX7_init_1 : decode cX7_init 1 = .ok (.invokespecial 3, 3) := by decide +kernel
theorem dX7_init_4 : decode cX7_init 4 = .ok (.aload_n 0, 1) := by decide +kernel
theorem dX7_init_5 : decode cX7_init 5 = .ok (.iconst 4, 1) := by decide +kernel
theorem dX7_init_6 : decode cX7_init 6 = .ok (.bipush 64, 2) := by decide +kernel
theorem dX7_init_8 : decode cX7_init 8 = .ok (.multianewarray 9 2, 4) := by decide +kernel
theorem dX7_init_12 : decode cX7_init 12 = .ok (.putfield 11, 3) := by decide +kernel
theorem dX7_init_15 : decode cX7_init 15 = .ok (.aload_n 0, 1) := by decide +kernel
theorem dX7_init_16 : decode cX7_init 16 = .ok (.sipush 128, 3) := by decide +kernel
theorem dX7_init_19 : decode cX7_init 19 = .ok (.newarray .int, 2) := by decide +kernel
theorem dX7_init_21 : decode cX7_init 21 = .ok (.putfield 16, 3) := by decide +kernel
theorem dX7_init_24 : decode cX7_init 24 = .ok (.aload_n 0, 1) := by decide +kernel
theorem dX7_init_25 : decode cX7_init 25 = .ok (.iconst 4, 1) := by decide +kernel
theorem dX7_init_26 : decode cX7_init 26 = .ok (.bipush 100, 2) := by decide +kernel
theorem dX7_init_28 : decode cX7_init 28 = .ok (.multianewarray 9 2, 4) := by decide +kernel
theorem dX7_init_32 : decode cX7_init 32 = .ok (.putfield 20, 3) := by decide +kernel
theorem dX7_init_35 : decode cX7_init 35 = .ok (.aload_n 0, 1) := by decide +kernel
theorem dX7_init_36 : decode cX7_init 36 = .ok (.iconst 2, 1) := by decide +kernel
theorem dX7_init_37 : decode cX7_init 37 = .ok (.bipush 100, 2) := by decide +kernel
theorem dX7_init_39 : decode cX7_init 39 = .ok (.multianewarray 9 2, 4) := by decide +kernel
theorem dX7_init_43 : decode cX7_init 43 = .ok (.putfield 23, 3) := by decide +kernel
theorem dX7_init_46 : decode cX7_init 46 = .ok (.aload_n 0, 1) := by decide +kernel
theorem dX7_init_47 : decode cX7_init 47 = .ok (.bipush 100, 2) := by decide +kernel
theorem dX7_init_49 : decode cX7_init 49 = .ok (.newarray .int, 2) := by decide +kernel
theorem dX7_init_51 : decode cX7_init 51 = .ok (.putfield 26, 3) := by decide +kernel
theorem dX7_init_54 : decode cX7_init 54 = .ok (.aload_n 0, 1) := by decide +kernel
theorem dX7_init_55 : decode cX7_init 55 = .ok (.iconst 1, 1) := by decide +kernel
theorem dX7_init_56 : decode cX7_init 56 = .ok (.putfield 29, 3) := by decide +kernel
theorem dX7_init_59 : decode cX7_init 59 = .ok (.aload_n 0, 1) := by decide +kernel
theorem dX7_init_60 : decode cX7_init 60 = .ok (.iconst 0, 1) := by decide +kernel
theorem dX7_init_61 : decode cX7_init 61 = .ok (.putfield 33, 3) := by decide +kernel
theorem dX7_init_64 : decode cX7_init 64 = .ok (.aload_n 0, 1) := by decide +kernel
theorem dX7_init_65 : decode cX7_init 65 = .ok (.sipush 200, 3) := by decide +kernel
theorem dX7_init_68 : decode cX7_init 68 = .ok (.putfield 36, 3) := by decide +kernel
theorem dX7_init_71 : decode cX7_init 71 = .ok (.aload_n 0, 1) := by decide +kernel
theorem dX7_init_72 : decode cX7_init 72 = .ok (.iconst 0, 1) := by decide +kernel
theorem dX7_init_73 : decode cX7_init 73 = .ok (.putfield 39, 3) := by decide +kernel
theorem dX7_init_76 : decode cX7_init 76 = .ok (.aload_n 0, 1) := by decide +kernel
theorem dX7_init_77 : decode cX7_init 77 = .ok (.iconst 0, 1) := by decide +kernel
theorem dX7_init_78 : decode cX7_init 78 = .ok (.putfield 42, 3) := by decide +kernel
theorem dX7_init_81 : decode cX7_init 81 = .ok (.aload_n 0, 1) := by decide +kernel
theorem dX7_init_82 : decode cX7_init 82 = .ok (.iconst 1, 1) := by decide +kernel
theorem dX7_init_83 : decode cX7_init 83 = .ok (.iconst 4, 1) := by decide +kernel
theorem dX7_init_84 : decode cX7_init 84 = .ok (.iload_n 1, 1) := by decide +kernel
theorem dX7_init_85 : decode cX7_init 85 = .ok (.invokestatic 45, 3) := by decide +kernel
theorem dX7_init_88 : decode cX7_init 88 = .ok (.invokestatic 51, 3) := by decide +kernel
theorem dX7_init_91 : decode cX7_init 91 = .ok (.putfield 54, 3) := by decide +kernel
theorem dX7_init_94 : decode cX7_init 94 = .ok (.iconst 0, 1) := by decide +kernel
theorem dX7_init_95 : decode cX7_init 95 = .ok (.istore_n 2, 1) := by decide +kernel
theorem dX7_init_96 : decode cX7_init 96 = .ok (.iload_n 2, 1) := by decide +kernel
theorem dX7_init_97 : decode cX7_init 97 = .ok (.bipush 100, 2) := by decide +kernel
theorem dX7_init_99 : decode cX7_init 99 = .ok (.if_icmp .ge 72, 3) := by decide +kernel
theorem dX7_init_102 : decode cX7_init 102 = .ok (.iconst 0, 1) := by decide +kernel
theorem dX7_init_103 : decode cX7_init 103 = .ok (.istore_n 3, 1) := by decide +kernel
theorem dX7_init_104 : decode cX7_init 104 = .ok (.iload_n 3, 1) := by decide +kernel
theorem dX7_init_105 : decode cX7_init 105 = .ok (.iconst 4, 1) := by decide +kernel
theorem dX7_init_106 : decode cX7_init 106 = .ok (.if_icmp .ge 32, 3) := by decide +kernel
theorem dX7_init_109 : decode cX7_init 109 = .ok (.aload_n 0, 1) := by decide +kernel
theorem dX7_init_110 : decode cX7_init 110 = .ok (.getfield 20, 3) := by decide +kernel
theorem dX7_init_113 : decode cX7_init 113 = .ok (.iload_n 3, 1) := by decide +kernel
theorem dX7_init_114 : decode cX7_init 114 = .ok (.aaload, 1) := by decide +kernel
theorem dX7_init_115 : decode cX7_init 115 = .ok (.iload_n 2, 1) := by decide +kernel
theorem dX7_init_116 : decode cX7_init 116 = .ok (.iload_n 2, 1) := by decide +kernel
theorem dX7_init_117 : decode cX7_init 117 = .ok (.iconst 2, 1) := by decide +kernel
theorem dX7_init_118 : decode cX7_init 118 = .ok (.iload_n 3, 1) := by decide +kernel
theorem dX7_init_119 : decode cX7_init 119 = .ok (.imul, 1) := by decide +kernel
theorem dX7_init_120 : decode cX7_init 120 = .ok (.iconst 5, 1) := by decide +kernel
theorem dX7_init_121 : decode cX7_init 121 = .ok (.iadd, 1) := by decide +kernel
theorem dX7_init_122 : decode cX7_init 122 = .ok (.imul, 1) := by decide +kernel
theorem dX7_init_123 : decode cX7_init 123 = .ok (.bipush 11, 2) := by decide +kernel
theorem dX7_init_125 : decode cX7_init 125 = .ok (.iload_n 3, 1) := by decide +kernel
theorem dX7_init_126 : decode cX7_init 126 = .ok (.imul, 1) := by decide +kernel
theorem dX7_init_127 : decode cX7_init 127 = .ok (.iadd, 1) := by decide +kernel
theorem dX7_init_128 : decode cX7_init 128 = .ok (.bipush 64, 2) := by decide +kernel
theorem dX7_init_130 : decode cX7_init 130 = .ok (.irem, 1) := by decide +kernel
theorem dX7_init_131 : decode cX7_init 131 = .ok (.iastore, 1) := by decide +kernel
theorem dX7_init_132 : decode cX7_init 132 = .ok (.iinc 3 1, 3) := by decide +kernel
theorem dX7_init_135 : decode cX7_init 135 = .ok (.goto (-31), 3) := by decide +kernel
theorem dX7_init_138 : decode cX7_init 138 = .ok (.aload_n 0, 1) := by decide +kernel
theorem dX7_init_139 : decode cX7_init 139 = .ok (.getfield 23, 3) := by decide +kernel
theorem dX7_init_142 : decode cX7_init 142 = .ok (.iconst 0, 1) := by decide +kernel
theorem dX7_init_143 : decode cX7_init 143 = .ok (.aaload, 1) := by decide +kernel
theorem dX7_init_144 : decode cX7_init 144 = .ok (.iload_n 2, 1) := by decide +kernel
theorem dX7_init_145 : decode cX7_init 145 = .ok (.iload_n 2, 1) := by decide +kernel
theorem dX7_init_146 : decode cX7_init 146 = .ok (.iastore, 1) := by decide +kernel
theorem dX7_init_147 : decode cX7_init 147 = .ok (.aload_n 0, 1) := by decide +kernel
theorem dX7_init_148 : decode cX7_init 148 = .ok (.getfield 23, 3) := by decide +kernel
theorem dX7_init_151 : decode cX7_init 151 = .ok (.iconst 1, 1) := by decide +kernel
theorem dX7_init_152 : decode cX7_init 152 = .ok (.aaload, 1) := by decide +kernel
theorem dX7_init_153 : decode cX7_init 153 = .ok (.iload_n 2, 1) := by decide +kernel
theorem dX7_init_154 : decode cX7_init 154 = .ok (.iconst 5, 1) := by decide +kernel
theorem dX7_init_155 : decode cX7_init 155 = .ok (.iload_n 2, 1) := by decide +kernel
theorem dX7_init_156 : decode cX7_init 156 = .ok (.imul, 1) := by decide +kernel
theorem dX7_init_157 : decode cX7_init 157 = .ok (.bipush 64, 2) := by decide +kernel
theorem dX7_init_159 : decode cX7_init 159 = .ok (.iadd, 1) := by decide +kernel
theorem dX7_init_160 : decode cX7_init 160 = .ok (.sipush 128, 3) := by decide +kernel
theorem dX7_init_163 : decode cX7_init 163 = .ok (.irem, 1) := by decide +kernel
theorem dX7_init_164 : decode cX7_init 164 = .ok (.iastore, 1) := by decide +kernel
theorem dX7_init_165 : decode cX7_init 165 = .ok (.iinc 2 1, 3) := by decide +kernel
theorem dX7_init_168 : decode cX7_init 168 = .ok (.goto (-72), 3) := by decide +kernel
theorem dX7_init_171 : decode cX7_init 171 = .ok (.return_, 1) := by decide +kernel
theorem dX7_tellPlace_0 : decode cX7_tellPlace 0 = .ok (.aload_n 0, 1) := by decide +kernel
theorem dX7_tellPlace_1 : decode cX7_tellPlace 1 = .ok (.getfield 20, 3) := by decide +kernel
theorem dX7_tellPlace_4 : decode cX7_tellPlace 4 = .ok (.iload_n 1, 1) := by decide +kernel
theorem dX7_tellPlace_5 : decode cX7_tellPlace 5 = .ok (.aaload, 1) := by decide +kernel
theorem dX7_tellPlace_6 : decode cX7_tellPlace 6 = .ok (.iload_n 2, 1) := by decide +kernel
theorem dX7_tellPlace_7 : decode cX7_tellPlace 7 = .ok (.iaload, 1) := by decide +kernel
theorem dX7_tellPlace_8 : decode cX7_tellPlace 8 = .ok (.istore 4, 2) := by decide +kernel
theorem dX7_tellPlace_10 : decode cX7_tellPlace 10 = .ok (.aload_n 0, 1) := by decide +kernel
theorem dX7_tellPlace_11 : decode cX7_tellPlace 11 = .ok (.getfield 20, 3) := by decide +kernel
theorem dX7_tellPlace_14 : decode cX7_tellPlace 14 = .ok (.iload_n 1, 1) := by decide +kernel
theorem dX7_tellPlace_15 : decode cX7_tellPlace 15 = .ok (.aaload, 1) := by decide +kernel
theorem dX7_tellPlace_16 : decode cX7_tellPlace 16 = .ok (.iload_n 2, 1) := by decide +kernel
theorem dX7_tellPlace_17 : decode cX7_tellPlace 17 = .ok (.iload_n 3, 1) := by decide +kernel
theorem dX7_tellPlace_18 : decode cX7_tellPlace 18 = .ok (.iastore, 1) := by decide +kernel
theorem dX7_tellPlace_19 : decode cX7_tellPlace 19 = .ok (.aload_n 0, 1) := by decide +kernel
theorem dX7_tellPlace_20 : decode cX7_tellPlace 20 = .ok (.iload 4, 2) := by decide +kernel
theorem dX7_tellPlace_22 : decode cX7_tellPlace 22 = .ok (.iload_n 3, 1) := by decide +kernel
theorem dX7_tellPlace_23 : decode cX7_tellPlace 23 = .ok (.invokevirtual 57, 3) := by decide +kernel
theorem dX7_tellPlace_26 : decode cX7_tellPlace 26 = .ok (.iload 4, 2) := by decide +kernel
theorem dX7_tellPlace_28 : decode cX7_tellPlace 28 = .ok (.ireturn, 1) := by decide +kernel
theorem dX7_tellBit_0 : decode cX7_tellBit 0 = .ok (.aload_n 0, 1) := by decide +kernel
theorem dX7_tellBit_1 : decode cX7_tellBit 1 = .ok (.getfield 23, 3) := by decide +kernel
theorem dX7_tellBit_4 : decode cX7_tellBit 4 = .ok (.iload_n 1, 1) := by decide +kernel
theorem dX7_tellBit_5 : decode cX7_tellBit 5 = .ok (.aaload, 1) := by decide +kernel
theorem dX7_tellBit_6 : decode cX7_tellBit 6 = .ok (.iload_n 2, 1) := by decide +kernel
theorem dX7_tellBit_7 : decode cX7_tellBit 7 = .ok (.iaload, 1) := by decide +kernel
theorem dX7_tellBit_8 : decode cX7_tellBit 8 = .ok (.istore 4, 2) := by decide +kernel
theorem dX7_tellBit_10 : decode cX7_tellBit 10 = .ok (.aload_n 0, 1) := by decide +kernel
theorem dX7_tellBit_11 : decode cX7_tellBit 11 = .ok (.getfield 23, 3) := by decide +kernel
theorem dX7_tellBit_14 : decode cX7_tellBit 14 = .ok (.iload_n 1, 1) := by decide +kernel
theorem dX7_tellBit_15 : decode cX7_tellBit 15 = .ok (.aaload, 1) := by decide +kernel
theorem dX7_tellBit_16 : decode cX7_tellBit 16 = .ok (.iload_n 2, 1) := by decide +kernel
theorem dX7_tellBit_17 : decode cX7_tellBit 17 = .ok (.iload_n 3, 1) := by decide +kernel
theorem dX7_tellBit_18 : decode cX7_tellBit 18 = .ok (.iastore, 1) := by decide +kernel
theorem dX7_tellBit_19 : decode cX7_tellBit 19 = .ok (.aload_n 0, 1) := by decide +kernel
theorem dX7_tellBit_20 : decode cX7_tellBit 20 = .ok (.iload 4, 2) := by decide +kernel
theorem dX7_tellBit_22 : decode cX7_tellBit 22 = .ok (.iload_n 3, 1) := by decide +kernel
theorem dX7_tellBit_23 : decode cX7_tellBit 23 = .ok (.invokevirtual 57, 3) := by decide +kernel
theorem dX7_tellBit_26 : decode cX7_tellBit 26 = .ok (.iload 4, 2) := by decide +kernel
theorem dX7_tellBit_28 : decode cX7_tellBit 28 = .ok (.ireturn, 1) := by decide +kernel
theorem dX7_tellDoorInUse_0 : decode cX7_tellDoorInUse 0 = .ok (.aload_n 0, 1) := by decide +kernel
theorem dX7_tellDoorInUse_1 : decode cX7_tellDoorInUse 1 = .ok (.getfield 29, 3) := by decide +kernel
theorem dX7_tellDoorInUse_4 : decode cX7_tellDoorInUse 4 = .ok (.istore_n 2, 1) := by decide +kernel
theorem dX7_tellDoorInUse_5 : decode cX7_tellDoorInUse 5 = .ok (.aload_n 0, 1) := by decide +kernel
theorem dX7_tellDoorInUse_6 : decode cX7_tellDoorInUse 6 = .ok (.iload_n 1, 1) := by decide +kernel
theorem dX7_tellDoorInUse_7 : decode cX7_tellDoorInUse 7 = .ok (.putfield 29, 3) := by decide +kernel
theorem dX7_tellDoorInUse_10 : decode cX7_tellDoorInUse 10 = .ok (.aload_n 0, 1) := by decide +kernel
theorem dX7_tellDoorInUse_11 : decode cX7_tellDoorInUse 11 = .ok (.iload_n 2, 1) := by decide +kernel
theorem dX7_tellDoorInUse_12 : decode cX7_tellDoorInUse 12 = .ok (.iload_n 1, 1) := by decide +kernel
theorem dX7_tellDoorInUse_13 : decode cX7_tellDoorInUse 13 = .ok (.invokevirtual 57, 3) := by decide +kernel
theorem dX7_tellDoorInUse_16 : decode cX7_tellDoorInUse 16 = .ok (.iload_n 2, 1) := by decide +kernel
theorem dX7_tellDoorInUse_17 : decode cX7_tellDoorInUse 17 = .ok (.ireturn, 1) := by decide +kernel
theorem dX7_tellCareful_0 : decode cX7_tellCareful 0 = .ok (.aload_n 0, 1) := by decide +kernel
theorem dX7_tellCareful_1 : decode cX7_tellCareful 1 = .ok (.getfield 33, 3) := by decide +kernel
theorem dX7_tellCareful_4 : decode cX7_tellCareful 4 = .ok (.istore_n 2, 1) := by decide +kernel
theorem dX7_tellCareful_5 : decode cX7_tellCareful 5 = .ok (.aload_n 0, 1) := by decide +kernel
theorem dX7_tellCareful_6 : decode cX7_tellCareful 6 = .ok (.iload_n 1, 1) := by decide +kernel
theorem dX7_tellCareful_7 : decode cX7_tellCareful 7 = .ok (.putfield 33, 3) := by decide +kernel
theorem dX7_tellCareful_10 : decode cX7_tellCareful 10 = .ok (.aload_n 0, 1) := by decide +kernel
theorem dX7_tellCareful_11 : decode cX7_tellCareful 11 = .ok (.iload_n 2, 1) := by decide +kernel
theorem dX7_tellCareful_12 : decode cX7_tellCareful 12 = .ok (.iload_n 1, 1) := by decide +kernel
theorem dX7_tellCareful_13 : decode cX7_tellCareful 13 = .ok (.invokevirtual 57, 3) := by decide +kernel
theorem dX7_tellCareful_16 : decode cX7_tellCareful 16 = .ok (.iload_n 2, 1) := by decide +kernel
theorem dX7_tellCareful_17 : decode cX7_tellCareful 17 = .ok (.ireturn, 1) := by decide +kernel
theorem dX7_tellSample_0 : decode cX7_tellSample 0 = .ok (.aload_n 0, 1) := by decide +kernel
theorem dX7_tellSample_1 : decode cX7_tellSample 1 = .ok (.getfield 36, 3) := by decide +kernel
theorem dX7_tellSample_4 : decode cX7_tellSample 4 = .ok (.istore_n 2, 1) := by decide +kernel
theorem dX7_tellSample_5 : decode cX7_tellSample 5 = .ok (.aload_n 0, 1) := by decide +kernel
theorem dX7_tellSample_6 : decode cX7_tellSample 6 = .ok (.iload_n 1, 1) := by decide +kernel
theorem dX7_tellSample_7 : decode cX7_tellSample 7 = .ok (.putfield 36, 3) := by decide +kernel
theorem dX7_tellSample_10 : decode cX7_tellSample 10 = .ok (.iload_n 2, 1) := by decide +kernel
theorem dX7_tellSample_11 : decode cX7_tellSample 11 = .ok (.ireturn, 1) := by decide +kernel
theorem dX7_forgetIfChanged_0 : decode cX7_forgetIfChanged 0 = .ok (.iload_n 1, 1) := by decide +kernel
theorem dX7_forgetIfChanged_1 : decode cX7_forgetIfChanged 1 = .ok (.iload_n 2, 1) := by decide +kernel
theorem dX7_forgetIfChanged_2 : decode cX7_forgetIfChanged 2 = .ok (.if_icmp .eq 11, 3) := by decide +kernel
theorem dX7_forgetIfChanged_5 : decode cX7_forgetIfChanged 5 = .ok (.aload_n 0, 1) := by decide +kernel
theorem dX7_forgetIfChanged_6 : decode cX7_forgetIfChanged 6 = .ok (.getfield 26, 3) := by decide +kernel
theorem dX7_forgetIfChanged_9 : decode cX7_forgetIfChanged 9 = .ok (.iconst 0, 1) := by decide +kernel
theorem dX7_forgetIfChanged_10 : decode cX7_forgetIfChanged 10 = .ok (.invokestatic 61, 3) := by decide +kernel
theorem dX7_forgetIfChanged_13 : decode cX7_forgetIfChanged 13 = .ok (.return_, 1) := by decide +kernel
theorem dX7_put_0 : decode cX7_put 0 = .ok (.aload_n 0, 1) := by decide +kernel
theorem dX7_put_1 : decode cX7_put 1 = .ok (.dup, 1) := by decide +kernel
theorem dX7_put_2 : decode cX7_put 2 = .ok (.getfield 39, 3) := by decide +kernel
theorem dX7_put_5 : decode cX7_put 5 = .ok (.iconst 1, 1) := by decide +kernel
theorem dX7_put_6 : decode cX7_put 6 = .ok (.iadd, 1) := by decide +kernel
theorem dX7_put_7 : decode cX7_put 7 = .ok (.putfield 39, 3) := by decide +kernel
theorem dX7_put_10 : decode cX7_put 10 = .ok (.aload_n 0, 1) := by decide +kernel
theorem dX7_put_11 : decode cX7_put 11 = .ok (.getfield 26, 3) := by decide +kernel
theorem dX7_put_14 : decode cX7_put 14 = .ok (.iload_n 1, 1) := by decide +kernel
theorem dX7_put_15 : decode cX7_put 15 = .ok (.dup2, 1) := by decide +kernel
theorem dX7_put_16 : decode cX7_put 16 = .ok (.iaload, 1) := by decide +kernel
theorem dX7_put_17 : decode cX7_put 17 = .ok (.iconst 1, 1) := by decide +kernel
theorem dX7_put_18 : decode cX7_put 18 = .ok (.iadd, 1) := by decide +kernel
theorem dX7_put_19 : decode cX7_put 19 = .ok (.iastore, 1) := by decide +kernel
theorem dX7_put_20 : decode cX7_put 20 = .ok (.aload_n 0, 1) := by decide +kernel
theorem dX7_put_21 : decode cX7_put 21 = .ok (.getfield 29, 3) := by decide +kernel
theorem dX7_put_24 : decode cX7_put 24 = .ok (.iconst 1, 1) := by decide +kernel
theorem dX7_put_25 : decode cX7_put 25 = .ok (.if_icmp .ne 42, 3) := by decide +kernel
theorem dX7_put_28 : decode cX7_put 28 = .ok (.aload_n 0, 1) := by decide +kernel
theorem dX7_put_29 : decode cX7_put 29 = .ok (.iload_n 1, 1) := by decide +kernel
theorem dX7_put_30 : decode cX7_put 30 = .ok (.invokevirtual 67, 3) := by decide +kernel
theorem dX7_put_33 : decode cX7_put 33 = .ok (.ifCond .ne 34, 3) := by decide +kernel
theorem dX7_put_36 : decode cX7_put 36 = .ok (.aload_n 0, 1) := by decide +kernel
theorem dX7_put_37 : decode cX7_put 37 = .ok (.getfield 16, 3) := by decide +kernel
theorem dX7_put_40 : decode cX7_put 40 = .ok (.aload_n 0, 1) := by decide +kernel
theorem dX7_put_41 : decode cX7_put 41 = .ok (.getfield 23, 3) := by decide +kernel
theorem dX7_put_44 : decode cX7_put 44 = .ok (.iconst 0, 1) := by decide +kernel
theorem dX7_put_45 : decode cX7_put 45 = .ok (.aaload, 1) := by decide +kernel
theorem dX7_put_46 : decode cX7_put 46 = .ok (.iload_n 1, 1) := by decide +kernel
theorem dX7_put_47 : decode cX7_put 47 = .ok (.iaload, 1) := by decide +kernel
theorem dX7_put_48 : decode cX7_put 48 = .ok (.iconst 1, 1) := by decide +kernel
theorem dX7_put_49 : decode cX7_put 49 = .ok (.iastore, 1) := by decide +kernel
theorem dX7_put_50 : decode cX7_put 50 = .ok (.aload_n 0, 1) := by decide +kernel
theorem dX7_put_51 : decode cX7_put 51 = .ok (.getfield 16, 3) := by decide +kernel
theorem dX7_put_54 : decode cX7_put 54 = .ok (.aload_n 0, 1) := by decide +kernel
theorem dX7_put_55 : decode cX7_put 55 = .ok (.getfield 23, 3) := by decide +kernel
theorem dX7_put_58 : decode cX7_put 58 = .ok (.iconst 1, 1) := by decide +kernel
theorem dX7_put_59 : decode cX7_put 59 = .ok (.aaload, 1) := by decide +kernel
theorem dX7_put_60 : decode cX7_put 60 = .ok (.iload_n 1, 1) := by decide +kernel
theorem dX7_put_61 : decode cX7_put 61 = .ok (.iaload, 1) := by decide +kernel
theorem dX7_put_62 : decode cX7_put 62 = .ok (.iconst 1, 1) := by decide +kernel
theorem dX7_put_63 : decode cX7_put 63 = .ok (.iastore, 1) := by decide +kernel
theorem dX7_put_64 : decode cX7_put 64 = .ok (.goto 8, 3) := by decide +kernel
theorem dX7_put_67 : decode cX7_put 67 = .ok (.aload_n 0, 1) := by decide +kernel
theorem dX7_put_68 : decode cX7_put 68 = .ok (.iload_n 1, 1) := by decide +kernel
theorem dX7_put_69 : decode cX7_put 69 = .ok (.invokevirtual 71, 3) := by decide +kernel
theorem dX7_put_72 : decode cX7_put 72 = .ok (.aload_n 0, 1) := by decide +kernel
theorem dX7_put_73 : decode cX7_put 73 = .ok (.getfield 39, 3) := by decide +kernel
theorem dX7_put_76 : decode cX7_put 76 = .ok (.aload_n 0, 1) := by decide +kernel
theorem dX7_put_77 : decode cX7_put 77 = .ok (.getfield 36, 3) := by decide +kernel
theorem dX7_put_80 : decode cX7_put 80 = .ok (.if_icmp .lt 7, 3) := by decide +kernel
theorem dX7_put_83 : decode cX7_put 83 = .ok (.aload_n 0, 1) := by decide +kernel
theorem dX7_put_84 : decode cX7_put 84 = .ok (.invokevirtual 75, 3) := by decide +kernel
theorem dX7_put_87 : decode cX7_put 87 = .ok (.return_, 1) := by decide +kernel
theorem dX7_isPastDoor_0 : decode cX7_isPastDoor 0 = .ok (.aload_n 0, 1) := by decide +kernel
theorem dX7_isPastDoor_1 : decode cX7_isPastDoor 1 = .ok (.getfield 16, 3) := by decide +kernel
theorem dX7_isPastDoor_4 : decode cX7_isPastDoor 4 = .ok (.aload_n 0, 1) := by decide +kernel
theorem dX7_isPastDoor_5 : decode cX7_isPastDoor 5 = .ok (.getfield 23, 3) := by decide +kernel
theorem dX7_isPastDoor_8 : decode cX7_isPastDoor 8 = .ok (.iconst 0, 1) := by decide +kernel
theorem dX7_isPastDoor_9 : decode cX7_isPastDoor 9 = .ok (.aaload, 1) := by decide +kernel
theorem dX7_isPastDoor_10 : decode cX7_isPastDoor 10 = .ok (.iload_n 1, 1) := by decide +kernel
theorem dX7_isPastDoor_11 : decode cX7_isPastDoor 11 = .ok (.iaload, 1) := by decide +kernel
theorem dX7_isPastDoor_12 : decode cX7_isPastDoor 12 = .ok (.iaload, 1) := by decide +kernel
theorem dX7_isPastDoor_13 : decode cX7_isPastDoor 13 = .ok (.iconst 1, 1) := by decide +kernel
theorem dX7_isPastDoor_14 : decode cX7_isPastDoor 14 = .ok (.if_icmp .ne 24, 3) := by decide +kernel
theorem dX7_isPastDoor_17 : decode cX7_isPastDoor 17 = .ok (.aload_n 0, 1) := by decide +kernel
theorem dX7_isPastDoor_18 : decode cX7_isPastDoor 18 = .ok (.getfield 16, 3) := by decide +kernel
theorem dX7_isPastDoor_21 : decode cX7_isPastDoor 21 = .ok (.aload_n 0, 1) := by decide +kernel
theorem dX7_isPastDoor_22 : decode cX7_isPastDoor 22 = .ok (.getfield 23, 3) := by decide +kernel
theorem dX7_isPastDoor_25 : decode cX7_isPastDoor 25 = .ok (.iconst 1, 1) := by decide +kernel
theorem dX7_isPastDoor_26 : decode cX7_isPastDoor 26 = .ok (.aaload, 1) := by decide +kernel
theorem dX7_isPastDoor_27 : decode cX7_isPastDoor 27 = .ok (.iload_n 1, 1) := by decide +kernel
theorem dX7_isPastDoor_28 : decode cX7_isPastDoor 28 = .ok (.iaload, 1) := by decide +kernel
theorem dX7_isPastDoor_29 : decode cX7_isPastDoor 29 = .ok (.iaload, 1) := by decide +kernel
theorem dX7_isPastDoor_30 : decode cX7_isPastDoor 30 = .ok (.iconst 1, 1) := by decide +kernel
theorem dX7_isPastDoor_31 : decode cX7_isPastDoor 31 = .ok (.if_icmp .ne 7, 3) := by decide +kernel
theorem dX7_isPastDoor_34 : decode cX7_isPastDoor 34 = .ok (.iconst 1, 1) := by decide +kernel
theorem dX7_isPastDoor_35 : decode cX7_isPastDoor 35 = .ok (.goto 4, 3) := by decide +kernel
theorem dX7_isPastDoor_38 : decode cX7_isPastDoor 38 = .ok (.iconst 0, 1) := by decide +kernel
theorem dX7_isPastDoor_39 : decode cX7_isPastDoor 39 = .ok (.ireturn, 1) := by decide +kernel
theorem dX7_growCounters_0 : decode cX7_growCounters 0 = .ok (.aload_n 0, 1) := by decide +kernel
theorem dX7_growCounters_1 : decode cX7_growCounters 1 = .ok (.getfield 33, 3) := by decide +kernel
theorem dX7_growCounters_4 : decode cX7_growCounters 4 = .ok (.iconst 1, 1) := by decide +kernel
theorem dX7_growCounters_5 : decode cX7_growCounters 5 = .ok (.if_icmp .ne 11, 3) := by decide +kernel
theorem dX7_growCounters_8 : decode cX7_growCounters 8 = .ok (.aload_n 0, 1) := by decide +kernel
theorem dX7_growCounters_9 : decode cX7_growCounters 9 = .ok (.iload_n 1, 1) := by decide +kernel
theorem dX7_growCounters_10 : decode cX7_growCounters 10 = .ok (.invokevirtual 78, 3) := by decide +kernel
theorem dX7_growCounters_13 : decode cX7_growCounters 13 = .ok (.goto 5, 3) := by decide +kernel
theorem dX7_growCounters_16 : decode cX7_growCounters 16 = .ok (.bipush 15, 2) := by decide +kernel
theorem dX7_growCounters_18 : decode cX7_growCounters 18 = .ok (.istore_n 2, 1) := by decide +kernel
theorem dX7_growCounters_19 : decode cX7_growCounters 19 = .ok (.iconst 0, 1) := by decide +kernel
theorem dX7_growCounters_20 : decode cX7_growCounters 20 = .ok (.istore_n 3, 1) := by decide +kernel
theorem dX7_growCounters_21 : decode cX7_growCounters 21 = .ok (.iload_n 3, 1) := by decide +kernel
theorem dX7_growCounters_22 : decode cX7_growCounters 22 = .ok (.aload_n 0, 1) := by decide +kernel
theorem dX7_growCounters_23 : decode cX7_growCounters 23 = .ok (.getfield 54, 3) := by decide +kernel
theorem dX7_growCounters_26 : decode cX7_growCounters 26 = .ok (.if_icmp .ge 56, 3) := by decide +kernel
theorem dX7_growCounters_29 : decode cX7_growCounters 29 = .ok (.aload_n 0, 1) := by decide +kernel
theorem dX7_growCounters_30 : decode cX7_growCounters 30 = .ok (.getfield 20, 3) := by decide +kernel
theorem dX7_growCounters_33 : decode cX7_growCounters 33 = .ok (.iload_n 3, 1) := by decide +kernel
theorem dX7_growCounters_34 : decode cX7_growCounters 34 = .ok (.aaload, 1) := by decide +kernel
theorem dX7_growCounters_35 : decode cX7_growCounters 35 = .ok (.iload_n 1, 1) := by decide +kernel
theorem dX7_growCounters_36 : decode cX7_growCounters 36 = .ok (.iaload, 1) := by decide +kernel
theorem dX7_growCounters_37 : decode cX7_growCounters 37 = .ok (.istore 4, 2) := by decide +kernel
theorem dX7_growCounters_39 : decode cX7_growCounters 39 = .ok (.aload_n 0, 1) := by decide +kernel
theorem dX7_growCounters_40 : decode cX7_growCounters 40 = .ok (.getfield 11, 3) := by decide +kernel
theorem dX7_growCounters_43 : decode cX7_growCounters 43 = .ok (.iload_n 3, 1) := by decide +kernel
theorem dX7_growCounters_44 : decode cX7_growCounters 44 = .ok (.aaload, 1) := by decide +kernel
theorem dX7_growCounters_45 : decode cX7_growCounters 45 = .ok (.iload 4, 2) := by decide +kernel
theorem dX7_growCounters_47 : decode cX7_growCounters 47 = .ok (.iaload, 1) := by decide +kernel
theorem dX7_growCounters_48 : decode cX7_growCounters 48 = .ok (.istore 5, 2) := by decide +kernel
theorem dX7_growCounters_50 : decode cX7_growCounters 50 = .ok (.iload 5, 2) := by decide +kernel
theorem dX7_growCounters_52 : decode cX7_growCounters 52 = .ok (.iload_n 2, 1) := by decide +kernel
theorem dX7_growCounters_53 : decode cX7_growCounters 53 = .ok (.if_icmp .gt 23, 3) := by decide +kernel
theorem dX7_growCounters_56 : decode cX7_growCounters 56 = .ok (.iload 5, 2) := by decide +kernel
theorem dX7_growCounters_58 : decode cX7_growCounters 58 = .ok (.bipush 15, 2) := by decide +kernel
theorem dX7_growCounters_60 : decode cX7_growCounters 60 = .ok (.if_icmp .ge 16, 3) := by decide +kernel
theorem dX7_growCounters_63 : decode cX7_growCounters 63 = .ok (.aload_n 0, 1) := by decide +kernel
theorem dX7_growCounters_64 : decode cX7_growCounters 64 = .ok (.getfield 11, 3) := by decide +kernel
theorem dX7_growCounters_67 : decode cX7_growCounters 67 = .ok (.iload_n 3, 1) := by decide +kernel
theorem dX7_growCounters_68 : decode cX7_growCounters 68 = .ok (.aaload, 1) := by decide +kernel
theorem dX7_growCounters_69 : decode cX7_growCounters 69 = .ok (.iload 4, 2) := by decide +kernel
theorem dX7_growCounters_71 : decode cX7_growCounters 71 = .ok (.iload 5, 2) := by decide +kernel
theorem dX7_growCounters_73 : decode cX7_growCounters 73 = .ok (.iconst 1, 1) := by decide +kernel
theorem dX7_growCounters_74 : decode cX7_growCounters 74 = .ok (.iadd, 1) := by decide +kernel
theorem dX7_growCounters_75 : decode cX7_growCounters 75 = .ok (.iastore, 1) := by decide +kernel
theorem dX7_growCounters_76 : decode cX7_growCounters 76 = .ok (.iinc 3 1, 3) := by decide +kernel
theorem dX7_growCounters_79 : decode cX7_growCounters 79 = .ok (.goto (-58), 3) := by decide +kernel
theorem dX7_growCounters_82 : decode cX7_growCounters 82 = .ok (.return_, 1) := by decide +kernel
theorem dX7_smallestCounter_0 : decode cX7_smallestCounter 0 = .ok (.bipush 15, 2) := by decide +kernel
theorem dX7_smallestCounter_2 : decode cX7_smallestCounter 2 = .ok (.istore_n 2, 1) := by decide +kernel
theorem dX7_smallestCounter_3 : decode cX7_smallestCounter 3 = .ok (.iconst 0, 1) := by decide +kernel
theorem dX7_smallestCounter_4 : decode cX7_smallestCounter 4 = .ok (.istore_n 3, 1) := by decide +kernel
theorem dX7_smallestCounter_5 : decode cX7_smallestCounter 5 = .ok (.iload_n 3, 1) := by decide +kernel
theorem dX7_smallestCounter_6 : decode cX7_smallestCounter 6 = .ok (.aload_n 0, 1) := by decide +kernel
theorem dX7_smallestCounter_7 : decode cX7_smallestCounter 7 = .ok (.getfield 54, 3) := by decide +kernel
theorem dX7_smallestCounter_10 : decode cX7_smallestCounter 10 = .ok (.if_icmp .ge 35, 3) := by decide +kernel
theorem dX7_smallestCounter_13 : decode cX7_smallestCounter 13 = .ok (.aload_n 0, 1) := by decide +kernel
theorem dX7_smallestCounter_14 : decode cX7_smallestCounter 14 = .ok (.getfield 11, 3) := by decide +kernel
theorem dX7_smallestCounter_17 : decode cX7_smallestCounter 17 = .ok (.iload_n 3, 1) := by decide +kernel
theorem dX7_smallestCounter_18 : decode cX7_smallestCounter 18 = .ok (.aaload, 1) := by decide +kernel
theorem dX7_smallestCounter_19 : decode cX7_smallestCounter 19 = .ok (.aload_n 0, 1) := by decide +kernel
theorem dX7_smallestCounter_20 : decode cX7_smallestCounter 20 = .ok (.getfield 20, 3) := by decide +kernel
theorem dX7_smallestCounter_23 : decode cX7_smallestCounter 23 = .ok (.iload_n 3, 1) := by decide +kernel
theorem dX7_smallestCounter_24 : decode cX7_smallestCounter 24 = .ok (.aaload, 1) := by decide +kernel
theorem dX7_smallestCounter_25 : decode cX7_smallestCounter 25 = .ok (.iload_n 1, 1) := by decide +kernel
theorem dX7_smallestCounter_26 : decode cX7_smallestCounter 26 = .ok (.iaload, 1) := by decide +kernel
theorem dX7_smallestCounter_27 : decode cX7_smallestCounter 27 = .ok (.iaload, 1) := by decide +kernel
theorem dX7_smallestCounter_28 : decode cX7_smallestCounter 28 = .ok (.istore 4, 2) := by decide +kernel
theorem dX7_smallestCounter_30 : decode cX7_smallestCounter 30 = .ok (.iload 4, 2) := by decide +kernel
theorem dX7_smallestCounter_32 : decode cX7_smallestCounter 32 = .ok (.iload_n 2, 1) := by decide +kernel
theorem dX7_smallestCounter_33 : decode cX7_smallestCounter 33 = .ok (.if_icmp .ge 6, 3) := by decide +kernel
theorem dX7_smallestCounter_36 : decode cX7_smallestCounter 36 = .ok (.iload 4, 2) := by decide +kernel
theorem dX7_smallestCounter_38 : decode cX7_smallestCounter 38 = .ok (.istore_n 2, 1) := by decide +kernel
theorem dX7_smallestCounter_39 : decode cX7_smallestCounter 39 = .ok (.iinc 3 1, 3) := by decide +kernel
theorem dX7_smallestCounter_42 : decode cX7_smallestCounter 42 = .ok (.goto (-37), 3) := by decide +kernel
theorem dX7_smallestCounter_45 : decode cX7_smallestCounter 45 = .ok (.iload_n 2, 1) := by decide +kernel
theorem dX7_smallestCounter_46 : decode cX7_smallestCounter 46 = .ok (.ireturn, 1) := by decide +kernel
theorem dX7_age_0 : decode cX7_age 0 = .ok (.iconst 0, 1) := by decide +kernel
theorem dX7_age_1 : decode cX7_age 1 = .ok (.istore_n 1, 1) := by decide +kernel
theorem dX7_age_2 : decode cX7_age 2 = .ok (.iload_n 1, 1) := by decide +kernel
theorem dX7_age_3 : decode cX7_age 3 = .ok (.aload_n 0, 1) := by decide +kernel
theorem dX7_age_4 : decode cX7_age 4 = .ok (.getfield 54, 3) := by decide +kernel
theorem dX7_age_7 : decode cX7_age 7 = .ok (.if_icmp .ge 35, 3) := by decide +kernel
theorem dX7_age_10 : decode cX7_age 10 = .ok (.iconst 0, 1) := by decide +kernel
theorem dX7_age_11 : decode cX7_age 11 = .ok (.istore_n 2, 1) := by decide +kernel
theorem dX7_age_12 : decode cX7_age 12 = .ok (.iload_n 2, 1) := by decide +kernel
theorem dX7_age_13 : decode cX7_age 13 = .ok (.bipush 64, 2) := by decide +kernel
theorem dX7_age_15 : decode cX7_age 15 = .ok (.if_icmp .ge 21, 3) := by decide +kernel
theorem dX7_age_18 : decode cX7_age 18 = .ok (.aload_n 0, 1) := by decide +kernel
theorem dX7_age_19 : decode cX7_age 19 = .ok (.getfield 11, 3) := by decide +kernel
theorem dX7_age_22 : decode cX7_age 22 = .ok (.iload_n 1, 1) := by decide +kernel
theorem dX7_age_23 : decode cX7_age 23 = .ok (.aaload, 1) := by decide +kernel
theorem dX7_age_24 : decode cX7_age 24 = .ok (.iload_n 2, 1) := by decide +kernel
theorem dX7_age_25 : decode cX7_age 25 = .ok (.dup2, 1) := by decide +kernel
theorem dX7_age_26 : decode cX7_age 26 = .ok (.iaload, 1) := by decide +kernel
theorem dX7_age_27 : decode cX7_age 27 = .ok (.iconst 2, 1) := by decide +kernel
theorem dX7_age_28 : decode cX7_age 28 = .ok (.idiv, 1) := by decide +kernel
theorem dX7_age_29 : decode cX7_age 29 = .ok (.iastore, 1) := by decide +kernel
theorem dX7_age_30 : decode cX7_age 30 = .ok (.iinc 2 1, 3) := by decide +kernel
theorem dX7_age_33 : decode cX7_age 33 = .ok (.goto (-21), 3) := by decide +kernel
theorem dX7_age_36 : decode cX7_age 36 = .ok (.iinc 1 1, 3) := by decide +kernel
theorem dX7_age_39 : decode cX7_age 39 = .ok (.goto (-37), 3) := by decide +kernel
theorem dX7_age_42 : decode cX7_age 42 = .ok (.aload_n 0, 1) := by decide +kernel
theorem dX7_age_43 : decode cX7_age 43 = .ok (.getfield 16, 3) := by decide +kernel
theorem dX7_age_46 : decode cX7_age 46 = .ok (.iconst 0, 1) := by decide +kernel
theorem dX7_age_47 : decode cX7_age 47 = .ok (.invokestatic 61, 3) := by decide +kernel
theorem dX7_age_50 : decode cX7_age 50 = .ok (.aload_n 0, 1) := by decide +kernel
theorem dX7_age_51 : decode cX7_age 51 = .ok (.getfield 26, 3) := by decide +kernel
theorem dX7_age_54 : decode cX7_age 54 = .ok (.iconst 0, 1) := by decide +kernel
theorem dX7_age_55 : decode cX7_age 55 = .ok (.invokestatic 61, 3) := by decide +kernel
theorem dX7_age_58 : decode cX7_age 58 = .ok (.aload_n 0, 1) := by decide +kernel
theorem dX7_age_59 : decode cX7_age 59 = .ok (.aload_n 0, 1) := by decide +kernel
theorem dX7_age_60 : decode cX7_age 60 = .ok (.getfield 36, 3) := by decide +kernel
theorem dX7_age_63 : decode cX7_age 63 = .ok (.iconst 2, 1) := by decide +kernel
theorem dX7_age_64 : decode cX7_age 64 = .ok (.idiv, 1) := by decide +kernel
theorem dX7_age_65 : decode cX7_age 65 = .ok (.putfield 39, 3) := by decide +kernel
theorem dX7_age_68 : decode cX7_age 68 = .ok (.aload_n 0, 1) := by decide +kernel
theorem dX7_age_69 : decode cX7_age 69 = .ok (.dup, 1) := by decide +kernel
theorem dX7_age_70 : decode cX7_age 70 = .ok (.getfield 42, 3) := by decide +kernel
theorem dX7_age_73 : decode cX7_age 73 = .ok (.iconst 1, 1) := by decide +kernel
theorem dX7_age_74 : decode cX7_age 74 = .ok (.iadd, 1) := by decide +kernel
theorem dX7_age_75 : decode cX7_age 75 = .ok (.putfield 42, 3) := by decide +kernel
theorem dX7_age_78 : decode cX7_age 78 = .ok (.return_, 1) := by decide +kernel
theorem dX7_guess_0 : decode cX7_guess 0 = .ok (.aload_n 0, 1) := by decide +kernel
theorem dX7_guess_1 : decode cX7_guess 1 = .ok (.iload_n 1, 1) := by decide +kernel
theorem dX7_guess_2 : decode cX7_guess 2 = .ok (.invokevirtual 78, 3) := by decide +kernel
theorem dX7_guess_5 : decode cX7_guess 5 = .ok (.istore_n 2, 1) := by decide +kernel
theorem dX7_guess_6 : decode cX7_guess 6 = .ok (.aload_n 0, 1) := by decide +kernel
theorem dX7_guess_7 : decode cX7_guess 7 = .ok (.getfield 29, 3) := by decide +kernel
theorem dX7_guess_10 : decode cX7_guess 10 = .ok (.iconst 1, 1) := by decide +kernel
theorem dX7_guess_11 : decode cX7_guess 11 = .ok (.if_icmp .ne 17, 3) := by decide +kernel
theorem dX7_guess_14 : decode cX7_guess 14 = .ok (.aload_n 0, 1) := by decide +kernel
theorem dX7_guess_15 : decode cX7_guess 15 = .ok (.iload_n 1, 1) := by decide +kernel
theorem dX7_guess_16 : decode cX7_guess 16 = .ok (.invokevirtual 67, 3) := by decide +kernel
theorem dX7_guess_19 : decode cX7_guess 19 = .ok (.ifCond .eq 9, 3) := by decide +kernel
theorem dX7_guess_22 : decode cX7_guess 22 = .ok (.iload_n 2, 1) := by decide +kernel
theorem dX7_guess_23 : decode cX7_guess 23 = .ok (.iconst 1, 1) := by decide +kernel
theorem dX7_guess_24 : decode cX7_guess 24 = .ok (.iadd, 1) := by decide +kernel
theorem dX7_guess_25 : decode cX7_guess 25 = .ok (.goto 4, 3) := by decide +kernel
theorem dX7_guess_28 : decode cX7_guess 28 = .ok (.iload_n 2, 1) := by decide +kernel
theorem dX7_guess_29 : decode cX7_guess 29 = .ok (.ireturn, 1) := by decide +kernel
theorem dX7_isSound_0 : decode cX7_isSound 0 = .ok (.iconst 0, 1) := by decide +kernel
theorem dX7_isSound_1 : decode cX7_isSound 1 = .ok (.istore_n 1, 1) := by decide +kernel
theorem dX7_isSound_2 : decode cX7_isSound 2 = .ok (.iload_n 1, 1) := by decide +kernel
theorem dX7_isSound_3 : decode cX7_isSound 3 = .ok (.aload_n 0, 1) := by decide +kernel
theorem dX7_isSound_4 : decode cX7_isSound 4 = .ok (.getfield 54, 3) := by decide +kernel
theorem dX7_isSound_7 : decode cX7_isSound 7 = .ok (.if_icmp .ge 49, 3) := by decide +kernel
theorem dX7_isSound_10 : decode cX7_isSound 10 = .ok (.iconst 0, 1) := by decide +kernel
theorem dX7_isSound_11 : decode cX7_isSound 11 = .ok (.istore_n 2, 1) := by decide +kernel
theorem dX7_isSound_12 : decode cX7_isSound 12 = .ok (.iload_n 2, 1) := by decide +kernel
theorem dX7_isSound_13 : decode cX7_isSound 13 = .ok (.bipush 64, 2) := by decide +kernel
theorem dX7_isSound_15 : decode cX7_isSound 15 = .ok (.if_icmp .ge 35, 3) := by decide +kernel
theorem dX7_isSound_18 : decode cX7_isSound 18 = .ok (.aload_n 0, 1) := by decide +kernel
theorem dX7_isSound_19 : decode cX7_isSound 19 = .ok (.getfield 11, 3) := by decide +kernel
theorem dX7_isSound_22 : decode cX7_isSound 22 = .ok (.iload_n 1, 1) := by decide +kernel
theorem dX7_isSound_23 : decode cX7_isSound 23 = .ok (.aaload, 1) := by decide +kernel
theorem dX7_isSound_24 : decode cX7_isSound 24 = .ok (.iload_n 2, 1) := by decide +kernel
theorem dX7_isSound_25 : decode cX7_isSound 25 = .ok (.iaload, 1) := by decide +kernel
theorem dX7_isSound_26 : decode cX7_isSound 26 = .ok (.ifCond .lt 16, 3) := by decide +kernel
theorem dX7_isSound_29 : decode cX7_isSound 29 = .ok (.aload_n 0, 1) := by decide +kernel
theorem dX7_isSound_30 : decode cX7_isSound 30 = .ok (.getfield 11, 3) := by decide +kernel
theorem dX7_isSound_33 : decode cX7_isSound 33 = .ok (.iload_n 1, 1) := by decide +kernel
theorem dX7_isSound_34 : decode cX7_isSound 34 = .ok (.aaload, 1) := by decide +kernel
theorem dX7_isSound_35 : decode cX7_isSound 35 = .ok (.iload_n 2, 1) := by decide +kernel
theorem dX7_isSound_36 : decode cX7_isSound 36 = .ok (.iaload, 1) := by decide +kernel
theorem dX7_isSound_37 : decode cX7_isSound 37 = .ok (.bipush 15, 2) := by decide +kernel
theorem dX7_isSound_39 : decode cX7_isSound 39 = .ok (.if_icmp .le 5, 3) := by decide +kernel
theorem dX7_isSound_42 : decode cX7_isSound 42 = .ok (.iconst 0, 1) := by decide +kernel
theorem dX7_isSound_43 : decode cX7_isSound 43 = .ok (.ireturn, 1) := by decide +kernel
theorem dX7_isSound_44 : decode cX7_isSound 44 = .ok (.iinc 2 1, 3) := by decide +kernel
theorem dX7_isSound_47 : decode cX7_isSound 47 = .ok (.goto (-35), 3) := by decide +kernel
theorem dX7_isSound_50 : decode cX7_isSound 50 = .ok (.iinc 1 1, 3) := by decide +kernel
theorem dX7_isSound_53 : decode cX7_isSound 53 = .ok (.goto (-51), 3) := by decide +kernel
theorem dX7_isSound_56 : decode cX7_isSound 56 = .ok (.iconst 0, 1) := by decide +kernel
theorem dX7_isSound_57 : decode cX7_isSound 57 = .ok (.istore_n 1, 1) := by decide +kernel
theorem dX7_isSound_58 : decode cX7_isSound 58 = .ok (.iload_n 1, 1) := by decide +kernel
theorem dX7_isSound_59 : decode cX7_isSound 59 = .ok (.bipush 100, 2) := by decide +kernel
theorem dX7_isSound_61 : decode cX7_isSound 61 = .ok (.if_icmp .ge 30, 3) := by decide +kernel
theorem dX7_isSound_64 : decode cX7_isSound 64 = .ok (.aload_n 0, 1) := by decide +kernel
theorem dX7_isSound_65 : decode cX7_isSound 65 = .ok (.iload_n 1, 1) := by decide +kernel
theorem dX7_isSound_66 : decode cX7_isSound 66 = .ok (.invokevirtual 82, 3) := by decide +kernel
theorem dX7_isSound_69 : decode cX7_isSound 69 = .ok (.bipush 15, 2) := by decide +kernel
theorem dX7_isSound_71 : decode cX7_isSound 71 = .ok (.aload_n 0, 1) := by decide +kernel
theorem dX7_isSound_72 : decode cX7_isSound 72 = .ok (.getfield 26, 3) := by decide +kernel
theorem dX7_isSound_75 : decode cX7_isSound 75 = .ok (.iload_n 1, 1) := by decide +kernel
theorem dX7_isSound_76 : decode cX7_isSound 76 = .ok (.iaload, 1) := by decide +kernel
theorem dX7_isSound_77 : decode cX7_isSound 77 = .ok (.invokestatic 45, 3) := by decide +kernel
theorem dX7_isSound_80 : decode cX7_isSound 80 = .ok (.if_icmp .ge 5, 3) := by decide +kernel
theorem dX7_isSound_83 : decode cX7_isSound 83 = .ok (.iconst 0, 1) := by decide +kernel
theorem dX7_isSound_84 : decode cX7_isSound 84 = .ok (.ireturn, 1) := by decide +kernel
theorem dX7_isSound_85 : decode cX7_isSound 85 = .ok (.iinc 1 1, 3) := by decide +kernel
theorem dX7_isSound_88 : decode cX7_isSound 88 = .ok (.goto (-30), 3) := by decide +kernel
theorem dX7_isSound_91 : decode cX7_isSound 91 = .ok (.iconst 1, 1) := by decide +kernel
theorem dX7_isSound_92 : decode cX7_isSound 92 = .ok (.ireturn, 1) := by decide +kernel
theorem dX7_copyFrom_0 : decode cX7_copyFrom 0 = .ok (.iconst 0, 1) := by decide +kernel
theorem dX7_copyFrom_1 : decode cX7_copyFrom 1 = .ok (.istore_n 2, 1) := by decide +kernel
theorem dX7_copyFrom_2 : decode cX7_copyFrom 2 = .ok (.iload_n 2, 1) := by decide +kernel
theorem dX7_copyFrom_3 : decode cX7_copyFrom 3 = .ok (.iconst 4, 1) := by decide +kernel
theorem dX7_copyFrom_4 : decode cX7_copyFrom 4 = .ok (.if_icmp .ge 47, 3) := by decide +kernel
theorem dX7_copyFrom_7 : decode cX7_copyFrom 7 = .ok (.aload_n 1, 1) := by decide +kernel
theorem dX7_copyFrom_8 : decode cX7_copyFrom 8 = .ok (.getfield 11, 3) := by decide +kernel
theorem dX7_copyFrom_11 : decode cX7_copyFrom 11 = .ok (.iload_n 2, 1) := by decide +kernel
theorem dX7_copyFrom_12 : decode cX7_copyFrom 12 = .ok (.aaload, 1) := by decide +kernel
theorem dX7_copyFrom_13 : decode cX7_copyFrom 13 = .ok (.iconst 0, 1) := by decide +kernel
theorem dX7_copyFrom_14 : decode cX7_copyFrom 14 = .ok (.aload_n 0, 1) := by decide +kernel
theorem dX7_copyFrom_15 : decode cX7_copyFrom 15 = .ok (.getfield 11, 3) := by decide +kernel
theorem dX7_copyFrom_18 : decode cX7_copyFrom 18 = .ok (.iload_n 2, 1) := by decide +kernel
theorem dX7_copyFrom_19 : decode cX7_copyFrom 19 = .ok (.aaload, 1) := by decide +kernel
theorem dX7_copyFrom_20 : decode cX7_copyFrom 20 = .ok (.iconst 0, 1) := by decide +kernel
theorem dX7_copyFrom_21 : decode cX7_copyFrom 21 = .ok (.bipush 64, 2) := by decide +kernel
theorem dX7_copyFrom_23 : decode cX7_copyFrom 23 = .ok (.invokestatic 85, 3) := by decide +kernel
theorem dX7_copyFrom_26 : decode cX7_copyFrom 26 = .ok (.aload_n 1, 1) := by decide +kernel
theorem dX7_copyFrom_27 : decode cX7_copyFrom 27 = .ok (.getfield 20, 3) := by decide +kernel
theorem dX7_copyFrom_30 : decode cX7_copyFrom 30 = .ok (.iload_n 2, 1) := by decide +kernel
theorem dX7_copyFrom_31 : decode cX7_copyFrom 31 = .ok (.aaload, 1) := by decide +kernel
theorem dX7_copyFrom_32 : decode cX7_copyFrom 32 = .ok (.iconst 0, 1) := by decide +kernel
theorem dX7_copyFrom_33 : decode cX7_copyFrom 33 = .ok (.aload_n 0, 1) := by decide +kernel
theorem dX7_copyFrom_34 : decode cX7_copyFrom 34 = .ok (.getfield 20, 3) := by decide +kernel
theorem dX7_copyFrom_37 : decode cX7_copyFrom 37 = .ok (.iload_n 2, 1) := by decide +kernel
theorem dX7_copyFrom_38 : decode cX7_copyFrom 38 = .ok (.aaload, 1) := by decide +kernel
theorem dX7_copyFrom_39 : decode cX7_copyFrom 39 = .ok (.iconst 0, 1) := by decide +kernel
theorem dX7_copyFrom_40 : decode cX7_copyFrom 40 = .ok (.bipush 100, 2) := by decide +kernel
theorem dX7_copyFrom_42 : decode cX7_copyFrom 42 = .ok (.invokestatic 85, 3) := by decide +kernel
theorem dX7_copyFrom_45 : decode cX7_copyFrom 45 = .ok (.iinc 2 1, 3) := by decide +kernel
theorem dX7_copyFrom_48 : decode cX7_copyFrom 48 = .ok (.goto (-46), 3) := by decide +kernel
theorem dX7_copyFrom_51 : decode cX7_copyFrom 51 = .ok (.iconst 0, 1) := by decide +kernel
theorem dX7_copyFrom_52 : decode cX7_copyFrom 52 = .ok (.istore_n 2, 1) := by decide +kernel
theorem dX7_copyFrom_53 : decode cX7_copyFrom 53 = .ok (.iload_n 2, 1) := by decide +kernel
theorem dX7_copyFrom_54 : decode cX7_copyFrom 54 = .ok (.iconst 2, 1) := by decide +kernel
theorem dX7_copyFrom_55 : decode cX7_copyFrom 55 = .ok (.if_icmp .ge 28, 3) := by decide +kernel
theorem dX7_copyFrom_58 : decode cX7_copyFrom 58 = .ok (.aload_n 1, 1) := by decide +kernel
theorem dX7_copyFrom_59 : decode cX7_copyFrom 59 = .ok (.getfield 23, 3) := by decide +kernel
theorem dX7_copyFrom_62 : decode cX7_copyFrom 62 = .ok (.iload_n 2, 1) := by decide +kernel
theorem dX7_copyFrom_63 : decode cX7_copyFrom 63 = .ok (.aaload, 1) := by decide +kernel
theorem dX7_copyFrom_64 : decode cX7_copyFrom 64 = .ok (.iconst 0, 1) := by decide +kernel
theorem dX7_copyFrom_65 : decode cX7_copyFrom 65 = .ok (.aload_n 0, 1) := by decide +kernel
theorem dX7_copyFrom_66 : decode cX7_copyFrom 66 = .ok (.getfield 23, 3) := by decide +kernel
theorem dX7_copyFrom_69 : decode cX7_copyFrom 69 = .ok (.iload_n 2, 1) := by decide +kernel
theorem dX7_copyFrom_70 : decode cX7_copyFrom 70 = .ok (.aaload, 1) := by decide +kernel
theorem dX7_copyFrom_71 : decode cX7_copyFrom 71 = .ok (.iconst 0, 1) := by decide +kernel
theorem dX7_copyFrom_72 : decode cX7_copyFrom 72 = .ok (.bipush 100, 2) := by decide +kernel
theorem dX7_copyFrom_74 : decode cX7_copyFrom 74 = .ok (.invokestatic 85, 3) := by decide +kernel
theorem dX7_copyFrom_77 : decode cX7_copyFrom 77 = .ok (.iinc 2 1, 3) := by decide +kernel
theorem dX7_copyFrom_80 : decode cX7_copyFrom 80 = .ok (.goto (-27), 3) := by decide +kernel
theorem dX7_copyFrom_83 : decode cX7_copyFrom 83 = .ok (.aload_n 1, 1) := by decide +kernel
theorem dX7_copyFrom_84 : decode cX7_copyFrom 84 = .ok (.getfield 16, 3) := by decide +kernel
theorem dX7_copyFrom_87 : decode cX7_copyFrom 87 = .ok (.iconst 0, 1) := by decide +kernel
theorem dX7_copyFrom_88 : decode cX7_copyFrom 88 = .ok (.aload_n 0, 1) := by decide +kernel
theorem dX7_copyFrom_89 : decode cX7_copyFrom 89 = .ok (.getfield 16, 3) := by decide +kernel
theorem dX7_copyFrom_92 : decode cX7_copyFrom 92 = .ok (.iconst 0, 1) := by decide +kernel
theorem dX7_copyFrom_93 : decode cX7_copyFrom 93 = .ok (.sipush 128, 3) := by decide +kernel
theorem dX7_copyFrom_96 : decode cX7_copyFrom 96 = .ok (.invokestatic 85, 3) := by decide +kernel
theorem dX7_copyFrom_99 : decode cX7_copyFrom 99 = .ok (.aload_n 1, 1) := by decide +kernel
theorem dX7_copyFrom_100 : decode cX7_copyFrom 100 = .ok (.getfield 26, 3) := by decide +kernel
theorem dX7_copyFrom_103 : decode cX7_copyFrom 103 = .ok (.iconst 0, 1) := by decide +kernel
theorem dX7_copyFrom_104 : decode cX7_copyFrom 104 = .ok (.aload_n 0, 1) := by decide +kernel
theorem dX7_copyFrom_105 : decode cX7_copyFrom 105 = .ok (.getfield 26, 3) := by decide +kernel
theorem dX7_copyFrom_108 : decode cX7_copyFrom 108 = .ok (.iconst 0, 1) := by decide +kernel
theorem dX7_copyFrom_109 : decode cX7_copyFrom 109 = .ok (.bipush 100, 2) := by decide +kernel
theorem dX7_copyFrom_111 : decode cX7_copyFrom 111 = .ok (.invokestatic 85, 3) := by decide +kernel
theorem dX7_copyFrom_114 : decode cX7_copyFrom 114 = .ok (.aload_n 0, 1) := by decide +kernel
theorem dX7_copyFrom_115 : decode cX7_copyFrom 115 = .ok (.aload_n 1, 1) := by decide +kernel
theorem dX7_copyFrom_116 : decode cX7_copyFrom 116 = .ok (.getfield 29, 3) := by decide +kernel
theorem dX7_copyFrom_119 : decode cX7_copyFrom 119 = .ok (.putfield 29, 3) := by decide +kernel
theorem dX7_copyFrom_122 : decode cX7_copyFrom 122 = .ok (.aload_n 0, 1) := by decide +kernel
theorem dX7_copyFrom_123 : decode cX7_copyFrom 123 = .ok (.aload_n 1, 1) := by decide +kernel
theorem dX7_copyFrom_124 : decode cX7_copyFrom 124 = .ok (.getfield 33, 3) := by decide +kernel
theorem dX7_copyFrom_127 : decode cX7_copyFrom 127 = .ok (.putfield 33, 3) := by decide +kernel
theorem dX7_copyFrom_130 : decode cX7_copyFrom 130 = .ok (.aload_n 0, 1) := by decide +kernel
theorem dX7_copyFrom_131 : decode cX7_copyFrom 131 = .ok (.aload_n 1, 1) := by decide +kernel
theorem dX7_copyFrom_132 : decode cX7_copyFrom 132 = .ok (.getfield 36, 3) := by decide +kernel
theorem dX7_copyFrom_135 : decode cX7_copyFrom 135 = .ok (.putfield 36, 3) := by decide +kernel
theorem dX7_copyFrom_138 : decode cX7_copyFrom 138 = .ok (.aload_n 0, 1) := by decide +kernel
theorem dX7_copyFrom_139 : decode cX7_copyFrom 139 = .ok (.aload_n 1, 1) := by decide +kernel
theorem dX7_copyFrom_140 : decode cX7_copyFrom 140 = .ok (.getfield 39, 3) := by decide +kernel
theorem dX7_copyFrom_143 : decode cX7_copyFrom 143 = .ok (.putfield 39, 3) := by decide +kernel
theorem dX7_copyFrom_146 : decode cX7_copyFrom 146 = .ok (.aload_n 0, 1) := by decide +kernel
theorem dX7_copyFrom_147 : decode cX7_copyFrom 147 = .ok (.aload_n 1, 1) := by decide +kernel
theorem dX7_copyFrom_148 : decode cX7_copyFrom 148 = .ok (.getfield 42, 3) := by decide +kernel
theorem dX7_copyFrom_151 : decode cX7_copyFrom 151 = .ok (.putfield 42, 3) := by decide +kernel
theorem dX7_copyFrom_154 : decode cX7_copyFrom 154 = .ok (.return_, 1) := by decide +kernel
theorem dX8_init_0 : decode cX8_init 0 = .ok (.aload_n 0, 1) := by decide +kernel
theorem dX8_init_1 : decode cX8_init 1 = .ok (.invokespecial 3, 3) := by decide +kernel
theorem dX8_init_4 : decode cX8_init 4 = .ok (.aload_n 0, 1) := by decide +kernel
theorem dX8_init_5 : decode cX8_init 5 = .ok (.new 9, 3) := by decide +kernel
theorem dX8_init_8 : decode cX8_init 8 = .ok (.dup, 1) := by decide +kernel
theorem dX8_init_9 : decode cX8_init 9 = .ok (.invokespecial 11, 3) := by decide +kernel
theorem dX8_init_12 : decode cX8_init 12 = .ok (.putfield 12, 3) := by decide +kernel
theorem dX8_init_15 : decode cX8_init 15 = .ok (.aload_n 0, 1) := by decide +kernel
theorem dX8_init_16 : decode cX8_init 16 = .ok (.new 18, 3) := by decide +kernel
theorem dX8_init_19 : decode cX8_init 19 = .ok (.dup, 1) := by decide +kernel
theorem dX8_init_20 : decode cX8_init 20 = .ok (.invokespecial 20, 3) := by decide +kernel
theorem dX8_init_23 : decode cX8_init 23 = .ok (.putfield 21, 3) := by decide +kernel
theorem dX8_init_26 : decode cX8_init 26 = .ok (.aload_n 0, 1) := by decide +kernel
theorem dX8_init_27 : decode cX8_init 27 = .ok (.iconst 0, 1) := by decide +kernel
theorem dX8_init_28 : decode cX8_init 28 = .ok (.putfield 25, 3) := by decide +kernel
theorem dX8_init_31 : decode cX8_init 31 = .ok (.aload_n 0, 1) := by decide +kernel
theorem dX8_init_32 : decode cX8_init 32 = .ok (.iconst 0, 1) := by decide +kernel
theorem dX8_init_33 : decode cX8_init 33 = .ok (.putfield 29, 3) := by decide +kernel
theorem dX8_init_36 : decode cX8_init 36 = .ok (.aload_n 0, 1) := by decide +kernel
theorem dX8_init_37 : decode cX8_init 37 = .ok (.new 32, 3) := by decide +kernel
theorem dX8_init_40 : decode cX8_init 40 = .ok (.dup, 1) := by decide +kernel
theorem dX8_init_41 : decode cX8_init 41 = .ok (.iload_n 1, 1) := by decide +kernel
theorem dX8_init_42 : decode cX8_init 42 = .ok (.iload_n 2, 1) := by decide +kernel
theorem dX8_init_43 : decode cX8_init 43 = .ok (.iload_n 3, 1) := by decide +kernel
theorem dX8_init_44 : decode cX8_init 44 = .ok (.invokespecial 34, 3) := by decide +kernel
theorem dX8_init_47 : decode cX8_init 47 = .ok (.putfield 37, 3) := by decide +kernel
theorem dX8_init_50 : decode cX8_init 50 = .ok (.return_, 1) := by decide +kernel
theorem dX8_visit_0 : decode cX8_visit 0 = .ok (.aload_n 0, 1) := by decide +kernel
theorem dX8_visit_1 : decode cX8_visit 1 = .ok (.dup, 1) := by decide +kernel
theorem dX8_visit_2 : decode cX8_visit 2 = .ok (.getfield 25, 3) := by decide +kernel
theorem dX8_visit_5 : decode cX8_visit 5 = .ok (.iconst 1, 1) := by decide +kernel
theorem dX8_visit_6 : decode cX8_visit 6 = .ok (.iadd, 1) := by decide +kernel
theorem dX8_visit_7 : decode cX8_visit 7 = .ok (.putfield 25, 3) := by decide +kernel
theorem dX8_visit_10 : decode cX8_visit 10 = .ok (.aload_n 0, 1) := by decide +kernel
theorem dX8_visit_11 : decode cX8_visit 11 = .ok (.getfield 12, 3) := by decide +kernel
theorem dX8_visit_14 : decode cX8_visit 14 = .ok (.iload_n 1, 1) := by decide +kernel
theorem dX8_visit_15 : decode cX8_visit 15 = .ok (.invokevirtual 41, 3) := by decide +kernel
theorem dX8_visit_18 : decode cX8_visit 18 = .ok (.aload_n 0, 1) := by decide +kernel
theorem dX8_visit_19 : decode cX8_visit 19 = .ok (.getfield 37, 3) := by decide +kernel
theorem dX8_visit_22 : decode cX8_visit 22 = .ok (.getfield 45, 3) := by decide +kernel
theorem dX8_visit_25 : decode cX8_visit 25 = .ok (.iload_n 1, 1) := by decide +kernel
theorem dX8_visit_26 : decode cX8_visit 26 = .ok (.invokevirtual 49, 3) := by decide +kernel
theorem dX8_visit_29 : decode cX8_visit 29 = .ok (.aload_n 0, 1) := by decide +kernel
theorem dX8_visit_30 : decode cX8_visit 30 = .ok (.getfield 37, 3) := by decide +kernel
theorem dX8_visit_33 : decode cX8_visit 33 = .ok (.getfield 54, 3) := by decide +kernel
theorem dX8_visit_36 : decode cX8_visit 36 = .ok (.getfield 58, 3) := by decide +kernel
theorem dX8_visit_39 : decode cX8_visit 39 = .ok (.iload_n 1, 1) := by decide +kernel
theorem dX8_visit_40 : decode cX8_visit 40 = .ok (.iaload, 1) := by decide +kernel
theorem dX8_visit_41 : decode cX8_visit 41 = .ok (.istore_n 2, 1) := by decide +kernel
theorem dX8_visit_42 : decode cX8_visit 42 = .ok (.iload_n 2, 1) := by decide +kernel
theorem dX8_visit_43 : decode cX8_visit 43 = .ok (.iconst (-1), 1) := by decide +kernel
theorem dX8_visit_44 : decode cX8_visit 44 = .ok (.if_icmp .eq 7, 3) := by decide +kernel
theorem dX8_visit_47 : decode cX8_visit 47 = .ok (.iconst 1, 1) := by decide +kernel
theorem dX8_visit_48 : decode cX8_visit 48 = .ok (.goto 4, 3) := by decide +kernel
theorem dX8_visit_51 : decode cX8_visit 51 = .ok (.iconst 0, 1) := by decide +kernel
theorem dX8_visit_52 : decode cX8_visit 52 = .ok (.istore_n 3, 1) := by decide +kernel
theorem dX8_visit_53 : decode cX8_visit 53 = .ok (.iload_n 3, 1) := by decide +kernel
theorem dX8_visit_54 : decode cX8_visit 54 = .ok (.ifCond .eq 24, 3) := by decide +kernel
theorem dX8_visit_57 : decode cX8_visit 57 = .ok (.aload_n 0, 1) := by decide +kernel
theorem dX8_visit_58 : decode cX8_visit 58 = .ok (.dup, 1) := by decide +kernel
theorem dX8_visit_59 : decode cX8_visit 59 = .ok (.getfield 29, 3) := by decide +kernel
theorem dX8_visit_62 : decode cX8_visit 62 = .ok (.iconst 1, 1) := by decide +kernel
theorem dX8_visit_63 : decode cX8_visit 63 = .ok (.iadd, 1) := by decide +kernel
theorem dX8_visit_64 : decode cX8_visit 64 = .ok (.putfield 29, 3) := by decide +kernel
theorem dX8_visit_67 : decode cX8_visit 67 = .ok (.aload_n 0, 1) := by decide +kernel
theorem dX8_visit_68 : decode cX8_visit 68 = .ok (.getfield 37, 3) := by decide +kernel
theorem dX8_visit_71 : decode cX8_visit 71 = .ok (.iload_n 1, 1) := by decide +kernel
theorem dX8_visit_72 : decode cX8_visit 72 = .ok (.invokevirtual 64, 3) := by decide +kernel
theorem dX8_visit_75 : decode cX8_visit 75 = .ok (.goto 18, 3) := by decide +kernel
theorem dX8_visit_78 : decode cX8_visit 78 = .ok (.aload_n 0, 1) := by decide +kernel
theorem dX8_visit_79 : decode cX8_visit 79 = .ok (.getfield 37, 3) := by decide +kernel
theorem dX8_visit_82 : decode cX8_visit 82 = .ok (.iload_n 1, 1) := by decide +kernel
theorem dX8_visit_83 : decode cX8_visit 83 = .ok (.invokevirtual 67, 3) := by decide +kernel
theorem dX8_visit_86 : decode cX8_visit 86 = .ok (.aload_n 0, 1) := by decide +kernel
theorem dX8_visit_87 : decode cX8_visit 87 = .ok (.getfield 37, 3) := by decide +kernel
theorem dX8_visit_90 : decode cX8_visit 90 = .ok (.invokevirtual 70, 3) := by decide +kernel
theorem dX8_visit_93 : decode cX8_visit 93 = .ok (.aload_n 0, 1) := by decide +kernel
theorem dX8_visit_94 : decode cX8_visit 94 = .ok (.getfield 21, 3) := by decide +kernel
theorem dX8_visit_97 : decode cX8_visit 97 = .ok (.iload_n 3, 1) := by decide +kernel
theorem dX8_visit_98 : decode cX8_visit 98 = .ok (.invokevirtual 73, 3) := by decide +kernel
theorem dX8_visit_101 : decode cX8_visit 101 = .ok (.istore 4, 2) := by decide +kernel
theorem dX8_visit_103 : decode cX8_visit 103 = .ok (.iload 4, 2) := by decide +kernel
theorem dX8_visit_105 : decode cX8_visit 105 = .ok (.ifCond .eq 27, 3) := by decide +kernel
theorem dX8_visit_108 : decode cX8_visit 108 = .ok (.aload_n 0, 1) := by decide +kernel
theorem dX8_visit_109 : decode cX8_visit 109 = .ok (.getfield 37, 3) := by decide +kernel
theorem dX8_visit_112 : decode cX8_visit 112 = .ok (.aload_n 0, 1) := by decide +kernel
theorem dX8_visit_113 : decode cX8_visit 113 = .ok (.getfield 37, 3) := by decide +kernel
theorem dX8_visit_116 : decode cX8_visit 116 = .ok (.getfield 77, 3) := by decide +kernel
theorem dX8_visit_119 : decode cX8_visit 119 = .ok (.iload 4, 2) := by decide +kernel
theorem dX8_visit_121 : decode cX8_visit 121 = .ok (.iadd, 1) := by decide +kernel
theorem dX8_visit_122 : decode cX8_visit 122 = .ok (.invokevirtual 80, 3) := by decide +kernel
theorem dX8_visit_125 : decode cX8_visit 125 = .ok (.aload_n 0, 1) := by decide +kernel
theorem dX8_visit_126 : decode cX8_visit 126 = .ok (.getfield 37, 3) := by decide +kernel
theorem dX8_visit_129 : decode cX8_visit 129 = .ok (.invokevirtual 70, 3) := by decide +kernel
theorem dX8_visit_132 : decode cX8_visit 132 = .ok (.iload_n 3, 1) := by decide +kernel
theorem dX8_visit_133 : decode cX8_visit 133 = .ok (.ifCond .eq 7, 3) := by decide +kernel
theorem dX8_visit_136 : decode cX8_visit 136 = .ok (.iconst 2, 1) := by decide +kernel
theorem dX8_visit_137 : decode cX8_visit 137 = .ok (.iload_n 2, 1) := by decide +kernel
theorem dX8_visit_138 : decode cX8_visit 138 = .ok (.iadd, 1) := by decide +kernel
theorem dX8_visit_139 : decode cX8_visit 139 = .ok (.ireturn, 1) := by decide +kernel
theorem dX8_visit_140 : decode cX8_visit 140 = .ok (.aload_n 0, 1) := by decide +kernel
theorem dX8_visit_141 : decode cX8_visit 141 = .ok (.getfield 37, 3) := by decide +kernel
theorem dX8_visit_144 : decode cX8_visit 144 = .ok (.getfield 54, 3) := by decide +kernel
theorem dX8_visit_147 : decode cX8_visit 147 = .ok (.getfield 58, 3) := by decide +kernel
theorem dX8_visit_150 : decode cX8_visit 150 = .ok (.iload_n 1, 1) := by decide +kernel
theorem dX8_visit_151 : decode cX8_visit 151 = .ok (.iaload, 1) := by decide +kernel
theorem dX8_visit_152 : decode cX8_visit 152 = .ok (.iconst (-1), 1) := by decide +kernel
theorem dX8_visit_153 : decode cX8_visit 153 = .ok (.if_icmp .ne 7, 3) := by decide +kernel
theorem dX8_visit_156 : decode cX8_visit 156 = .ok (.iconst 0, 1) := by decide +kernel
theorem dX8_visit_157 : decode cX8_visit 157 = .ok (.goto 4, 3) := by decide +kernel
theorem dX8_visit_160 : decode cX8_visit 160 = .ok (.iconst 1, 1) := by decide +kernel
theorem dX8_visit_161 : decode cX8_visit 161 = .ok (.ireturn, 1) := by decide +kernel
theorem dX8_tellRule_0 : decode cX8_tellRule 0 = .ok (.iload_n 1, 1) := by decide +kernel
theorem dX8_tellRule_1 : decode cX8_tellRule 1 = .ok (.tableswitch 102 0 5 #[39, 51, 63, 75, 84, 93], 39) := by decide +kernel
theorem dX8_tellRule_40 : decode cX8_tellRule 40 = .ok (.aload_n 0, 1) := by decide +kernel
theorem dX8_tellRule_41 : decode cX8_tellRule 41 = .ok (.getfield 37, 3) := by decide +kernel
theorem dX8_tellRule_44 : decode cX8_tellRule 44 = .ok (.getfield 45, 3) := by decide +kernel
theorem dX8_tellRule_47 : decode cX8_tellRule 47 = .ok (.iload_n 2, 1) := by decide +kernel
theorem dX8_tellRule_48 : decode cX8_tellRule 48 = .ok (.invokevirtual 83, 3) := by decide +kernel
theorem dX8_tellRule_51 : decode cX8_tellRule 51 = .ok (.ireturn, 1) := by decide +kernel
theorem dX8_tellRule_52 : decode cX8_tellRule 52 = .ok (.aload_n 0, 1) := by decide +kernel
theorem dX8_tellRule_53 : decode cX8_tellRule 53 = .ok (.getfield 37, 3) := by decide +kernel
theorem dX8_tellRule_56 : decode cX8_tellRule 56 = .ok (.getfield 45, 3) := by decide +kernel
theorem dX8_tellRule_59 : decode cX8_tellRule 59 = .ok (.iload_n 2, 1) := by decide +kernel
theorem dX8_tellRule_60 : decode cX8_tellRule 60 = .ok (.invokevirtual 87, 3) := by decide +kernel
theorem dX8_tellRule_63 : decode cX8_tellRule 63 = .ok (.ireturn, 1) := by decide +kernel
theorem dX8_tellRule_64 : decode cX8_tellRule 64 = .ok (.aload_n 0, 1) := by decide +kernel
theorem dX8_tellRule_65 : decode cX8_tellRule 65 = .ok (.getfield 37, 3) := by decide +kernel
theorem dX8_tellRule_68 : decode cX8_tellRule 68 = .ok (.getfield 45, 3) := by decide +kernel
theorem dX8_tellRule_71 : decode cX8_tellRule 71 = .ok (.iload_n 2, 1) := by decide +kernel
theorem dX8_tellRule_72 : decode cX8_tellRule 72 = .ok (.invokevirtual 90, 3) := by decide +kernel
theorem dX8_tellRule_75 : decode cX8_tellRule 75 = .ok (.ireturn, 1) := by decide +kernel
theorem dX8_tellRule_76 : decode cX8_tellRule 76 = .ok (.aload_n 0, 1) := by decide +kernel
theorem dX8_tellRule_77 : decode cX8_tellRule 77 = .ok (.getfield 37, 3) := by decide +kernel
theorem dX8_tellRule_80 : decode cX8_tellRule 80 = .ok (.iload_n 2, 1) := by decide +kernel
theorem dX8_tellRule_81 : decode cX8_tellRule 81 = .ok (.invokevirtual 93, 3) := by decide +kernel
theorem dX8_tellRule_84 : decode cX8_tellRule 84 = .ok (.ireturn, 1) := by decide +kernel
theorem dX8_tellRule_85 : decode cX8_tellRule 85 = .ok (.aload_n 0, 1) := by decide +kernel
theorem dX8_tellRule_86 : decode cX8_tellRule 86 = .ok (.getfield 21, 3) := by decide +kernel
theorem dX8_tellRule_89 : decode cX8_tellRule 89 = .ok (.iload_n 2, 1) := by decide +kernel
theorem dX8_tellRule_90 : decode cX8_tellRule 90 = .ok (.invokevirtual 96, 3) := by decide +kernel
theorem dX8_tellRule_93 : decode cX8_tellRule 93 = .ok (.ireturn, 1) := by decide +kernel
theorem dX8_tellRule_94 : decode cX8_tellRule 94 = .ok (.aload_n 0, 1) := by decide +kernel
theorem dX8_tellRule_95 : decode cX8_tellRule 95 = .ok (.getfield 21, 3) := by decide +kernel
theorem dX8_tellRule_98 : decode cX8_tellRule 98 = .ok (.iload_n 2, 1) := by decide +kernel
theorem dX8_tellRule_99 : decode cX8_tellRule 99 = .ok (.invokevirtual 99, 3) := by decide +kernel
theorem dX8_tellRule_102 : decode cX8_tellRule 102 = .ok (.ireturn, 1) := by decide +kernel
theorem dX8_tellRule_103 : decode cX8_tellRule 103 = .ok (.bipush (-2), 2) := by decide +kernel
theorem dX8_tellRule_105 : decode cX8_tellRule 105 = .ok (.ireturn, 1) := by decide +kernel
theorem dX8_tellAbout_0 : decode cX8_tellAbout 0 = .ok (.iload_n 1, 1) := by decide +kernel
theorem dX8_tellAbout_1 : decode cX8_tellAbout 1 = .ok (.tableswitch 222 0 15 #[79, 87, 95, 108, 121, 134, 142, 153, 164, 169, 174, 182, 190, 198, 206, 214], 79) := by decide +kernel
theorem dX8_tellAbout_80 : decode cX8_tellAbout 80 = .ok (.aload_n 0, 1) := by decide +kernel
theorem dX8_tellAbout_81 : decode cX8_tellAbout 81 = .ok (.getfield 37, 3) := by decide +kernel
theorem dX8_tellAbout_84 : decode cX8_tellAbout 84 = .ok (.getfield 77, 3) := by decide +kernel
theorem dX8_tellAbout_87 : decode cX8_tellAbout 87 = .ok (.ireturn, 1) := by decide +kernel
theorem dX8_tellAbout_88 : decode cX8_tellAbout 88 = .ok (.aload_n 0, 1) := by decide +kernel
theorem dX8_tellAbout_89 : decode cX8_tellAbout 89 = .ok (.getfield 37, 3) := by decide +kernel
theorem dX8_tellAbout_92 : decode cX8_tellAbout 92 = .ok (.invokevirtual 102, 3) := by decide +kernel
theorem dX8_tellAbout_95 : decode cX8_tellAbout 95 = .ok (.ireturn, 1) := by decide +kernel
theorem dX8_tellAbout_96 : decode cX8_tellAbout 96 = .ok (.aload_n 0, 1) := by decide +kernel
theorem dX8_tellAbout_97 : decode cX8_tellAbout 97 = .ok (.getfield 37, 3) := by decide +kernel
theorem dX8_tellAbout_100 : decode cX8_tellAbout 100 = .ok (.getfield 54, 3) := by decide +kernel
theorem dX8_tellAbout_103 : decode cX8_tellAbout 103 = .ok (.getfield 106, 3) := by decide +kernel
theorem dX8_tellAbout_106 : decode cX8_tellAbout 106 = .ok (.iconst 0, 1) := by decide +kernel
theorem dX8_tellAbout_107 : decode cX8_tellAbout 107 = .ok (.iaload, 1) := by decide +kernel
theorem dX8_tellAbout_108 : decode cX8_tellAbout 108 = .ok (.ireturn, 1) := by decide +kernel
theorem dX8_tellAbout_109 : decode cX8_tellAbout 109 = .ok (.aload_n 0, 1) := by decide +kernel
theorem dX8_tellAbout_110 : decode cX8_tellAbout 110 = .ok (.getfield 37, 3) := by decide +kernel
theorem dX8_tellAbout_113 : decode cX8_tellAbout 113 = .ok (.getfield 54, 3) := by decide +kernel
theorem dX8_tellAbout_116 : decode cX8_tellAbout 116 = .ok (.getfield 106, 3) := by decide +kernel
theorem dX8_tellAbout_119 : decode cX8_tellAbout 119 = .ok (.iconst 1, 1) := by decide +kernel
theorem dX8_tellAbout_120 : decode cX8_tellAbout 120 = .ok (.iaload, 1) := by decide +kernel
theorem dX8_tellAbout_121 : decode cX8_tellAbout 121 = .ok (.ireturn, 1) := by decide +kernel
theorem dX8_tellAbout_122 : decode cX8_tellAbout 122 = .ok (.aload_n 0, 1) := by decide +kernel
theorem dX8_tellAbout_123 : decode cX8_tellAbout 123 = .ok (.getfield 37, 3) := by decide +kernel
theorem dX8_tellAbout_126 : decode cX8_tellAbout 126 = .ok (.getfield 54, 3) := by decide +kernel
theorem dX8_tellAbout_129 : decode cX8_tellAbout 129 = .ok (.getfield 106, 3) := by decide +kernel
theorem dX8_tellAbout_132 : decode cX8_tellAbout 132 = .ok (.iconst 2, 1) := by decide +kernel
theorem dX8_tellAbout_133 : decode cX8_tellAbout 133 = .ok (.iaload, 1) := by decide +kernel
theorem dX8_tellAbout_134 : decode cX8_tellAbout 134 = .ok (.ireturn, 1) := by decide +kernel
theorem dX8_tellAbout_135 : decode cX8_tellAbout 135 = .ok (.aload_n 0, 1) := by decide +kernel
theorem dX8_tellAbout_136 : decode cX8_tellAbout 136 = .ok (.getfield 37, 3) := by decide +kernel
theorem dX8_tellAbout_139 : decode cX8_tellAbout 139 = .ok (.invokevirtual 109, 3) := by decide +kernel
theorem dX8_tellAbout_142 : decode cX8_tellAbout 142 = .ok (.ireturn, 1) := by decide +kernel
theorem dX8_tellAbout_143 : decode cX8_tellAbout 143 = .ok (.aload_n 0, 1) := by decide +kernel
theorem dX8_tellAbout_144 : decode cX8_tellAbout 144 = .ok (.getfield 37, 3) := by decide +kernel
theorem dX8_tellAbout_147 : decode cX8_tellAbout 147 = .ok (.getfield 45, 3) := by decide +kernel
theorem dX8_tellAbout_150 : decode cX8_tellAbout 150 = .ok (.getfield 112, 3) := by decide +kernel
theorem dX8_tellAbout_153 : decode cX8_tellAbout 153 = .ok (.ireturn, 1) := by decide +kernel
theorem dX8_tellAbout_154 : decode cX8_tellAbout 154 = .ok (.aload_n 0, 1) := by decide +kernel
theorem dX8_tellAbout_155 : decode cX8_tellAbout 155 = .ok (.getfield 37, 3) := by decide +kernel
theorem dX8_tellAbout_158 : decode cX8_tellAbout 158 = .ok (.getfield 45, 3) := by decide +kernel
theorem dX8_tellAbout_161 : decode cX8_tellAbout 161 = .ok (.getfield 115, 3) := by decide +kernel
theorem dX8_tellAbout_164 : decode cX8_tellAbout 164 = .ok (.ireturn, 1) := by decide +kernel
theorem dX8_tellAbout_165 : decode cX8_tellAbout 165 = .ok (.aload_n 0, 1) := by decide +kernel
theorem dX8_tellAbout_166 : decode cX8_tellAbout 166 = .ok (.getfield 25, 3) := by decide +kernel
theorem dX8_tellAbout_169 : decode cX8_tellAbout 169 = .ok (.ireturn, 1) := by decide +kernel
theorem dX8_tellAbout_170 : decode cX8_tellAbout 170 = .ok (.aload_n 0, 1) := by decide +kernel
theorem dX8_tellAbout_171 : decode cX8_tellAbout 171 = .ok (.getfield 29, 3) := by decide +kernel
theorem dX8_tellAbout_174 : decode cX8_tellAbout 174 = .ok (.ireturn, 1) := by decide +kernel
theorem dX8_tellAbout_175 : decode cX8_tellAbout 175 = .ok (.aload_n 0, 1) := by decide +kernel
theorem dX8_tellAbout_176 : decode cX8_tellAbout 176 = .ok (.getfield 37, 3) := by decide +kernel
theorem dX8_tellAbout_179 : decode cX8_tellAbout 179 = .ok (.getfield 118, 3) := by decide +kernel
theorem dX8_tellAbout_182 : decode cX8_tellAbout 182 = .ok (.ireturn, 1) := by decide +kernel
theorem dX8_tellAbout_183 : decode cX8_tellAbout 183 = .ok (.aload_n 0, 1) := by decide +kernel
theorem dX8_tellAbout_184 : decode cX8_tellAbout 184 = .ok (.getfield 21, 3) := by decide +kernel
theorem dX8_tellAbout_187 : decode cX8_tellAbout 187 = .ok (.getfield 121, 3) := by decide +kernel
theorem dX8_tellAbout_190 : decode cX8_tellAbout 190 = .ok (.ireturn, 1) := by decide +kernel
theorem dX8_tellAbout_191 : decode cX8_tellAbout 191 = .ok (.aload_n 0, 1) := by decide +kernel
theorem dX8_tellAbout_192 : decode cX8_tellAbout 192 = .ok (.getfield 21, 3) := by decide +kernel
theorem dX8_tellAbout_195 : decode cX8_tellAbout 195 = .ok (.getfield 124, 3) := by decide +kernel
theorem dX8_tellAbout_198 : decode cX8_tellAbout 198 = .ok (.ireturn, 1) := by decide +kernel
theorem dX8_tellAbout_199 : decode cX8_tellAbout 199 = .ok (.aload_n 0, 1) := by decide +kernel
theorem dX8_tellAbout_200 : decode cX8_tellAbout 200 = .ok (.getfield 21, 3) := by decide +kernel
theorem dX8_tellAbout_203 : decode cX8_tellAbout 203 = .ok (.getfield 125, 3) := by decide +kernel
theorem dX8_tellAbout_206 : decode cX8_tellAbout 206 = .ok (.ireturn, 1) := by decide +kernel
theorem dX8_tellAbout_207 : decode cX8_tellAbout 207 = .ok (.aload_n 0, 1) := by decide +kernel
theorem dX8_tellAbout_208 : decode cX8_tellAbout 208 = .ok (.getfield 21, 3) := by decide +kernel
theorem dX8_tellAbout_211 : decode cX8_tellAbout 211 = .ok (.getfield 126, 3) := by decide +kernel
theorem dX8_tellAbout_214 : decode cX8_tellAbout 214 = .ok (.ireturn, 1) := by decide +kernel
theorem dX8_tellAbout_215 : decode cX8_tellAbout 215 = .ok (.aload_n 0, 1) := by decide +kernel
theorem dX8_tellAbout_216 : decode cX8_tellAbout 216 = .ok (.getfield 12, 3) := by decide +kernel
theorem dX8_tellAbout_219 : decode cX8_tellAbout 219 = .ok (.getfield 129, 3) := by decide +kernel
theorem dX8_tellAbout_222 : decode cX8_tellAbout 222 = .ok (.ireturn, 1) := by decide +kernel
theorem dX8_tellAbout_223 : decode cX8_tellAbout 223 = .ok (.bipush (-2), 2) := by decide +kernel
theorem dX8_tellAbout_225 : decode cX8_tellAbout 225 = .ok (.ireturn, 1) := by decide +kernel
theorem dX8_copyFrom_0 : decode cX8_copyFrom 0 = .ok (.aload_n 0, 1) := by decide +kernel
theorem dX8_copyFrom_1 : decode cX8_copyFrom 1 = .ok (.getfield 37, 3) := by decide +kernel
theorem dX8_copyFrom_4 : decode cX8_copyFrom 4 = .ok (.aload_n 1, 1) := by decide +kernel
theorem dX8_copyFrom_5 : decode cX8_copyFrom 5 = .ok (.getfield 37, 3) := by decide +kernel
theorem dX8_copyFrom_8 : decode cX8_copyFrom 8 = .ok (.invokevirtual 132, 3) := by decide +kernel
theorem dX8_copyFrom_11 : decode cX8_copyFrom 11 = .ok (.aload_n 0, 1) := by decide +kernel
theorem dX8_copyFrom_12 : decode cX8_copyFrom 12 = .ok (.getfield 12, 3) := by decide +kernel
theorem dX8_copyFrom_15 : decode cX8_copyFrom 15 = .ok (.aload_n 1, 1) := by decide +kernel
theorem dX8_copyFrom_16 : decode cX8_copyFrom 16 = .ok (.getfield 12, 3) := by decide +kernel
theorem dX8_copyFrom_19 : decode cX8_copyFrom 19 = .ok (.invokevirtual 136, 3) := by decide +kernel
theorem dX8_copyFrom_22 : decode cX8_copyFrom 22 = .ok (.aload_n 0, 1) := by decide +kernel
theorem dX8_copyFrom_23 : decode cX8_copyFrom 23 = .ok (.getfield 21, 3) := by decide +kernel
theorem dX8_copyFrom_26 : decode cX8_copyFrom 26 = .ok (.aload_n 1, 1) := by decide +kernel
theorem dX8_copyFrom_27 : decode cX8_copyFrom 27 = .ok (.getfield 21, 3) := by decide +kernel
theorem dX8_copyFrom_30 : decode cX8_copyFrom 30 = .ok (.invokevirtual 139, 3) := by decide +kernel
theorem dX8_copyFrom_33 : decode cX8_copyFrom 33 = .ok (.aload_n 0, 1) := by decide +kernel
theorem dX8_copyFrom_34 : decode cX8_copyFrom 34 = .ok (.aload_n 1, 1) := by decide +kernel
theorem dX8_copyFrom_35 : decode cX8_copyFrom 35 = .ok (.getfield 25, 3) := by decide +kernel
theorem dX8_copyFrom_38 : decode cX8_copyFrom 38 = .ok (.putfield 25, 3) := by decide +kernel
theorem dX8_copyFrom_41 : decode cX8_copyFrom 41 = .ok (.aload_n 0, 1) := by decide +kernel
theorem dX8_copyFrom_42 : decode cX8_copyFrom 42 = .ok (.aload_n 1, 1) := by decide +kernel
theorem dX8_copyFrom_43 : decode cX8_copyFrom 43 = .ok (.getfield 29, 3) := by decide +kernel
theorem dX8_copyFrom_46 : decode cX8_copyFrom 46 = .ok (.putfield 29, 3) := by decide +kernel
theorem dX8_copyFrom_49 : decode cX8_copyFrom 49 = .ok (.return_, 1) := by decide +kernel
theorem dX9_init_0 : decode cX9_init 0 = .ok (.aload_n 0, 1) := by decide +kernel
theorem dX9_init_1 : decode cX9_init 1 = .ok (.invokespecial 3, 3) := by decide +kernel
theorem dX9_init_4 : decode cX9_init 4 = .ok (.aload_n 0, 1) := by decide +kernel
theorem dX9_init_5 : decode cX9_init 5 = .ok (.sipush 300, 3) := by decide +kernel
theorem dX9_init_8 : decode cX9_init 8 = .ok (.newarray .int, 2) := by decide +kernel
theorem dX9_init_10 : decode cX9_init 10 = .ok (.putfield 9, 3) := by decide +kernel
theorem dX9_init_13 : decode cX9_init 13 = .ok (.aload_n 0, 1) := by decide +kernel
theorem dX9_init_14 : decode cX9_init 14 = .ok (.iconst 0, 1) := by decide +kernel
theorem dX9_init_15 : decode cX9_init 15 = .ok (.putfield 15, 3) := by decide +kernel
theorem dX9_init_18 : decode cX9_init 18 = .ok (.aload_n 0, 1) := by decide +kernel
theorem dX9_init_19 : decode cX9_init 19 = .ok (.iconst 0, 1) := by decide +kernel
theorem dX9_init_20 : decode cX9_init 20 = .ok (.putfield 19, 3) := by decide +kernel
theorem dX9_init_23 : decode cX9_init 23 = .ok (.return_, 1) := by decide +kernel
theorem dX9_note_0 : decode cX9_note 0 = .ok (.aload_n 0, 1) := by decide +kernel
theorem dX9_note_1 : decode cX9_note 1 = .ok (.getfield 9, 3) := by decide +kernel
theorem dX9_note_4 : decode cX9_note 4 = .ok (.aload_n 0, 1) := by decide +kernel
theorem dX9_note_5 : decode cX9_note 5 = .ok (.getfield 15, 3) := by decide +kernel
theorem dX9_note_8 : decode cX9_note 8 = .ok (.aload_n 0, 1) := by decide +kernel
theorem dX9_note_9 : decode cX9_note 9 = .ok (.getfield 19, 3) := by decide +kernel
theorem dX9_note_12 : decode cX9_note 12 = .ok (.iadd, 1) := by decide +kernel
theorem dX9_note_13 : decode cX9_note 13 = .ok (.sipush 300, 3) := by decide +kernel
theorem dX9_note_16 : decode cX9_note 16 = .ok (.irem, 1) := by decide +kernel
theorem dX9_note_17 : decode cX9_note 17 = .ok (.iload_n 1, 1) := by decide +kernel
theorem dX9_note_18 : decode cX9_note 18 = .ok (.iastore, 1) := by decide +kernel
theorem dX9_note_19 : decode cX9_note 19 = .ok (.aload_n 0, 1) := by decide +kernel
theorem dX9_note_20 : decode cX9_note 20 = .ok (.getfield 19, 3) := by decide +kernel
theorem dX9_note_23 : decode cX9_note 23 = .ok (.sipush 300, 3) := by decide +kernel
theorem dX9_note_26 : decode cX9_note 26 = .ok (.if_icmp .ge 16, 3) := by decide +kernel
theorem dX9_note_29 : decode cX9_note 29 = .ok (.aload_n 0, 1) := by decide +kernel
theorem dX9_note_30 : decode cX9_note 30 = .ok (.dup, 1) := by decide +kernel
theorem dX9_note_31 : decode cX9_note 31 = .ok (.getfield 19, 3) := by decide +kernel
theorem dX9_note_34 : decode cX9_note 34 = .ok (.iconst 1, 1) := by decide +kernel
theorem dX9_note_35 : decode cX9_note 35 = .ok (.iadd, 1) := by decide +kernel
theorem dX9_note_36 : decode cX9_note 36 = .ok (.putfield 19, 3) := by decide +kernel
theorem dX9_note_39 : decode cX9_note 39 = .ok (.goto 17, 3) := by decide +kernel
theorem dX9_note_42 : decode cX9_note 42 = .ok (.aload_n 0, 1) := by decide +kernel
theorem dX9_note_43 : decode cX9_note 43 = .ok (.aload_n 0, 1) := by decide +kernel
theorem dX9_note_44 : decode cX9_note 44 = .ok (.getfield 15, 3) := by decide +kernel
theorem dX9_note_47 : decode cX9_note 47 = .ok (.iconst 1, 1) := by decide +kernel
theorem dX9_note_48 : decode cX9_note 48 = .ok (.iadd, 1) := by decide +kernel
theorem dX9_note_49 : decode cX9_note 49 = .ok (.sipush 300, 3) := by decide +kernel
theorem dX9_note_52 : decode cX9_note 52 = .ok (.irem, 1) := by decide +kernel
theorem dX9_note_53 : decode cX9_note 53 = .ok (.putfield 15, 3) := by decide +kernel
theorem dX9_note_56 : decode cX9_note 56 = .ok (.return_, 1) := by decide +kernel
theorem dX9_keyAt_0 : decode cX9_keyAt 0 = .ok (.iload_n 1, 1) := by decide +kernel
theorem dX9_keyAt_1 : decode cX9_keyAt 1 = .ok (.ifCond .lt 29, 3) := by decide +kernel
theorem dX9_keyAt_4 : decode cX9_keyAt 4 = .ok (.iload_n 1, 1) := by decide +kernel
theorem dX9_keyAt_5 : decode cX9_keyAt 5 = .ok (.aload_n 0, 1) := by decide +kernel
theorem dX9_keyAt_6 : decode cX9_keyAt 6 = .ok (.getfield 19, 3) := by decide +kernel
theorem dX9_keyAt_9 : decode cX9_keyAt 9 = .ok (.if_icmp .ge 21, 3) := by decide +kernel
theorem dX9_keyAt_12 : decode cX9_keyAt 12 = .ok (.aload_n 0, 1) := by decide +kernel
theorem dX9_keyAt_13 : decode cX9_keyAt 13 = .ok (.getfield 9, 3) := by decide +kernel
theorem dX9_keyAt_16 : decode cX9_keyAt 16 = .ok (.aload_n 0, 1) := by decide +kernel
theorem dX9_keyAt_17 : decode cX9_keyAt 17 = .ok (.getfield 15, 3) := by decide +kernel
theorem dX9_keyAt_20 : decode cX9_keyAt 20 = .ok (.iload_n 1, 1) := by decide +kernel
theorem dX9_keyAt_21 : decode cX9_keyAt 21 = .ok (.iadd, 1) := by decide +kernel
theorem dX9_keyAt_22 : decode cX9_keyAt 22 = .ok (.sipush 300, 3) := by decide +kernel
theorem dX9_keyAt_25 : decode cX9_keyAt 25 = .ok (.irem, 1) := by decide +kernel
theorem dX9_keyAt_26 : decode cX9_keyAt 26 = .ok (.iaload, 1) := by decide +kernel
theorem dX9_keyAt_27 : decode cX9_keyAt 27 = .ok (.goto 4, 3) := by decide +kernel
theorem dX9_keyAt_30 : decode cX9_keyAt 30 = .ok (.iconst (-1), 1) := by decide +kernel
theorem dX9_keyAt_31 : decode cX9_keyAt 31 = .ok (.ireturn, 1) := by decide +kernel
theorem dX9_copyFrom_0 : decode cX9_copyFrom 0 = .ok (.aload_n 1, 1) := by decide +kernel
theorem dX9_copyFrom_1 : decode cX9_copyFrom 1 = .ok (.getfield 9, 3) := by decide +kernel
theorem dX9_copyFrom_4 : decode cX9_copyFrom 4 = .ok (.iconst 0, 1) := by decide +kernel
theorem dX9_copyFrom_5 : decode cX9_copyFrom 5 = .ok (.aload_n 0, 1) := by decide +kernel
theorem dX9_copyFrom_6 : decode cX9_copyFrom 6 = .ok (.getfield 9, 3) := by decide +kernel
theorem dX9_copyFrom_9 : decode cX9_copyFrom 9 = .ok (.iconst 0, 1) := by decide +kernel
theorem dX9_copyFrom_10 : decode cX9_copyFrom 10 = .ok (.sipush 300, 3) := by decide +kernel
theorem dX9_copyFrom_13 : decode cX9_copyFrom 13 = .ok (.invokestatic 22, 3) := by decide +kernel
theorem dX9_copyFrom_16 : decode cX9_copyFrom 16 = .ok (.aload_n 0, 1) := by decide +kernel
theorem dX9_copyFrom_17 : decode cX9_copyFrom 17 = .ok (.aload_n 1, 1) := by decide +kernel
theorem dX9_copyFrom_18 : decode cX9_copyFrom 18 = .ok (.getfield 15, 3) := by decide +kernel
theorem dX9_copyFrom_21 : decode cX9_copyFrom 21 = .ok (.putfield 15, 3) := by decide +kernel
theorem dX9_copyFrom_24 : decode cX9_copyFrom 24 = .ok (.aload_n 0, 1) := by decide +kernel
theorem dX9_copyFrom_25 : decode cX9_copyFrom 25 = .ok (.aload_n 1, 1) := by decide +kernel
theorem dX9_copyFrom_26 : decode cX9_copyFrom 26 = .ok (.getfield 19, 3) := by decide +kernel
theorem dX9_copyFrom_29 : decode cX9_copyFrom 29 = .ok (.putfield 19, 3) := by decide +kernel
theorem dX9_copyFrom_32 : decode cX9_copyFrom 32 = .ok (.return_, 1) := by decide +kernel
theorem dX10_init_0 : decode cX10_init 0 = .ok (.aload_n 0, 1) := by decide +kernel
theorem dX10_init_1 : decode cX10_init 1 = .ok (.invokespecial 1, 3) := by decide +kernel
theorem dX10_init_4 : decode cX10_init 4 = .ok (.aload_n 0, 1) := by decide +kernel
theorem dX10_init_5 : decode cX10_init 5 = .ok (.iconst 4, 1) := by decide +kernel
theorem dX10_init_6 : decode cX10_init 6 = .ok (.anewarray 9, 3) := by decide +kernel
theorem dX10_init_9 : decode cX10_init 9 = .ok (.putfield 11, 3) := by decide +kernel
theorem dX10_init_12 : decode cX10_init 12 = .ok (.aload_n 0, 1) := by decide +kernel
theorem dX10_init_13 : decode cX10_init 13 = .ok (.new 15, 3) := by decide +kernel
theorem dX10_init_16 : decode cX10_init 16 = .ok (.dup, 1) := by decide +kernel
theorem dX10_init_17 : decode cX10_init 17 = .ok (.invokespecial 17, 3) := by decide +kernel
theorem dX10_init_20 : decode cX10_init 20 = .ok (.putfield 18, 3) := by decide +kernel
theorem dX10_init_23 : decode cX10_init 23 = .ok (.aload_n 0, 1) := by decide +kernel
theorem dX10_init_24 : decode cX10_init 24 = .ok (.iconst 1, 1) := by decide +kernel
theorem dX10_init_25 : decode cX10_init 25 = .ok (.iconst 4, 1) := by decide +kernel
theorem dX10_init_26 : decode cX10_init 26 = .ok (.iload_n 1, 1) := by decide +kernel
theorem dX10_init_27 : decode cX10_init 27 = .ok (.invokestatic 22, 3) := by decide +kernel
theorem dX10_init_30 : decode cX10_init 30 = .ok (.invokestatic 28, 3) := by decide +kernel
theorem dX10_init_33 : decode cX10_init 33 = .ok (.putfield 31, 3) := by decide +kernel
theorem dX10_init_36 : decode cX10_init 36 = .ok (.aload_n 0, 1) := by decide +kernel
theorem dX10_init_37 : decode cX10_init 37 = .ok (.iconst 4, 1) := by decide +kernel
theorem dX10_init_38 : decode cX10_init 38 = .ok (.sipush 200, 3) := by decide +kernel
theorem dX10_init_41 : decode cX10_init 41 = .ok (.iload_n 2, 1) := by decide +kernel
theorem dX10_init_42 : decode cX10_init 42 = .ok (.invokestatic 22, 3) := by decide +kernel
theorem dX10_init_45 : decode cX10_init 45 = .ok (.invokestatic 28, 3) := by decide +kernel
theorem dX10_init_48 : decode cX10_init 48 = .ok (.putfield 35, 3) := by decide +kernel
theorem dX10_init_51 : decode cX10_init 51 = .ok (.aload_n 0, 1) := by decide +kernel
theorem dX10_init_52 : decode cX10_init 52 = .ok (.iconst 1, 1) := by decide +kernel
theorem dX10_init_53 : decode cX10_init 53 = .ok (.aload_n 0, 1) := by decide +kernel
theorem dX10_init_54 : decode cX10_init 54 = .ok (.getfield 35, 3) := by decide +kernel
theorem dX10_init_57 : decode cX10_init 57 = .ok (.iconst 1, 1) := by decide +kernel
theorem dX10_init_58 : decode cX10_init 58 = .ok (.isub, 1) := by decide +kernel
theorem dX10_init_59 : decode cX10_init 59 = .ok (.iload_n 3, 1) := by decide +kernel
theorem dX10_init_60 : decode cX10_init 60 = .ok (.invokestatic 22, 3) := by decide +kernel
theorem dX10_init_63 : decode cX10_init 63 = .ok (.invokestatic 28, 3) := by decide +kernel
theorem dX10_init_66 : decode cX10_init 66 = .ok (.putfield 38, 3) := by decide +kernel
theorem dX10_init_69 : decode cX10_init 69 = .ok (.aload_n 0, 1) := by decide +kernel
theorem dX10_init_70 : decode cX10_init 70 = .ok (.new 9, 3) := by decide +kernel
theorem dX10_init_73 : decode cX10_init 73 = .ok (.dup, 1) := by decide +kernel
theorem dX10_init_74 : decode cX10_init 74 = .ok (.aload_n 0, 1) := by decide +kernel
theorem dX10_init_75 : decode cX10_init 75 = .ok (.getfield 31, 3) := by decide +kernel
theorem dX10_init_78 : decode cX10_init 78 = .ok (.aload_n 0, 1) := by decide +kernel
theorem dX10_init_79 : decode cX10_init 79 = .ok (.getfield 35, 3) := by decide +kernel
theorem dX10_init_82 : decode cX10_init 82 = .ok (.aload_n 0, 1) := by decide +kernel
theorem dX10_init_83 : decode cX10_init 83 = .ok (.getfield 38, 3) := by decide +kernel
theorem dX10_init_86 : decode cX10_init 86 = .ok (.invokespecial 41, 3) := by decide +kernel
theorem dX10_init_89 : decode cX10_init 89 = .ok (.putfield 44, 3) := by decide +kernel
theorem dX10_init_92 : decode cX10_init 92 = .ok (.return_, 1) := by decide +kernel
theorem dX10_place_0 : decode cX10_place 0 = .ok (.iload_n 1, 1) := by decide +kernel
theorem dX10_place_1 : decode cX10_place 1 = .ok (.ifCond .lt 28, 3) := by decide +kernel
theorem dX10_place_4 : decode cX10_place 4 = .ok (.iload_n 1, 1) := by decide +kernel
theorem dX10_place_5 : decode cX10_place 5 = .ok (.aload_n 0, 1) := by decide +kernel
theorem dX10_place_6 : decode cX10_place 6 = .ok (.getfield 31, 3) := by decide +kernel
theorem dX10_place_9 : decode cX10_place 9 = .ok (.if_icmp .ge 20, 3) := by decide +kernel
theorem dX10_place_12 : decode cX10_place 12 = .ok (.iload_n 2, 1) := by decide +kernel
theorem dX10_place_13 : decode cX10_place 13 = .ok (.invokestatic 48, 3) := by decide +kernel
theorem dX10_place_16 : decode cX10_place 16 = .ok (.ifCond .eq 13, 3) := by decide +kernel
theorem dX10_place_19 : decode cX10_place 19 = .ok (.iload_n 3, 1) := by decide +kernel
theorem dX10_place_20 : decode cX10_place 20 = .ok (.ifCond .lt 9, 3) := by decide +kernel
theorem dX10_place_23 : decode cX10_place 23 = .ok (.iload_n 3, 1) := by decide +kernel
theorem dX10_place_24 : decode cX10_place 24 = .ok (.bipush 64, 2) := by decide +kernel
theorem dX10_place_26 : decode cX10_place 26 = .ok (.if_icmp .lt 6, 3) := by decide +kernel
theorem dX10_place_29 : decode cX10_place 29 = .ok (.bipush (-2), 2) := by decide +kernel
theorem dX10_place_31 : decode cX10_place 31 = .ok (.ireturn, 1) := by decide +kernel
theorem dX10_place_32 : decode cX10_place 32 = .ok (.aload_n 0, 1) := by decide +kernel
theorem dX10_place_33 : decode cX10_place 33 = .ok (.getfield 44, 3) := by decide +kernel
theorem dX10_place_36 : decode cX10_place 36 = .ok (.getfield 52, 3) := by decide +kernel
theorem dX10_place_39 : decode cX10_place 39 = .ok (.getfield 56, 3) := by decide +kernel
theorem dX10_place_42 : decode cX10_place 42 = .ok (.iload_n 1, 1) := by decide +kernel
theorem dX10_place_43 : decode cX10_place 43 = .ok (.iload_n 2, 1) := by decide +kernel
theorem dX10_place_44 : decode cX10_place 44 = .ok (.iload_n 3, 1) := by decide +kernel
theorem dX10_place_45 : decode cX10_place 45 = .ok (.invokevirtual 62, 3) := by decide +kernel
theorem dX10_place_48 : decode cX10_place 48 = .ok (.ireturn, 1) := by decide +kernel
theorem dX10_door_0 : decode cX10_door 0 = .ok (.iload_n 1, 1) := by decide +kernel
theorem dX10_door_1 : decode cX10_door 1 = .ok (.ifCond .lt 26, 3) := by decide +kernel
theorem dX10_door_4 : decode cX10_door 4 = .ok (.iload_n 1, 1) := by decide +kernel
theorem dX10_door_5 : decode cX10_door 5 = .ok (.iconst 1, 1) := by decide +kernel
theorem dX10_door_6 : decode cX10_door 6 = .ok (.if_icmp .gt 21, 3) := by decide +kernel
theorem dX10_door_9 : decode cX10_door 9 = .ok (.iload_n 2, 1) := by decide +kernel
theorem dX10_door_10 : decode cX10_door 10 = .ok (.invokestatic 48, 3) := by decide +kernel
theorem dX10_door_13 : decode cX10_door 13 = .ok (.ifCond .eq 14, 3) := by decide +kernel
theorem dX10_door_16 : decode cX10_door 16 = .ok (.iload_n 3, 1) := by decide +kernel
theorem dX10_door_17 : decode cX10_door 17 = .ok (.ifCond .lt 10, 3) := by decide +kernel
theorem dX10_door_20 : decode cX10_door 20 = .ok (.iload_n 3, 1) := by decide +kernel
theorem dX10_door_21 : decode cX10_door 21 = .ok (.sipush 128, 3) := by decide +kernel
theorem dX10_door_24 : decode cX10_door 24 = .ok (.if_icmp .lt 6, 3) := by decide +kernel
theorem dX10_door_27 : decode cX10_door 27 = .ok (.bipush (-2), 2) := by decide +kernel
theorem dX10_door_29 : decode cX10_door 29 = .ok (.ireturn, 1) := by decide +kernel
theorem dX10_door_30 : decode cX10_door 30 = .ok (.aload_n 0, 1) := by decide +kernel
theorem dX10_door_31 : decode cX10_door 31 = .ok (.getfield 44, 3) := by decide +kernel
theorem dX10_door_34 : decode cX10_door 34 = .ok (.getfield 52, 3) := by decide +kernel
theorem dX10_door_37 : decode cX10_door 37 = .ok (.getfield 56, 3) := by decide +kernel
theorem dX10_door_40 : decode cX10_door 40 = .ok (.iload_n 1, 1) := by decide +kernel
theorem dX10_door_41 : decode cX10_door 41 = .ok (.iload_n 2, 1) := by decide +kernel
theorem dX10_door_42 : decode cX10_door 42 = .ok (.iload_n 3, 1) := by decide +kernel
theorem dX10_door_43 : decode cX10_door 43 = .ok (.invokevirtual 68, 3) := by decide +kernel
theorem dX10_door_46 : decode cX10_door 46 = .ok (.ireturn, 1) := by decide +kernel
theorem dX10_rule_0 : decode cX10_rule 0 = .ok (.iload_n 1, 1) := by decide +kernel
theorem dX10_rule_1 : decode cX10_rule 1 = .ok (.ifCond .lt 19, 3) := by decide +kernel
theorem dX10_rule_4 : decode cX10_rule 4 = .ok (.iload_n 1, 1) := by decide +kernel
theorem dX10_rule_5 : decode cX10_rule 5 = .ok (.getstatic 71, 3) := by decide +kernel
theorem dX10_rule_8 : decode cX10_rule 8 = .ok (.arraylength, 1) := by decide +kernel
theorem dX10_rule_9 : decode cX10_rule 9 = .ok (.if_icmp .ge 11, 3) := by decide +kernel
theorem dX10_rule_12 : decode cX10_rule 12 = .ok (.iload_n 1, 1) := by decide +kernel
theorem dX10_rule_13 : decode cX10_rule 13 = .ok (.getstatic 75, 3) := by decide +kernel
theorem dX10_rule_16 : decode cX10_rule 16 = .ok (.arraylength, 1) := by decide +kernel
theorem dX10_rule_17 : decode cX10_rule 17 = .ok (.if_icmp .lt 6, 3) := by decide +kernel
theorem dX10_rule_20 : decode cX10_rule 20 = .ok (.bipush (-2), 2) := by decide +kernel
theorem dX10_rule_22 : decode cX10_rule 22 = .ok (.ireturn, 1) := by decide +kernel
theorem dX10_rule_23 : decode cX10_rule 23 = .ok (.iload_n 2, 1) := by decide +kernel
theorem dX10_rule_24 : decode cX10_rule 24 = .ok (.getstatic 71, 3) := by decide +kernel
theorem dX10_rule_27 : decode cX10_rule 27 = .ok (.iload_n 1, 1) := by decide +kernel
theorem dX10_rule_28 : decode cX10_rule 28 = .ok (.iaload, 1) := by decide +kernel
theorem dX10_rule_29 : decode cX10_rule 29 = .ok (.if_icmp .lt 12, 3) := by decide +kernel
theorem dX10_rule_32 : decode cX10_rule 32 = .ok (.iload_n 2, 1) := by decide +kernel
theorem dX10_rule_33 : decode cX10_rule 33 = .ok (.getstatic 75, 3) := by decide +kernel
theorem dX10_rule_36 : decode cX10_rule 36 = .ok (.iload_n 1, 1) := by decide +kernel
theorem dX10_rule_37 : decode cX10_rule 37 = .ok (.iaload, 1) := by decide +kernel
theorem dX10_rule_38 : decode cX10_rule 38 = .ok (.if_icmp .le 6, 3) := by decide +kernel
theorem dX10_rule_41 : decode cX10_rule 41 = .ok (.bipush (-2), 2) := by decide +kernel
theorem dX10_rule_43 : decode cX10_rule 43 = .ok (.ireturn, 1) := by decide +kernel
theorem dX10_rule_44 : decode cX10_rule 44 = .ok (.aload_n 0, 1) := by decide +kernel
theorem dX10_rule_45 : decode cX10_rule 45 = .ok (.getfield 44, 3) := by decide +kernel
theorem dX10_rule_48 : decode cX10_rule 48 = .ok (.iload_n 1, 1) := by decide +kernel
theorem dX10_rule_49 : decode cX10_rule 49 = .ok (.iload_n 2, 1) := by decide +kernel
theorem dX10_rule_50 : decode cX10_rule 50 = .ok (.invokevirtual 78, 3) := by decide +kernel
theorem dX10_rule_53 : decode cX10_rule 53 = .ok (.ireturn, 1) := by decide +kernel
theorem dX10_size_0 : decode cX10_size 0 = .ok (.iload_n 1, 1) := by decide +kernel
theorem dX10_size_1 : decode cX10_size 1 = .ok (.invokestatic 48, 3) := by decide +kernel
theorem dX10_size_4 : decode cX10_size 4 = .ok (.ifCond .eq 14, 3) := by decide +kernel
theorem dX10_size_7 : decode cX10_size 7 = .ok (.iload_n 2, 1) := by decide +kernel
theorem dX10_size_8 : decode cX10_size 8 = .ok (.iconst 1, 1) := by decide +kernel
theorem dX10_size_9 : decode cX10_size 9 = .ok (.if_icmp .lt 9, 3) := by decide +kernel
theorem dX10_size_12 : decode cX10_size 12 = .ok (.iload_n 2, 1) := by decide +kernel
theorem dX10_size_13 : decode cX10_size 13 = .ok (.bipush 20, 2) := by decide +kernel
theorem dX10_size_15 : decode cX10_size 15 = .ok (.if_icmp .le 6, 3) := by decide +kernel
theorem dX10_size_18 : decode cX10_size 18 = .ok (.bipush (-2), 2) := by decide +kernel
theorem dX10_size_20 : decode cX10_size 20 = .ok (.ireturn, 1) := by decide +kernel
theorem dX10_size_21 : decode cX10_size 21 = .ok (.aload_n 0, 1) := by decide +kernel
theorem dX10_size_22 : decode cX10_size 22 = .ok (.getfield 44, 3) := by decide +kernel
theorem dX10_size_25 : decode cX10_size 25 = .ok (.getfield 52, 3) := by decide +kernel
theorem dX10_size_28 : decode cX10_size 28 = .ok (.getfield 81, 3) := by decide +kernel
theorem dX10_size_31 : decode cX10_size 31 = .ok (.astore_n 3, 1) := by decide +kernel
theorem dX10_size_32 : decode cX10_size 32 = .ok (.aload_n 3, 1) := by decide +kernel
theorem dX10_size_33 : decode cX10_size 33 = .ok (.getfield 85, 3) := by decide +kernel
theorem dX10_size_36 : decode cX10_size 36 = .ok (.iload_n 1, 1) := by decide +kernel
theorem dX10_size_37 : decode cX10_size 37 = .ok (.iaload, 1) := by decide +kernel
theorem dX10_size_38 : decode cX10_size 38 = .ok (.iconst (-1), 1) := by decide +kernel
theorem dX10_size_39 : decode cX10_size 39 = .ok (.if_icmp .eq 6, 3) := by decide +kernel
theorem dX10_size_42 : decode cX10_size 42 = .ok (.bipush (-3), 2) := by decide +kernel
theorem dX10_size_44 : decode cX10_size 44 = .ok (.ireturn, 1) := by decide +kernel
theorem dX10_size_45 : decode cX10_size 45 = .ok (.aload_n 3, 1) := by decide +kernel
theorem dX10_size_46 : decode cX10_size 46 = .ok (.getfield 90, 3) := by decide +kernel
theorem dX10_size_49 : decode cX10_size 49 = .ok (.iload_n 1, 1) := by decide +kernel
theorem dX10_size_50 : decode cX10_size 50 = .ok (.iaload, 1) := by decide +kernel
theorem dX10_size_51 : decode cX10_size 51 = .ok (.istore 4, 2) := by decide +kernel
theorem dX10_size_53 : decode cX10_size 53 = .ok (.aload_n 3, 1) := by decide +kernel
theorem dX10_size_54 : decode cX10_size 54 = .ok (.getfield 90, 3) := by decide +kernel
theorem dX10_size_57 : decode cX10_size 57 = .ok (.iload_n 1, 1) := by decide +kernel
theorem dX10_size_58 : decode cX10_size 58 = .ok (.iload_n 2, 1) := by decide +kernel
theorem dX10_size_59 : decode cX10_size 59 = .ok (.iastore, 1) := by decide +kernel
theorem dX10_size_60 : decode cX10_size 60 = .ok (.iload 4, 2) := by decide +kernel
theorem dX10_size_62 : decode cX10_size 62 = .ok (.ireturn, 1) := by decide +kernel
theorem dX10_access_0 : decode cX10_access 0 = .ok (.iload_n 1, 1) := by decide +kernel
theorem dX10_access_1 : decode cX10_access 1 = .ok (.invokestatic 48, 3) := by decide +kernel
theorem dX10_access_4 : decode cX10_access 4 = .ok (.ifCond .eq 14, 3) := by decide +kernel
theorem dX10_access_7 : decode cX10_access 7 = .ok (.aload_n 0, 1) := by decide +kernel
theorem dX10_access_8 : decode cX10_access 8 = .ok (.getfield 44, 3) := by decide +kernel
theorem dX10_access_11 : decode cX10_access 11 = .ok (.iload_n 1, 1) := by decide +kernel
theorem dX10_access_12 : decode cX10_access 12 = .ok (.invokevirtual 93, 3) := by decide +kernel
theorem dX10_access_15 : decode cX10_access 15 = .ok (.goto 5, 3) := by decide +kernel
theorem dX10_access_18 : decode cX10_access 18 = .ok (.bipush (-2), 2) := by decide +kernel
theorem dX10_access_20 : decode cX10_access 20 = .ok (.ireturn, 1) := by decide +kernel
theorem dX10_run_0 : decode cX10_run 0 = .ok (.iload_n 1, 1) := by decide +kernel
theorem dX10_run_1 : decode cX10_run 1 = .ok (.invokestatic 48, 3) := by decide +kernel
theorem dX10_run_4 : decode cX10_run 4 = .ok (.ifCond .eq 21, 3) := by decide +kernel
theorem dX10_run_7 : decode cX10_run 7 = .ok (.iload_n 2, 1) := by decide +kernel
theorem dX10_run_8 : decode cX10_run 8 = .ok (.invokestatic 48, 3) := by decide +kernel
theorem dX10_run_11 : decode cX10_run 11 = .ok (.ifCond .eq 14, 3) := by decide +kernel
theorem dX10_run_14 : decode cX10_run 14 = .ok (.iload_n 3, 1) := by decide +kernel
theorem dX10_run_15 : decode cX10_run 15 = .ok (.iconst 1, 1) := by decide +kernel
theorem dX10_run_16 : decode cX10_run 16 = .ok (.if_icmp .lt 9, 3) := by decide +kernel
theorem dX10_run_19 : decode cX10_run 19 = .ok (.iload_n 3, 1) := by decide +kernel
theorem dX10_run_20 : decode cX10_run 20 = .ok (.bipush 100, 2) := by decide +kernel
theorem dX10_run_22 : decode cX10_run 22 = .ok (.if_icmp .le 6, 3) := by decide +kernel
theorem dX10_run_25 : decode cX10_run 25 = .ok (.bipush (-2), 2) := by decide +kernel
theorem dX10_run_27 : decode cX10_run 27 = .ok (.ireturn, 1) := by decide +kernel
theorem dX10_run_28 : decode cX10_run 28 = .ok (.iconst 0, 1) := by decide +kernel
theorem dX10_run_29 : decode cX10_run 29 = .ok (.istore 4, 2) := by decide +kernel
theorem dX10_run_31 : decode cX10_run 31 = .ok (.iload_n 1, 1) := by decide +kernel
theorem dX10_run_32 : decode cX10_run 32 = .ok (.istore 5, 2) := by decide +kernel
theorem dX10_run_34 : decode cX10_run 34 = .ok (.iconst 0, 1) := by decide +kernel
theorem dX10_run_35 : decode cX10_run 35 = .ok (.istore 6, 2) := by decide +kernel
theorem dX10_run_37 : decode cX10_run 37 = .ok (.iload 6, 2) := by decide +kernel
theorem dX10_run_39 : decode cX10_run 39 = .ok (.iload_n 3, 1) := by decide +kernel
theorem dX10_run_40 : decode cX10_run 40 = .ok (.if_icmp .ge 34, 3) := by decide +kernel
theorem dX10_run_43 : decode cX10_run 43 = .ok (.aload_n 0, 1) := by decide +kernel
theorem dX10_run_44 : decode cX10_run 44 = .ok (.getfield 44, 3) := by decide +kernel
theorem dX10_run_47 : decode cX10_run 47 = .ok (.iload 5, 2) := by decide +kernel
theorem dX10_run_49 : decode cX10_run 49 = .ok (.invokevirtual 93, 3) := by decide +kernel
theorem dX10_run_52 : decode cX10_run 52 = .ok (.iconst 2, 1) := by decide +kernel
theorem dX10_run_53 : decode cX10_run 53 = .ok (.if_icmp .lt 6, 3) := by decide +kernel
theorem dX10_run_56 : decode cX10_run 56 = .ok (.iinc 4 1, 3) := by decide +kernel
theorem dX10_run_59 : decode cX10_run 59 = .ok (.iload 5, 2) := by decide +kernel
theorem dX10_run_61 : decode cX10_run 61 = .ok (.iload_n 2, 1) := by decide +kernel
theorem dX10_run_62 : decode cX10_run 62 = .ok (.iadd, 1) := by decide +kernel
theorem dX10_run_63 : decode cX10_run 63 = .ok (.bipush 100, 2) := by decide +kernel
theorem dX10_run_65 : decode cX10_run 65 = .ok (.irem, 1) := by decide +kernel
theorem dX10_run_66 : decode cX10_run 66 = .ok (.istore 5, 2) := by decide +kernel
theorem dX10_run_68 : decode cX10_run 68 = .ok (.iinc 6 1, 3) := by decide +kernel
theorem dX10_run_71 : decode cX10_run 71 = .ok (.goto (-34), 3) := by decide +kernel
theorem dX10_run_74 : decode cX10_run 74 = .ok (.iload 4, 2) := by decide +kernel
theorem dX10_run_76 : decode cX10_run 76 = .ok (.ireturn, 1) := by decide +kernel
theorem dX10_add_0 : decode cX10_add 0 = .ok (.iload_n 1, 1) := by decide +kernel
theorem dX10_add_1 : decode cX10_add 1 = .ok (.invokestatic 48, 3) := by decide +kernel
theorem dX10_add_4 : decode cX10_add 4 = .ok (.ifCond .ne 6, 3) := by decide +kernel
theorem dX10_add_7 : decode cX10_add 7 = .ok (.bipush (-2), 2) := by decide +kernel
theorem dX10_add_9 : decode cX10_add 9 = .ok (.ireturn, 1) := by decide +kernel
theorem dX10_add_10 : decode cX10_add 10 = .ok (.aload_n 0, 1) := by decide +kernel
theorem dX10_add_11 : decode cX10_add 11 = .ok (.getfield 44, 3) := by decide +kernel
theorem dX10_add_14 : decode cX10_add 14 = .ok (.getfield 52, 3) := by decide +kernel
theorem dX10_add_17 : decode cX10_add 17 = .ok (.getfield 56, 3) := by decide +kernel
theorem dX10_add_20 : decode cX10_add 20 = .ok (.iload_n 1, 1) := by decide +kernel
theorem dX10_add_21 : decode cX10_add 21 = .ok (.invokevirtual 97, 3) := by decide +kernel
theorem dX10_add_24 : decode cX10_add 24 = .ok (.aload_n 0, 1) := by decide +kernel
theorem dX10_add_25 : decode cX10_add 25 = .ok (.getfield 44, 3) := by decide +kernel
theorem dX10_add_28 : decode cX10_add 28 = .ok (.getfield 52, 3) := by decide +kernel
theorem dX10_add_31 : decode cX10_add 31 = .ok (.getfield 56, 3) := by decide +kernel
theorem dX10_add_34 : decode cX10_add 34 = .ok (.iload_n 1, 1) := by decide +kernel
theorem dX10_add_35 : decode cX10_add 35 = .ok (.invokevirtual 101, 3) := by decide +kernel
theorem dX10_add_38 : decode cX10_add 38 = .ok (.ireturn, 1) := by decide +kernel
theorem dX10_estimate_0 : decode cX10_estimate 0 = .ok (.iload_n 1, 1) := by decide +kernel
theorem dX10_estimate_1 : decode cX10_estimate 1 = .ok (.invokestatic 48, 3) := by decide +kernel
theorem dX10_estimate_4 : decode cX10_estimate 4 = .ok (.ifCond .eq 20, 3) := by decide +kernel
theorem dX10_estimate_7 : decode cX10_estimate 7 = .ok (.aload_n 0, 1) := by decide +kernel
theorem dX10_estimate_8 : decode cX10_estimate 8 = .ok (.getfield 44, 3) := by decide +kernel
theorem dX10_estimate_11 : decode cX10_estimate 11 = .ok (.getfield 52, 3) := by decide +kernel
theorem dX10_estimate_14 : decode cX10_estimate 14 = .ok (.getfield 56, 3) := by decide +kernel
theorem dX10_estimate_17 : decode cX10_estimate 17 = .ok (.iload_n 1, 1) := by decide +kernel
theorem dX10_estimate_18 : decode cX10_estimate 18 = .ok (.invokevirtual 101, 3) := by decide +kernel
theorem dX10_estimate_21 : decode cX10_estimate 21 = .ok (.goto 5, 3) := by decide +kernel
theorem dX10_estimate_24 : decode cX10_estimate 24 = .ok (.bipush (-2), 2) := by decide +kernel
theorem dX10_estimate_26 : decode cX10_estimate 26 = .ok (.ireturn, 1) := by decide +kernel
theorem dX10_counter_0 : decode cX10_counter 0 = .ok (.iload_n 1, 1) := by decide +kernel
theorem dX10_counter_1 : decode cX10_counter 1 = .ok (.ifCond .lt 21, 3) := by decide +kernel
theorem dX10_counter_4 : decode cX10_counter 4 = .ok (.iload_n 1, 1) := by decide +kernel
theorem dX10_counter_5 : decode cX10_counter 5 = .ok (.aload_n 0, 1) := by decide +kernel
theorem dX10_counter_6 : decode cX10_counter 6 = .ok (.getfield 31, 3) := by decide +kernel
theorem dX10_counter_9 : decode cX10_counter 9 = .ok (.if_icmp .ge 13, 3) := by decide +kernel
theorem dX10_counter_12 : decode cX10_counter 12 = .ok (.iload_n 2, 1) := by decide +kernel
theorem dX10_counter_13 : decode cX10_counter 13 = .ok (.ifCond .lt 9, 3) := by decide +kernel
theorem dX10_counter_16 : decode cX10_counter 16 = .ok (.iload_n 2, 1) := by decide +kernel
theorem dX10_counter_17 : decode cX10_counter 17 = .ok (.bipush 64, 2) := by decide +kernel
theorem dX10_counter_19 : decode cX10_counter 19 = .ok (.if_icmp .lt 6, 3) := by decide +kernel
theorem dX10_counter_22 : decode cX10_counter 22 = .ok (.bipush (-2), 2) := by decide +kernel
theorem dX10_counter_24 : decode cX10_counter 24 = .ok (.ireturn, 1) := by decide +kernel
theorem dX10_counter_25 : decode cX10_counter 25 = .ok (.aload_n 0, 1) := by decide +kernel
theorem dX10_counter_26 : decode cX10_counter 26 = .ok (.getfield 44, 3) := by decide +kernel
theorem dX10_counter_29 : decode cX10_counter 29 = .ok (.getfield 52, 3) := by decide +kernel
theorem dX10_counter_32 : decode cX10_counter 32 = .ok (.getfield 56, 3) := by decide +kernel
theorem dX10_counter_35 : decode cX10_counter 35 = .ok (.getfield 104, 3) := by decide +kernel
theorem dX10_counter_38 : decode cX10_counter 38 = .ok (.iload_n 1, 1) := by decide +kernel
theorem dX10_counter_39 : decode cX10_counter 39 = .ok (.aaload, 1) := by decide +kernel
theorem dX10_counter_40 : decode cX10_counter 40 = .ok (.iload_n 2, 1) := by decide +kernel
theorem dX10_counter_41 : decode cX10_counter 41 = .ok (.iaload, 1) := by decide +kernel
theorem dX10_counter_42 : decode cX10_counter 42 = .ok (.ireturn, 1) := by decide +kernel
theorem dX10_bit_0 : decode cX10_bit 0 = .ok (.iload_n 1, 1) := by decide +kernel
theorem dX10_bit_1 : decode cX10_bit 1 = .ok (.ifCond .lt 28, 3) := by decide +kernel
theorem dX10_bit_4 : decode cX10_bit 4 = .ok (.iload_n 1, 1) := by decide +kernel
theorem dX10_bit_5 : decode cX10_bit 5 = .ok (.sipush 128, 3) := by decide +kernel
theorem dX10_bit_8 : decode cX10_bit 8 = .ok (.if_icmp .ge 21, 3) := by decide +kernel
theorem dX10_bit_11 : decode cX10_bit 11 = .ok (.aload_n 0, 1) := by decide +kernel
theorem dX10_bit_12 : decode cX10_bit 12 = .ok (.getfield 44, 3) := by decide +kernel
theorem dX10_bit_15 : decode cX10_bit 15 = .ok (.getfield 52, 3) := by decide +kernel
theorem dX10_bit_18 : decode cX10_bit 18 = .ok (.getfield 56, 3) := by decide +kernel
theorem dX10_bit_21 : decode cX10_bit 21 = .ok (.getfield 108, 3) := by decide +kernel
theorem dX10_bit_24 : decode cX10_bit 24 = .ok (.iload_n 1, 1) := by decide +kernel
theorem dX10_bit_25 : decode cX10_bit 25 = .ok (.iaload, 1) := by decide +kernel
theorem dX10_bit_26 : decode cX10_bit 26 = .ok (.goto 5, 3) := by decide +kernel
theorem dX10_bit_29 : decode cX10_bit 29 = .ok (.bipush (-2), 2) := by decide +kernel
theorem dX10_bit_31 : decode cX10_bit 31 = .ok (.ireturn, 1) := by decide +kernel
theorem dX10_remove_0 : decode cX10_remove 0 = .ok (.iload_n 1, 1) := by decide +kernel
theorem dX10_remove_1 : decode cX10_remove 1 = .ok (.invokestatic 48, 3) := by decide +kernel
theorem dX10_remove_4 : decode cX10_remove 4 = .ok (.ifCond .ne 6, 3) := by decide +kernel
theorem dX10_remove_7 : decode cX10_remove 7 = .ok (.bipush (-2), 2) := by decide +kernel
theorem dX10_remove_9 : decode cX10_remove 9 = .ok (.ireturn, 1) := by decide +kernel
theorem dX10_remove_10 : decode cX10_remove 10 = .ok (.aload_n 0, 1) := by decide +kernel
theorem dX10_remove_11 : decode cX10_remove 11 = .ok (.getfield 44, 3) := by decide +kernel
theorem dX10_remove_14 : decode cX10_remove 14 = .ok (.getfield 52, 3) := by decide +kernel
theorem dX10_remove_17 : decode cX10_remove 17 = .ok (.getfield 81, 3) := by decide +kernel
theorem dX10_remove_20 : decode cX10_remove 20 = .ok (.getfield 85, 3) := by decide +kernel
theorem dX10_remove_23 : decode cX10_remove 23 = .ok (.iload_n 1, 1) := by decide +kernel
theorem dX10_remove_24 : decode cX10_remove 24 = .ok (.iaload, 1) := by decide +kernel
theorem dX10_remove_25 : decode cX10_remove 25 = .ok (.istore_n 2, 1) := by decide +kernel
theorem dX10_remove_26 : decode cX10_remove 26 = .ok (.aload_n 0, 1) := by decide +kernel
theorem dX10_remove_27 : decode cX10_remove 27 = .ok (.getfield 44, 3) := by decide +kernel
theorem dX10_remove_30 : decode cX10_remove 30 = .ok (.getfield 52, 3) := by decide +kernel
theorem dX10_remove_33 : decode cX10_remove 33 = .ok (.getfield 81, 3) := by decide +kernel
theorem dX10_remove_36 : decode cX10_remove 36 = .ok (.iload_n 1, 1) := by decide +kernel
theorem dX10_remove_37 : decode cX10_remove 37 = .ok (.invokevirtual 111, 3) := by decide +kernel
theorem dX10_remove_40 : decode cX10_remove 40 = .ok (.iload_n 2, 1) := by decide +kernel
theorem dX10_remove_41 : decode cX10_remove 41 = .ok (.ireturn, 1) := by decide +kernel
theorem dX10_where_0 : decode cX10_where 0 = .ok (.iload_n 1, 1) := by decide +kernel
theorem dX10_where_1 : decode cX10_where 1 = .ok (.invokestatic 48, 3) := by decide +kernel
theorem dX10_where_4 : decode cX10_where 4 = .ok (.ifCond .eq 21, 3) := by decide +kernel
theorem dX10_where_7 : decode cX10_where 7 = .ok (.aload_n 0, 1) := by decide +kernel
theorem dX10_where_8 : decode cX10_where 8 = .ok (.getfield 44, 3) := by decide +kernel
theorem dX10_where_11 : decode cX10_where 11 = .ok (.getfield 52, 3) := by decide +kernel
theorem dX10_where_14 : decode cX10_where 14 = .ok (.getfield 81, 3) := by decide +kernel
theorem dX10_where_17 : decode cX10_where 17 = .ok (.getfield 85, 3) := by decide +kernel
theorem dX10_where_20 : decode cX10_where 20 = .ok (.iload_n 1, 1) := by decide +kernel
theorem dX10_where_21 : decode cX10_where 21 = .ok (.iaload, 1) := by decide +kernel
theorem dX10_where_22 : decode cX10_where 22 = .ok (.goto 5, 3) := by decide +kernel
theorem dX10_where_25 : decode cX10_where 25 = .ok (.bipush (-2), 2) := by decide +kernel
theorem dX10_where_27 : decode cX10_where 27 = .ok (.ireturn, 1) := by decide +kernel
theorem dX10_key_0 : decode cX10_key 0 = .ok (.iload_n 1, 1) := by decide +kernel
theorem dX10_key_1 : decode cX10_key 1 = .ok (.ifCond .lt 26, 3) := by decide +kernel
theorem dX10_key_4 : decode cX10_key 4 = .ok (.iload_n 1, 1) := by decide +kernel
theorem dX10_key_5 : decode cX10_key 5 = .ok (.iconst 3, 1) := by decide +kernel
theorem dX10_key_6 : decode cX10_key 6 = .ok (.if_icmp .ge 21, 3) := by decide +kernel
theorem dX10_key_9 : decode cX10_key 9 = .ok (.aload_n 0, 1) := by decide +kernel
theorem dX10_key_10 : decode cX10_key 10 = .ok (.getfield 44, 3) := by decide +kernel
theorem dX10_key_13 : decode cX10_key 13 = .ok (.getfield 52, 3) := by decide +kernel
theorem dX10_key_16 : decode cX10_key 16 = .ok (.getfield 81, 3) := by decide +kernel
theorem dX10_key_19 : decode cX10_key 19 = .ok (.iload_n 1, 1) := by decide +kernel
theorem dX10_key_20 : decode cX10_key 20 = .ok (.iload_n 2, 1) := by decide +kernel
theorem dX10_key_21 : decode cX10_key 21 = .ok (.invokevirtual 114, 3) := by decide +kernel
theorem dX10_key_24 : decode cX10_key 24 = .ok (.goto 5, 3) := by decide +kernel
theorem dX10_key_27 : decode cX10_key 27 = .ok (.bipush (-2), 2) := by decide +kernel
theorem dX10_key_29 : decode cX10_key 29 = .ok (.ireturn, 1) := by decide +kernel
theorem dX10_about_0 : decode cX10_about 0 = .ok (.aload_n 0, 1) := by decide +kernel
theorem dX10_about_1 : decode cX10_about 1 = .ok (.getfield 44, 3) := by decide +kernel
theorem dX10_about_4 : decode cX10_about 4 = .ok (.iload_n 1, 1) := by decide +kernel
theorem dX10_about_5 : decode cX10_about 5 = .ok (.invokevirtual 117, 3) := by decide +kernel
theorem dX10_about_8 : decode cX10_about 8 = .ok (.ireturn, 1) := by decide +kernel
theorem dX10_trace_0 : decode cX10_trace 0 = .ok (.aload_n 0, 1) := by decide +kernel
theorem dX10_trace_1 : decode cX10_trace 1 = .ok (.getfield 44, 3) := by decide +kernel
theorem dX10_trace_4 : decode cX10_trace 4 = .ok (.getfield 120, 3) := by decide +kernel
theorem dX10_trace_7 : decode cX10_trace 7 = .ok (.iload_n 1, 1) := by decide +kernel
theorem dX10_trace_8 : decode cX10_trace 8 = .ok (.invokevirtual 124, 3) := by decide +kernel
theorem dX10_trace_11 : decode cX10_trace 11 = .ok (.ireturn, 1) := by decide +kernel
theorem dX10_replay_0 : decode cX10_replay 0 = .ok (.iload_n 1, 1) := by decide +kernel
theorem dX10_replay_1 : decode cX10_replay 1 = .ok (.ifCond .lt 20, 3) := by decide +kernel
theorem dX10_replay_4 : decode cX10_replay 4 = .ok (.iload_n 1, 1) := by decide +kernel
theorem dX10_replay_5 : decode cX10_replay 5 = .ok (.bipush 6, 2) := by decide +kernel
theorem dX10_replay_7 : decode cX10_replay 7 = .ok (.if_icmp .ge 14, 3) := by decide +kernel
theorem dX10_replay_10 : decode cX10_replay 10 = .ok (.iload_n 2, 1) := by decide +kernel
theorem dX10_replay_11 : decode cX10_replay 11 = .ok (.iconst 1, 1) := by decide +kernel
theorem dX10_replay_12 : decode cX10_replay 12 = .ok (.if_icmp .lt 9, 3) := by decide +kernel
theorem dX10_replay_15 : decode cX10_replay 15 = .ok (.iload_n 2, 1) := by decide +kernel
theorem dX10_replay_16 : decode cX10_replay 16 = .ok (.bipush 30, 2) := by decide +kernel
theorem dX10_replay_18 : decode cX10_replay 18 = .ok (.if_icmp .le 6, 3) := by decide +kernel
theorem dX10_replay_21 : decode cX10_replay 21 = .ok (.bipush (-2), 2) := by decide +kernel
theorem dX10_replay_23 : decode cX10_replay 23 = .ok (.ireturn, 1) := by decide +kernel
theorem dX10_replay_24 : decode cX10_replay 24 = .ok (.iload_n 3, 1) := by decide +kernel
theorem dX10_replay_25 : decode cX10_replay 25 = .ok (.ifCond .lt 24, 3) := by decide +kernel
theorem dX10_replay_28 : decode cX10_replay 28 = .ok (.iload_n 3, 1) := by decide +kernel
theorem dX10_replay_29 : decode cX10_replay 29 = .ok (.iload 4, 2) := by decide +kernel
theorem dX10_replay_31 : decode cX10_replay 31 = .ok (.if_icmp .gt 18, 3) := by decide +kernel
theorem dX10_replay_34 : decode cX10_replay 34 = .ok (.iload 4, 2) := by decide +kernel
theorem dX10_replay_36 : decode cX10_replay 36 = .ok (.aload_n 0, 1) := by decide +kernel
theorem dX10_replay_37 : decode cX10_replay 37 = .ok (.getfield 44, 3) := by decide +kernel
theorem dX10_replay_40 : decode cX10_replay 40 = .ok (.getfield 120, 3) := by decide +kernel
theorem dX10_replay_43 : decode cX10_replay 43 = .ok (.getfield 128, 3) := by decide +kernel
theorem dX10_replay_46 : decode cX10_replay 46 = .ok (.if_icmp .le 6, 3) := by decide +kernel
theorem dX10_replay_49 : decode cX10_replay 49 = .ok (.bipush (-2), 2) := by decide +kernel
theorem dX10_replay_51 : decode cX10_replay 51 = .ok (.ireturn, 1) := by decide +kernel
theorem dX10_replay_52 : decode cX10_replay 52 = .ok (.aload_n 0, 1) := by decide +kernel
theorem dX10_replay_53 : decode cX10_replay 53 = .ok (.getfield 18, 3) := by decide +kernel
theorem dX10_replay_56 : decode cX10_replay 56 = .ok (.iload_n 1, 1) := by decide +kernel
theorem dX10_replay_57 : decode cX10_replay 57 = .ok (.iload_n 2, 1) := by decide +kernel
theorem dX10_replay_58 : decode cX10_replay 58 = .ok (.aload_n 0, 1) := by decide +kernel
theorem dX10_replay_59 : decode cX10_replay 59 = .ok (.getfield 44, 3) := by decide +kernel
theorem dX10_replay_62 : decode cX10_replay 62 = .ok (.getfield 120, 3) := by decide +kernel
theorem dX10_replay_65 : decode cX10_replay 65 = .ok (.iload_n 3, 1) := by decide +kernel
theorem dX10_replay_66 : decode cX10_replay 66 = .ok (.iload 4, 2) := by decide +kernel
theorem dX10_replay_68 : decode cX10_replay 68 = .ok (.invokevirtual 131, 3) := by decide +kernel
theorem dX10_replay_71 : decode cX10_replay 71 = .ok (.ireturn, 1) := by decide +kernel
theorem dX10_kept_0 : decode cX10_kept 0 = .ok (.aload_n 0, 1) := by decide +kernel
theorem dX10_kept_1 : decode cX10_kept 1 = .ok (.getfield 18, 3) := by decide +kernel
theorem dX10_kept_4 : decode cX10_kept 4 = .ok (.iload_n 1, 1) := by decide +kernel
theorem dX10_kept_5 : decode cX10_kept 5 = .ok (.invokevirtual 135, 3) := by decide +kernel
theorem dX10_kept_8 : decode cX10_kept 8 = .ok (.ireturn, 1) := by decide +kernel
theorem dX10_save_0 : decode cX10_save 0 = .ok (.iload_n 1, 1) := by decide +kernel
theorem dX10_save_1 : decode cX10_save 1 = .ok (.ifCond .lt 8, 3) := by decide +kernel
theorem dX10_save_4 : decode cX10_save 4 = .ok (.iload_n 1, 1) := by decide +kernel
theorem dX10_save_5 : decode cX10_save 5 = .ok (.iconst 4, 1) := by decide +kernel
theorem dX10_save_6 : decode cX10_save 6 = .ok (.if_icmp .lt 6, 3) := by decide +kernel
theorem dX10_save_9 : decode cX10_save 9 = .ok (.bipush (-2), 2) := by decide +kernel
theorem dX10_save_11 : decode cX10_save 11 = .ok (.ireturn, 1) := by decide +kernel
theorem dX10_save_12 : decode cX10_save 12 = .ok (.aload_n 0, 1) := by decide +kernel
theorem dX10_save_13 : decode cX10_save 13 = .ok (.getfield 11, 3) := by decide +kernel
theorem dX10_save_16 : decode cX10_save 16 = .ok (.iload_n 1, 1) := by decide +kernel
theorem dX10_save_17 : decode cX10_save 17 = .ok (.aaload, 1) := by decide +kernel
theorem dX10_save_18 : decode cX10_save 18 = .ok (.ifnonnull 28, 3) := by decide +kernel
theorem dX10_save_21 : decode cX10_save 21 = .ok (.aload_n 0, 1) := by decide +kernel
theorem dX10_save_22 : decode cX10_save 22 = .ok (.getfield 11, 3) := by decide +kernel
theorem dX10_save_25 : decode cX10_save 25 = .ok (.iload_n 1, 1) := by decide +kernel
theorem dX10_save_26 : decode cX10_save 26 = .ok (.new 9, 3) := by decide +kernel
theorem dX10_save_29 : decode cX10_save 29 = .ok (.dup, 1) := by decide +kernel
theorem dX10_save_30 : decode cX10_save 30 = .ok (.aload_n 0, 1) := by decide +kernel
theorem dX10_save_31 : decode cX10_save 31 = .ok (.getfield 31, 3) := by decide +kernel
theorem dX10_save_34 : decode cX10_save 34 = .ok (.aload_n 0, 1) := by decide +kernel
theorem dX10_save_35 : decode cX10_save 35 = .ok (.getfield 35, 3) := by decide +kernel
theorem dX10_save_38 : decode cX10_save 38 = .ok (.aload_n 0, 1) := by decide +kernel
theorem dX10_save_39 : decode cX10_save 39 = .ok (.getfield 38, 3) := by decide +kernel
theorem dX10_save_42 : decode cX10_save 42 = .ok (.invokespecial 41, 3) := by decide +kernel
theorem dX10_save_45 : decode cX10_save 45 = .ok (.aastore, 1) := by decide +kernel
theorem dX10_save_46 : decode cX10_save 46 = .ok (.aload_n 0, 1) := by decide +kernel
theorem dX10_save_47 : decode cX10_save 47 = .ok (.getfield 11, 3) := by decide +kernel
theorem dX10_save_50 : decode cX10_save 50 = .ok (.iload_n 1, 1) := by decide +kernel
theorem dX10_save_51 : decode cX10_save 51 = .ok (.aaload, 1) := by decide +kernel
theorem dX10_save_52 : decode cX10_save 52 = .ok (.aload_n 0, 1) := by decide +kernel
theorem dX10_save_53 : decode cX10_save 53 = .ok (.getfield 44, 3) := by decide +kernel
theorem dX10_save_56 : decode cX10_save 56 = .ok (.invokevirtual 138, 3) := by decide +kernel
theorem dX10_save_59 : decode cX10_save 59 = .ok (.aload_n 0, 1) := by decide +kernel
theorem dX10_save_60 : decode cX10_save 60 = .ok (.getfield 44, 3) := by decide +kernel
theorem dX10_save_63 : decode cX10_save 63 = .ok (.getfield 142, 3) := by decide +kernel
theorem dX10_save_66 : decode cX10_save 66 = .ok (.ireturn, 1) := by decide +kernel
theorem dX10_load_0 : decode cX10_load 0 = .ok (.iload_n 1, 1) := by decide +kernel
theorem dX10_load_1 : decode cX10_load 1 = .ok (.ifCond .lt 8, 3) := by decide +kernel
theorem dX10_load_4 : decode cX10_load 4 = .ok (.iload_n 1, 1) := by decide +kernel
theorem dX10_load_5 : decode cX10_load 5 = .ok (.iconst 4, 1) := by decide +kernel
theorem dX10_load_6 : decode cX10_load 6 = .ok (.if_icmp .lt 6, 3) := by decide +kernel
theorem dX10_load_9 : decode cX10_load 9 = .ok (.bipush (-2), 2) := by decide +kernel
theorem dX10_load_11 : decode cX10_load 11 = .ok (.ireturn, 1) := by decide +kernel
theorem dX10_load_12 : decode cX10_load 12 = .ok (.aload_n 0, 1) := by decide +kernel
theorem dX10_load_13 : decode cX10_load 13 = .ok (.getfield 11, 3) := by decide +kernel
theorem dX10_load_16 : decode cX10_load 16 = .ok (.iload_n 1, 1) := by decide +kernel
theorem dX10_load_17 : decode cX10_load 17 = .ok (.aaload, 1) := by decide +kernel
theorem dX10_load_18 : decode cX10_load 18 = .ok (.ifnonnull 5, 3) := by decide +kernel
theorem dX10_load_21 : decode cX10_load 21 = .ok (.iconst (-1), 1) := by decide +kernel
theorem dX10_load_22 : decode cX10_load 22 = .ok (.ireturn, 1) := by decide +kernel
theorem dX10_load_23 : decode cX10_load 23 = .ok (.aload_n 0, 1) := by decide +kernel
theorem dX10_load_24 : decode cX10_load 24 = .ok (.getfield 44, 3) := by decide +kernel
theorem dX10_load_27 : decode cX10_load 27 = .ok (.aload_n 0, 1) := by decide +kernel
theorem dX10_load_28 : decode cX10_load 28 = .ok (.getfield 11, 3) := by decide +kernel
theorem dX10_load_31 : decode cX10_load 31 = .ok (.iload_n 1, 1) := by decide +kernel
theorem dX10_load_32 : decode cX10_load 32 = .ok (.aaload, 1) := by decide +kernel
theorem dX10_load_33 : decode cX10_load 33 = .ok (.invokevirtual 138, 3) := by decide +kernel
theorem dX10_load_36 : decode cX10_load 36 = .ok (.aload_n 0, 1) := by decide +kernel
theorem dX10_load_37 : decode cX10_load 37 = .ok (.getfield 44, 3) := by decide +kernel
theorem dX10_load_40 : decode cX10_load 40 = .ok (.getfield 142, 3) := by decide +kernel
theorem dX10_load_43 : decode cX10_load 43 = .ok (.ireturn, 1) := by decide +kernel
theorem dX10_sound_0 : decode cX10_sound 0 = .ok (.aload_n 0, 1) := by decide +kernel
theorem dX10_sound_1 : decode cX10_sound 1 = .ok (.getfield 44, 3) := by decide +kernel
theorem dX10_sound_4 : decode cX10_sound 4 = .ok (.getfield 52, 3) := by decide +kernel
theorem dX10_sound_7 : decode cX10_sound 7 = .ok (.invokevirtual 145, 3) := by decide +kernel
theorem dX10_sound_10 : decode cX10_sound 10 = .ok (.ifCond .eq 23, 3) := by decide +kernel
theorem dX10_sound_13 : decode cX10_sound 13 = .ok (.aload_n 0, 1) := by decide +kernel
theorem dX10_sound_14 : decode cX10_sound 14 = .ok (.getfield 44, 3) := by decide +kernel
theorem dX10_sound_17 : decode cX10_sound 17 = .ok (.getfield 52, 3) := by decide +kernel
theorem dX10_sound_20 : decode cX10_sound 20 = .ok (.getfield 56, 3) := by decide +kernel
theorem dX10_sound_23 : decode cX10_sound 23 = .ok (.invokevirtual 149, 3) := by decide +kernel
theorem dX10_sound_26 : decode cX10_sound 26 = .ok (.ifCond .eq 7, 3) := by decide +kernel
theorem dX10_sound_29 : decode cX10_sound 29 = .ok (.iconst 1, 1) := by decide +kernel
theorem dX10_sound_30 : decode cX10_sound 30 = .ok (.goto 4, 3) := by decide +kernel
theorem dX10_sound_33 : decode cX10_sound 33 = .ok (.iconst 0, 1) := by decide +kernel
theorem dX10_sound_34 : decode cX10_sound 34 = .ok (.ireturn, 1) := by decide +kernel
theorem dX10_isKey_0 : decode cX10_isKey 0 = .ok (.iload_n 0, 1) := by decide +kernel
theorem dX10_isKey_1 : decode cX10_isKey 1 = .ok (.ifCond .lt 13, 3) := by decide +kernel
theorem dX10_isKey_4 : decode cX10_isKey 4 = .ok (.iload_n 0, 1) := by decide +kernel
theorem dX10_isKey_5 : decode cX10_isKey 5 = .ok (.bipush 100, 2) := by decide +kernel
theorem dX10_isKey_7 : decode cX10_isKey 7 = .ok (.if_icmp .ge 7, 3) := by decide +kernel
theorem dX10_isKey_10 : decode cX10_isKey 10 = .ok (.iconst 1, 1) := by decide +kernel
theorem dX10_isKey_11 : decode cX10_isKey 11 = .ok (.goto 4, 3) := by decide +kernel
theorem dX10_isKey_14 : decode cX10_isKey 14 = .ok (.iconst 0, 1) := by decide +kernel
theorem dX10_isKey_15 : decode cX10_isKey 15 = .ok (.ireturn, 1) := by decide +kernel
