theorem dc_H_init_0 : decode co_H_init 0 = .ok (.aload_n 0, 1) := by decide +kernel
theorem dc_H_init_1 : decode co_H_init 1 = .ok (.invokespecial 3, 3) := by decide +kernel
theorem dc_H_init_4 : decode co_H_init 4 = .ok (.aload_n 0, 1) := by decide +kernel
theorem dc_H_init_5 : decode co_H_init 5 = .ok (.bipush 25, 2) := by decide +kernel
theorem dc_H_init_7 : decode co_H_init 7 = .ok (.newarray .long, 2) := by decide +kernel
theorem dc_H_init_9 : decode co_H_init 9 = .ok (.putfield 9, 3) := by decide +kernel
theorem dc_H_init_12 : decode co_H_init 12 = .ok (.aload_n 0, 1) := by decide +kernel
theorem dc_H_init_13 : decode co_H_init 13 = .ok (.bipush 25, 2) := by decide +kernel
theorem dc_H_init_15 : decode co_H_init 15 = .ok (.newarray .long, 2) := by decide +kernel
theorem dc_H_init_17 : decode co_H_init 17 = .ok (.putfield 15, 3) := by decide +kernel
theorem dc_H_init_20 : decode co_H_init 20 = .ok (.aload_n 0, 1) := by decide +kernel
theorem dc_H_init_21 : decode co_H_init 21 = .ok (.iconst 5, 1) := by decide +kernel
theorem dc_H_init_22 : decode co_H_init 22 = .ok (.newarray .long, 2) := by decide +kernel
theorem dc_H_init_24 : decode co_H_init 24 = .ok (.putfield 18, 3) := by decide +kernel
theorem dc_H_init_27 : decode co_H_init 27 = .ok (.return_, 1) := by decide +kernel
theorem dc_H_hash_0 : decode co_H_hash 0 = .ok (.iconst 0, 1) := by decide +kernel
theorem dc_H_hash_1 : decode co_H_hash 1 = .ok (.istore 4, 2) := by decide +kernel
theorem dc_H_hash_3 : decode co_H_hash 3 = .ok (.iload 4, 2) := by decide +kernel
theorem dc_H_hash_5 : decode co_H_hash 5 = .ok (.aload_n 0, 1) := by decide +kernel
theorem dc_H_hash_6 : decode co_H_hash 6 = .ok (.getfield 9, 3) := by decide +kernel
theorem dc_H_hash_9 : decode co_H_hash 9 = .ok (.arraylength, 1) := by decide +kernel
theorem dc_H_hash_10 : decode co_H_hash 10 = .ok (.if_icmp .ge 17, 3) := by decide +kernel
theorem dc_H_hash_13 : decode co_H_hash 13 = .ok (.aload_n 0, 1) := by decide +kernel
theorem dc_H_hash_14 : decode co_H_hash 14 = .ok (.getfield 9, 3) := by decide +kernel
theorem dc_H_hash_17 : decode co_H_hash 17 = .ok (.iload 4, 2) := by decide +kernel
theorem dc_H_hash_19 : decode co_H_hash 19 = .ok (.lconst 0, 1) := by decide +kernel
theorem dc_H_hash_20 : decode co_H_hash 20 = .ok (.lastore, 1) := by decide +kernel
theorem dc_H_hash_21 : decode co_H_hash 21 = .ok (.iinc 4 1, 3) := by decide +kernel
theorem dc_H_hash_24 : decode co_H_hash 24 = .ok (.goto (-21), 3) := by decide +kernel
theorem dc_H_hash_27 : decode co_H_hash 27 = .ok (.iload_n 3, 1) := by decide +kernel
theorem dc_H_hash_28 : decode co_H_hash 28 = .ok (.sipush 136, 3) := by decide +kernel
theorem dc_H_hash_31 : decode co_H_hash 31 = .ok (.idiv, 1) := by decide +kernel
theorem dc_H_hash_32 : decode co_H_hash 32 = .ok (.iconst 1, 1) := by decide +kernel
theorem dc_H_hash_33 : decode co_H_hash 33 = .ok (.iadd, 1) := by decide +kernel
theorem dc_H_hash_34 : decode co_H_hash 34 = .ok (.sipush 136, 3) := by decide +kernel
theorem dc_H_hash_37 : decode co_H_hash 37 = .ok (.imul, 1) := by decide +kernel
theorem dc_H_hash_38 : decode co_H_hash 38 = .ok (.istore 4, 2) := by decide +kernel
theorem dc_H_hash_40 : decode co_H_hash 40 = .ok (.iconst 0, 1) := by decide +kernel
theorem dc_H_hash_41 : decode co_H_hash 41 = .ok (.istore 5, 2) := by decide +kernel
theorem dc_H_hash_43 : decode co_H_hash 43 = .ok (.iload 5, 2) := by decide +kernel
theorem dc_H_hash_45 : decode co_H_hash 45 = .ok (.iload 4, 2) := by decide +kernel
theorem dc_H_hash_47 : decode co_H_hash 47 = .ok (.if_icmp .ge 105, 3) := by decide +kernel
theorem dc_H_hash_50 : decode co_H_hash 50 = .ok (.iload 5, 2) := by decide +kernel
theorem dc_H_hash_52 : decode co_H_hash 52 = .ok (.iload_n 3, 1) := by decide +kernel
theorem dc_H_hash_53 : decode co_H_hash 53 = .ok (.if_icmp .ge 21, 3) := by decide +kernel
theorem dc_H_hash_56 : decode co_H_hash 56 = .ok (.iload_n 2, 1) := by decide +kernel
theorem dc_H_hash_57 : decode co_H_hash 57 = .ok (.iload 5, 2) := by decide +kernel
theorem dc_H_hash_59 : decode co_H_hash 59 = .ok (.iadd, 1) := by decide +kernel
theorem dc_H_hash_60 : decode co_H_hash 60 = .ok (.aload_n 1, 1) := by decide +kernel
theorem dc_H_hash_61 : decode co_H_hash 61 = .ok (.arraylength, 1) := by decide +kernel
theorem dc_H_hash_62 : decode co_H_hash 62 = .ok (.if_icmp .ge 12, 3) := by decide +kernel
theorem dc_H_hash_65 : decode co_H_hash 65 = .ok (.aload_n 1, 1) := by decide +kernel
theorem dc_H_hash_66 : decode co_H_hash 66 = .ok (.iload_n 2, 1) := by decide +kernel
theorem dc_H_hash_67 : decode co_H_hash 67 = .ok (.iload 5, 2) := by decide +kernel
theorem dc_H_hash_69 : decode co_H_hash 69 = .ok (.iadd, 1) := by decide +kernel
theorem dc_H_hash_70 : decode co_H_hash 70 = .ok (.iaload, 1) := by decide +kernel
theorem dc_H_hash_71 : decode co_H_hash 71 = .ok (.goto 4, 3) := by decide +kernel
theorem dc_H_hash_74 : decode co_H_hash 74 = .ok (.iconst 0, 1) := by decide +kernel
theorem dc_H_hash_75 : decode co_H_hash 75 = .ok (.istore 6, 2) := by decide +kernel
theorem dc_H_hash_77 : decode co_H_hash 77 = .ok (.iload 5, 2) := by decide +kernel
theorem dc_H_hash_79 : decode co_H_hash 79 = .ok (.iload_n 3, 1) := by decide +kernel
theorem dc_H_hash_80 : decode co_H_hash 80 = .ok (.if_icmp .ne 6, 3) := by decide +kernel
theorem dc_H_hash_83 : decode co_H_hash 83 = .ok (.iconst 1, 1) := by decide +kernel
theorem dc_H_hash_84 : decode co_H_hash 84 = .ok (.istore 6, 2) := by decide +kernel
theorem dc_H_hash_86 : decode co_H_hash 86 = .ok (.iload 5, 2) := by decide +kernel
theorem dc_H_hash_88 : decode co_H_hash 88 = .ok (.iload 4, 2) := by decide +kernel
theorem dc_H_hash_90 : decode co_H_hash 90 = .ok (.iconst 1, 1) := by decide +kernel
theorem dc_H_hash_91 : decode co_H_hash 91 = .ok (.isub, 1) := by decide +kernel
theorem dc_H_hash_92 : decode co_H_hash 92 = .ok (.if_icmp .ne 9, 3) := by decide +kernel
theorem dc_H_hash_95 : decode co_H_hash 95 = .ok (.iinc 6 128, 6) := by decide +kernel
theorem dc_H_hash_101 : decode co_H_hash 101 = .ok (.iload 5, 2) := by decide +kernel
theorem dc_H_hash_103 : decode co_H_hash 103 = .ok (.sipush 136, 3) := by decide +kernel
theorem dc_H_hash_106 : decode co_H_hash 106 = .ok (.irem, 1) := by decide +kernel
theorem dc_H_hash_107 : decode co_H_hash 107 = .ok (.istore 7, 2) := by decide +kernel
theorem dc_H_hash_109 : decode co_H_hash 109 = .ok (.aload_n 0, 1) := by decide +kernel
theorem dc_H_hash_110 : decode co_H_hash 110 = .ok (.getfield 9, 3) := by decide +kernel
theorem dc_H_hash_113 : decode co_H_hash 113 = .ok (.iload 7, 2) := by decide +kernel
theorem dc_H_hash_115 : decode co_H_hash 115 = .ok (.bipush 8, 2) := by decide +kernel
theorem dc_H_hash_117 : decode co_H_hash 117 = .ok (.idiv, 1) := by decide +kernel
theorem dc_H_hash_118 : decode co_H_hash 118 = .ok (.dup2, 1) := by decide +kernel
theorem dc_H_hash_119 : decode co_H_hash 119 = .ok (.laload, 1) := by decide +kernel
theorem dc_H_hash_120 : decode co_H_hash 120 = .ok (.iload 6, 2) := by decide +kernel
theorem dc_H_hash_122 : decode co_H_hash 122 = .ok (.i2l, 1) := by decide +kernel
theorem dc_H_hash_123 : decode co_H_hash 123 = .ok (.bipush 8, 2) := by decide +kernel
theorem dc_H_hash_125 : decode co_H_hash 125 = .ok (.iload 7, 2) := by decide +kernel
theorem dc_H_hash_127 : decode co_H_hash 127 = .ok (.bipush 8, 2) := by decide +kernel
theorem dc_H_hash_129 : decode co_H_hash 129 = .ok (.irem, 1) := by decide +kernel
theorem dc_H_hash_130 : decode co_H_hash 130 = .ok (.imul, 1) := by decide +kernel
theorem dc_H_hash_131 : decode co_H_hash 131 = .ok (.lshl, 1) := by decide +kernel
theorem dc_H_hash_132 : decode co_H_hash 132 = .ok (.lxor, 1) := by decide +kernel
theorem dc_H_hash_133 : decode co_H_hash 133 = .ok (.lastore, 1) := by decide +kernel
theorem dc_H_hash_134 : decode co_H_hash 134 = .ok (.iload 7, 2) := by decide +kernel
theorem dc_H_hash_136 : decode co_H_hash 136 = .ok (.sipush 135, 3) := by decide +kernel
theorem dc_H_hash_139 : decode co_H_hash 139 = .ok (.if_icmp .ne 7, 3) := by decide +kernel
theorem dc_H_hash_142 : decode co_H_hash 142 = .ok (.aload_n 0, 1) := by decide +kernel
theorem dc_H_hash_143 : decode co_H_hash 143 = .ok (.invokevirtual 21, 3) := by decide +kernel
theorem dc_H_hash_146 : decode co_H_hash 146 = .ok (.iinc 5 1, 3) := by decide +kernel
theorem dc_H_hash_149 : decode co_H_hash 149 = .ok (.goto (-106), 3) := by decide +kernel
theorem dc_H_hash_152 : decode co_H_hash 152 = .ok (.return_, 1) := by decide +kernel
theorem dc_H_hashByte_0 : decode co_H_hashByte 0 = .ok (.iload_n 1, 1) := by decide +kernel
theorem dc_H_hashByte_1 : decode co_H_hashByte 1 = .ok (.ifCond .lt 34, 3) := by decide +kernel
theorem dc_H_hashByte_4 : decode co_H_hashByte 4 = .ok (.iload_n 1, 1) := by decide +kernel
theorem dc_H_hashByte_5 : decode co_H_hashByte 5 = .ok (.bipush 32, 2) := by decide +kernel
theorem dc_H_hashByte_7 : decode co_H_hashByte 7 = .ok (.if_icmp .ge 28, 3) := by decide +kernel
theorem dc_H_hashByte_10 : decode co_H_hashByte 10 = .ok (.aload_n 0, 1) := by decide +kernel
theorem dc_H_hashByte_11 : decode co_H_hashByte 11 = .ok (.getfield 9, 3) := by decide +kernel
theorem dc_H_hashByte_14 : decode co_H_hashByte 14 = .ok (.iload_n 1, 1) := by decide +kernel
theorem dc_H_hashByte_15 : decode co_H_hashByte 15 = .ok (.bipush 8, 2) := by decide +kernel
theorem dc_H_hashByte_17 : decode co_H_hashByte 17 = .ok (.idiv, 1) := by decide +kernel
theorem dc_H_hashByte_18 : decode co_H_hashByte 18 = .ok (.laload, 1) := by decide +kernel
theorem dc_H_hashByte_19 : decode co_H_hashByte 19 = .ok (.bipush 8, 2) := by decide +kernel
theorem dc_H_hashByte_21 : decode co_H_hashByte 21 = .ok (.iload_n 1, 1) := by decide +kernel
theorem dc_H_hashByte_22 : decode co_H_hashByte 22 = .ok (.bipush 8, 2) := by decide +kernel
theorem dc_H_hashByte_24 : decode co_H_hashByte 24 = .ok (.irem, 1) := by decide +kernel
theorem dc_H_hashByte_25 : decode co_H_hashByte 25 = .ok (.imul, 1) := by decide +kernel
theorem dc_H_hashByte_26 : decode co_H_hashByte 26 = .ok (.lushr, 1) := by decide +kernel
theorem dc_H_hashByte_27 : decode co_H_hashByte 27 = .ok (.l2i, 1) := by decide +kernel
theorem dc_H_hashByte_28 : decode co_H_hashByte 28 = .ok (.sipush 255, 3) := by decide +kernel
theorem dc_H_hashByte_31 : decode co_H_hashByte 31 = .ok (.iand, 1) := by decide +kernel
theorem dc_H_hashByte_32 : decode co_H_hashByte 32 = .ok (.goto 4, 3) := by decide +kernel
theorem dc_H_hashByte_35 : decode co_H_hashByte 35 = .ok (.iconst 0, 1) := by decide +kernel
theorem dc_H_hashByte_36 : decode co_H_hashByte 36 = .ok (.ireturn, 1) := by decide +kernel
theorem dc_H_standsIn_0 : decode co_H_standsIn 0 = .ok (.iconst 0, 1) := by decide +kernel
theorem dc_H_standsIn_1 : decode co_H_standsIn 1 = .ok (.istore 4, 2) := by decide +kernel
theorem dc_H_standsIn_3 : decode co_H_standsIn 3 = .ok (.iload 4, 2) := by decide +kernel
theorem dc_H_standsIn_5 : decode co_H_standsIn 5 = .ok (.bipush 32, 2) := by decide +kernel
theorem dc_H_standsIn_7 : decode co_H_standsIn 7 = .ok (.if_icmp .ge 56, 3) := by decide +kernel
theorem dc_H_standsIn_10 : decode co_H_standsIn 10 = .ok (.iload_n 3, 1) := by decide +kernel
theorem dc_H_standsIn_11 : decode co_H_standsIn 11 = .ok (.iload 4, 2) := by decide +kernel
theorem dc_H_standsIn_13 : decode co_H_standsIn 13 = .ok (.iadd, 1) := by decide +kernel
theorem dc_H_standsIn_14 : decode co_H_standsIn 14 = .ok (.istore 5, 2) := by decide +kernel
theorem dc_H_standsIn_16 : decode co_H_standsIn 16 = .ok (.iload 5, 2) := by decide +kernel
theorem dc_H_standsIn_18 : decode co_H_standsIn 18 = .ok (.ifCond .lt 23, 3) := by decide +kernel
theorem dc_H_standsIn_21 : decode co_H_standsIn 21 = .ok (.iload 5, 2) := by decide +kernel
theorem dc_H_standsIn_23 : decode co_H_standsIn 23 = .ok (.iload_n 2, 1) := by decide +kernel
theorem dc_H_standsIn_24 : decode co_H_standsIn 24 = .ok (.if_icmp .ge 17, 3) := by decide +kernel
theorem dc_H_standsIn_27 : decode co_H_standsIn 27 = .ok (.iload 5, 2) := by decide +kernel
theorem dc_H_standsIn_29 : decode co_H_standsIn 29 = .ok (.aload_n 1, 1) := by decide +kernel
theorem dc_H_standsIn_30 : decode co_H_standsIn 30 = .ok (.arraylength, 1) := by decide +kernel
theorem dc_H_standsIn_31 : decode co_H_standsIn 31 = .ok (.if_icmp .ge 10, 3) := by decide +kernel
theorem dc_H_standsIn_34 : decode co_H_standsIn 34 = .ok (.aload_n 1, 1) := by decide +kernel
theorem dc_H_standsIn_35 : decode co_H_standsIn 35 = .ok (.iload 5, 2) := by decide +kernel
theorem dc_H_standsIn_37 : decode co_H_standsIn 37 = .ok (.iaload, 1) := by decide +kernel
theorem dc_H_standsIn_38 : decode co_H_standsIn 38 = .ok (.goto 4, 3) := by decide +kernel
theorem dc_H_standsIn_41 : decode co_H_standsIn 41 = .ok (.iconst 0, 1) := by decide +kernel
theorem dc_H_standsIn_42 : decode co_H_standsIn 42 = .ok (.istore 6, 2) := by decide +kernel
theorem dc_H_standsIn_44 : decode co_H_standsIn 44 = .ok (.aload_n 0, 1) := by decide +kernel
theorem dc_H_standsIn_45 : decode co_H_standsIn 45 = .ok (.iload 4, 2) := by decide +kernel
theorem dc_H_standsIn_47 : decode co_H_standsIn 47 = .ok (.invokevirtual 24, 3) := by decide +kernel
theorem dc_H_standsIn_50 : decode co_H_standsIn 50 = .ok (.iload 6, 2) := by decide +kernel
theorem dc_H_standsIn_52 : decode co_H_standsIn 52 = .ok (.if_icmp .eq 5, 3) := by decide +kernel
theorem dc_H_standsIn_55 : decode co_H_standsIn 55 = .ok (.iconst 0, 1) := by decide +kernel
theorem dc_H_standsIn_56 : decode co_H_standsIn 56 = .ok (.ireturn, 1) := by decide +kernel
theorem dc_H_standsIn_57 : decode co_H_standsIn 57 = .ok (.iinc 4 1, 3) := by decide +kernel
theorem dc_H_standsIn_60 : decode co_H_standsIn 60 = .ok (.goto (-57), 3) := by decide +kernel
theorem dc_H_standsIn_63 : decode co_H_standsIn 63 = .ok (.iconst 1, 1) := by decide +kernel
theorem dc_H_standsIn_64 : decode co_H_standsIn 64 = .ok (.ireturn, 1) := by decide +kernel
theorem dc_H_doRounds_0 : decode co_H_doRounds 0 = .ok (.iconst 0, 1) := by decide +kernel
theorem dc_H_doRounds_1 : decode co_H_doRounds 1 = .ok (.istore_n 1, 1) := by decide +kernel
theorem dc_H_doRounds_2 : decode co_H_doRounds 2 = .ok (.iload_n 1, 1) := by decide +kernel
theorem dc_H_doRounds_3 : decode co_H_doRounds 3 = .ok (.getstatic 28, 3) := by decide +kernel
theorem dc_H_doRounds_6 : decode co_H_doRounds 6 = .ok (.arraylength, 1) := by decide +kernel
theorem dc_H_doRounds_7 : decode co_H_doRounds 7 = .ok (.if_icmp .ge 35, 3) := by decide +kernel
theorem dc_H_doRounds_10 : decode co_H_doRounds 10 = .ok (.aload_n 0, 1) := by decide +kernel
theorem dc_H_doRounds_11 : decode co_H_doRounds 11 = .ok (.invokevirtual 31, 3) := by decide +kernel
theorem dc_H_doRounds_14 : decode co_H_doRounds 14 = .ok (.aload_n 0, 1) := by decide +kernel
theorem dc_H_doRounds_15 : decode co_H_doRounds 15 = .ok (.invokevirtual 34, 3) := by decide +kernel
theorem dc_H_doRounds_18 : decode co_H_doRounds 18 = .ok (.aload_n 0, 1) := by decide +kernel
theorem dc_H_doRounds_19 : decode co_H_doRounds 19 = .ok (.invokevirtual 37, 3) := by decide +kernel
theorem dc_H_doRounds_22 : decode co_H_doRounds 22 = .ok (.aload_n 0, 1) := by decide +kernel
theorem dc_H_doRounds_23 : decode co_H_doRounds 23 = .ok (.getfield 9, 3) := by decide +kernel
theorem dc_H_doRounds_26 : decode co_H_doRounds 26 = .ok (.iconst 0, 1) := by decide +kernel
theorem dc_H_doRounds_27 : decode co_H_doRounds 27 = .ok (.dup2, 1) := by decide +kernel
theorem dc_H_doRounds_28 : decode co_H_doRounds 28 = .ok (.laload, 1) := by decide +kernel
theorem dc_H_doRounds_29 : decode co_H_doRounds 29 = .ok (.getstatic 28, 3) := by decide +kernel
theorem dc_H_doRounds_32 : decode co_H_doRounds 32 = .ok (.iload_n 1, 1) := by decide +kernel
theorem dc_H_doRounds_33 : decode co_H_doRounds 33 = .ok (.laload, 1) := by decide +kernel
theorem dc_H_doRounds_34 : decode co_H_doRounds 34 = .ok (.lxor, 1) := by decide +kernel
theorem dc_H_doRounds_35 : decode co_H_doRounds 35 = .ok (.lastore, 1) := by decide +kernel
theorem dc_H_doRounds_36 : decode co_H_doRounds 36 = .ok (.iinc 1 1, 3) := by decide +kernel
theorem dc_H_doRounds_39 : decode co_H_doRounds 39 = .ok (.goto (-37), 3) := by decide +kernel
theorem dc_H_doRounds_42 : decode co_H_doRounds 42 = .ok (.return_, 1) := by decide +kernel
theorem dc_H_mixColumns_0 : decode co_H_mixColumns 0 = .ok (.iconst 0, 1) := by decide +kernel
theorem dc_H_mixColumns_1 : decode co_H_mixColumns 1 = .ok (.istore_n 1, 1) := by decide +kernel
theorem dc_H_mixColumns_2 : decode co_H_mixColumns 2 = .ok (.iload_n 1, 1) := by decide +kernel
theorem dc_H_mixColumns_3 : decode co_H_mixColumns 3 = .ok (.iconst 5, 1) := by decide +kernel
theorem dc_H_mixColumns_4 : decode co_H_mixColumns 4 = .ok (.if_icmp .ge 60, 3) := by decide +kernel
theorem dc_H_mixColumns_7 : decode co_H_mixColumns 7 = .ok (.aload_n 0, 1) := by decide +kernel
theorem dc_H_mixColumns_8 : decode co_H_mixColumns 8 = .ok (.getfield 18, 3) := by decide +kernel
theorem dc_H_mixColumns_11 : decode co_H_mixColumns 11 = .ok (.iload_n 1, 1) := by decide +kernel
theorem dc_H_mixColumns_12 : decode co_H_mixColumns 12 = .ok (.aload_n 0, 1) := by decide +kernel
theorem dc_H_mixColumns_13 : decode co_H_mixColumns 13 = .ok (.getfield 9, 3) := by decide +kernel
theorem dc_H_mixColumns_16 : decode co_H_mixColumns 16 = .ok (.iload_n 1, 1) := by decide +kernel
theorem dc_H_mixColumns_17 : decode co_H_mixColumns 17 = .ok (.laload, 1) := by decide +kernel
theorem dc_H_mixColumns_18 : decode co_H_mixColumns 18 = .ok (.aload_n 0, 1) := by decide +kernel
theorem dc_H_mixColumns_19 : decode co_H_mixColumns 19 = .ok (.getfield 9, 3) := by decide +kernel
theorem dc_H_mixColumns_22 : decode co_H_mixColumns 22 = .ok (.iload_n 1, 1) := by decide +kernel
theorem dc_H_mixColumns_23 : decode co_H_mixColumns 23 = .ok (.iconst 5, 1) := by decide +kernel
theorem dc_H_mixColumns_24 : decode co_H_mixColumns 24 = .ok (.iadd, 1) := by decide +kernel
theorem dc_H_mixColumns_25 : decode co_H_mixColumns 25 = .ok (.laload, 1) := by decide +kernel
theorem dc_H_mixColumns_26 : decode co_H_mixColumns 26 = .ok (.lxor, 1) := by decide +kernel
theorem dc_H_mixColumns_27 : decode co_H_mixColumns 27 = .ok (.aload_n 0, 1) := by decide +kernel
theorem dc_H_mixColumns_28 : decode co_H_mixColumns 28 = .ok (.getfield 9, 3) := by decide +kernel
theorem dc_H_mixColumns_31 : decode co_H_mixColumns 31 = .ok (.iload_n 1, 1) := by decide +kernel
theorem dc_H_mixColumns_32 : decode co_H_mixColumns 32 = .ok (.bipush 10, 2) := by decide +kernel
theorem dc_H_mixColumns_34 : decode co_H_mixColumns 34 = .ok (.iadd, 1) := by decide +kernel
theorem dc_H_mixColumns_35 : decode co_H_mixColumns 35 = .ok (.laload, 1) := by decide +kernel
theorem dc_H_mixColumns_36 : decode co_H_mixColumns 36 = .ok (.lxor, 1) := by decide +kernel
theorem dc_H_mixColumns_37 : decode co_H_mixColumns 37 = .ok (.aload_n 0, 1) := by decide +kernel
theorem dc_H_mixColumns_38 : decode co_H_mixColumns 38 = .ok (.getfield 9, 3) := by decide +kernel
theorem dc_H_mixColumns_41 : decode co_H_mixColumns 41 = .ok (.iload_n 1, 1) := by decide +kernel
theorem dc_H_mixColumns_42 : decode co_H_mixColumns 42 = .ok (.bipush 15, 2) := by decide +kernel
theorem dc_H_mixColumns_44 : decode co_H_mixColumns 44 = .ok (.iadd, 1) := by decide +kernel
theorem dc_H_mixColumns_45 : decode co_H_mixColumns 45 = .ok (.laload, 1) := by decide +kernel
theorem dc_H_mixColumns_46 : decode co_H_mixColumns 46 = .ok (.lxor, 1) := by decide +kernel
theorem dc_H_mixColumns_47 : decode co_H_mixColumns 47 = .ok (.aload_n 0, 1) := by decide +kernel
theorem dc_H_mixColumns_48 : decode co_H_mixColumns 48 = .ok (.getfield 9, 3) := by decide +kernel
theorem dc_H_mixColumns_51 : decode co_H_mixColumns 51 = .ok (.iload_n 1, 1) := by decide +kernel
theorem dc_H_mixColumns_52 : decode co_H_mixColumns 52 = .ok (.bipush 20, 2) := by decide +kernel
theorem dc_H_mixColumns_54 : decode co_H_mixColumns 54 = .ok (.iadd, 1) := by decide +kernel
theorem dc_H_mixColumns_55 : decode co_H_mixColumns 55 = .ok (.laload, 1) := by decide +kernel
theorem dc_H_mixColumns_56 : decode co_H_mixColumns 56 = .ok (.lxor, 1) := by decide +kernel
theorem dc_H_mixColumns_57 : decode co_H_mixColumns 57 = .ok (.lastore, 1) := by decide +kernel
theorem dc_H_mixColumns_58 : decode co_H_mixColumns 58 = .ok (.iinc 1 1, 3) := by decide +kernel
theorem dc_H_mixColumns_61 : decode co_H_mixColumns 61 = .ok (.goto (-59), 3) := by decide +kernel
theorem dc_H_mixColumns_64 : decode co_H_mixColumns 64 = .ok (.iconst 0, 1) := by decide +kernel
theorem dc_H_mixColumns_65 : decode co_H_mixColumns 65 = .ok (.istore_n 1, 1) := by decide +kernel
theorem dc_H_mixColumns_66 : decode co_H_mixColumns 66 = .ok (.iload_n 1, 1) := by decide +kernel
theorem dc_H_mixColumns_67 : decode co_H_mixColumns 67 = .ok (.iconst 5, 1) := by decide +kernel
theorem dc_H_mixColumns_68 : decode co_H_mixColumns 68 = .ok (.if_icmp .ge 69, 3) := by decide +kernel
theorem dc_H_mixColumns_71 : decode co_H_mixColumns 71 = .ok (.aload_n 0, 1) := by decide +kernel
theorem dc_H_mixColumns_72 : decode co_H_mixColumns 72 = .ok (.getfield 18, 3) := by decide +kernel
theorem dc_H_mixColumns_75 : decode co_H_mixColumns 75 = .ok (.iload_n 1, 1) := by decide +kernel
theorem dc_H_mixColumns_76 : decode co_H_mixColumns 76 = .ok (.iconst 1, 1) := by decide +kernel
theorem dc_H_mixColumns_77 : decode co_H_mixColumns 77 = .ok (.iadd, 1) := by decide +kernel
theorem dc_H_mixColumns_78 : decode co_H_mixColumns 78 = .ok (.iconst 5, 1) := by decide +kernel
theorem dc_H_mixColumns_79 : decode co_H_mixColumns 79 = .ok (.irem, 1) := by decide +kernel
theorem dc_H_mixColumns_80 : decode co_H_mixColumns 80 = .ok (.laload, 1) := by decide +kernel
theorem dc_H_mixColumns_81 : decode co_H_mixColumns 81 = .ok (.lstore_n 2, 1) := by decide +kernel
theorem dc_H_mixColumns_82 : decode co_H_mixColumns 82 = .ok (.aload_n 0, 1) := by decide +kernel
theorem dc_H_mixColumns_83 : decode co_H_mixColumns 83 = .ok (.getfield 18, 3) := by decide +kernel
theorem dc_H_mixColumns_86 : decode co_H_mixColumns 86 = .ok (.iload_n 1, 1) := by decide +kernel
theorem dc_H_mixColumns_87 : decode co_H_mixColumns 87 = .ok (.iconst 4, 1) := by decide +kernel
theorem dc_H_mixColumns_88 : decode co_H_mixColumns 88 = .ok (.iadd, 1) := by decide +kernel
theorem dc_H_mixColumns_89 : decode co_H_mixColumns 89 = .ok (.iconst 5, 1) := by decide +kernel
theorem dc_H_mixColumns_90 : decode co_H_mixColumns 90 = .ok (.irem, 1) := by decide +kernel
theorem dc_H_mixColumns_91 : decode co_H_mixColumns 91 = .ok (.laload, 1) := by decide +kernel
theorem dc_H_mixColumns_92 : decode co_H_mixColumns 92 = .ok (.lload_n 2, 1) := by decide +kernel
theorem dc_H_mixColumns_93 : decode co_H_mixColumns 93 = .ok (.iconst 1, 1) := by decide +kernel
theorem dc_H_mixColumns_94 : decode co_H_mixColumns 94 = .ok (.lshl, 1) := by decide +kernel
theorem dc_H_mixColumns_95 : decode co_H_mixColumns 95 = .ok (.lload_n 2, 1) := by decide +kernel
theorem dc_H_mixColumns_96 : decode co_H_mixColumns 96 = .ok (.bipush 63, 2) := by decide +kernel
theorem dc_H_mixColumns_98 : decode co_H_mixColumns 98 = .ok (.lushr, 1) := by decide +kernel
theorem dc_H_mixColumns_99 : decode co_H_mixColumns 99 = .ok (.lor, 1) := by decide +kernel
theorem dc_H_mixColumns_100 : decode co_H_mixColumns 100 = .ok (.lxor, 1) := by decide +kernel
theorem dc_H_mixColumns_101 : decode co_H_mixColumns 101 = .ok (.lstore 4, 2) := by decide +kernel
theorem dc_H_mixColumns_103 : decode co_H_mixColumns 103 = .ok (.iload_n 1, 1) := by decide +kernel
theorem dc_H_mixColumns_104 : decode co_H_mixColumns 104 = .ok (.istore 6, 2) := by decide +kernel
theorem dc_H_mixColumns_106 : decode co_H_mixColumns 106 = .ok (.iload 6, 2) := by decide +kernel
theorem dc_H_mixColumns_108 : decode co_H_mixColumns 108 = .ok (.bipush 25, 2) := by decide +kernel
theorem dc_H_mixColumns_110 : decode co_H_mixColumns 110 = .ok (.if_icmp .ge 21, 3) := by decide +kernel
theorem dc_H_mixColumns_113 : decode co_H_mixColumns 113 = .ok (.aload_n 0, 1) := by decide +kernel
theorem dc_H_mixColumns_114 : decode co_H_mixColumns 114 = .ok (.getfield 9, 3) := by decide +kernel
theorem dc_H_mixColumns_117 : decode co_H_mixColumns 117 = .ok (.iload 6, 2) := by decide +kernel
theorem dc_H_mixColumns_119 : decode co_H_mixColumns 119 = .ok (.dup2, 1) := by decide +kernel
theorem dc_H_mixColumns_120 : decode co_H_mixColumns 120 = .ok (.laload, 1) := by decide +kernel
theorem dc_H_mixColumns_121 : decode co_H_mixColumns 121 = .ok (.lload 4, 2) := by decide +kernel
theorem dc_H_mixColumns_123 : decode co_H_mixColumns 123 = .ok (.lxor, 1) := by decide +kernel
theorem dc_H_mixColumns_124 : decode co_H_mixColumns 124 = .ok (.lastore, 1) := by decide +kernel
theorem dc_H_mixColumns_125 : decode co_H_mixColumns 125 = .ok (.iinc 6 5, 3) := by decide +kernel
theorem dc_H_mixColumns_128 : decode co_H_mixColumns 128 = .ok (.goto (-22), 3) := by decide +kernel
theorem dc_H_mixColumns_131 : decode co_H_mixColumns 131 = .ok (.iinc 1 1, 3) := by decide +kernel
theorem dc_H_mixColumns_134 : decode co_H_mixColumns 134 = .ok (.goto (-68), 3) := by decide +kernel
theorem dc_H_mixColumns_137 : decode co_H_mixColumns 137 = .ok (.return_, 1) := by decide +kernel
theorem dc_H_turnWords_0 : decode co_H_turnWords 0 = .ok (.iconst 0, 1) := by decide +kernel
theorem dc_H_turnWords_1 : decode co_H_turnWords 1 = .ok (.istore_n 1, 1) := by decide +kernel
theorem dc_H_turnWords_2 : decode co_H_turnWords 2 = .ok (.iload_n 1, 1) := by decide +kernel
theorem dc_H_turnWords_3 : decode co_H_turnWords 3 = .ok (.bipush 25, 2) := by decide +kernel
theorem dc_H_turnWords_5 : decode co_H_turnWords 5 = .ok (.if_icmp .ge 45, 3) := by decide +kernel
theorem dc_H_turnWords_8 : decode co_H_turnWords 8 = .ok (.aload_n 0, 1) := by decide +kernel
theorem dc_H_turnWords_9 : decode co_H_turnWords 9 = .ok (.getfield 9, 3) := by decide +kernel
theorem dc_H_turnWords_12 : decode co_H_turnWords 12 = .ok (.iload_n 1, 1) := by decide +kernel
theorem dc_H_turnWords_13 : decode co_H_turnWords 13 = .ok (.laload, 1) := by decide +kernel
theorem dc_H_turnWords_14 : decode co_H_turnWords 14 = .ok (.lstore_n 2, 1) := by decide +kernel
theorem dc_H_turnWords_15 : decode co_H_turnWords 15 = .ok (.getstatic 40, 3) := by decide +kernel
theorem dc_H_turnWords_18 : decode co_H_turnWords 18 = .ok (.iload_n 1, 1) := by decide +kernel
theorem dc_H_turnWords_19 : decode co_H_turnWords 19 = .ok (.iaload, 1) := by decide +kernel
theorem dc_H_turnWords_20 : decode co_H_turnWords 20 = .ok (.istore 4, 2) := by decide +kernel
theorem dc_H_turnWords_22 : decode co_H_turnWords 22 = .ok (.aload_n 0, 1) := by decide +kernel
theorem dc_H_turnWords_23 : decode co_H_turnWords 23 = .ok (.getfield 15, 3) := by decide +kernel
theorem dc_H_turnWords_26 : decode co_H_turnWords 26 = .ok (.getstatic 44, 3) := by decide +kernel
theorem dc_H_turnWords_29 : decode co_H_turnWords 29 = .ok (.iload_n 1, 1) := by decide +kernel
theorem dc_H_turnWords_30 : decode co_H_turnWords 30 = .ok (.iaload, 1) := by decide +kernel
theorem dc_H_turnWords_31 : decode co_H_turnWords 31 = .ok (.lload_n 2, 1) := by decide +kernel
theorem dc_H_turnWords_32 : decode co_H_turnWords 32 = .ok (.iload 4, 2) := by decide +kernel
theorem dc_H_turnWords_34 : decode co_H_turnWords 34 = .ok (.lshl, 1) := by decide +kernel
theorem dc_H_turnWords_35 : decode co_H_turnWords 35 = .ok (.lload_n 2, 1) := by decide +kernel
theorem dc_H_turnWords_36 : decode co_H_turnWords 36 = .ok (.bipush 64, 2) := by decide +kernel
theorem dc_H_turnWords_38 : decode co_H_turnWords 38 = .ok (.iload 4, 2) := by decide +kernel
theorem dc_H_turnWords_40 : decode co_H_turnWords 40 = .ok (.isub, 1) := by decide +kernel
theorem dc_H_turnWords_41 : decode co_H_turnWords 41 = .ok (.lushr, 1) := by decide +kernel
theorem dc_H_turnWords_42 : decode co_H_turnWords 42 = .ok (.lor, 1) := by decide +kernel
theorem dc_H_turnWords_43 : decode co_H_turnWords 43 = .ok (.lastore, 1) := by decide +kernel
theorem dc_H_turnWords_44 : decode co_H_turnWords 44 = .ok (.iinc 1 1, 3) := by decide +kernel
theorem dc_H_turnWords_47 : decode co_H_turnWords 47 = .ok (.goto (-45), 3) := by decide +kernel
theorem dc_H_turnWords_50 : decode co_H_turnWords 50 = .ok (.return_, 1) := by decide +kernel
theorem dc_H_mixRows_0 : decode co_H_mixRows 0 = .ok (.iconst 0, 1) := by decide +kernel
theorem dc_H_mixRows_1 : decode co_H_mixRows 1 = .ok (.istore_n 1, 1) := by decide +kernel
theorem dc_H_mixRows_2 : decode co_H_mixRows 2 = .ok (.iload_n 1, 1) := by decide +kernel
theorem dc_H_mixRows_3 : decode co_H_mixRows 3 = .ok (.bipush 25, 2) := by decide +kernel
theorem dc_H_mixRows_5 : decode co_H_mixRows 5 = .ok (.if_icmp .ge 151, 3) := by decide +kernel
theorem dc_H_mixRows_8 : decode co_H_mixRows 8 = .ok (.aload_n 0, 1) := by decide +kernel
theorem dc_H_mixRows_9 : decode co_H_mixRows 9 = .ok (.getfield 15, 3) := by decide +kernel
theorem dc_H_mixRows_12 : decode co_H_mixRows 12 = .ok (.iload_n 1, 1) := by decide +kernel
theorem dc_H_mixRows_13 : decode co_H_mixRows 13 = .ok (.laload, 1) := by decide +kernel
theorem dc_H_mixRows_14 : decode co_H_mixRows 14 = .ok (.lstore_n 2, 1) := by decide +kernel
theorem dc_H_mixRows_15 : decode co_H_mixRows 15 = .ok (.aload_n 0, 1) := by decide +kernel
theorem dc_H_mixRows_16 : decode co_H_mixRows 16 = .ok (.getfield 15, 3) := by decide +kernel
theorem dc_H_mixRows_19 : decode co_H_mixRows 19 = .ok (.iload_n 1, 1) := by decide +kernel
theorem dc_H_mixRows_20 : decode co_H_mixRows 20 = .ok (.iconst 1, 1) := by decide +kernel
theorem dc_H_mixRows_21 : decode co_H_mixRows 21 = .ok (.iadd, 1) := by decide +kernel
theorem dc_H_mixRows_22 : decode co_H_mixRows 22 = .ok (.laload, 1) := by decide +kernel
theorem dc_H_mixRows_23 : decode co_H_mixRows 23 = .ok (.lstore 4, 2) := by decide +kernel
theorem dc_H_mixRows_25 : decode co_H_mixRows 25 = .ok (.aload_n 0, 1) := by decide +kernel
theorem dc_H_mixRows_26 : decode co_H_mixRows 26 = .ok (.getfield 15, 3) := by decide +kernel
theorem dc_H_mixRows_29 : decode co_H_mixRows 29 = .ok (.iload_n 1, 1) := by decide +kernel
theorem dc_H_mixRows_30 : decode co_H_mixRows 30 = .ok (.iconst 2, 1) := by decide +kernel
theorem dc_H_mixRows_31 : decode co_H_mixRows 31 = .ok (.iadd, 1) := by decide +kernel
theorem dc_H_mixRows_32 : decode co_H_mixRows 32 = .ok (.laload, 1) := by decide +kernel
theorem dc_H_mixRows_33 : decode co_H_mixRows 33 = .ok (.lstore 6, 2) := by decide +kernel
theorem dc_H_mixRows_35 : decode co_H_mixRows 35 = .ok (.aload_n 0, 1) := by decide +kernel
theorem dc_H_mixRows_36 : decode co_H_mixRows 36 = .ok (.getfield 15, 3) := by decide +kernel
theorem dc_H_mixRows_39 : decode co_H_mixRows 39 = .ok (.iload_n 1, 1) := by decide +kernel
theorem dc_H_mixRows_40 : decode co_H_mixRows 40 = .ok (.iconst 3, 1) := by decide +kernel
theorem dc_H_mixRows_41 : decode co_H_mixRows 41 = .ok (.iadd, 1) := by decide +kernel
theorem dc_H_mixRows_42 : decode co_H_mixRows 42 = .ok (.laload, 1) := by decide +kernel
theorem dc_H_mixRows_43 : decode co_H_mixRows 43 = .ok (.lstore 8, 2) := by decide +kernel
theorem dc_H_mixRows_45 : decode co_H_mixRows 45 = .ok (.aload_n 0, 1) := by decide +kernel
theorem dc_H_mixRows_46 : decode co_H_mixRows 46 = .ok (.getfield 15, 3) := by decide +kernel
theorem dc_H_mixRows_49 : decode co_H_mixRows 49 = .ok (.iload_n 1, 1) := by decide +kernel
theorem dc_H_mixRows_50 : decode co_H_mixRows 50 = .ok (.iconst 4, 1) := by decide +kernel
theorem dc_H_mixRows_51 : decode co_H_mixRows 51 = .ok (.iadd, 1) := by decide +kernel
theorem dc_H_mixRows_52 : decode co_H_mixRows 52 = .ok (.laload, 1) := by decide +kernel
theorem dc_H_mixRows_53 : decode co_H_mixRows 53 = .ok (.lstore 10, 2) := by decide +kernel
theorem dc_H_mixRows_55 : decode co_H_mixRows 55 = .ok (.aload_n 0, 1) := by decide +kernel
theorem dc_H_mixRows_56 : decode co_H_mixRows 56 = .ok (.getfield 9, 3) := by decide +kernel
theorem dc_H_mixRows_59 : decode co_H_mixRows 59 = .ok (.iload_n 1, 1) := by decide +kernel
theorem dc_H_mixRows_60 : decode co_H_mixRows 60 = .ok (.lload_n 2, 1) := by decide +kernel
theorem dc_H_mixRows_61 : decode co_H_mixRows 61 = .ok (.lload 4, 2) := by decide +kernel
theorem dc_H_mixRows_63 : decode co_H_mixRows 63 = .ok (.ldc2_w 47, 3) := by decide +kernel
theorem dc_H_mixRows_66 : decode co_H_mixRows 66 = .ok (.lxor, 1) := by decide +kernel
theorem dc_H_mixRows_67 : decode co_H_mixRows 67 = .ok (.lload 6, 2) := by decide +kernel
theorem dc_H_mixRows_69 : decode co_H_mixRows 69 = .ok (.land, 1) := by decide +kernel
theorem dc_H_mixRows_70 : decode co_H_mixRows 70 = .ok (.lxor, 1) := by decide +kernel
theorem dc_H_mixRows_71 : decode co_H_mixRows 71 = .ok (.lastore, 1) := by decide +kernel
theorem dc_H_mixRows_72 : decode co_H_mixRows 72 = .ok (.aload_n 0, 1) := by decide +kernel
theorem dc_H_mixRows_73 : decode co_H_mixRows 73 = .ok (.getfield 9, 3) := by decide +kernel
theorem dc_H_mixRows_76 : decode co_H_mixRows 76 = .ok (.iload_n 1, 1) := by decide +kernel
theorem dc_H_mixRows_77 : decode co_H_mixRows 77 = .ok (.iconst 1, 1) := by decide +kernel
theorem dc_H_mixRows_78 : decode co_H_mixRows 78 = .ok (.iadd, 1) := by decide +kernel
theorem dc_H_mixRows_79 : decode co_H_mixRows 79 = .ok (.lload 4, 2) := by decide +kernel
theorem dc_H_mixRows_81 : decode co_H_mixRows 81 = .ok (.lload 6, 2) := by decide +kernel
theorem dc_H_mixRows_83 : decode co_H_mixRows 83 = .ok (.ldc2_w 47, 3) := by decide +kernel
theorem dc_H_mixRows_86 : decode co_H_mixRows 86 = .ok (.lxor, 1) := by decide +kernel
theorem dc_H_mixRows_87 : decode co_H_mixRows 87 = .ok (.lload 8, 2) := by decide +kernel
theorem dc_H_mixRows_89 : decode co_H_mixRows 89 = .ok (.land, 1) := by decide +kernel
theorem dc_H_mixRows_90 : decode co_H_mixRows 90 = .ok (.lxor, 1) := by decide +kernel
theorem dc_H_mixRows_91 : decode co_H_mixRows 91 = .ok (.lastore, 1) := by decide +kernel
theorem dc_H_mixRows_92 : decode co_H_mixRows 92 = .ok (.aload_n 0, 1) := by decide +kernel
theorem dc_H_mixRows_93 : decode co_H_mixRows 93 = .ok (.getfield 9, 3) := by decide +kernel
theorem dc_H_mixRows_96 : decode co_H_mixRows 96 = .ok (.iload_n 1, 1) := by decide +kernel
theorem dc_H_mixRows_97 : decode co_H_mixRows 97 = .ok (.iconst 2, 1) := by decide +kernel
theorem dc_H_mixRows_98 : decode co_H_mixRows 98 = .ok (.iadd, 1) := by decide +kernel
theorem dc_H_mixRows_99 : decode co_H_mixRows 99 = .ok (.lload 6, 2) := by decide +kernel
theorem dc_H_mixRows_101 : decode co_H_mixRows 101 = .ok (.lload 8, 2) := by decide +kernel
theorem dc_H_mixRows_103 : decode co_H_mixRows 103 = .ok (.ldc2_w 47, 3) := by decide +kernel
theorem dc_H_mixRows_106 : decode co_H_mixRows 106 = .ok (.lxor, 1) := by decide +kernel
theorem dc_H_mixRows_107 : decode co_H_mixRows 107 = .ok (.lload 10, 2) := by decide +kernel
theorem dc_H_mixRows_109 : decode co_H_mixRows 109 = .ok (.land, 1) := by decide +kernel
theorem dc_H_mixRows_110 : decode co_H_mixRows 110 = .ok (.lxor, 1) := by decide +kernel
theorem dc_H_mixRows_111 : decode co_H_mixRows 111 = .ok (.lastore, 1) := by decide +kernel
theorem dc_H_mixRows_112 : decode co_H_mixRows 112 = .ok (.aload_n 0, 1) := by decide +kernel
theorem dc_H_mixRows_113 : decode co_H_mixRows 113 = .ok (.getfield 9, 3) := by decide +kernel
theorem dc_H_mixRows_116 : decode co_H_mixRows 116 = .ok (.iload_n 1, 1) := by decide +kernel
theorem dc_H_mixRows_117 : decode co_H_mixRows 117 = .ok (.iconst 3, 1) := by decide +kernel
theorem dc_H_mixRows_118 : decode co_H_mixRows 118 = .ok (.iadd, 1) := by decide +kernel
theorem dc_H_mixRows_119 : decode co_H_mixRows 119 = .ok (.lload 8, 2) := by decide +kernel
theorem dc_H_mixRows_121 : decode co_H_mixRows 121 = .ok (.lload 10, 2) := by decide +kernel
theorem dc_H_mixRows_123 : decode co_H_mixRows 123 = .ok (.ldc2_w 47, 3) := by decide +kernel
theorem dc_H_mixRows_126 : decode co_H_mixRows 126 = .ok (.lxor, 1) := by decide +kernel
theorem dc_H_mixRows_127 : decode co_H_mixRows 127 = .ok (.lload_n 2, 1) := by decide +kernel
theorem dc_H_mixRows_128 : decode co_H_mixRows 128 = .ok (.land, 1) := by decide +kernel
theorem dc_H_mixRows_129 : decode co_H_mixRows 129 = .ok (.lxor, 1) := by decide +kernel
theorem dc_H_mixRows_130 : decode co_H_mixRows 130 = .ok (.lastore, 1) := by decide +kernel
theorem dc_H_mixRows_131 : decode co_H_mixRows 131 = .ok (.aload_n 0, 1) := by decide +kernel
theorem dc_H_mixRows_132 : decode co_H_mixRows 132 = .ok (.getfield 9, 3) := by decide +kernel
theorem dc_H_mixRows_135 : decode co_H_mixRows 135 = .ok (.iload_n 1, 1) := by decide +kernel
theorem dc_H_mixRows_136 : decode co_H_mixRows 136 = .ok (.iconst 4, 1) := by decide +kernel
theorem dc_H_mixRows_137 : decode co_H_mixRows 137 = .ok (.iadd, 1) := by decide +kernel
theorem dc_H_mixRows_138 : decode co_H_mixRows 138 = .ok (.lload 10, 2) := by decide +kernel
theorem dc_H_mixRows_140 : decode co_H_mixRows 140 = .ok (.lload_n 2, 1) := by decide +kernel
theorem dc_H_mixRows_141 : decode co_H_mixRows 141 = .ok (.ldc2_w 47, 3) := by decide +kernel
theorem dc_H_mixRows_144 : decode co_H_mixRows 144 = .ok (.lxor, 1) := by decide +kernel
theorem dc_H_mixRows_145 : decode co_H_mixRows 145 = .ok (.lload 4, 2) := by decide +kernel
theorem dc_H_mixRows_147 : decode co_H_mixRows 147 = .ok (.land, 1) := by decide +kernel
theorem dc_H_mixRows_148 : decode co_H_mixRows 148 = .ok (.lxor, 1) := by decide +kernel
theorem dc_H_mixRows_149 : decode co_H_mixRows 149 = .ok (.lastore, 1) := by decide +kernel
theorem dc_H_mixRows_150 : decode co_H_mixRows 150 = .ok (.iinc 1 5, 3) := by decide +kernel
theorem dc_H_mixRows_153 : decode co_H_mixRows 153 = .ok (.goto (-151), 3) := by decide +kernel
theorem dc_H_mixRows_156 : decode co_H_mixRows 156 = .ok (.return_, 1) := by decide +kernel
