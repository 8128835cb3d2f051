theorem dc_M_digit_4 : decode co_M_digit 4 = .ok (.iload_n 1, 1) := by decide +kernel
theorem dc_M_digit_5 : decode co_M_digit 5 = .ok (.imul, 1) := by decide +kernel
theorem dc_M_digit_6 : decode co_M_digit 6 = .ok (.isub, 1) := by decide +kernel
theorem dc_M_digit_7 : decode co_M_digit 7 = .ok (.ishr, 1) := by decide +kernel
theorem dc_M_digit_8 : decode co_M_digit 8 = .ok (.bipush 15, 2) := by decide +kernel
theorem dc_M_digit_10 : decode co_M_digit 10 = .ok (.iand, 1) := by decide +kernel
theorem dc_M_digit_11 : decode co_M_digit 11 = .ok (.ireturn, 1) := by decide +kernel
theorem dc_M_putDigits_0 : decode co_M_putDigits 0 = .ok (.iload 4, 2) := by decide +kernel
theorem dc_M_putDigits_2 : decode co_M_putDigits 2 = .ok (.ifCond .eq 7, 3) := by decide +kernel
theorem dc_M_putDigits_5 : decode co_M_putDigits 5 = .ok (.iconst 2, 1) := by decide +kernel
theorem dc_M_putDigits_6 : decode co_M_putDigits 6 = .ok (.goto 4, 3) := by decide +kernel
theorem dc_M_putDigits_9 : decode co_M_putDigits 9 = .ok (.iconst 0, 1) := by decide +kernel
theorem dc_M_putDigits_10 : decode co_M_putDigits 10 = .ok (.istore 5, 2) := by decide +kernel
theorem dc_M_putDigits_12 : decode co_M_putDigits 12 = .ok (.iconst 0, 1) := by decide +kernel
theorem dc_M_putDigits_13 : decode co_M_putDigits 13 = .ok (.istore 6, 2) := by decide +kernel
theorem dc_M_putDigits_15 : decode co_M_putDigits 15 = .ok (.iload_n 2, 1) := by decide +kernel
theorem dc_M_putDigits_16 : decode co_M_putDigits 16 = .ok (.istore 7, 2) := by decide +kernel
theorem dc_M_putDigits_18 : decode co_M_putDigits 18 = .ok (.iload_n 3, 1) := by decide +kernel
theorem dc_M_putDigits_19 : decode co_M_putDigits 19 = .ok (.iload_n 2, 1) := by decide +kernel
theorem dc_M_putDigits_20 : decode co_M_putDigits 20 = .ok (.isub, 1) := by decide +kernel
theorem dc_M_putDigits_21 : decode co_M_putDigits 21 = .ok (.iconst 2, 1) := by decide +kernel
theorem dc_M_putDigits_22 : decode co_M_putDigits 22 = .ok (.irem, 1) := by decide +kernel
theorem dc_M_putDigits_23 : decode co_M_putDigits 23 = .ok (.iconst 1, 1) := by decide +kernel
theorem dc_M_putDigits_24 : decode co_M_putDigits 24 = .ok (.if_icmp .ne 29, 3) := by decide +kernel
theorem dc_M_putDigits_27 : decode co_M_putDigits 27 = .ok (.aload_n 0, 1) := by decide +kernel
theorem dc_M_putDigits_28 : decode co_M_putDigits 28 = .ok (.getfield 39, 3) := by decide +kernel
theorem dc_M_putDigits_31 : decode co_M_putDigits 31 = .ok (.iconst 0, 1) := by decide +kernel
theorem dc_M_putDigits_32 : decode co_M_putDigits 32 = .ok (.bipush 16, 2) := by decide +kernel
theorem dc_M_putDigits_34 : decode co_M_putDigits 34 = .ok (.iload 5, 2) := by decide +kernel
theorem dc_M_putDigits_36 : decode co_M_putDigits 36 = .ok (.iconst 1, 1) := by decide +kernel
theorem dc_M_putDigits_37 : decode co_M_putDigits 37 = .ok (.iadd, 1) := by decide +kernel
theorem dc_M_putDigits_38 : decode co_M_putDigits 38 = .ok (.imul, 1) := by decide +kernel
theorem dc_M_putDigits_39 : decode co_M_putDigits 39 = .ok (.iload_n 1, 1) := by decide +kernel
theorem dc_M_putDigits_40 : decode co_M_putDigits 40 = .ok (.iload 7, 2) := by decide +kernel
theorem dc_M_putDigits_42 : decode co_M_putDigits 42 = .ok (.invokestatic 105, 3) := by decide +kernel
theorem dc_M_putDigits_45 : decode co_M_putDigits 45 = .ok (.iadd, 1) := by decide +kernel
theorem dc_M_putDigits_46 : decode co_M_putDigits 46 = .ok (.iastore, 1) := by decide +kernel
theorem dc_M_putDigits_47 : decode co_M_putDigits 47 = .ok (.iinc 7 1, 3) := by decide +kernel
theorem dc_M_putDigits_50 : decode co_M_putDigits 50 = .ok (.goto 14, 3) := by decide +kernel
theorem dc_M_putDigits_53 : decode co_M_putDigits 53 = .ok (.aload_n 0, 1) := by decide +kernel
theorem dc_M_putDigits_54 : decode co_M_putDigits 54 = .ok (.getfield 39, 3) := by decide +kernel
theorem dc_M_putDigits_57 : decode co_M_putDigits 57 = .ok (.iconst 0, 1) := by decide +kernel
theorem dc_M_putDigits_58 : decode co_M_putDigits 58 = .ok (.bipush 16, 2) := by decide +kernel
theorem dc_M_putDigits_60 : decode co_M_putDigits 60 = .ok (.iload 5, 2) := by decide +kernel
theorem dc_M_putDigits_62 : decode co_M_putDigits 62 = .ok (.imul, 1) := by decide +kernel
theorem dc_M_putDigits_63 : decode co_M_putDigits 63 = .ok (.iastore, 1) := by decide +kernel
theorem dc_M_putDigits_64 : decode co_M_putDigits 64 = .ok (.iinc 6 1, 3) := by decide +kernel
theorem dc_M_putDigits_67 : decode co_M_putDigits 67 = .ok (.iload 7, 2) := by decide +kernel
theorem dc_M_putDigits_69 : decode co_M_putDigits 69 = .ok (.iload_n 3, 1) := by decide +kernel
theorem dc_M_putDigits_70 : decode co_M_putDigits 70 = .ok (.if_icmp .ge 40, 3) := by decide +kernel
theorem dc_M_putDigits_73 : decode co_M_putDigits 73 = .ok (.aload_n 0, 1) := by decide +kernel
theorem dc_M_putDigits_74 : decode co_M_putDigits 74 = .ok (.getfield 39, 3) := by decide +kernel
theorem dc_M_putDigits_77 : decode co_M_putDigits 77 = .ok (.iload 6, 2) := by decide +kernel
theorem dc_M_putDigits_79 : decode co_M_putDigits 79 = .ok (.bipush 16, 2) := by decide +kernel
theorem dc_M_putDigits_81 : decode co_M_putDigits 81 = .ok (.iload_n 1, 1) := by decide +kernel
theorem dc_M_putDigits_82 : decode co_M_putDigits 82 = .ok (.iload 7, 2) := by decide +kernel
theorem dc_M_putDigits_84 : decode co_M_putDigits 84 = .ok (.invokestatic 105, 3) := by decide +kernel
theorem dc_M_putDigits_87 : decode co_M_putDigits 87 = .ok (.imul, 1) := by decide +kernel
theorem dc_M_putDigits_88 : decode co_M_putDigits 88 = .ok (.iload_n 1, 1) := by decide +kernel
theorem dc_M_putDigits_89 : decode co_M_putDigits 89 = .ok (.iload 7, 2) := by decide +kernel
theorem dc_M_putDigits_91 : decode co_M_putDigits 91 = .ok (.iconst 1, 1) := by decide +kernel
theorem dc_M_putDigits_92 : decode co_M_putDigits 92 = .ok (.iadd, 1) := by decide +kernel
theorem dc_M_putDigits_93 : decode co_M_putDigits 93 = .ok (.invokestatic 105, 3) := by decide +kernel
theorem dc_M_putDigits_96 : decode co_M_putDigits 96 = .ok (.iadd, 1) := by decide +kernel
theorem dc_M_putDigits_97 : decode co_M_putDigits 97 = .ok (.iastore, 1) := by decide +kernel
theorem dc_M_putDigits_98 : decode co_M_putDigits 98 = .ok (.iinc 6 1, 3) := by decide +kernel
theorem dc_M_putDigits_101 : decode co_M_putDigits 101 = .ok (.iload 7, 2) := by decide +kernel
theorem dc_M_putDigits_103 : decode co_M_putDigits 103 = .ok (.iconst 2, 1) := by decide +kernel
theorem dc_M_putDigits_104 : decode co_M_putDigits 104 = .ok (.iadd, 1) := by decide +kernel
theorem dc_M_putDigits_105 : decode co_M_putDigits 105 = .ok (.istore 7, 2) := by decide +kernel
theorem dc_M_putDigits_107 : decode co_M_putDigits 107 = .ok (.goto (-40), 3) := by decide +kernel
theorem dc_M_putDigits_110 : decode co_M_putDigits 110 = .ok (.aload_n 0, 1) := by decide +kernel
theorem dc_M_putDigits_111 : decode co_M_putDigits 111 = .ok (.aload_n 0, 1) := by decide +kernel
theorem dc_M_putDigits_112 : decode co_M_putDigits 112 = .ok (.getfield 39, 3) := by decide +kernel
theorem dc_M_putDigits_115 : decode co_M_putDigits 115 = .ok (.iload 6, 2) := by decide +kernel
theorem dc_M_putDigits_117 : decode co_M_putDigits 117 = .ok (.invokevirtual 109, 3) := by decide +kernel
theorem dc_M_putDigits_120 : decode co_M_putDigits 120 = .ok (.return_, 1) := by decide +kernel
theorem dc_M_agree_0 : decode co_M_agree 0 = .ok (.iload_n 0, 1) := by decide +kernel
theorem dc_M_agree_1 : decode co_M_agree 1 = .ok (.bipush 16, 2) := by decide +kernel
theorem dc_M_agree_3 : decode co_M_agree 3 = .ok (.iconst 4, 1) := by decide +kernel
theorem dc_M_agree_4 : decode co_M_agree 4 = .ok (.iload_n 2, 1) := by decide +kernel
theorem dc_M_agree_5 : decode co_M_agree 5 = .ok (.imul, 1) := by decide +kernel
theorem dc_M_agree_6 : decode co_M_agree 6 = .ok (.isub, 1) := by decide +kernel
theorem dc_M_agree_7 : decode co_M_agree 7 = .ok (.ishr, 1) := by decide +kernel
theorem dc_M_agree_8 : decode co_M_agree 8 = .ok (.iload_n 1, 1) := by decide +kernel
theorem dc_M_agree_9 : decode co_M_agree 9 = .ok (.bipush 16, 2) := by decide +kernel
theorem dc_M_agree_11 : decode co_M_agree 11 = .ok (.iconst 4, 1) := by decide +kernel
theorem dc_M_agree_12 : decode co_M_agree 12 = .ok (.iload_n 2, 1) := by decide +kernel
theorem dc_M_agree_13 : decode co_M_agree 13 = .ok (.imul, 1) := by decide +kernel
theorem dc_M_agree_14 : decode co_M_agree 14 = .ok (.isub, 1) := by decide +kernel
theorem dc_M_agree_15 : decode co_M_agree 15 = .ok (.ishr, 1) := by decide +kernel
theorem dc_M_agree_16 : decode co_M_agree 16 = .ok (.if_icmp .ne 7, 3) := by decide +kernel
theorem dc_M_agree_19 : decode co_M_agree 19 = .ok (.iconst 1, 1) := by decide +kernel
theorem dc_M_agree_20 : decode co_M_agree 20 = .ok (.goto 4, 3) := by decide +kernel
theorem dc_M_agree_23 : decode co_M_agree 23 = .ok (.iconst 0, 1) := by decide +kernel
theorem dc_M_agree_24 : decode co_M_agree 24 = .ok (.ireturn, 1) := by decide +kernel
theorem dc_M_group_0 : decode co_M_group 0 = .ok (.iconst 0, 1) := by decide +kernel
theorem dc_M_group_1 : decode co_M_group 1 = .ok (.istore_n 3, 1) := by decide +kernel
theorem dc_M_group_2 : decode co_M_group 2 = .ok (.iconst 0, 1) := by decide +kernel
theorem dc_M_group_3 : decode co_M_group 3 = .ok (.istore 4, 2) := by decide +kernel
theorem dc_M_group_5 : decode co_M_group 5 = .ok (.iload 4, 2) := by decide +kernel
theorem dc_M_group_7 : decode co_M_group 7 = .ok (.aload_n 0, 1) := by decide +kernel
theorem dc_M_group_8 : decode co_M_group 8 = .ok (.getfield 113, 3) := by decide +kernel
theorem dc_M_group_11 : decode co_M_group 11 = .ok (.if_icmp .ge 37, 3) := by decide +kernel
theorem dc_M_group_14 : decode co_M_group 14 = .ok (.aload_n 0, 1) := by decide +kernel
theorem dc_M_group_15 : decode co_M_group 15 = .ok (.getfield 7, 3) := by decide +kernel
theorem dc_M_group_18 : decode co_M_group 18 = .ok (.iload_n 1, 1) := by decide +kernel
theorem dc_M_group_19 : decode co_M_group 19 = .ok (.iaload, 1) := by decide +kernel
theorem dc_M_group_20 : decode co_M_group 20 = .ok (.aload_n 0, 1) := by decide +kernel
theorem dc_M_group_21 : decode co_M_group 21 = .ok (.getfield 7, 3) := by decide +kernel
theorem dc_M_group_24 : decode co_M_group 24 = .ok (.iload 4, 2) := by decide +kernel
theorem dc_M_group_26 : decode co_M_group 26 = .ok (.iaload, 1) := by decide +kernel
theorem dc_M_group_27 : decode co_M_group 27 = .ok (.iload_n 2, 1) := by decide +kernel
theorem dc_M_group_28 : decode co_M_group 28 = .ok (.invokestatic 116, 3) := by decide +kernel
theorem dc_M_group_31 : decode co_M_group 31 = .ok (.ifCond .eq 9, 3) := by decide +kernel
theorem dc_M_group_34 : decode co_M_group 34 = .ok (.iload_n 3, 1) := by decide +kernel
theorem dc_M_group_35 : decode co_M_group 35 = .ok (.iconst 1, 1) := by decide +kernel
theorem dc_M_group_36 : decode co_M_group 36 = .ok (.iadd, 1) := by decide +kernel
theorem dc_M_group_37 : decode co_M_group 37 = .ok (.goto 4, 3) := by decide +kernel
theorem dc_M_group_40 : decode co_M_group 40 = .ok (.iload_n 3, 1) := by decide +kernel
theorem dc_M_group_41 : decode co_M_group 41 = .ok (.istore_n 3, 1) := by decide +kernel
theorem dc_M_group_42 : decode co_M_group 42 = .ok (.iinc 4 1, 3) := by decide +kernel
theorem dc_M_group_45 : decode co_M_group 45 = .ok (.goto (-40), 3) := by decide +kernel
theorem dc_M_group_48 : decode co_M_group 48 = .ok (.iload_n 3, 1) := by decide +kernel
theorem dc_M_group_49 : decode co_M_group 49 = .ok (.ireturn, 1) := by decide +kernel
theorem dc_M_common_0 : decode co_M_common 0 = .ok (.iload_n 2, 1) := by decide +kernel
theorem dc_M_common_1 : decode co_M_common 1 = .ok (.istore_n 3, 1) := by decide +kernel
theorem dc_M_common_2 : decode co_M_common 2 = .ok (.aload_n 0, 1) := by decide +kernel
theorem dc_M_common_3 : decode co_M_common 3 = .ok (.iload_n 1, 1) := by decide +kernel
theorem dc_M_common_4 : decode co_M_common 4 = .ok (.iload_n 2, 1) := by decide +kernel
theorem dc_M_common_5 : decode co_M_common 5 = .ok (.invokevirtual 120, 3) := by decide +kernel
theorem dc_M_common_8 : decode co_M_common 8 = .ok (.istore 4, 2) := by decide +kernel
theorem dc_M_common_10 : decode co_M_common 10 = .ok (.iload_n 3, 1) := by decide +kernel
theorem dc_M_common_11 : decode co_M_common 11 = .ok (.iconst 4, 1) := by decide +kernel
theorem dc_M_common_12 : decode co_M_common 12 = .ok (.if_icmp .ge 22, 3) := by decide +kernel
theorem dc_M_common_15 : decode co_M_common 15 = .ok (.aload_n 0, 1) := by decide +kernel
theorem dc_M_common_16 : decode co_M_common 16 = .ok (.iload_n 1, 1) := by decide +kernel
theorem dc_M_common_17 : decode co_M_common 17 = .ok (.iload_n 3, 1) := by decide +kernel
theorem dc_M_common_18 : decode co_M_common 18 = .ok (.iconst 1, 1) := by decide +kernel
theorem dc_M_common_19 : decode co_M_common 19 = .ok (.iadd, 1) := by decide +kernel
theorem dc_M_common_20 : decode co_M_common 20 = .ok (.invokevirtual 120, 3) := by decide +kernel
theorem dc_M_common_23 : decode co_M_common 23 = .ok (.iload 4, 2) := by decide +kernel
theorem dc_M_common_25 : decode co_M_common 25 = .ok (.if_icmp .ne 9, 3) := by decide +kernel
theorem dc_M_common_28 : decode co_M_common 28 = .ok (.iinc 3 1, 3) := by decide +kernel
theorem dc_M_common_31 : decode co_M_common 31 = .ok (.goto (-21), 3) := by decide +kernel
theorem dc_M_common_34 : decode co_M_common 34 = .ok (.iload_n 3, 1) := by decide +kernel
theorem dc_M_common_35 : decode co_M_common 35 = .ok (.ireturn, 1) := by decide +kernel
theorem dc_M_first_0 : decode co_M_first 0 = .ok (.iconst (-1), 1) := by decide +kernel
theorem dc_M_first_1 : decode co_M_first 1 = .ok (.istore_n 3, 1) := by decide +kernel
theorem dc_M_first_2 : decode co_M_first 2 = .ok (.aload_n 0, 1) := by decide +kernel
theorem dc_M_first_3 : decode co_M_first 3 = .ok (.getfield 113, 3) := by decide +kernel
theorem dc_M_first_6 : decode co_M_first 6 = .ok (.iconst 1, 1) := by decide +kernel
theorem dc_M_first_7 : decode co_M_first 7 = .ok (.isub, 1) := by decide +kernel
theorem dc_M_first_8 : decode co_M_first 8 = .ok (.istore 4, 2) := by decide +kernel
theorem dc_M_first_10 : decode co_M_first 10 = .ok (.iload 4, 2) := by decide +kernel
theorem dc_M_first_12 : decode co_M_first 12 = .ok (.ifCond .lt 31, 3) := by decide +kernel
theorem dc_M_first_15 : decode co_M_first 15 = .ok (.iload_n 1, 1) := by decide +kernel
theorem dc_M_first_16 : decode co_M_first 16 = .ok (.aload_n 0, 1) := by decide +kernel
theorem dc_M_first_17 : decode co_M_first 17 = .ok (.getfield 7, 3) := by decide +kernel
theorem dc_M_first_20 : decode co_M_first 20 = .ok (.iload 4, 2) := by decide +kernel
theorem dc_M_first_22 : decode co_M_first 22 = .ok (.iaload, 1) := by decide +kernel
theorem dc_M_first_23 : decode co_M_first 23 = .ok (.iload_n 2, 1) := by decide +kernel
theorem dc_M_first_24 : decode co_M_first 24 = .ok (.invokestatic 116, 3) := by decide +kernel
theorem dc_M_first_27 : decode co_M_first 27 = .ok (.ifCond .eq 8, 3) := by decide +kernel
theorem dc_M_first_30 : decode co_M_first 30 = .ok (.iload 4, 2) := by decide +kernel
theorem dc_M_first_32 : decode co_M_first 32 = .ok (.goto 4, 3) := by decide +kernel
theorem dc_M_first_35 : decode co_M_first 35 = .ok (.iload_n 3, 1) := by decide +kernel
theorem dc_M_first_36 : decode co_M_first 36 = .ok (.istore_n 3, 1) := by decide +kernel
theorem dc_M_first_37 : decode co_M_first 37 = .ok (.iinc 4 (-1), 3) := by decide +kernel
theorem dc_M_first_40 : decode co_M_first 40 = .ok (.goto (-30), 3) := by decide +kernel
theorem dc_M_first_43 : decode co_M_first 43 = .ok (.iload_n 3, 1) := by decide +kernel
theorem dc_M_first_44 : decode co_M_first 44 = .ok (.ireturn, 1) := by decide +kernel
theorem dc_M_putReference_0 : decode co_M_putReference 0 = .ok (.bipush 12, 2) := by decide +kernel
theorem dc_M_putReference_2 : decode co_M_putReference 2 = .ok (.iload_n 2, 1) := by decide +kernel
theorem dc_M_putReference_3 : decode co_M_putReference 3 = .ok (.imul, 1) := by decide +kernel
theorem dc_M_putReference_4 : decode co_M_putReference 4 = .ok (.iload_n 1, 1) := by decide +kernel
theorem dc_M_putReference_5 : decode co_M_putReference 5 = .ok (.iadd, 1) := by decide +kernel
theorem dc_M_putReference_6 : decode co_M_putReference 6 = .ok (.istore_n 3, 1) := by decide +kernel
theorem dc_M_putReference_7 : decode co_M_putReference 7 = .ok (.iconst 0, 1) := by decide +kernel
theorem dc_M_putReference_8 : decode co_M_putReference 8 = .ok (.istore 4, 2) := by decide +kernel
theorem dc_M_putReference_10 : decode co_M_putReference 10 = .ok (.iload 4, 2) := by decide +kernel
theorem dc_M_putReference_12 : decode co_M_putReference 12 = .ok (.aload_n 0, 1) := by decide +kernel
theorem dc_M_putReference_13 : decode co_M_putReference 13 = .ok (.getfield 23, 3) := by decide +kernel
theorem dc_M_putReference_16 : decode co_M_putReference 16 = .ok (.iload_n 3, 1) := by decide +kernel
theorem dc_M_putReference_17 : decode co_M_putReference 17 = .ok (.iaload, 1) := by decide +kernel
theorem dc_M_putReference_18 : decode co_M_putReference 18 = .ok (.if_icmp .ge 25, 3) := by decide +kernel
theorem dc_M_putReference_21 : decode co_M_putReference 21 = .ok (.aload_n 0, 1) := by decide +kernel
theorem dc_M_putReference_22 : decode co_M_putReference 22 = .ok (.aload_n 0, 1) := by decide +kernel
theorem dc_M_putReference_23 : decode co_M_putReference 23 = .ok (.getfield 20, 3) := by decide +kernel
theorem dc_M_putReference_26 : decode co_M_putReference 26 = .ok (.bipush 33, 2) := by decide +kernel
theorem dc_M_putReference_28 : decode co_M_putReference 28 = .ok (.iload_n 3, 1) := by decide +kernel
theorem dc_M_putReference_29 : decode co_M_putReference 29 = .ok (.imul, 1) := by decide +kernel
theorem dc_M_putReference_30 : decode co_M_putReference 30 = .ok (.iload 4, 2) := by decide +kernel
theorem dc_M_putReference_32 : decode co_M_putReference 32 = .ok (.iadd, 1) := by decide +kernel
theorem dc_M_putReference_33 : decode co_M_putReference 33 = .ok (.iaload, 1) := by decide +kernel
theorem dc_M_putReference_34 : decode co_M_putReference 34 = .ok (.invokevirtual 94, 3) := by decide +kernel
theorem dc_M_putReference_37 : decode co_M_putReference 37 = .ok (.iinc 4 1, 3) := by decide +kernel
theorem dc_M_putReference_40 : decode co_M_putReference 40 = .ok (.goto (-30), 3) := by decide +kernel
theorem dc_M_putReference_43 : decode co_M_putReference 43 = .ok (.return_, 1) := by decide +kernel
theorem dc_M_build_0 : decode co_M_build 0 = .ok (.aload_n 0, 1) := by decide +kernel
theorem dc_M_build_1 : decode co_M_build 1 = .ok (.iconst 0, 1) := by decide +kernel
theorem dc_M_build_2 : decode co_M_build 2 = .ok (.putfield 91, 3) := by decide +kernel
theorem dc_M_build_5 : decode co_M_build 5 = .ok (.aload_n 0, 1) := by decide +kernel
theorem dc_M_build_6 : decode co_M_build 6 = .ok (.iload_n 1, 1) := by decide +kernel
theorem dc_M_build_7 : decode co_M_build 7 = .ok (.iload_n 2, 1) := by decide +kernel
theorem dc_M_build_8 : decode co_M_build 8 = .ok (.invokevirtual 123, 3) := by decide +kernel
theorem dc_M_build_11 : decode co_M_build 11 = .ok (.istore_n 3, 1) := by decide +kernel
theorem dc_M_build_12 : decode co_M_build 12 = .ok (.aload_n 0, 1) := by decide +kernel
theorem dc_M_build_13 : decode co_M_build 13 = .ok (.iload_n 1, 1) := by decide +kernel
theorem dc_M_build_14 : decode co_M_build 14 = .ok (.iload_n 2, 1) := by decide +kernel
theorem dc_M_build_15 : decode co_M_build 15 = .ok (.invokevirtual 120, 3) := by decide +kernel
theorem dc_M_build_18 : decode co_M_build 18 = .ok (.iconst 1, 1) := by decide +kernel
theorem dc_M_build_19 : decode co_M_build 19 = .ok (.if_icmp .ne 71, 3) := by decide +kernel
theorem dc_M_build_22 : decode co_M_build 22 = .ok (.aload_n 0, 1) := by decide +kernel
theorem dc_M_build_23 : decode co_M_build 23 = .ok (.aload_n 0, 1) := by decide +kernel
theorem dc_M_build_24 : decode co_M_build 24 = .ok (.getfield 7, 3) := by decide +kernel
theorem dc_M_build_27 : decode co_M_build 27 = .ok (.iload_n 1, 1) := by decide +kernel
theorem dc_M_build_28 : decode co_M_build 28 = .ok (.iaload, 1) := by decide +kernel
theorem dc_M_build_29 : decode co_M_build 29 = .ok (.iload_n 2, 1) := by decide +kernel
theorem dc_M_build_30 : decode co_M_build 30 = .ok (.iconst 4, 1) := by decide +kernel
theorem dc_M_build_31 : decode co_M_build 31 = .ok (.iconst 1, 1) := by decide +kernel
theorem dc_M_build_32 : decode co_M_build 32 = .ok (.invokevirtual 126, 3) := by decide +kernel
theorem dc_M_build_35 : decode co_M_build 35 = .ok (.aload_n 0, 1) := by decide +kernel
theorem dc_M_build_36 : decode co_M_build 36 = .ok (.iconst 1, 1) := by decide +kernel
theorem dc_M_build_37 : decode co_M_build 37 = .ok (.aload_n 0, 1) := by decide +kernel
theorem dc_M_build_38 : decode co_M_build 38 = .ok (.getfield 13, 3) := by decide +kernel
theorem dc_M_build_41 : decode co_M_build 41 = .ok (.iload_n 1, 1) := by decide +kernel
theorem dc_M_build_42 : decode co_M_build 42 = .ok (.iaload, 1) := by decide +kernel
theorem dc_M_build_43 : decode co_M_build 43 = .ok (.i2l, 1) := by decide +kernel
theorem dc_M_build_44 : decode co_M_build 44 = .ok (.invokevirtual 130, 3) := by decide +kernel
theorem dc_M_build_47 : decode co_M_build 47 = .ok (.istore 4, 2) := by decide +kernel
theorem dc_M_build_49 : decode co_M_build 49 = .ok (.aload_n 0, 1) := by decide +kernel
theorem dc_M_build_50 : decode co_M_build 50 = .ok (.iload 4, 2) := by decide +kernel
theorem dc_M_build_52 : decode co_M_build 52 = .ok (.aload_n 0, 1) := by decide +kernel
theorem dc_M_build_53 : decode co_M_build 53 = .ok (.getfield 16, 3) := by decide +kernel
theorem dc_M_build_56 : decode co_M_build 56 = .ok (.iload_n 1, 1) := by decide +kernel
theorem dc_M_build_57 : decode co_M_build 57 = .ok (.laload, 1) := by decide +kernel
theorem dc_M_build_58 : decode co_M_build 58 = .ok (.invokevirtual 130, 3) := by decide +kernel
theorem dc_M_build_61 : decode co_M_build 61 = .ok (.istore 5, 2) := by decide +kernel
theorem dc_M_build_63 : decode co_M_build 63 = .ok (.aload_n 0, 1) := by decide +kernel
theorem dc_M_build_64 : decode co_M_build 64 = .ok (.getfield 42, 3) := by decide +kernel
theorem dc_M_build_67 : decode co_M_build 67 = .ok (.iconst 0, 1) := by decide +kernel
theorem dc_M_build_68 : decode co_M_build 68 = .ok (.sipush 192, 3) := by decide +kernel
theorem dc_M_build_71 : decode co_M_build 71 = .ok (.iload 5, 2) := by decide +kernel
theorem dc_M_build_73 : decode co_M_build 73 = .ok (.iadd, 1) := by decide +kernel
theorem dc_M_build_74 : decode co_M_build 74 = .ok (.iconst 1, 1) := by decide +kernel
theorem dc_M_build_75 : decode co_M_build 75 = .ok (.isub, 1) := by decide +kernel
theorem dc_M_build_76 : decode co_M_build 76 = .ok (.iastore, 1) := by decide +kernel
theorem dc_M_build_77 : decode co_M_build 77 = .ok (.aload_n 0, 1) := by decide +kernel
theorem dc_M_build_78 : decode co_M_build 78 = .ok (.aload_n 0, 1) := by decide +kernel
theorem dc_M_build_79 : decode co_M_build 79 = .ok (.getfield 42, 3) := by decide +kernel
theorem dc_M_build_82 : decode co_M_build 82 = .ok (.iload 5, 2) := by decide +kernel
theorem dc_M_build_84 : decode co_M_build 84 = .ok (.invokevirtual 109, 3) := by decide +kernel
theorem dc_M_build_87 : decode co_M_build 87 = .ok (.goto 120, 3) := by decide +kernel
theorem dc_M_build_90 : decode co_M_build 90 = .ok (.iload_n 3, 1) := by decide +kernel
theorem dc_M_build_91 : decode co_M_build 91 = .ok (.iload_n 2, 1) := by decide +kernel
theorem dc_M_build_92 : decode co_M_build 92 = .ok (.if_icmp .le 25, 3) := by decide +kernel
theorem dc_M_build_95 : decode co_M_build 95 = .ok (.aload_n 0, 1) := by decide +kernel
theorem dc_M_build_96 : decode co_M_build 96 = .ok (.aload_n 0, 1) := by decide +kernel
theorem dc_M_build_97 : decode co_M_build 97 = .ok (.getfield 7, 3) := by decide +kernel
theorem dc_M_build_100 : decode co_M_build 100 = .ok (.iload_n 1, 1) := by decide +kernel
theorem dc_M_build_101 : decode co_M_build 101 = .ok (.iaload, 1) := by decide +kernel
theorem dc_M_build_102 : decode co_M_build 102 = .ok (.iload_n 2, 1) := by decide +kernel
theorem dc_M_build_103 : decode co_M_build 103 = .ok (.iload_n 3, 1) := by decide +kernel
theorem dc_M_build_104 : decode co_M_build 104 = .ok (.iconst 0, 1) := by decide +kernel
theorem dc_M_build_105 : decode co_M_build 105 = .ok (.invokevirtual 126, 3) := by decide +kernel
theorem dc_M_build_108 : decode co_M_build 108 = .ok (.aload_n 0, 1) := by decide +kernel
theorem dc_M_build_109 : decode co_M_build 109 = .ok (.iload_n 1, 1) := by decide +kernel
theorem dc_M_build_110 : decode co_M_build 110 = .ok (.iload_n 3, 1) := by decide +kernel
theorem dc_M_build_111 : decode co_M_build 111 = .ok (.invokevirtual 134, 3) := by decide +kernel
theorem dc_M_build_114 : decode co_M_build 114 = .ok (.goto 93, 3) := by decide +kernel
theorem dc_M_build_117 : decode co_M_build 117 = .ok (.aload_n 0, 1) := by decide +kernel
theorem dc_M_build_118 : decode co_M_build 118 = .ok (.getfield 7, 3) := by decide +kernel
theorem dc_M_build_121 : decode co_M_build 121 = .ok (.iload_n 1, 1) := by decide +kernel
theorem dc_M_build_122 : decode co_M_build 122 = .ok (.iaload, 1) := by decide +kernel
theorem dc_M_build_123 : decode co_M_build 123 = .ok (.bipush 16, 2) := by decide +kernel
theorem dc_M_build_125 : decode co_M_build 125 = .ok (.iconst 4, 1) := by decide +kernel
theorem dc_M_build_126 : decode co_M_build 126 = .ok (.iload_n 2, 1) := by decide +kernel
theorem dc_M_build_127 : decode co_M_build 127 = .ok (.imul, 1) := by decide +kernel
theorem dc_M_build_128 : decode co_M_build 128 = .ok (.isub, 1) := by decide +kernel
theorem dc_M_build_129 : decode co_M_build 129 = .ok (.ishr, 1) := by decide +kernel
theorem dc_M_build_130 : decode co_M_build 130 = .ok (.bipush 16, 2) := by decide +kernel
theorem dc_M_build_132 : decode co_M_build 132 = .ok (.iconst 4, 1) := by decide +kernel
theorem dc_M_build_133 : decode co_M_build 133 = .ok (.iload_n 2, 1) := by decide +kernel
theorem dc_M_build_134 : decode co_M_build 134 = .ok (.imul, 1) := by decide +kernel
theorem dc_M_build_135 : decode co_M_build 135 = .ok (.isub, 1) := by decide +kernel
theorem dc_M_build_136 : decode co_M_build 136 = .ok (.ishl, 1) := by decide +kernel
theorem dc_M_build_137 : decode co_M_build 137 = .ok (.istore 4, 2) := by decide +kernel
theorem dc_M_build_139 : decode co_M_build 139 = .ok (.iconst 0, 1) := by decide +kernel
theorem dc_M_build_140 : decode co_M_build 140 = .ok (.istore 5, 2) := by decide +kernel
theorem dc_M_build_142 : decode co_M_build 142 = .ok (.iload 5, 2) := by decide +kernel
theorem dc_M_build_144 : decode co_M_build 144 = .ok (.bipush 16, 2) := by decide +kernel
theorem dc_M_build_146 : decode co_M_build 146 = .ok (.if_icmp .ge 54, 3) := by decide +kernel
theorem dc_M_build_149 : decode co_M_build 149 = .ok (.aload_n 0, 1) := by decide +kernel
theorem dc_M_build_150 : decode co_M_build 150 = .ok (.iload 4, 2) := by decide +kernel
theorem dc_M_build_152 : decode co_M_build 152 = .ok (.iload 5, 2) := by decide +kernel
theorem dc_M_build_154 : decode co_M_build 154 = .ok (.bipush 12, 2) := by decide +kernel
theorem dc_M_build_156 : decode co_M_build 156 = .ok (.iconst 4, 1) := by decide +kernel
theorem dc_M_build_157 : decode co_M_build 157 = .ok (.iload_n 2, 1) := by decide +kernel
theorem dc_M_build_158 : decode co_M_build 158 = .ok (.imul, 1) := by decide +kernel
theorem dc_M_build_159 : decode co_M_build 159 = .ok (.isub, 1) := by decide +kernel
theorem dc_M_build_160 : decode co_M_build 160 = .ok (.ishl, 1) := by decide +kernel
theorem dc_M_build_161 : decode co_M_build 161 = .ok (.iadd, 1) := by decide +kernel
theorem dc_M_build_162 : decode co_M_build 162 = .ok (.iload_n 2, 1) := by decide +kernel
theorem dc_M_build_163 : decode co_M_build 163 = .ok (.iconst 1, 1) := by decide +kernel
theorem dc_M_build_164 : decode co_M_build 164 = .ok (.iadd, 1) := by decide +kernel
theorem dc_M_build_165 : decode co_M_build 165 = .ok (.invokevirtual 138, 3) := by decide +kernel
theorem dc_M_build_168 : decode co_M_build 168 = .ok (.istore 6, 2) := by decide +kernel
theorem dc_M_build_170 : decode co_M_build 170 = .ok (.iload 6, 2) := by decide +kernel
theorem dc_M_build_172 : decode co_M_build 172 = .ok (.ifCond .ge 13, 3) := by decide +kernel
theorem dc_M_build_175 : decode co_M_build 175 = .ok (.aload_n 0, 1) := by decide +kernel
theorem dc_M_build_176 : decode co_M_build 176 = .ok (.sipush 128, 3) := by decide +kernel
theorem dc_M_build_179 : decode co_M_build 179 = .ok (.invokevirtual 94, 3) := by decide +kernel
theorem dc_M_build_182 : decode co_M_build 182 = .ok (.goto 12, 3) := by decide +kernel
theorem dc_M_build_185 : decode co_M_build 185 = .ok (.aload_n 0, 1) := by decide +kernel
theorem dc_M_build_186 : decode co_M_build 186 = .ok (.iload 6, 2) := by decide +kernel
theorem dc_M_build_188 : decode co_M_build 188 = .ok (.iload_n 2, 1) := by decide +kernel
theorem dc_M_build_189 : decode co_M_build 189 = .ok (.iconst 1, 1) := by decide +kernel
theorem dc_M_build_190 : decode co_M_build 190 = .ok (.iadd, 1) := by decide +kernel
theorem dc_M_build_191 : decode co_M_build 191 = .ok (.invokevirtual 134, 3) := by decide +kernel
theorem dc_M_build_194 : decode co_M_build 194 = .ok (.iinc 5 1, 3) := by decide +kernel
theorem dc_M_build_197 : decode co_M_build 197 = .ok (.goto (-55), 3) := by decide +kernel
theorem dc_M_build_200 : decode co_M_build 200 = .ok (.aload_n 0, 1) := by decide +kernel
theorem dc_M_build_201 : decode co_M_build 201 = .ok (.sipush 128, 3) := by decide +kernel
theorem dc_M_build_204 : decode co_M_build 204 = .ok (.invokevirtual 94, 3) := by decide +kernel
theorem dc_M_build_207 : decode co_M_build 207 = .ok (.aload_n 0, 1) := by decide +kernel
theorem dc_M_build_208 : decode co_M_build 208 = .ok (.invokevirtual 141, 3) := by decide +kernel
theorem dc_M_build_211 : decode co_M_build 211 = .ok (.return_, 1) := by decide +kernel
theorem dc_M_note_0 : decode co_M_note 0 = .ok (.bipush 12, 2) := by decide +kernel
theorem dc_M_note_2 : decode co_M_note 2 = .ok (.iload_n 2, 1) := by decide +kernel
theorem dc_M_note_3 : decode co_M_note 3 = .ok (.imul, 1) := by decide +kernel
theorem dc_M_note_4 : decode co_M_note 4 = .ok (.iload_n 1, 1) := by decide +kernel
theorem dc_M_note_5 : decode co_M_note 5 = .ok (.iadd, 1) := by decide +kernel
theorem dc_M_note_6 : decode co_M_note 6 = .ok (.istore_n 3, 1) := by decide +kernel
theorem dc_M_note_7 : decode co_M_note 7 = .ok (.aload_n 0, 1) := by decide +kernel
theorem dc_M_note_8 : decode co_M_note 8 = .ok (.getfield 26, 3) := by decide +kernel
theorem dc_M_note_11 : decode co_M_note 11 = .ok (.iload_n 3, 1) := by decide +kernel
theorem dc_M_note_12 : decode co_M_note 12 = .ok (.aload_n 0, 1) := by decide +kernel
theorem dc_M_note_13 : decode co_M_note 13 = .ok (.getfield 81, 3) := by decide +kernel
theorem dc_M_note_16 : decode co_M_note 16 = .ok (.bipush 32, 2) := by decide +kernel
theorem dc_M_note_18 : decode co_M_note 18 = .ok (.if_icmp .lt 7, 3) := by decide +kernel
theorem dc_M_note_21 : decode co_M_note 21 = .ok (.iconst 1, 1) := by decide +kernel
theorem dc_M_note_22 : decode co_M_note 22 = .ok (.goto 4, 3) := by decide +kernel
theorem dc_M_note_25 : decode co_M_note 25 = .ok (.iconst 0, 1) := by decide +kernel
theorem dc_M_note_26 : decode co_M_note 26 = .ok (.bastore, 1) := by decide +kernel
theorem dc_M_note_27 : decode co_M_note 27 = .ok (.aload_n 0, 1) := by decide +kernel
theorem dc_M_note_28 : decode co_M_note 28 = .ok (.getfield 26, 3) := by decide +kernel
theorem dc_M_note_31 : decode co_M_note 31 = .ok (.iload_n 3, 1) := by decide +kernel
theorem dc_M_note_32 : decode co_M_note 32 = .ok (.baload, 1) := by decide +kernel
theorem dc_M_note_33 : decode co_M_note 33 = .ok (.ifCond .eq 67, 3) := by decide +kernel
theorem dc_M_note_36 : decode co_M_note 36 = .ok (.aload_n 0, 1) := by decide +kernel
theorem dc_M_note_37 : decode co_M_note 37 = .ok (.invokevirtual 144, 3) := by decide +kernel
theorem dc_M_note_40 : decode co_M_note 40 = .ok (.aload_n 0, 1) := by decide +kernel
theorem dc_M_note_41 : decode co_M_note 41 = .ok (.getfield 20, 3) := by decide +kernel
theorem dc_M_note_44 : decode co_M_note 44 = .ok (.bipush 33, 2) := by decide +kernel
theorem dc_M_note_46 : decode co_M_note 46 = .ok (.iload_n 3, 1) := by decide +kernel
theorem dc_M_note_47 : decode co_M_note 47 = .ok (.imul, 1) := by decide +kernel
theorem dc_M_note_48 : decode co_M_note 48 = .ok (.sipush 160, 3) := by decide +kernel
theorem dc_M_note_51 : decode co_M_note 51 = .ok (.iastore, 1) := by decide +kernel
theorem dc_M_note_52 : decode co_M_note 52 = .ok (.iconst 0, 1) := by decide +kernel
theorem dc_M_note_53 : decode co_M_note 53 = .ok (.istore 4, 2) := by decide +kernel
theorem dc_M_note_55 : decode co_M_note 55 = .ok (.iload 4, 2) := by decide +kernel
theorem dc_M_note_57 : decode co_M_note 57 = .ok (.bipush 32, 2) := by decide +kernel
theorem dc_M_note_59 : decode co_M_note 59 = .ok (.if_icmp .ge 30, 3) := by decide +kernel
theorem dc_M_note_62 : decode co_M_note 62 = .ok (.aload_n 0, 1) := by decide +kernel
theorem dc_M_note_63 : decode co_M_note 63 = .ok (.getfield 20, 3) := by decide +kernel
theorem dc_M_note_66 : decode co_M_note 66 = .ok (.bipush 33, 2) := by decide +kernel
theorem dc_M_note_68 : decode co_M_note 68 = .ok (.iload_n 3, 1) := by decide +kernel
theorem dc_M_note_69 : decode co_M_note 69 = .ok (.imul, 1) := by decide +kernel
theorem dc_M_note_70 : decode co_M_note 70 = .ok (.iconst 1, 1) := by decide +kernel
theorem dc_M_note_71 : decode co_M_note 71 = .ok (.iadd, 1) := by decide +kernel
theorem dc_M_note_72 : decode co_M_note 72 = .ok (.iload 4, 2) := by decide +kernel
theorem dc_M_note_74 : decode co_M_note 74 = .ok (.iadd, 1) := by decide +kernel
theorem dc_M_note_75 : decode co_M_note 75 = .ok (.aload_n 0, 1) := by decide +kernel
theorem dc_M_note_76 : decode co_M_note 76 = .ok (.getfield 69, 3) := by decide +kernel
theorem dc_M_note_79 : decode co_M_note 79 = .ok (.iload 4, 2) := by decide +kernel
theorem dc_M_note_81 : decode co_M_note 81 = .ok (.iaload, 1) := by decide +kernel
theorem dc_M_note_82 : decode co_M_note 82 = .ok (.iastore, 1) := by decide +kernel
theorem dc_M_note_83 : decode co_M_note 83 = .ok (.iinc 4 1, 3) := by decide +kernel
theorem dc_M_note_86 : decode co_M_note 86 = .ok (.goto (-31), 3) := by decide +kernel
theorem dc_M_note_89 : decode co_M_note 89 = .ok (.aload_n 0, 1) := by decide +kernel
theorem dc_M_note_90 : decode co_M_note 90 = .ok (.getfield 23, 3) := by decide +kernel
theorem dc_M_note_93 : decode co_M_note 93 = .ok (.iload_n 3, 1) := by decide +kernel
theorem dc_M_note_94 : decode co_M_note 94 = .ok (.bipush 33, 2) := by decide +kernel
theorem dc_M_note_96 : decode co_M_note 96 = .ok (.iastore, 1) := by decide +kernel
theorem dc_M_note_97 : decode co_M_note 97 = .ok (.goto 50, 3) := by decide +kernel
theorem dc_M_note_100 : decode co_M_note 100 = .ok (.iconst 0, 1) := by decide +kernel
theorem dc_M_note_101 : decode co_M_note 101 = .ok (.istore 4, 2) := by decide +kernel
theorem dc_M_note_103 : decode co_M_note 103 = .ok (.iload 4, 2) := by decide +kernel
theorem dc_M_note_105 : decode co_M_note 105 = .ok (.aload_n 0, 1) := by decide +kernel
theorem dc_M_note_106 : decode co_M_note 106 = .ok (.getfield 81, 3) := by decide +kernel
theorem dc_M_note_109 : decode co_M_note 109 = .ok (.if_icmp .ge 28, 3) := by decide +kernel
theorem dc_M_note_112 : decode co_M_note 112 = .ok (.aload_n 0, 1) := by decide +kernel
theorem dc_M_note_113 : decode co_M_note 113 = .ok (.getfield 20, 3) := by decide +kernel
theorem dc_M_note_116 : decode co_M_note 116 = .ok (.bipush 33, 2) := by decide +kernel
theorem dc_M_note_118 : decode co_M_note 118 = .ok (.iload_n 3, 1) := by decide +kernel
theorem dc_M_note_119 : decode co_M_note 119 = .ok (.imul, 1) := by decide +kernel
theorem dc_M_note_120 : decode co_M_note 120 = .ok (.iload 4, 2) := by decide +kernel
theorem dc_M_note_122 : decode co_M_note 122 = .ok (.iadd, 1) := by decide +kernel
theorem dc_M_note_123 : decode co_M_note 123 = .ok (.aload_n 0, 1) := by decide +kernel
theorem dc_M_note_124 : decode co_M_note 124 = .ok (.getfield 36, 3) := by decide +kernel
theorem dc_M_note_127 : decode co_M_note 127 = .ok (.iload 4, 2) := by decide +kernel
theorem dc_M_note_129 : decode co_M_note 129 = .ok (.iaload, 1) := by decide +kernel
theorem dc_M_note_130 : decode co_M_note 130 = .ok (.iastore, 1) := by decide +kernel
theorem dc_M_note_131 : decode co_M_note 131 = .ok (.iinc 4 1, 3) := by decide +kernel
theorem dc_M_note_134 : decode co_M_note 134 = .ok (.goto (-31), 3) := by decide +kernel
theorem dc_M_note_137 : decode co_M_note 137 = .ok (.aload_n 0, 1) := by decide +kernel
theorem dc_M_note_138 : decode co_M_note 138 = .ok (.getfield 23, 3) := by decide +kernel
theorem dc_M_note_141 : decode co_M_note 141 = .ok (.iload_n 3, 1) := by decide +kernel
theorem dc_M_note_142 : decode co_M_note 142 = .ok (.aload_n 0, 1) := by decide +kernel
theorem dc_M_note_143 : decode co_M_note 143 = .ok (.getfield 81, 3) := by decide +kernel
theorem dc_M_note_146 : decode co_M_note 146 = .ok (.iastore, 1) := by decide +kernel
theorem dc_M_note_147 : decode co_M_note 147 = .ok (.return_, 1) := by decide +kernel
theorem dc_M_top_0 : decode co_M_top 0 = .ok (.aload_n 0, 1) := by decide +kernel
theorem dc_M_top_1 : decode co_M_top 1 = .ok (.getfield 113, 3) := by decide +kernel
theorem dc_M_top_4 : decode co_M_top 4 = .ok (.ifCond .ne 20, 3) := by decide +kernel
theorem dc_M_top_7 : decode co_M_top 7 = .ok (.aload_n 0, 1) := by decide +kernel
theorem dc_M_top_8 : decode co_M_top 8 = .ok (.getfield 36, 3) := by decide +kernel
theorem dc_M_top_11 : decode co_M_top 11 = .ok (.iconst 0, 1) := by decide +kernel
theorem dc_M_top_12 : decode co_M_top 12 = .ok (.sipush 128, 3) := by decide +kernel
theorem dc_M_top_15 : decode co_M_top 15 = .ok (.iastore, 1) := by decide +kernel
theorem dc_M_top_16 : decode co_M_top 16 = .ok (.aload_n 0, 1) := by decide +kernel
theorem dc_M_top_17 : decode co_M_top 17 = .ok (.iconst 1, 1) := by decide +kernel
theorem dc_M_top_18 : decode co_M_top 18 = .ok (.putfield 81, 3) := by decide +kernel
theorem dc_M_top_21 : decode co_M_top 21 = .ok (.goto 9, 3) := by decide +kernel
theorem dc_M_top_24 : decode co_M_top 24 = .ok (.aload_n 0, 1) := by decide +kernel
theorem dc_M_top_25 : decode co_M_top 25 = .ok (.iconst 0, 1) := by decide +kernel
theorem dc_M_top_26 : decode co_M_top 26 = .ok (.iconst 0, 1) := by decide +kernel
theorem dc_M_top_27 : decode co_M_top 27 = .ok (.invokevirtual 147, 3) := by decide +kernel
theorem dc_M_top_30 : decode co_M_top 30 = .ok (.return_, 1) := by decide +kernel
theorem dc_M_work_0 : decode co_M_work 0 = .ok (.aload_n 0, 1) := by decide +kernel
theorem dc_M_work_1 : decode co_M_work 1 = .ok (.getfield 150, 3) := by decide +kernel
theorem dc_M_work_4 : decode co_M_work 4 = .ok (.ifCond .eq 4, 3) := by decide +kernel
theorem dc_M_work_7 : decode co_M_work 7 = .ok (.return_, 1) := by decide +kernel
theorem dc_M_work_8 : decode co_M_work 8 = .ok (.aload_n 0, 1) := by decide +kernel
theorem dc_M_work_9 : decode co_M_work 9 = .ok (.iconst 1, 1) := by decide +kernel
theorem dc_M_work_10 : decode co_M_work 10 = .ok (.putfield 150, 3) := by decide +kernel
theorem dc_M_work_13 : decode co_M_work 13 = .ok (.iconst 4, 1) := by decide +kernel
theorem dc_M_work_14 : decode co_M_work 14 = .ok (.istore_n 1, 1) := by decide +kernel
theorem dc_M_work_15 : decode co_M_work 15 = .ok (.iload_n 1, 1) := by decide +kernel
theorem dc_M_work_16 : decode co_M_work 16 = .ok (.ifCond .lt 37, 3) := by decide +kernel
theorem dc_M_work_19 : decode co_M_work 19 = .ok (.iconst 0, 1) := by decide +kernel
theorem dc_M_work_20 : decode co_M_work 20 = .ok (.istore_n 2, 1) := by decide +kernel
theorem dc_M_work_21 : decode co_M_work 21 = .ok (.iload_n 2, 1) := by decide +kernel
theorem dc_M_work_22 : decode co_M_work 22 = .ok (.aload_n 0, 1) := by decide +kernel
theorem dc_M_work_23 : decode co_M_work 23 = .ok (.getfield 113, 3) := by decide +kernel
theorem dc_M_work_26 : decode co_M_work 26 = .ok (.if_icmp .ge 21, 3) := by decide +kernel
theorem dc_M_work_29 : decode co_M_work 29 = .ok (.aload_n 0, 1) := by decide +kernel
theorem dc_M_work_30 : decode co_M_work 30 = .ok (.iload_n 2, 1) := by decide +kernel
theorem dc_M_work_31 : decode co_M_work 31 = .ok (.iload_n 1, 1) := by decide +kernel
theorem dc_M_work_32 : decode co_M_work 32 = .ok (.invokevirtual 147, 3) := by decide +kernel
theorem dc_M_work_35 : decode co_M_work 35 = .ok (.aload_n 0, 1) := by decide +kernel
theorem dc_M_work_36 : decode co_M_work 36 = .ok (.iload_n 2, 1) := by decide +kernel
theorem dc_M_work_37 : decode co_M_work 37 = .ok (.iload_n 1, 1) := by decide +kernel
theorem dc_M_work_38 : decode co_M_work 38 = .ok (.invokevirtual 154, 3) := by decide +kernel
theorem dc_M_work_41 : decode co_M_work 41 = .ok (.iinc 2 1, 3) := by decide +kernel
theorem dc_M_work_44 : decode co_M_work 44 = .ok (.goto (-23), 3) := by decide +kernel
theorem dc_M_work_47 : decode co_M_work 47 = .ok (.iinc 1 (-1), 3) := by decide +kernel
theorem dc_M_work_50 : decode co_M_work 50 = .ok (.goto (-35), 3) := by decide +kernel
theorem dc_M_work_53 : decode co_M_work 53 = .ok (.aload_n 0, 1) := by decide +kernel
theorem dc_M_work_54 : decode co_M_work 54 = .ok (.invokevirtual 157, 3) := by decide +kernel
theorem dc_M_work_57 : decode co_M_work 57 = .ok (.aload_n 0, 1) := by decide +kernel
theorem dc_M_work_58 : decode co_M_work 58 = .ok (.invokevirtual 144, 3) := by decide +kernel
theorem dc_M_work_61 : decode co_M_work 61 = .ok (.iconst 0, 1) := by decide +kernel
theorem dc_M_work_62 : decode co_M_work 62 = .ok (.istore_n 1, 1) := by decide +kernel
theorem dc_M_work_63 : decode co_M_work 63 = .ok (.iload_n 1, 1) := by decide +kernel
theorem dc_M_work_64 : decode co_M_work 64 = .ok (.bipush 32, 2) := by decide +kernel
theorem dc_M_work_66 : decode co_M_work 66 = .ok (.if_icmp .ge 21, 3) := by decide +kernel
theorem dc_M_work_69 : decode co_M_work 69 = .ok (.aload_n 0, 1) := by decide +kernel
theorem dc_M_work_70 : decode co_M_work 70 = .ok (.getfield 72, 3) := by decide +kernel
theorem dc_M_work_73 : decode co_M_work 73 = .ok (.iload_n 1, 1) := by decide +kernel
theorem dc_M_work_74 : decode co_M_work 74 = .ok (.aload_n 0, 1) := by decide +kernel
theorem dc_M_work_75 : decode co_M_work 75 = .ok (.getfield 69, 3) := by decide +kernel
theorem dc_M_work_78 : decode co_M_work 78 = .ok (.iload_n 1, 1) := by decide +kernel
theorem dc_M_work_79 : decode co_M_work 79 = .ok (.iaload, 1) := by decide +kernel
theorem dc_M_work_80 : decode co_M_work 80 = .ok (.iastore, 1) := by decide +kernel
theorem dc_M_work_81 : decode co_M_work 81 = .ok (.iinc 1 1, 3) := by decide +kernel
theorem dc_M_work_84 : decode co_M_work 84 = .ok (.goto (-21), 3) := by decide +kernel
theorem dc_M_work_87 : decode co_M_work 87 = .ok (.return_, 1) := by decide +kernel
theorem dc_M_isAccount_0 : decode co_M_isAccount 0 = .ok (.iload_n 0, 1) := by decide +kernel
theorem dc_M_isAccount_1 : decode co_M_isAccount 1 = .ok (.ifCond .lt 13, 3) := by decide +kernel
theorem dc_M_isAccount_4 : decode co_M_isAccount 4 = .ok (.iload_n 0, 1) := by decide +kernel
theorem dc_M_isAccount_5 : decode co_M_isAccount 5 = .ok (.ldc 160, 2) := by decide +kernel
theorem dc_M_isAccount_7 : decode co_M_isAccount 7 = .ok (.if_icmp .gt 7, 3) := by decide +kernel
theorem dc_M_isAccount_10 : decode co_M_isAccount 10 = .ok (.iconst 1, 1) := by decide +kernel
theorem dc_M_isAccount_11 : decode co_M_isAccount 11 = .ok (.goto 4, 3) := by decide +kernel
theorem dc_M_isAccount_14 : decode co_M_isAccount 14 = .ok (.iconst 0, 1) := by decide +kernel
theorem dc_M_isAccount_15 : decode co_M_isAccount 15 = .ok (.ireturn, 1) := by decide +kernel
theorem dc_M_find_0 : decode co_M_find 0 = .ok (.iconst (-1), 1) := by decide +kernel
theorem dc_M_find_1 : decode co_M_find 1 = .ok (.istore_n 2, 1) := by decide +kernel
theorem dc_M_find_2 : decode co_M_find 2 = .ok (.iconst 0, 1) := by decide +kernel
theorem dc_M_find_3 : decode co_M_find 3 = .ok (.istore_n 3, 1) := by decide +kernel
theorem dc_M_find_4 : decode co_M_find 4 = .ok (.iload_n 3, 1) := by decide +kernel
theorem dc_M_find_5 : decode co_M_find 5 = .ok (.aload_n 0, 1) := by decide +kernel
theorem dc_M_find_6 : decode co_M_find 6 = .ok (.getfield 113, 3) := by decide +kernel
theorem dc_M_find_9 : decode co_M_find 9 = .ok (.if_icmp .ge 25, 3) := by decide +kernel
theorem dc_M_find_12 : decode co_M_find 12 = .ok (.aload_n 0, 1) := by decide +kernel
theorem dc_M_find_13 : decode co_M_find 13 = .ok (.getfield 7, 3) := by decide +kernel
theorem dc_M_find_16 : decode co_M_find 16 = .ok (.iload_n 3, 1) := by decide +kernel
theorem dc_M_find_17 : decode co_M_find 17 = .ok (.iaload, 1) := by decide +kernel
theorem dc_M_find_18 : decode co_M_find 18 = .ok (.iload_n 1, 1) := by decide +kernel
theorem dc_M_find_19 : decode co_M_find 19 = .ok (.if_icmp .ne 7, 3) := by decide +kernel
theorem dc_M_find_22 : decode co_M_find 22 = .ok (.iload_n 3, 1) := by decide +kernel
theorem dc_M_find_23 : decode co_M_find 23 = .ok (.goto 4, 3) := by decide +kernel
theorem dc_M_find_26 : decode co_M_find 26 = .ok (.iload_n 2, 1) := by decide +kernel
theorem dc_M_find_27 : decode co_M_find 27 = .ok (.istore_n 2, 1) := by decide +kernel
theorem dc_M_find_28 : decode co_M_find 28 = .ok (.iinc 3 1, 3) := by decide +kernel
theorem dc_M_find_31 : decode co_M_find 31 = .ok (.goto (-27), 3) := by decide +kernel
theorem dc_M_find_34 : decode co_M_find 34 = .ok (.iload_n 2, 1) := by decide +kernel
theorem dc_M_find_35 : decode co_M_find 35 = .ok (.ireturn, 1) := by decide +kernel
theorem dc_M_open_0 : decode co_M_open 0 = .ok (.aload_n 0, 1) := by decide +kernel
theorem dc_M_open_1 : decode co_M_open 1 = .ok (.iload_n 1, 1) := by decide +kernel
theorem dc_M_open_2 : decode co_M_open 2 = .ok (.invokevirtual 161, 3) := by decide +kernel
theorem dc_M_open_5 : decode co_M_open 5 = .ok (.istore_n 2, 1) := by decide +kernel
theorem dc_M_open_6 : decode co_M_open 6 = .ok (.iload_n 2, 1) := by decide +kernel
theorem dc_M_open_7 : decode co_M_open 7 = .ok (.ifCond .ge 39, 3) := by decide +kernel
theorem dc_M_open_10 : decode co_M_open 10 = .ok (.aload_n 0, 1) := by decide +kernel
theorem dc_M_open_11 : decode co_M_open 11 = .ok (.getfield 113, 3) := by decide +kernel
theorem dc_M_open_14 : decode co_M_open 14 = .ok (.istore_n 2, 1) := by decide +kernel
theorem dc_M_open_15 : decode co_M_open 15 = .ok (.aload_n 0, 1) := by decide +kernel
theorem dc_M_open_16 : decode co_M_open 16 = .ok (.getfield 7, 3) := by decide +kernel
theorem dc_M_open_19 : decode co_M_open 19 = .ok (.iload_n 2, 1) := by decide +kernel
theorem dc_M_open_20 : decode co_M_open 20 = .ok (.iload_n 1, 1) := by decide +kernel
theorem dc_M_open_21 : decode co_M_open 21 = .ok (.iastore, 1) := by decide +kernel
theorem dc_M_open_22 : decode co_M_open 22 = .ok (.aload_n 0, 1) := by decide +kernel
theorem dc_M_open_23 : decode co_M_open 23 = .ok (.getfield 13, 3) := by decide +kernel
theorem dc_M_open_26 : decode co_M_open 26 = .ok (.iload_n 2, 1) := by decide +kernel
theorem dc_M_open_27 : decode co_M_open 27 = .ok (.iconst 0, 1) := by decide +kernel
theorem dc_M_open_28 : decode co_M_open 28 = .ok (.iastore, 1) := by decide +kernel
theorem dc_M_open_29 : decode co_M_open 29 = .ok (.aload_n 0, 1) := by decide +kernel
theorem dc_M_open_30 : decode co_M_open 30 = .ok (.getfield 16, 3) := by decide +kernel
theorem dc_M_open_33 : decode co_M_open 33 = .ok (.iload_n 2, 1) := by decide +kernel
theorem dc_M_open_34 : decode co_M_open 34 = .ok (.lconst 0, 1) := by decide +kernel
theorem dc_M_open_35 : decode co_M_open 35 = .ok (.lastore, 1) := by decide +kernel
theorem dc_M_open_36 : decode co_M_open 36 = .ok (.aload_n 0, 1) := by decide +kernel
theorem dc_M_open_37 : decode co_M_open 37 = .ok (.dup, 1) := by decide +kernel
theorem dc_M_open_38 : decode co_M_open 38 = .ok (.getfield 113, 3) := by decide +kernel
theorem dc_M_open_41 : decode co_M_open 41 = .ok (.iconst 1, 1) := by decide +kernel
theorem dc_M_open_42 : decode co_M_open 42 = .ok (.iadd, 1) := by decide +kernel
theorem dc_M_open_43 : decode co_M_open 43 = .ok (.putfield 113, 3) := by decide +kernel
theorem dc_M_open_46 : decode co_M_open 46 = .ok (.iload_n 2, 1) := by decide +kernel
theorem dc_M_open_47 : decode co_M_open 47 = .ok (.ireturn, 1) := by decide +kernel
theorem dc_M_collector_0 : decode co_M_collector 0 = .ok (.iload_n 1, 1) := by decide +kernel
theorem dc_M_collector_1 : decode co_M_collector 1 = .ok (.invokestatic 165, 3) := by decide +kernel
theorem dc_M_collector_4 : decode co_M_collector 4 = .ok (.ifCond .ne 5, 3) := by decide +kernel
theorem dc_M_collector_7 : decode co_M_collector 7 = .ok (.iconst 0, 1) := by decide +kernel
theorem dc_M_collector_8 : decode co_M_collector 8 = .ok (.ireturn, 1) := by decide +kernel
theorem dc_M_collector_9 : decode co_M_collector 9 = .ok (.aload_n 0, 1) := by decide +kernel
theorem dc_M_collector_10 : decode co_M_collector 10 = .ok (.iload_n 1, 1) := by decide +kernel
theorem dc_M_collector_11 : decode co_M_collector 11 = .ok (.putfield 169, 3) := by decide +kernel
theorem dc_M_collector_14 : decode co_M_collector 14 = .ok (.iconst 1, 1) := by decide +kernel
theorem dc_M_collector_15 : decode co_M_collector 15 = .ok (.ireturn, 1) := by decide +kernel
theorem dc_M_grant_0 : decode co_M_grant 0 = .ok (.iload_n 1, 1) := by decide +kernel
theorem dc_M_grant_1 : decode co_M_grant 1 = .ok (.invokestatic 165, 3) := by decide +kernel
theorem dc_M_grant_4 : decode co_M_grant 4 = .ok (.ifCond .eq 17, 3) := by decide +kernel
theorem dc_M_grant_7 : decode co_M_grant 7 = .ok (.lload_n 2, 1) := by decide +kernel
theorem dc_M_grant_8 : decode co_M_grant 8 = .ok (.lconst 1, 1) := by decide +kernel
theorem dc_M_grant_9 : decode co_M_grant 9 = .ok (.lcmp, 1) := by decide +kernel
theorem dc_M_grant_10 : decode co_M_grant 10 = .ok (.ifCond .lt 11, 3) := by decide +kernel
theorem dc_M_grant_13 : decode co_M_grant 13 = .ok (.lload_n 2, 1) := by decide +kernel
theorem dc_M_grant_14 : decode co_M_grant 14 = .ok (.ldc2_w 172, 3) := by decide +kernel
theorem dc_M_grant_17 : decode co_M_grant 17 = .ok (.lcmp, 1) := by decide +kernel
theorem dc_M_grant_18 : decode co_M_grant 18 = .ok (.ifCond .le 5, 3) := by decide +kernel
theorem dc_M_grant_21 : decode co_M_grant 21 = .ok (.iconst (-1), 1) := by decide +kernel
theorem dc_M_grant_22 : decode co_M_grant 22 = .ok (.ireturn, 1) := by decide +kernel
theorem dc_M_grant_23 : decode co_M_grant 23 = .ok (.aload_n 0, 1) := by decide +kernel
theorem dc_M_grant_24 : decode co_M_grant 24 = .ok (.iload_n 1, 1) := by decide +kernel
theorem dc_M_grant_25 : decode co_M_grant 25 = .ok (.invokevirtual 161, 3) := by decide +kernel
theorem dc_M_grant_28 : decode co_M_grant 28 = .ok (.ifCond .ge 15, 3) := by decide +kernel
theorem dc_M_grant_31 : decode co_M_grant 31 = .ok (.aload_n 0, 1) := by decide +kernel
theorem dc_M_grant_32 : decode co_M_grant 32 = .ok (.getfield 113, 3) := by decide +kernel
theorem dc_M_grant_35 : decode co_M_grant 35 = .ok (.bipush 12, 2) := by decide +kernel
theorem dc_M_grant_37 : decode co_M_grant 37 = .ok (.if_icmp .ne 6, 3) := by decide +kernel
theorem dc_M_grant_40 : decode co_M_grant 40 = .ok (.bipush (-4), 2) := by decide +kernel
theorem dc_M_grant_42 : decode co_M_grant 42 = .ok (.ireturn, 1) := by decide +kernel
theorem dc_M_grant_43 : decode co_M_grant 43 = .ok (.aload_n 0, 1) := by decide +kernel
theorem dc_M_grant_44 : decode co_M_grant 44 = .ok (.iload_n 1, 1) := by decide +kernel
theorem dc_M_grant_45 : decode co_M_grant 45 = .ok (.invokevirtual 174, 3) := by decide +kernel
theorem dc_M_grant_48 : decode co_M_grant 48 = .ok (.istore 4, 2) := by decide +kernel
theorem dc_M_grant_50 : decode co_M_grant 50 = .ok (.aload_n 0, 1) := by decide +kernel
theorem dc_M_grant_51 : decode co_M_grant 51 = .ok (.getfield 16, 3) := by decide +kernel
theorem dc_M_grant_54 : decode co_M_grant 54 = .ok (.iload 4, 2) := by decide +kernel
theorem dc_M_grant_56 : decode co_M_grant 56 = .ok (.aload_n 0, 1) := by decide +kernel
theorem dc_M_grant_57 : decode co_M_grant 57 = .ok (.getfield 16, 3) := by decide +kernel
theorem dc_M_grant_60 : decode co_M_grant 60 = .ok (.iload 4, 2) := by decide +kernel
theorem dc_M_grant_62 : decode co_M_grant 62 = .ok (.laload, 1) := by decide +kernel
theorem dc_M_grant_63 : decode co_M_grant 63 = .ok (.lload_n 2, 1) := by decide +kernel
theorem dc_M_grant_64 : decode co_M_grant 64 = .ok (.ladd, 1) := by decide +kernel
theorem dc_M_grant_65 : decode co_M_grant 65 = .ok (.lastore, 1) := by decide +kernel
theorem dc_M_grant_66 : decode co_M_grant 66 = .ok (.aload_n 0, 1) := by decide +kernel
theorem dc_M_grant_67 : decode co_M_grant 67 = .ok (.iconst 0, 1) := by decide +kernel
theorem dc_M_grant_68 : decode co_M_grant 68 = .ok (.putfield 150, 3) := by decide +kernel
theorem dc_M_grant_71 : decode co_M_grant 71 = .ok (.aload_n 0, 1) := by decide +kernel
theorem dc_M_grant_72 : decode co_M_grant 72 = .ok (.getfield 113, 3) := by decide +kernel
theorem dc_M_grant_75 : decode co_M_grant 75 = .ok (.ireturn, 1) := by decide +kernel
theorem dc_M_isAmount_0 : decode co_M_isAmount 0 = .ok (.lload_n 0, 1) := by decide +kernel
theorem dc_M_isAmount_1 : decode co_M_isAmount 1 = .ok (.lconst 0, 1) := by decide +kernel
theorem dc_M_isAmount_2 : decode co_M_isAmount 2 = .ok (.lcmp, 1) := by decide +kernel
theorem dc_M_isAmount_3 : decode co_M_isAmount 3 = .ok (.ifCond .lt 15, 3) := by decide +kernel
theorem dc_M_isAmount_6 : decode co_M_isAmount 6 = .ok (.lload_n 0, 1) := by decide +kernel
theorem dc_M_isAmount_7 : decode co_M_isAmount 7 = .ok (.ldc2_w 172, 3) := by decide +kernel
theorem dc_M_isAmount_10 : decode co_M_isAmount 10 = .ok (.lcmp, 1) := by decide +kernel
theorem dc_M_isAmount_11 : decode co_M_isAmount 11 = .ok (.ifCond .gt 7, 3) := by decide +kernel
theorem dc_M_isAmount_14 : decode co_M_isAmount 14 = .ok (.iconst 1, 1) := by decide +kernel
theorem dc_M_isAmount_15 : decode co_M_isAmount 15 = .ok (.goto 4, 3) := by decide +kernel
theorem dc_M_isAmount_18 : decode co_M_isAmount 18 = .ok (.iconst 0, 1) := by decide +kernel
theorem dc_M_isAmount_19 : decode co_M_isAmount 19 = .ok (.ireturn, 1) := by decide +kernel
theorem dc_M_send_0 : decode co_M_send 0 = .ok (.iload_n 1, 1) := by decide +kernel
theorem dc_M_send_1 : decode co_M_send 1 = .ok (.invokestatic 165, 3) := by decide +kernel
theorem dc_M_send_4 : decode co_M_send 4 = .ok (.ifCond .eq 25, 3) := by decide +kernel
theorem dc_M_send_7 : decode co_M_send 7 = .ok (.iload_n 2, 1) := by decide +kernel
theorem dc_M_send_8 : decode co_M_send 8 = .ok (.invokestatic 165, 3) := by decide +kernel
theorem dc_M_send_11 : decode co_M_send 11 = .ok (.ifCond .eq 18, 3) := by decide +kernel
theorem dc_M_send_14 : decode co_M_send 14 = .ok (.lload_n 3, 1) := by decide +kernel
theorem dc_M_send_15 : decode co_M_send 15 = .ok (.invokestatic 177, 3) := by decide +kernel
theorem dc_M_send_18 : decode co_M_send 18 = .ok (.ifCond .eq 11, 3) := by decide +kernel
theorem dc_M_send_21 : decode co_M_send 21 = .ok (.lload 5, 2) := by decide +kernel
theorem dc_M_send_23 : decode co_M_send 23 = .ok (.invokestatic 177, 3) := by decide +kernel
theorem dc_M_send_26 : decode co_M_send 26 = .ok (.ifCond .ne 5, 3) := by decide +kernel
theorem dc_M_send_29 : decode co_M_send 29 = .ok (.iconst (-1), 1) := by decide +kernel
theorem dc_M_send_30 : decode co_M_send 30 = .ok (.ireturn, 1) := by decide +kernel
theorem dc_M_send_31 : decode co_M_send 31 = .ok (.iload 7, 2) := by decide +kernel
theorem dc_M_send_33 : decode co_M_send 33 = .ok (.aload_n 0, 1) := by decide +kernel
theorem dc_M_send_34 : decode co_M_send 34 = .ok (.iload_n 1, 1) := by decide +kernel
theorem dc_M_send_35 : decode co_M_send 35 = .ok (.invokevirtual 181, 3) := by decide +kernel
theorem dc_M_send_38 : decode co_M_send 38 = .ok (.if_icmp .eq 6, 3) := by decide +kernel
theorem dc_M_send_41 : decode co_M_send 41 = .ok (.bipush (-2), 2) := by decide +kernel
theorem dc_M_send_43 : decode co_M_send 43 = .ok (.ireturn, 1) := by decide +kernel
theorem dc_M_send_44 : decode co_M_send 44 = .ok (.lload_n 3, 1) := by decide +kernel
theorem dc_M_send_45 : decode co_M_send 45 = .ok (.lload 5, 2) := by decide +kernel
theorem dc_M_send_47 : decode co_M_send 47 = .ok (.ladd, 1) := by decide +kernel
theorem dc_M_send_48 : decode co_M_send 48 = .ok (.aload_n 0, 1) := by decide +kernel
theorem dc_M_send_49 : decode co_M_send 49 = .ok (.iload_n 1, 1) := by decide +kernel
theorem dc_M_send_50 : decode co_M_send 50 = .ok (.invokevirtual 184, 3) := by decide +kernel
theorem dc_M_send_53 : decode co_M_send 53 = .ok (.lcmp, 1) := by decide +kernel
theorem dc_M_send_54 : decode co_M_send 54 = .ok (.ifCond .le 6, 3) := by decide +kernel
theorem dc_M_send_57 : decode co_M_send 57 = .ok (.bipush (-3), 2) := by decide +kernel
theorem dc_M_send_59 : decode co_M_send 59 = .ok (.ireturn, 1) := by decide +kernel
theorem dc_M_send_60 : decode co_M_send 60 = .ok (.aload_n 0, 1) := by decide +kernel
theorem dc_M_send_61 : decode co_M_send 61 = .ok (.iload_n 1, 1) := by decide +kernel
theorem dc_M_send_62 : decode co_M_send 62 = .ok (.invokevirtual 161, 3) := by decide +kernel
theorem dc_M_send_65 : decode co_M_send 65 = .ok (.ifCond .ge 7, 3) := by decide +kernel
theorem dc_M_send_68 : decode co_M_send 68 = .ok (.iconst 1, 1) := by decide +kernel
theorem dc_M_send_69 : decode co_M_send 69 = .ok (.goto 4, 3) := by decide +kernel
theorem dc_M_send_72 : decode co_M_send 72 = .ok (.iconst 0, 1) := by decide +kernel
theorem dc_M_send_73 : decode co_M_send 73 = .ok (.istore 8, 2) := by decide +kernel
theorem dc_M_send_75 : decode co_M_send 75 = .ok (.lload_n 3, 1) := by decide +kernel
theorem dc_M_send_76 : decode co_M_send 76 = .ok (.lconst 0, 1) := by decide +kernel
theorem dc_M_send_77 : decode co_M_send 77 = .ok (.lcmp, 1) := by decide +kernel
theorem dc_M_send_78 : decode co_M_send 78 = .ok (.ifCond .le 20, 3) := by decide +kernel
theorem dc_M_send_81 : decode co_M_send 81 = .ok (.iload_n 2, 1) := by decide +kernel
theorem dc_M_send_82 : decode co_M_send 82 = .ok (.iload_n 1, 1) := by decide +kernel
theorem dc_M_send_83 : decode co_M_send 83 = .ok (.if_icmp .eq 15, 3) := by decide +kernel
theorem dc_M_send_86 : decode co_M_send 86 = .ok (.aload_n 0, 1) := by decide +kernel
theorem dc_M_send_87 : decode co_M_send 87 = .ok (.iload_n 2, 1) := by decide +kernel
theorem dc_M_send_88 : decode co_M_send 88 = .ok (.invokevirtual 161, 3) := by decide +kernel
theorem dc_M_send_91 : decode co_M_send 91 = .ok (.ifCond .ge 7, 3) := by decide +kernel
theorem dc_M_send_94 : decode co_M_send 94 = .ok (.iconst 1, 1) := by decide +kernel
theorem dc_M_send_95 : decode co_M_send 95 = .ok (.goto 4, 3) := by decide +kernel
theorem dc_M_send_98 : decode co_M_send 98 = .ok (.iconst 0, 1) := by decide +kernel
theorem dc_M_send_99 : decode co_M_send 99 = .ok (.istore 9, 2) := by decide +kernel
theorem dc_M_send_101 : decode co_M_send 101 = .ok (.lload 5, 2) := by decide +kernel
theorem dc_M_send_103 : decode co_M_send 103 = .ok (.lconst 0, 1) := by decide +kernel
theorem dc_M_send_104 : decode co_M_send 104 = .ok (.lcmp, 1) := by decide +kernel
theorem dc_M_send_105 : decode co_M_send 105 = .ok (.ifCond .le 39, 3) := by decide +kernel
theorem dc_M_send_108 : decode co_M_send 108 = .ok (.aload_n 0, 1) := by decide +kernel
theorem dc_M_send_109 : decode co_M_send 109 = .ok (.getfield 169, 3) := by decide +kernel
theorem dc_M_send_112 : decode co_M_send 112 = .ok (.iload_n 1, 1) := by decide +kernel
theorem dc_M_send_113 : decode co_M_send 113 = .ok (.if_icmp .eq 31, 3) := by decide +kernel
theorem dc_M_send_116 : decode co_M_send 116 = .ok (.aload_n 0, 1) := by decide +kernel
theorem dc_M_send_117 : decode co_M_send 117 = .ok (.aload_n 0, 1) := by decide +kernel
theorem dc_M_send_118 : decode co_M_send 118 = .ok (.getfield 169, 3) := by decide +kernel
theorem dc_M_send_121 : decode co_M_send 121 = .ok (.invokevirtual 161, 3) := by decide +kernel
theorem dc_M_send_124 : decode co_M_send 124 = .ok (.ifCond .ge 20, 3) := by decide +kernel
theorem dc_M_send_127 : decode co_M_send 127 = .ok (.iload 9, 2) := by decide +kernel
theorem dc_M_send_129 : decode co_M_send 129 = .ok (.ifCond .eq 11, 3) := by decide +kernel
theorem dc_M_send_132 : decode co_M_send 132 = .ok (.aload_n 0, 1) := by decide +kernel
theorem dc_M_send_133 : decode co_M_send 133 = .ok (.getfield 169, 3) := by decide +kernel
theorem dc_M_send_136 : decode co_M_send 136 = .ok (.iload_n 2, 1) := by decide +kernel
theorem dc_M_send_137 : decode co_M_send 137 = .ok (.if_icmp .eq 7, 3) := by decide +kernel
theorem dc_M_send_140 : decode co_M_send 140 = .ok (.iconst 1, 1) := by decide +kernel
theorem dc_M_send_141 : decode co_M_send 141 = .ok (.goto 4, 3) := by decide +kernel
theorem dc_M_send_144 : decode co_M_send 144 = .ok (.iconst 0, 1) := by decide +kernel
theorem dc_M_send_145 : decode co_M_send 145 = .ok (.istore 10, 2) := by decide +kernel
theorem dc_M_send_147 : decode co_M_send 147 = .ok (.iload 8, 2) := by decide +kernel
theorem dc_M_send_149 : decode co_M_send 149 = .ok (.iload 9, 2) := by decide +kernel
theorem dc_M_send_151 : decode co_M_send 151 = .ok (.ifCond .eq 7, 3) := by decide +kernel
theorem dc_M_send_154 : decode co_M_send 154 = .ok (.iconst 1, 1) := by decide +kernel
theorem dc_M_send_155 : decode co_M_send 155 = .ok (.goto 4, 3) := by decide +kernel
theorem dc_M_send_158 : decode co_M_send 158 = .ok (.iconst 0, 1) := by decide +kernel
theorem dc_M_send_159 : decode co_M_send 159 = .ok (.iadd, 1) := by decide +kernel
theorem dc_M_send_160 : decode co_M_send 160 = .ok (.iload 10, 2) := by decide +kernel
theorem dc_M_send_162 : decode co_M_send 162 = .ok (.ifCond .eq 7, 3) := by decide +kernel
theorem dc_M_send_165 : decode co_M_send 165 = .ok (.iconst 1, 1) := by decide +kernel
theorem dc_M_send_166 : decode co_M_send 166 = .ok (.goto 4, 3) := by decide +kernel
theorem dc_M_send_169 : decode co_M_send 169 = .ok (.iconst 0, 1) := by decide +kernel
theorem dc_M_send_170 : decode co_M_send 170 = .ok (.iadd, 1) := by decide +kernel
theorem dc_M_send_171 : decode co_M_send 171 = .ok (.istore 8, 2) := by decide +kernel
theorem dc_M_send_173 : decode co_M_send 173 = .ok (.aload_n 0, 1) := by decide +kernel
theorem dc_M_send_174 : decode co_M_send 174 = .ok (.getfield 113, 3) := by decide +kernel
