theorem dc_M_nodeBytes_18 : decode co_M_nodeBytes 18 = .ok (.iload_n 1, 1) := by decide +kernel
theorem dc_M_nodeBytes_19 : decode co_M_nodeBytes 19 = .ok (.iload_n 2, 1) := by decide +kernel
theorem dc_M_nodeBytes_20 : decode co_M_nodeBytes 20 = .ok (.iconst 1, 1) := by decide +kernel
theorem dc_M_nodeBytes_21 : decode co_M_nodeBytes 21 = .ok (.iadd, 1) := by decide +kernel
theorem dc_M_nodeBytes_22 : decode co_M_nodeBytes 22 = .ok (.invokevirtual 204, 3) := by decide +kernel
theorem dc_M_nodeBytes_25 : decode co_M_nodeBytes 25 = .ok (.imul, 1) := by decide +kernel
theorem dc_M_nodeBytes_26 : decode co_M_nodeBytes 26 = .ok (.aload_n 0, 1) := by decide +kernel
theorem dc_M_nodeBytes_27 : decode co_M_nodeBytes 27 = .ok (.iload_n 1, 1) := by decide +kernel
theorem dc_M_nodeBytes_28 : decode co_M_nodeBytes 28 = .ok (.iload_n 2, 1) := by decide +kernel
theorem dc_M_nodeBytes_29 : decode co_M_nodeBytes 29 = .ok (.iconst 2, 1) := by decide +kernel
theorem dc_M_nodeBytes_30 : decode co_M_nodeBytes 30 = .ok (.iadd, 1) := by decide +kernel
theorem dc_M_nodeBytes_31 : decode co_M_nodeBytes 31 = .ok (.invokevirtual 204, 3) := by decide +kernel
theorem dc_M_nodeBytes_34 : decode co_M_nodeBytes 34 = .ok (.iadd, 1) := by decide +kernel
theorem dc_M_nodeBytes_35 : decode co_M_nodeBytes 35 = .ok (.goto 26, 3) := by decide +kernel
theorem dc_M_nodeBytes_38 : decode co_M_nodeBytes 38 = .ok (.iload_n 3, 1) := by decide +kernel
theorem dc_M_nodeBytes_39 : decode co_M_nodeBytes 39 = .ok (.sipush 248, 3) := by decide +kernel
theorem dc_M_nodeBytes_42 : decode co_M_nodeBytes 42 = .ok (.if_icmp .ne 14, 3) := by decide +kernel
theorem dc_M_nodeBytes_45 : decode co_M_nodeBytes 45 = .ok (.aload_n 0, 1) := by decide +kernel
theorem dc_M_nodeBytes_46 : decode co_M_nodeBytes 46 = .ok (.iload_n 1, 1) := by decide +kernel
theorem dc_M_nodeBytes_47 : decode co_M_nodeBytes 47 = .ok (.iload_n 2, 1) := by decide +kernel
theorem dc_M_nodeBytes_48 : decode co_M_nodeBytes 48 = .ok (.iconst 1, 1) := by decide +kernel
theorem dc_M_nodeBytes_49 : decode co_M_nodeBytes 49 = .ok (.iadd, 1) := by decide +kernel
theorem dc_M_nodeBytes_50 : decode co_M_nodeBytes 50 = .ok (.invokevirtual 204, 3) := by decide +kernel
theorem dc_M_nodeBytes_53 : decode co_M_nodeBytes 53 = .ok (.goto 8, 3) := by decide +kernel
theorem dc_M_nodeBytes_56 : decode co_M_nodeBytes 56 = .ok (.iload_n 3, 1) := by decide +kernel
theorem dc_M_nodeBytes_57 : decode co_M_nodeBytes 57 = .ok (.sipush 192, 3) := by decide +kernel
theorem dc_M_nodeBytes_60 : decode co_M_nodeBytes 60 = .ok (.isub, 1) := by decide +kernel
theorem dc_M_nodeBytes_61 : decode co_M_nodeBytes 61 = .ok (.ireturn, 1) := by decide +kernel
theorem dc_M_itemNumber_0 : decode co_M_itemNumber 0 = .ok (.lconst 0, 1) := by decide +kernel
theorem dc_M_itemNumber_1 : decode co_M_itemNumber 1 = .ok (.lstore_n 3, 1) := by decide +kernel
theorem dc_M_itemNumber_2 : decode co_M_itemNumber 2 = .ok (.iload_n 2, 1) := by decide +kernel
theorem dc_M_itemNumber_3 : decode co_M_itemNumber 3 = .ok (.ifCond .ge 7, 3) := by decide +kernel
theorem dc_M_itemNumber_6 : decode co_M_itemNumber 6 = .ok (.iconst (-1), 1) := by decide +kernel
theorem dc_M_itemNumber_7 : decode co_M_itemNumber 7 = .ok (.goto 9, 3) := by decide +kernel
theorem dc_M_itemNumber_10 : decode co_M_itemNumber 10 = .ok (.aload_n 0, 1) := by decide +kernel
theorem dc_M_itemNumber_11 : decode co_M_itemNumber 11 = .ok (.iload_n 1, 1) := by decide +kernel
theorem dc_M_itemNumber_12 : decode co_M_itemNumber 12 = .ok (.iload_n 2, 1) := by decide +kernel
theorem dc_M_itemNumber_13 : decode co_M_itemNumber 13 = .ok (.invokevirtual 207, 3) := by decide +kernel
theorem dc_M_itemNumber_16 : decode co_M_itemNumber 16 = .ok (.istore 5, 2) := by decide +kernel
theorem dc_M_itemNumber_18 : decode co_M_itemNumber 18 = .ok (.iload 5, 2) := by decide +kernel
theorem dc_M_itemNumber_20 : decode co_M_itemNumber 20 = .ok (.ifCond .lt 39, 3) := by decide +kernel
theorem dc_M_itemNumber_23 : decode co_M_itemNumber 23 = .ok (.aload_n 0, 1) := by decide +kernel
theorem dc_M_itemNumber_24 : decode co_M_itemNumber 24 = .ok (.iload_n 1, 1) := by decide +kernel
theorem dc_M_itemNumber_25 : decode co_M_itemNumber 25 = .ok (.iload_n 2, 1) := by decide +kernel
theorem dc_M_itemNumber_26 : decode co_M_itemNumber 26 = .ok (.invokevirtual 210, 3) := by decide +kernel
theorem dc_M_itemNumber_29 : decode co_M_itemNumber 29 = .ok (.istore 6, 2) := by decide +kernel
theorem dc_M_itemNumber_31 : decode co_M_itemNumber 31 = .ok (.iload 6, 2) := by decide +kernel
theorem dc_M_itemNumber_33 : decode co_M_itemNumber 33 = .ok (.iload 5, 2) := by decide +kernel
theorem dc_M_itemNumber_35 : decode co_M_itemNumber 35 = .ok (.if_icmp .ge 24, 3) := by decide +kernel
theorem dc_M_itemNumber_38 : decode co_M_itemNumber 38 = .ok (.ldc2_w 97, 3) := by decide +kernel
theorem dc_M_itemNumber_41 : decode co_M_itemNumber 41 = .ok (.lload_n 3, 1) := by decide +kernel
theorem dc_M_itemNumber_42 : decode co_M_itemNumber 42 = .ok (.lmul, 1) := by decide +kernel
theorem dc_M_itemNumber_43 : decode co_M_itemNumber 43 = .ok (.aload_n 0, 1) := by decide +kernel
theorem dc_M_itemNumber_44 : decode co_M_itemNumber 44 = .ok (.iload_n 1, 1) := by decide +kernel
theorem dc_M_itemNumber_45 : decode co_M_itemNumber 45 = .ok (.iload 6, 2) := by decide +kernel
theorem dc_M_itemNumber_47 : decode co_M_itemNumber 47 = .ok (.invokevirtual 204, 3) := by decide +kernel
theorem dc_M_itemNumber_50 : decode co_M_itemNumber 50 = .ok (.i2l, 1) := by decide +kernel
theorem dc_M_itemNumber_51 : decode co_M_itemNumber 51 = .ok (.ladd, 1) := by decide +kernel
theorem dc_M_itemNumber_52 : decode co_M_itemNumber 52 = .ok (.lstore_n 3, 1) := by decide +kernel
theorem dc_M_itemNumber_53 : decode co_M_itemNumber 53 = .ok (.iinc 6 1, 3) := by decide +kernel
theorem dc_M_itemNumber_56 : decode co_M_itemNumber 56 = .ok (.goto (-25), 3) := by decide +kernel
theorem dc_M_itemNumber_59 : decode co_M_itemNumber 59 = .ok (.lload_n 3, 1) := by decide +kernel
theorem dc_M_itemNumber_60 : decode co_M_itemNumber 60 = .ok (.lreturn, 1) := by decide +kernel
theorem dc_M_hashPart_0 : decode co_M_hashPart 0 = .ok (.aload_n 0, 1) := by decide +kernel
theorem dc_M_hashPart_1 : decode co_M_hashPart 1 = .ok (.aload_n 0, 1) := by decide +kernel
theorem dc_M_hashPart_2 : decode co_M_hashPart 2 = .ok (.getfield 45, 3) := by decide +kernel
theorem dc_M_hashPart_5 : decode co_M_hashPart 5 = .ok (.iload_n 1, 1) := by decide +kernel
theorem dc_M_hashPart_6 : decode co_M_hashPart 6 = .ok (.iaload, 1) := by decide +kernel
theorem dc_M_hashPart_7 : decode co_M_hashPart 7 = .ok (.putfield 81, 3) := by decide +kernel
theorem dc_M_hashPart_10 : decode co_M_hashPart 10 = .ok (.iconst 0, 1) := by decide +kernel
theorem dc_M_hashPart_11 : decode co_M_hashPart 11 = .ok (.istore_n 2, 1) := by decide +kernel
theorem dc_M_hashPart_12 : decode co_M_hashPart 12 = .ok (.iload_n 2, 1) := by decide +kernel
theorem dc_M_hashPart_13 : decode co_M_hashPart 13 = .ok (.aload_n 0, 1) := by decide +kernel
theorem dc_M_hashPart_14 : decode co_M_hashPart 14 = .ok (.getfield 81, 3) := by decide +kernel
theorem dc_M_hashPart_17 : decode co_M_hashPart 17 = .ok (.if_icmp .ge 27, 3) := by decide +kernel
theorem dc_M_hashPart_20 : decode co_M_hashPart 20 = .ok (.aload_n 0, 1) := by decide +kernel
theorem dc_M_hashPart_21 : decode co_M_hashPart 21 = .ok (.getfield 36, 3) := by decide +kernel
theorem dc_M_hashPart_24 : decode co_M_hashPart 24 = .ok (.iload_n 2, 1) := by decide +kernel
theorem dc_M_hashPart_25 : decode co_M_hashPart 25 = .ok (.aload_n 0, 1) := by decide +kernel
theorem dc_M_hashPart_26 : decode co_M_hashPart 26 = .ok (.getfield 48, 3) := by decide +kernel
theorem dc_M_hashPart_29 : decode co_M_hashPart 29 = .ok (.sipush 600, 3) := by decide +kernel
theorem dc_M_hashPart_32 : decode co_M_hashPart 32 = .ok (.iload_n 1, 1) := by decide +kernel
theorem dc_M_hashPart_33 : decode co_M_hashPart 33 = .ok (.imul, 1) := by decide +kernel
theorem dc_M_hashPart_34 : decode co_M_hashPart 34 = .ok (.iload_n 2, 1) := by decide +kernel
theorem dc_M_hashPart_35 : decode co_M_hashPart 35 = .ok (.iadd, 1) := by decide +kernel
theorem dc_M_hashPart_36 : decode co_M_hashPart 36 = .ok (.iaload, 1) := by decide +kernel
theorem dc_M_hashPart_37 : decode co_M_hashPart 37 = .ok (.iastore, 1) := by decide +kernel
theorem dc_M_hashPart_38 : decode co_M_hashPart 38 = .ok (.iinc 2 1, 3) := by decide +kernel
theorem dc_M_hashPart_41 : decode co_M_hashPart 41 = .ok (.goto (-29), 3) := by decide +kernel
theorem dc_M_hashPart_44 : decode co_M_hashPart 44 = .ok (.aload_n 0, 1) := by decide +kernel
theorem dc_M_hashPart_45 : decode co_M_hashPart 45 = .ok (.invokevirtual 144, 3) := by decide +kernel
theorem dc_M_hashPart_48 : decode co_M_hashPart 48 = .ok (.return_, 1) := by decide +kernel
theorem dc_M_half_0 : decode co_M_half 0 = .ok (.aload_n 0, 1) := by decide +kernel
theorem dc_M_half_1 : decode co_M_half 1 = .ok (.iload_n 1, 1) := by decide +kernel
theorem dc_M_half_2 : decode co_M_half 2 = .ok (.iload_n 2, 1) := by decide +kernel
theorem dc_M_half_3 : decode co_M_half 3 = .ok (.iload_n 3, 1) := by decide +kernel
theorem dc_M_half_4 : decode co_M_half 4 = .ok (.iconst 2, 1) := by decide +kernel
theorem dc_M_half_5 : decode co_M_half 5 = .ok (.idiv, 1) := by decide +kernel
theorem dc_M_half_6 : decode co_M_half 6 = .ok (.iadd, 1) := by decide +kernel
theorem dc_M_half_7 : decode co_M_half 7 = .ok (.invokevirtual 204, 3) := by decide +kernel
theorem dc_M_half_10 : decode co_M_half 10 = .ok (.istore 4, 2) := by decide +kernel
theorem dc_M_half_12 : decode co_M_half 12 = .ok (.iload_n 3, 1) := by decide +kernel
theorem dc_M_half_13 : decode co_M_half 13 = .ok (.iconst 2, 1) := by decide +kernel
theorem dc_M_half_14 : decode co_M_half 14 = .ok (.irem, 1) := by decide +kernel
theorem dc_M_half_15 : decode co_M_half 15 = .ok (.ifCond .ne 11, 3) := by decide +kernel
theorem dc_M_half_18 : decode co_M_half 18 = .ok (.iload 4, 2) := by decide +kernel
theorem dc_M_half_20 : decode co_M_half 20 = .ok (.bipush 16, 2) := by decide +kernel
theorem dc_M_half_22 : decode co_M_half 22 = .ok (.idiv, 1) := by decide +kernel
theorem dc_M_half_23 : decode co_M_half 23 = .ok (.goto 8, 3) := by decide +kernel
theorem dc_M_half_26 : decode co_M_half 26 = .ok (.iload 4, 2) := by decide +kernel
theorem dc_M_half_28 : decode co_M_half 28 = .ok (.bipush 16, 2) := by decide +kernel
theorem dc_M_half_30 : decode co_M_half 30 = .ok (.irem, 1) := by decide +kernel
theorem dc_M_half_31 : decode co_M_half 31 = .ok (.ireturn, 1) := by decide +kernel
theorem dc_M_digitsOf_0 : decode co_M_digitsOf 0 = .ok (.aload_n 0, 1) := by decide +kernel
theorem dc_M_digitsOf_1 : decode co_M_digitsOf 1 = .ok (.iload_n 1, 1) := by decide +kernel
theorem dc_M_digitsOf_2 : decode co_M_digitsOf 2 = .ok (.iload_n 2, 1) := by decide +kernel
theorem dc_M_digitsOf_3 : decode co_M_digitsOf 3 = .ok (.invokevirtual 210, 3) := by decide +kernel
theorem dc_M_digitsOf_6 : decode co_M_digitsOf 6 = .ok (.istore 5, 2) := by decide +kernel
theorem dc_M_digitsOf_8 : decode co_M_digitsOf 8 = .ok (.aload_n 0, 1) := by decide +kernel
theorem dc_M_digitsOf_9 : decode co_M_digitsOf 9 = .ok (.iload_n 1, 1) := by decide +kernel
theorem dc_M_digitsOf_10 : decode co_M_digitsOf 10 = .ok (.iload_n 2, 1) := by decide +kernel
theorem dc_M_digitsOf_11 : decode co_M_digitsOf 11 = .ok (.invokevirtual 207, 3) := by decide +kernel
theorem dc_M_digitsOf_14 : decode co_M_digitsOf 14 = .ok (.iload 5, 2) := by decide +kernel
theorem dc_M_digitsOf_16 : decode co_M_digitsOf 16 = .ok (.isub, 1) := by decide +kernel
theorem dc_M_digitsOf_17 : decode co_M_digitsOf 17 = .ok (.istore 6, 2) := by decide +kernel
theorem dc_M_digitsOf_19 : decode co_M_digitsOf 19 = .ok (.iload 6, 2) := by decide +kernel
theorem dc_M_digitsOf_21 : decode co_M_digitsOf 21 = .ok (.ifCond .ne 5, 3) := by decide +kernel
theorem dc_M_digitsOf_24 : decode co_M_digitsOf 24 = .ok (.iconst (-1), 1) := by decide +kernel
theorem dc_M_digitsOf_25 : decode co_M_digitsOf 25 = .ok (.ireturn, 1) := by decide +kernel
theorem dc_M_digitsOf_26 : decode co_M_digitsOf 26 = .ok (.aload_n 0, 1) := by decide +kernel
theorem dc_M_digitsOf_27 : decode co_M_digitsOf 27 = .ok (.iload_n 1, 1) := by decide +kernel
theorem dc_M_digitsOf_28 : decode co_M_digitsOf 28 = .ok (.iload 5, 2) := by decide +kernel
theorem dc_M_digitsOf_30 : decode co_M_digitsOf 30 = .ok (.iconst 0, 1) := by decide +kernel
theorem dc_M_digitsOf_31 : decode co_M_digitsOf 31 = .ok (.invokevirtual 213, 3) := by decide +kernel
theorem dc_M_digitsOf_34 : decode co_M_digitsOf 34 = .ok (.iconst 2, 1) := by decide +kernel
theorem dc_M_digitsOf_35 : decode co_M_digitsOf 35 = .ok (.irem, 1) := by decide +kernel
theorem dc_M_digitsOf_36 : decode co_M_digitsOf 36 = .ok (.iconst 1, 1) := by decide +kernel
theorem dc_M_digitsOf_37 : decode co_M_digitsOf 37 = .ok (.if_icmp .ne 7, 3) := by decide +kernel
theorem dc_M_digitsOf_40 : decode co_M_digitsOf 40 = .ok (.iconst 1, 1) := by decide +kernel
theorem dc_M_digitsOf_41 : decode co_M_digitsOf 41 = .ok (.goto 4, 3) := by decide +kernel
theorem dc_M_digitsOf_44 : decode co_M_digitsOf 44 = .ok (.iconst 0, 1) := by decide +kernel
theorem dc_M_digitsOf_45 : decode co_M_digitsOf 45 = .ok (.istore 7, 2) := by decide +kernel
theorem dc_M_digitsOf_47 : decode co_M_digitsOf 47 = .ok (.iload 7, 2) := by decide +kernel
theorem dc_M_digitsOf_49 : decode co_M_digitsOf 49 = .ok (.ifCond .eq 12, 3) := by decide +kernel
theorem dc_M_digitsOf_52 : decode co_M_digitsOf 52 = .ok (.iconst 2, 1) := by decide +kernel
theorem dc_M_digitsOf_53 : decode co_M_digitsOf 53 = .ok (.iload 6, 2) := by decide +kernel
theorem dc_M_digitsOf_55 : decode co_M_digitsOf 55 = .ok (.imul, 1) := by decide +kernel
theorem dc_M_digitsOf_56 : decode co_M_digitsOf 56 = .ok (.iconst 1, 1) := by decide +kernel
theorem dc_M_digitsOf_57 : decode co_M_digitsOf 57 = .ok (.isub, 1) := by decide +kernel
theorem dc_M_digitsOf_58 : decode co_M_digitsOf 58 = .ok (.goto 9, 3) := by decide +kernel
theorem dc_M_digitsOf_61 : decode co_M_digitsOf 61 = .ok (.iconst 2, 1) := by decide +kernel
theorem dc_M_digitsOf_62 : decode co_M_digitsOf 62 = .ok (.iload 6, 2) := by decide +kernel
theorem dc_M_digitsOf_64 : decode co_M_digitsOf 64 = .ok (.imul, 1) := by decide +kernel
theorem dc_M_digitsOf_65 : decode co_M_digitsOf 65 = .ok (.iconst 2, 1) := by decide +kernel
theorem dc_M_digitsOf_66 : decode co_M_digitsOf 66 = .ok (.isub, 1) := by decide +kernel
theorem dc_M_digitsOf_67 : decode co_M_digitsOf 67 = .ok (.istore 8, 2) := by decide +kernel
theorem dc_M_digitsOf_69 : decode co_M_digitsOf 69 = .ok (.iload 4, 2) := by decide +kernel
theorem dc_M_digitsOf_71 : decode co_M_digitsOf 71 = .ok (.iload 8, 2) := by decide +kernel
theorem dc_M_digitsOf_73 : decode co_M_digitsOf 73 = .ok (.iadd, 1) := by decide +kernel
theorem dc_M_digitsOf_74 : decode co_M_digitsOf 74 = .ok (.iconst 4, 1) := by decide +kernel
theorem dc_M_digitsOf_75 : decode co_M_digitsOf 75 = .ok (.if_icmp .le 5, 3) := by decide +kernel
theorem dc_M_digitsOf_78 : decode co_M_digitsOf 78 = .ok (.iconst (-1), 1) := by decide +kernel
theorem dc_M_digitsOf_79 : decode co_M_digitsOf 79 = .ok (.ireturn, 1) := by decide +kernel
theorem dc_M_digitsOf_80 : decode co_M_digitsOf 80 = .ok (.iconst 0, 1) := by decide +kernel
theorem dc_M_digitsOf_81 : decode co_M_digitsOf 81 = .ok (.istore 9, 2) := by decide +kernel
theorem dc_M_digitsOf_83 : decode co_M_digitsOf 83 = .ok (.iload 9, 2) := by decide +kernel
theorem dc_M_digitsOf_85 : decode co_M_digitsOf 85 = .ok (.iload 8, 2) := by decide +kernel
theorem dc_M_digitsOf_87 : decode co_M_digitsOf 87 = .ok (.if_icmp .ge 46, 3) := by decide +kernel
theorem dc_M_digitsOf_90 : decode co_M_digitsOf 90 = .ok (.aload_n 0, 1) := by decide +kernel
theorem dc_M_digitsOf_91 : decode co_M_digitsOf 91 = .ok (.iload_n 1, 1) := by decide +kernel
theorem dc_M_digitsOf_92 : decode co_M_digitsOf 92 = .ok (.iload 5, 2) := by decide +kernel
theorem dc_M_digitsOf_94 : decode co_M_digitsOf 94 = .ok (.iload 7, 2) := by decide +kernel
theorem dc_M_digitsOf_96 : decode co_M_digitsOf 96 = .ok (.ifCond .eq 10, 3) := by decide +kernel
theorem dc_M_digitsOf_99 : decode co_M_digitsOf 99 = .ok (.iload 9, 2) := by decide +kernel
theorem dc_M_digitsOf_101 : decode co_M_digitsOf 101 = .ok (.iconst 1, 1) := by decide +kernel
theorem dc_M_digitsOf_102 : decode co_M_digitsOf 102 = .ok (.iadd, 1) := by decide +kernel
theorem dc_M_digitsOf_103 : decode co_M_digitsOf 103 = .ok (.goto 7, 3) := by decide +kernel
theorem dc_M_digitsOf_106 : decode co_M_digitsOf 106 = .ok (.iload 9, 2) := by decide +kernel
theorem dc_M_digitsOf_108 : decode co_M_digitsOf 108 = .ok (.iconst 2, 1) := by decide +kernel
theorem dc_M_digitsOf_109 : decode co_M_digitsOf 109 = .ok (.iadd, 1) := by decide +kernel
theorem dc_M_digitsOf_110 : decode co_M_digitsOf 110 = .ok (.invokevirtual 213, 3) := by decide +kernel
theorem dc_M_digitsOf_113 : decode co_M_digitsOf 113 = .ok (.iload_n 3, 1) := by decide +kernel
theorem dc_M_digitsOf_114 : decode co_M_digitsOf 114 = .ok (.iload 4, 2) := by decide +kernel
theorem dc_M_digitsOf_116 : decode co_M_digitsOf 116 = .ok (.iload 9, 2) := by decide +kernel
theorem dc_M_digitsOf_118 : decode co_M_digitsOf 118 = .ok (.iadd, 1) := by decide +kernel
theorem dc_M_digitsOf_119 : decode co_M_digitsOf 119 = .ok (.invokestatic 105, 3) := by decide +kernel
theorem dc_M_digitsOf_122 : decode co_M_digitsOf 122 = .ok (.if_icmp .eq 5, 3) := by decide +kernel
theorem dc_M_digitsOf_125 : decode co_M_digitsOf 125 = .ok (.iconst (-1), 1) := by decide +kernel
theorem dc_M_digitsOf_126 : decode co_M_digitsOf 126 = .ok (.ireturn, 1) := by decide +kernel
theorem dc_M_digitsOf_127 : decode co_M_digitsOf 127 = .ok (.iinc 9 1, 3) := by decide +kernel
theorem dc_M_digitsOf_130 : decode co_M_digitsOf 130 = .ok (.goto (-47), 3) := by decide +kernel
theorem dc_M_digitsOf_133 : decode co_M_digitsOf 133 = .ok (.iload 8, 2) := by decide +kernel
theorem dc_M_digitsOf_135 : decode co_M_digitsOf 135 = .ok (.ireturn, 1) := by decide +kernel
theorem dc_M_goOn_0 : decode co_M_goOn 0 = .ok (.aload_n 0, 1) := by decide +kernel
theorem dc_M_goOn_1 : decode co_M_goOn 1 = .ok (.getfield 217, 3) := by decide +kernel
theorem dc_M_goOn_4 : decode co_M_goOn 4 = .ok (.istore_n 2, 1) := by decide +kernel
theorem dc_M_goOn_5 : decode co_M_goOn 5 = .ok (.aload_n 0, 1) := by decide +kernel
theorem dc_M_goOn_6 : decode co_M_goOn 6 = .ok (.iconst (-1), 1) := by decide +kernel
theorem dc_M_goOn_7 : decode co_M_goOn 7 = .ok (.putfield 220, 3) := by decide +kernel
theorem dc_M_goOn_10 : decode co_M_goOn 10 = .ok (.iload_n 1, 1) := by decide +kernel
theorem dc_M_goOn_11 : decode co_M_goOn 11 = .ok (.ifCond .ge 4, 3) := by decide +kernel
theorem dc_M_goOn_14 : decode co_M_goOn 14 = .ok (.return_, 1) := by decide +kernel
theorem dc_M_goOn_15 : decode co_M_goOn 15 = .ok (.aload_n 0, 1) := by decide +kernel
theorem dc_M_goOn_16 : decode co_M_goOn 16 = .ok (.iload_n 2, 1) := by decide +kernel
theorem dc_M_goOn_17 : decode co_M_goOn 17 = .ok (.iload_n 1, 1) := by decide +kernel
theorem dc_M_goOn_18 : decode co_M_goOn 18 = .ok (.invokevirtual 204, 3) := by decide +kernel
theorem dc_M_goOn_21 : decode co_M_goOn 21 = .ok (.istore_n 3, 1) := by decide +kernel
theorem dc_M_goOn_22 : decode co_M_goOn 22 = .ok (.iload_n 3, 1) := by decide +kernel
theorem dc_M_goOn_23 : decode co_M_goOn 23 = .ok (.sipush 192, 3) := by decide +kernel
theorem dc_M_goOn_26 : decode co_M_goOn 26 = .ok (.if_icmp .lt 8, 3) := by decide +kernel
theorem dc_M_goOn_29 : decode co_M_goOn 29 = .ok (.aload_n 0, 1) := by decide +kernel
theorem dc_M_goOn_30 : decode co_M_goOn 30 = .ok (.iload_n 1, 1) := by decide +kernel
theorem dc_M_goOn_31 : decode co_M_goOn 31 = .ok (.putfield 220, 3) := by decide +kernel
theorem dc_M_goOn_34 : decode co_M_goOn 34 = .ok (.iload_n 3, 1) := by decide +kernel
theorem dc_M_goOn_35 : decode co_M_goOn 35 = .ok (.sipush 160, 3) := by decide +kernel
theorem dc_M_goOn_38 : decode co_M_goOn 38 = .ok (.if_icmp .ne 101, 3) := by decide +kernel
theorem dc_M_goOn_41 : decode co_M_goOn 41 = .ok (.aload_n 0, 1) := by decide +kernel
theorem dc_M_goOn_42 : decode co_M_goOn 42 = .ok (.iload_n 2, 1) := by decide +kernel
theorem dc_M_goOn_43 : decode co_M_goOn 43 = .ok (.iconst 1, 1) := by decide +kernel
theorem dc_M_goOn_44 : decode co_M_goOn 44 = .ok (.iadd, 1) := by decide +kernel
theorem dc_M_goOn_45 : decode co_M_goOn 45 = .ok (.aload_n 0, 1) := by decide +kernel
theorem dc_M_goOn_46 : decode co_M_goOn 46 = .ok (.getfield 194, 3) := by decide +kernel
theorem dc_M_goOn_49 : decode co_M_goOn 49 = .ok (.if_icmp .lt 7, 3) := by decide +kernel
theorem dc_M_goOn_52 : decode co_M_goOn 52 = .ok (.iconst 1, 1) := by decide +kernel
theorem dc_M_goOn_53 : decode co_M_goOn 53 = .ok (.goto 4, 3) := by decide +kernel
theorem dc_M_goOn_56 : decode co_M_goOn 56 = .ok (.iconst 0, 1) := by decide +kernel
theorem dc_M_goOn_57 : decode co_M_goOn 57 = .ok (.putfield 223, 3) := by decide +kernel
theorem dc_M_goOn_60 : decode co_M_goOn 60 = .ok (.aload_n 0, 1) := by decide +kernel
theorem dc_M_goOn_61 : decode co_M_goOn 61 = .ok (.getfield 223, 3) := by decide +kernel
theorem dc_M_goOn_64 : decode co_M_goOn 64 = .ok (.ifCond .ne 75, 3) := by decide +kernel
theorem dc_M_goOn_67 : decode co_M_goOn 67 = .ok (.aload_n 0, 1) := by decide +kernel
theorem dc_M_goOn_68 : decode co_M_goOn 68 = .ok (.iload_n 2, 1) := by decide +kernel
theorem dc_M_goOn_69 : decode co_M_goOn 69 = .ok (.iconst 1, 1) := by decide +kernel
theorem dc_M_goOn_70 : decode co_M_goOn 70 = .ok (.iadd, 1) := by decide +kernel
theorem dc_M_goOn_71 : decode co_M_goOn 71 = .ok (.invokevirtual 226, 3) := by decide +kernel
theorem dc_M_goOn_74 : decode co_M_goOn 74 = .ok (.iconst 0, 1) := by decide +kernel
theorem dc_M_goOn_75 : decode co_M_goOn 75 = .ok (.istore 4, 2) := by decide +kernel
theorem dc_M_goOn_77 : decode co_M_goOn 77 = .ok (.iload 4, 2) := by decide +kernel
theorem dc_M_goOn_79 : decode co_M_goOn 79 = .ok (.bipush 32, 2) := by decide +kernel
theorem dc_M_goOn_81 : decode co_M_goOn 81 = .ok (.if_icmp .ge 46, 3) := by decide +kernel
theorem dc_M_goOn_84 : decode co_M_goOn 84 = .ok (.aload_n 0, 1) := by decide +kernel
theorem dc_M_goOn_85 : decode co_M_goOn 85 = .ok (.aload_n 0, 1) := by decide +kernel
theorem dc_M_goOn_86 : decode co_M_goOn 86 = .ok (.getfield 223, 3) := by decide +kernel
theorem dc_M_goOn_89 : decode co_M_goOn 89 = .ok (.ifCond .ne 24, 3) := by decide +kernel
theorem dc_M_goOn_92 : decode co_M_goOn 92 = .ok (.aload_n 0, 1) := by decide +kernel
theorem dc_M_goOn_93 : decode co_M_goOn 93 = .ok (.getfield 69, 3) := by decide +kernel
theorem dc_M_goOn_96 : decode co_M_goOn 96 = .ok (.iload 4, 2) := by decide +kernel
theorem dc_M_goOn_98 : decode co_M_goOn 98 = .ok (.iaload, 1) := by decide +kernel
theorem dc_M_goOn_99 : decode co_M_goOn 99 = .ok (.aload_n 0, 1) := by decide +kernel
theorem dc_M_goOn_100 : decode co_M_goOn 100 = .ok (.iload_n 2, 1) := by decide +kernel
theorem dc_M_goOn_101 : decode co_M_goOn 101 = .ok (.iload_n 1, 1) := by decide +kernel
theorem dc_M_goOn_102 : decode co_M_goOn 102 = .ok (.iconst 1, 1) := by decide +kernel
theorem dc_M_goOn_103 : decode co_M_goOn 103 = .ok (.iadd, 1) := by decide +kernel
theorem dc_M_goOn_104 : decode co_M_goOn 104 = .ok (.iload 4, 2) := by decide +kernel
theorem dc_M_goOn_106 : decode co_M_goOn 106 = .ok (.iadd, 1) := by decide +kernel
theorem dc_M_goOn_107 : decode co_M_goOn 107 = .ok (.invokevirtual 204, 3) := by decide +kernel
theorem dc_M_goOn_110 : decode co_M_goOn 110 = .ok (.if_icmp .eq 7, 3) := by decide +kernel
theorem dc_M_goOn_113 : decode co_M_goOn 113 = .ok (.iconst 1, 1) := by decide +kernel
theorem dc_M_goOn_114 : decode co_M_goOn 114 = .ok (.goto 4, 3) := by decide +kernel
theorem dc_M_goOn_117 : decode co_M_goOn 117 = .ok (.iconst 0, 1) := by decide +kernel
theorem dc_M_goOn_118 : decode co_M_goOn 118 = .ok (.putfield 223, 3) := by decide +kernel
theorem dc_M_goOn_121 : decode co_M_goOn 121 = .ok (.iinc 4 1, 3) := by decide +kernel
theorem dc_M_goOn_124 : decode co_M_goOn 124 = .ok (.goto (-47), 3) := by decide +kernel
theorem dc_M_goOn_127 : decode co_M_goOn 127 = .ok (.aload_n 0, 1) := by decide +kernel
theorem dc_M_goOn_128 : decode co_M_goOn 128 = .ok (.iload_n 2, 1) := by decide +kernel
theorem dc_M_goOn_129 : decode co_M_goOn 129 = .ok (.iconst 1, 1) := by decide +kernel
theorem dc_M_goOn_130 : decode co_M_goOn 130 = .ok (.iadd, 1) := by decide +kernel
theorem dc_M_goOn_131 : decode co_M_goOn 131 = .ok (.putfield 217, 3) := by decide +kernel
theorem dc_M_goOn_134 : decode co_M_goOn 134 = .ok (.aload_n 0, 1) := by decide +kernel
theorem dc_M_goOn_135 : decode co_M_goOn 135 = .ok (.iconst 0, 1) := by decide +kernel
theorem dc_M_goOn_136 : decode co_M_goOn 136 = .ok (.putfield 220, 3) := by decide +kernel
theorem dc_M_goOn_139 : decode co_M_goOn 139 = .ok (.return_, 1) := by decide +kernel
theorem dc_M_passNode_0 : decode co_M_passNode 0 = .ok (.aload_n 0, 1) := by decide +kernel
theorem dc_M_passNode_1 : decode co_M_passNode 1 = .ok (.getfield 217, 3) := by decide +kernel
theorem dc_M_passNode_4 : decode co_M_passNode 4 = .ok (.istore_n 2, 1) := by decide +kernel
theorem dc_M_passNode_5 : decode co_M_passNode 5 = .ok (.aload_n 0, 1) := by decide +kernel
theorem dc_M_passNode_6 : decode co_M_passNode 6 = .ok (.getfield 220, 3) := by decide +kernel
theorem dc_M_passNode_9 : decode co_M_passNode 9 = .ok (.istore_n 3, 1) := by decide +kernel
theorem dc_M_passNode_10 : decode co_M_passNode 10 = .ok (.aload_n 0, 1) := by decide +kernel
theorem dc_M_passNode_11 : decode co_M_passNode 11 = .ok (.iload_n 2, 1) := by decide +kernel
theorem dc_M_passNode_12 : decode co_M_passNode 12 = .ok (.iload_n 3, 1) := by decide +kernel
theorem dc_M_passNode_13 : decode co_M_passNode 13 = .ok (.invokevirtual 229, 3) := by decide +kernel
theorem dc_M_passNode_16 : decode co_M_passNode 16 = .ok (.istore 4, 2) := by decide +kernel
theorem dc_M_passNode_18 : decode co_M_passNode 18 = .ok (.iload 4, 2) := by decide +kernel
theorem dc_M_passNode_20 : decode co_M_passNode 20 = .ok (.ifCond .ge 7, 3) := by decide +kernel
theorem dc_M_passNode_23 : decode co_M_passNode 23 = .ok (.iconst (-1), 1) := by decide +kernel
theorem dc_M_passNode_24 : decode co_M_passNode 24 = .ok (.goto 10, 3) := by decide +kernel
theorem dc_M_passNode_27 : decode co_M_passNode 27 = .ok (.aload_n 0, 1) := by decide +kernel
theorem dc_M_passNode_28 : decode co_M_passNode 28 = .ok (.iload_n 2, 1) := by decide +kernel
theorem dc_M_passNode_29 : decode co_M_passNode 29 = .ok (.iload 4, 2) := by decide +kernel
theorem dc_M_passNode_31 : decode co_M_passNode 31 = .ok (.invokevirtual 207, 3) := by decide +kernel
theorem dc_M_passNode_34 : decode co_M_passNode 34 = .ok (.istore 5, 2) := by decide +kernel
theorem dc_M_passNode_36 : decode co_M_passNode 36 = .ok (.iload 5, 2) := by decide +kernel
theorem dc_M_passNode_38 : decode co_M_passNode 38 = .ok (.ifCond .ge 7, 3) := by decide +kernel
theorem dc_M_passNode_41 : decode co_M_passNode 41 = .ok (.iconst (-1), 1) := by decide +kernel
theorem dc_M_passNode_42 : decode co_M_passNode 42 = .ok (.goto 10, 3) := by decide +kernel
theorem dc_M_passNode_45 : decode co_M_passNode 45 = .ok (.aload_n 0, 1) := by decide +kernel
theorem dc_M_passNode_46 : decode co_M_passNode 46 = .ok (.iload_n 2, 1) := by decide +kernel
theorem dc_M_passNode_47 : decode co_M_passNode 47 = .ok (.iload 5, 2) := by decide +kernel
theorem dc_M_passNode_49 : decode co_M_passNode 49 = .ok (.invokevirtual 207, 3) := by decide +kernel
theorem dc_M_passNode_52 : decode co_M_passNode 52 = .ok (.istore 6, 2) := by decide +kernel
theorem dc_M_passNode_54 : decode co_M_passNode 54 = .ok (.aload_n 0, 1) := by decide +kernel
theorem dc_M_passNode_55 : decode co_M_passNode 55 = .ok (.iconst (-1), 1) := by decide +kernel
theorem dc_M_passNode_56 : decode co_M_passNode 56 = .ok (.putfield 220, 3) := by decide +kernel
theorem dc_M_passNode_59 : decode co_M_passNode 59 = .ok (.iload 6, 2) := by decide +kernel
theorem dc_M_passNode_61 : decode co_M_passNode 61 = .ok (.ifCond .ge 4, 3) := by decide +kernel
theorem dc_M_passNode_64 : decode co_M_passNode 64 = .ok (.return_, 1) := by decide +kernel
theorem dc_M_passNode_65 : decode co_M_passNode 65 = .ok (.iload 6, 2) := by decide +kernel
theorem dc_M_passNode_67 : decode co_M_passNode 67 = .ok (.iload 4, 2) := by decide +kernel
theorem dc_M_passNode_69 : decode co_M_passNode 69 = .ok (.aload_n 0, 1) := by decide +kernel
theorem dc_M_passNode_70 : decode co_M_passNode 70 = .ok (.iload_n 2, 1) := by decide +kernel
theorem dc_M_passNode_71 : decode co_M_passNode 71 = .ok (.iload_n 3, 1) := by decide +kernel
theorem dc_M_passNode_72 : decode co_M_passNode 72 = .ok (.invokevirtual 232, 3) := by decide +kernel
theorem dc_M_passNode_75 : decode co_M_passNode 75 = .ok (.iadd, 1) := by decide +kernel
theorem dc_M_passNode_76 : decode co_M_passNode 76 = .ok (.if_icmp .ne 84, 3) := by decide +kernel
theorem dc_M_passNode_79 : decode co_M_passNode 79 = .ok (.aload_n 0, 1) := by decide +kernel
theorem dc_M_passNode_80 : decode co_M_passNode 80 = .ok (.iload_n 2, 1) := by decide +kernel
theorem dc_M_passNode_81 : decode co_M_passNode 81 = .ok (.iload 4, 2) := by decide +kernel
theorem dc_M_passNode_83 : decode co_M_passNode 83 = .ok (.iload_n 1, 1) := by decide +kernel
theorem dc_M_passNode_84 : decode co_M_passNode 84 = .ok (.aload_n 0, 1) := by decide +kernel
theorem dc_M_passNode_85 : decode co_M_passNode 85 = .ok (.getfield 235, 3) := by decide +kernel
theorem dc_M_passNode_88 : decode co_M_passNode 88 = .ok (.invokevirtual 238, 3) := by decide +kernel
theorem dc_M_passNode_91 : decode co_M_passNode 91 = .ok (.istore 7, 2) := by decide +kernel
theorem dc_M_passNode_93 : decode co_M_passNode 93 = .ok (.iload 7, 2) := by decide +kernel
theorem dc_M_passNode_95 : decode co_M_passNode 95 = .ok (.ifCond .ge 4, 3) := by decide +kernel
theorem dc_M_passNode_98 : decode co_M_passNode 98 = .ok (.return_, 1) := by decide +kernel
theorem dc_M_passNode_99 : decode co_M_passNode 99 = .ok (.aload_n 0, 1) := by decide +kernel
theorem dc_M_passNode_100 : decode co_M_passNode 100 = .ok (.aload_n 0, 1) := by decide +kernel
theorem dc_M_passNode_101 : decode co_M_passNode 101 = .ok (.getfield 235, 3) := by decide +kernel
theorem dc_M_passNode_104 : decode co_M_passNode 104 = .ok (.iload 7, 2) := by decide +kernel
theorem dc_M_passNode_106 : decode co_M_passNode 106 = .ok (.iadd, 1) := by decide +kernel
theorem dc_M_passNode_107 : decode co_M_passNode 107 = .ok (.putfield 235, 3) := by decide +kernel
theorem dc_M_passNode_110 : decode co_M_passNode 110 = .ok (.aload_n 0, 1) := by decide +kernel
theorem dc_M_passNode_111 : decode co_M_passNode 111 = .ok (.iload_n 2, 1) := by decide +kernel
theorem dc_M_passNode_112 : decode co_M_passNode 112 = .ok (.aload_n 0, 1) := by decide +kernel
theorem dc_M_passNode_113 : decode co_M_passNode 113 = .ok (.iload_n 2, 1) := by decide +kernel
theorem dc_M_passNode_114 : decode co_M_passNode 114 = .ok (.iload 4, 2) := by decide +kernel
theorem dc_M_passNode_116 : decode co_M_passNode 116 = .ok (.invokevirtual 210, 3) := by decide +kernel
theorem dc_M_passNode_119 : decode co_M_passNode 119 = .ok (.iconst 0, 1) := by decide +kernel
theorem dc_M_passNode_120 : decode co_M_passNode 120 = .ok (.invokevirtual 213, 3) := by decide +kernel
theorem dc_M_passNode_123 : decode co_M_passNode 123 = .ok (.iconst 2, 1) := by decide +kernel
theorem dc_M_passNode_124 : decode co_M_passNode 124 = .ok (.idiv, 1) := by decide +kernel
theorem dc_M_passNode_125 : decode co_M_passNode 125 = .ok (.iconst 2, 1) := by decide +kernel
theorem dc_M_passNode_126 : decode co_M_passNode 126 = .ok (.irem, 1) := by decide +kernel
theorem dc_M_passNode_127 : decode co_M_passNode 127 = .ok (.ifCond .ne 12, 3) := by decide +kernel
theorem dc_M_passNode_130 : decode co_M_passNode 130 = .ok (.aload_n 0, 1) := by decide +kernel
theorem dc_M_passNode_131 : decode co_M_passNode 131 = .ok (.iload 5, 2) := by decide +kernel
theorem dc_M_passNode_133 : decode co_M_passNode 133 = .ok (.invokevirtual 242, 3) := by decide +kernel
theorem dc_M_passNode_136 : decode co_M_passNode 136 = .ok (.goto 21, 3) := by decide +kernel
theorem dc_M_passNode_139 : decode co_M_passNode 139 = .ok (.aload_n 0, 1) := by decide +kernel
theorem dc_M_passNode_140 : decode co_M_passNode 140 = .ok (.aload_n 0, 1) := by decide +kernel
theorem dc_M_passNode_141 : decode co_M_passNode 141 = .ok (.getfield 235, 3) := by decide +kernel
theorem dc_M_passNode_144 : decode co_M_passNode 144 = .ok (.iconst 4, 1) := by decide +kernel
theorem dc_M_passNode_145 : decode co_M_passNode 145 = .ok (.if_icmp .ne 8, 3) := by decide +kernel
theorem dc_M_passNode_148 : decode co_M_passNode 148 = .ok (.iload 5, 2) := by decide +kernel
theorem dc_M_passNode_150 : decode co_M_passNode 150 = .ok (.goto 4, 3) := by decide +kernel
theorem dc_M_passNode_153 : decode co_M_passNode 153 = .ok (.iconst (-1), 1) := by decide +kernel
theorem dc_M_passNode_154 : decode co_M_passNode 154 = .ok (.putfield 245, 3) := by decide +kernel
theorem dc_M_passNode_157 : decode co_M_passNode 157 = .ok (.goto 66, 3) := by decide +kernel
theorem dc_M_passNode_160 : decode co_M_passNode 160 = .ok (.aload_n 0, 1) := by decide +kernel
theorem dc_M_passNode_161 : decode co_M_passNode 161 = .ok (.getfield 235, 3) := by decide +kernel
theorem dc_M_passNode_164 : decode co_M_passNode 164 = .ok (.iconst 4, 1) := by decide +kernel
theorem dc_M_passNode_165 : decode co_M_passNode 165 = .ok (.if_icmp .ge 58, 3) := by decide +kernel
theorem dc_M_passNode_168 : decode co_M_passNode 168 = .ok (.iload 4, 2) := by decide +kernel
theorem dc_M_passNode_170 : decode co_M_passNode 170 = .ok (.istore 7, 2) := by decide +kernel
theorem dc_M_passNode_172 : decode co_M_passNode 172 = .ok (.iload_n 1, 1) := by decide +kernel
theorem dc_M_passNode_173 : decode co_M_passNode 173 = .ok (.aload_n 0, 1) := by decide +kernel
theorem dc_M_passNode_174 : decode co_M_passNode 174 = .ok (.getfield 235, 3) := by decide +kernel
theorem dc_M_passNode_177 : decode co_M_passNode 177 = .ok (.invokestatic 105, 3) := by decide +kernel
theorem dc_M_passNode_180 : decode co_M_passNode 180 = .ok (.istore 8, 2) := by decide +kernel
theorem dc_M_passNode_182 : decode co_M_passNode 182 = .ok (.iload 8, 2) := by decide +kernel
theorem dc_M_passNode_184 : decode co_M_passNode 184 = .ok (.ifCond .le 23, 3) := by decide +kernel
theorem dc_M_passNode_187 : decode co_M_passNode 187 = .ok (.iload 7, 2) := by decide +kernel
theorem dc_M_passNode_189 : decode co_M_passNode 189 = .ok (.ifCond .lt 18, 3) := by decide +kernel
theorem dc_M_passNode_192 : decode co_M_passNode 192 = .ok (.aload_n 0, 1) := by decide +kernel
theorem dc_M_passNode_193 : decode co_M_passNode 193 = .ok (.iload_n 2, 1) := by decide +kernel
theorem dc_M_passNode_194 : decode co_M_passNode 194 = .ok (.iload 7, 2) := by decide +kernel
theorem dc_M_passNode_196 : decode co_M_passNode 196 = .ok (.invokevirtual 207, 3) := by decide +kernel
theorem dc_M_passNode_199 : decode co_M_passNode 199 = .ok (.istore 7, 2) := by decide +kernel
theorem dc_M_passNode_201 : decode co_M_passNode 201 = .ok (.iinc 8 (-1), 3) := by decide +kernel
theorem dc_M_passNode_204 : decode co_M_passNode 204 = .ok (.goto (-22), 3) := by decide +kernel
theorem dc_M_passNode_207 : decode co_M_passNode 207 = .ok (.aload_n 0, 1) := by decide +kernel
theorem dc_M_passNode_208 : decode co_M_passNode 208 = .ok (.dup, 1) := by decide +kernel
theorem dc_M_passNode_209 : decode co_M_passNode 209 = .ok (.getfield 235, 3) := by decide +kernel
theorem dc_M_passNode_212 : decode co_M_passNode 212 = .ok (.iconst 1, 1) := by decide +kernel
theorem dc_M_passNode_213 : decode co_M_passNode 213 = .ok (.iadd, 1) := by decide +kernel
theorem dc_M_passNode_214 : decode co_M_passNode 214 = .ok (.putfield 235, 3) := by decide +kernel
theorem dc_M_passNode_217 : decode co_M_passNode 217 = .ok (.aload_n 0, 1) := by decide +kernel
theorem dc_M_passNode_218 : decode co_M_passNode 218 = .ok (.iload 7, 2) := by decide +kernel
theorem dc_M_passNode_220 : decode co_M_passNode 220 = .ok (.invokevirtual 242, 3) := by decide +kernel
theorem dc_M_passNode_223 : decode co_M_passNode 223 = .ok (.return_, 1) := by decide +kernel
theorem dc_M_check_0 : decode co_M_check 0 = .ok (.aload_n 0, 1) := by decide +kernel
theorem dc_M_check_1 : decode co_M_check 1 = .ok (.lconst 0, 1) := by decide +kernel
theorem dc_M_check_2 : decode co_M_check 2 = .ok (.putfield 248, 3) := by decide +kernel
theorem dc_M_check_5 : decode co_M_check 5 = .ok (.aload_n 0, 1) := by decide +kernel
theorem dc_M_check_6 : decode co_M_check 6 = .ok (.lconst 0, 1) := by decide +kernel
theorem dc_M_check_7 : decode co_M_check 7 = .ok (.putfield 252, 3) := by decide +kernel
theorem dc_M_check_10 : decode co_M_check 10 = .ok (.iload_n 1, 1) := by decide +kernel
theorem dc_M_check_11 : decode co_M_check 11 = .ok (.invokestatic 165, 3) := by decide +kernel
theorem dc_M_check_14 : decode co_M_check 14 = .ok (.ifCond .eq 10, 3) := by decide +kernel
theorem dc_M_check_17 : decode co_M_check 17 = .ok (.aload_n 0, 1) := by decide +kernel
theorem dc_M_check_18 : decode co_M_check 18 = .ok (.getfield 194, 3) := by decide +kernel
theorem dc_M_check_21 : decode co_M_check 21 = .ok (.ifCond .ne 5, 3) := by decide +kernel
theorem dc_M_check_24 : decode co_M_check 24 = .ok (.iconst (-1), 1) := by decide +kernel
theorem dc_M_check_25 : decode co_M_check 25 = .ok (.ireturn, 1) := by decide +kernel
theorem dc_M_check_26 : decode co_M_check 26 = .ok (.aload_n 0, 1) := by decide +kernel
theorem dc_M_check_27 : decode co_M_check 27 = .ok (.invokevirtual 188, 3) := by decide +kernel
theorem dc_M_check_30 : decode co_M_check 30 = .ok (.aload_n 0, 1) := by decide +kernel
theorem dc_M_check_31 : decode co_M_check 31 = .ok (.iconst 0, 1) := by decide +kernel
theorem dc_M_check_32 : decode co_M_check 32 = .ok (.invokevirtual 226, 3) := by decide +kernel
theorem dc_M_check_35 : decode co_M_check 35 = .ok (.aload_n 0, 1) := by decide +kernel
theorem dc_M_check_36 : decode co_M_check 36 = .ok (.iconst 0, 1) := by decide +kernel
theorem dc_M_check_37 : decode co_M_check 37 = .ok (.putfield 223, 3) := by decide +kernel
theorem dc_M_check_40 : decode co_M_check 40 = .ok (.iconst 0, 1) := by decide +kernel
theorem dc_M_check_41 : decode co_M_check 41 = .ok (.istore_n 2, 1) := by decide +kernel
theorem dc_M_check_42 : decode co_M_check 42 = .ok (.iload_n 2, 1) := by decide +kernel
theorem dc_M_check_43 : decode co_M_check 43 = .ok (.bipush 32, 2) := by decide +kernel
theorem dc_M_check_45 : decode co_M_check 45 = .ok (.if_icmp .ge 40, 3) := by decide +kernel
theorem dc_M_check_48 : decode co_M_check 48 = .ok (.aload_n 0, 1) := by decide +kernel
theorem dc_M_check_49 : decode co_M_check 49 = .ok (.aload_n 0, 1) := by decide +kernel
theorem dc_M_check_50 : decode co_M_check 50 = .ok (.getfield 223, 3) := by decide +kernel
theorem dc_M_check_53 : decode co_M_check 53 = .ok (.ifCond .ne 18, 3) := by decide +kernel
theorem dc_M_check_56 : decode co_M_check 56 = .ok (.aload_n 0, 1) := by decide +kernel
theorem dc_M_check_57 : decode co_M_check 57 = .ok (.getfield 69, 3) := by decide +kernel
theorem dc_M_check_60 : decode co_M_check 60 = .ok (.iload_n 2, 1) := by decide +kernel
theorem dc_M_check_61 : decode co_M_check 61 = .ok (.iaload, 1) := by decide +kernel
theorem dc_M_check_62 : decode co_M_check 62 = .ok (.aload_n 0, 1) := by decide +kernel
theorem dc_M_check_63 : decode co_M_check 63 = .ok (.getfield 72, 3) := by decide +kernel
theorem dc_M_check_66 : decode co_M_check 66 = .ok (.iload_n 2, 1) := by decide +kernel
theorem dc_M_check_67 : decode co_M_check 67 = .ok (.iaload, 1) := by decide +kernel
theorem dc_M_check_68 : decode co_M_check 68 = .ok (.if_icmp .eq 7, 3) := by decide +kernel
theorem dc_M_check_71 : decode co_M_check 71 = .ok (.iconst 1, 1) := by decide +kernel
theorem dc_M_check_72 : decode co_M_check 72 = .ok (.goto 4, 3) := by decide +kernel
theorem dc_M_check_75 : decode co_M_check 75 = .ok (.iconst 0, 1) := by decide +kernel
theorem dc_M_check_76 : decode co_M_check 76 = .ok (.putfield 223, 3) := by decide +kernel
theorem dc_M_check_79 : decode co_M_check 79 = .ok (.iinc 2 1, 3) := by decide +kernel
theorem dc_M_check_82 : decode co_M_check 82 = .ok (.goto (-40), 3) := by decide +kernel
theorem dc_M_check_85 : decode co_M_check 85 = .ok (.aload_n 0, 1) := by decide +kernel
theorem dc_M_check_86 : decode co_M_check 86 = .ok (.iconst 0, 1) := by decide +kernel
theorem dc_M_check_87 : decode co_M_check 87 = .ok (.putfield 217, 3) := by decide +kernel
theorem dc_M_check_90 : decode co_M_check 90 = .ok (.aload_n 0, 1) := by decide +kernel
theorem dc_M_check_91 : decode co_M_check 91 = .ok (.iconst 0, 1) := by decide +kernel
theorem dc_M_check_92 : decode co_M_check 92 = .ok (.putfield 220, 3) := by decide +kernel
theorem dc_M_check_95 : decode co_M_check 95 = .ok (.aload_n 0, 1) := by decide +kernel
theorem dc_M_check_96 : decode co_M_check 96 = .ok (.iconst 0, 1) := by decide +kernel
theorem dc_M_check_97 : decode co_M_check 97 = .ok (.putfield 235, 3) := by decide +kernel
theorem dc_M_check_100 : decode co_M_check 100 = .ok (.aload_n 0, 1) := by decide +kernel
theorem dc_M_check_101 : decode co_M_check 101 = .ok (.iconst (-1), 1) := by decide +kernel
theorem dc_M_check_102 : decode co_M_check 102 = .ok (.putfield 245, 3) := by decide +kernel
theorem dc_M_check_105 : decode co_M_check 105 = .ok (.aload_n 0, 1) := by decide +kernel
theorem dc_M_check_106 : decode co_M_check 106 = .ok (.getfield 223, 3) := by decide +kernel
theorem dc_M_check_109 : decode co_M_check 109 = .ok (.ifCond .ne 18, 3) := by decide +kernel
theorem dc_M_check_112 : decode co_M_check 112 = .ok (.aload_n 0, 1) := by decide +kernel
theorem dc_M_check_113 : decode co_M_check 113 = .ok (.getfield 220, 3) := by decide +kernel
theorem dc_M_check_116 : decode co_M_check 116 = .ok (.ifCond .lt 11, 3) := by decide +kernel
theorem dc_M_check_119 : decode co_M_check 119 = .ok (.aload_n 0, 1) := by decide +kernel
theorem dc_M_check_120 : decode co_M_check 120 = .ok (.iload_n 1, 1) := by decide +kernel
theorem dc_M_check_121 : decode co_M_check 121 = .ok (.invokevirtual 255, 3) := by decide +kernel
theorem dc_M_check_124 : decode co_M_check 124 = .ok (.goto (-19), 3) := by decide +kernel
theorem dc_M_check_127 : decode co_M_check 127 = .ok (.aload_n 0, 1) := by decide +kernel
theorem dc_M_check_128 : decode co_M_check 128 = .ok (.getfield 223, 3) := by decide +kernel
theorem dc_M_check_131 : decode co_M_check 131 = .ok (.ifCond .ne 16, 3) := by decide +kernel
theorem dc_M_check_134 : decode co_M_check 134 = .ok (.aload_n 0, 1) := by decide +kernel
theorem dc_M_check_135 : decode co_M_check 135 = .ok (.getfield 217, 3) := by decide +kernel
theorem dc_M_check_138 : decode co_M_check 138 = .ok (.iconst 1, 1) := by decide +kernel
theorem dc_M_check_139 : decode co_M_check 139 = .ok (.iadd, 1) := by decide +kernel
theorem dc_M_check_140 : decode co_M_check 140 = .ok (.aload_n 0, 1) := by decide +kernel
theorem dc_M_check_141 : decode co_M_check 141 = .ok (.getfield 194, 3) := by decide +kernel
theorem dc_M_check_144 : decode co_M_check 144 = .ok (.if_icmp .eq 5, 3) := by decide +kernel
theorem dc_M_check_147 : decode co_M_check 147 = .ok (.iconst (-1), 1) := by decide +kernel
theorem dc_M_check_148 : decode co_M_check 148 = .ok (.ireturn, 1) := by decide +kernel
theorem dc_M_check_149 : decode co_M_check 149 = .ok (.aload_n 0, 1) := by decide +kernel
theorem dc_M_check_150 : decode co_M_check 150 = .ok (.getfield 245, 3) := by decide +kernel
theorem dc_M_check_153 : decode co_M_check 153 = .ok (.ifCond .ge 5, 3) := by decide +kernel
theorem dc_M_check_156 : decode co_M_check 156 = .ok (.iconst 0, 1) := by decide +kernel
theorem dc_M_check_157 : decode co_M_check 157 = .ok (.ireturn, 1) := by decide +kernel
theorem dc_M_check_158 : decode co_M_check 158 = .ok (.aload_n 0, 1) := by decide +kernel
theorem dc_M_check_159 : decode co_M_check 159 = .ok (.aload_n 0, 1) := by decide +kernel
theorem dc_M_check_160 : decode co_M_check 160 = .ok (.getfield 217, 3) := by decide +kernel
theorem dc_M_check_163 : decode co_M_check 163 = .ok (.aload_n 0, 1) := by decide +kernel
theorem dc_M_check_164 : decode co_M_check 164 = .ok (.getfield 245, 3) := by decide +kernel
theorem dc_M_check_167 : decode co_M_check 167 = .ok (.invokevirtual 210, 3) := by decide +kernel
theorem dc_M_check_170 : decode co_M_check 170 = .ok (.iconst 1, 1) := by decide +kernel
theorem dc_M_check_171 : decode co_M_check 171 = .ok (.iadd, 1) := by decide +kernel
theorem dc_M_check_172 : decode co_M_check 172 = .ok (.istore_n 2, 1) := by decide +kernel
theorem dc_M_check_173 : decode co_M_check 173 = .ok (.aload_n 0, 1) := by decide +kernel
theorem dc_M_check_174 : decode co_M_check 174 = .ok (.aload_n 0, 1) := by decide +kernel
theorem dc_M_check_175 : decode co_M_check 175 = .ok (.aload_n 0, 1) := by decide +kernel
theorem dc_M_check_176 : decode co_M_check 176 = .ok (.getfield 217, 3) := by decide +kernel
theorem dc_M_check_179 : decode co_M_check 179 = .ok (.iload_n 2, 1) := by decide +kernel
theorem dc_M_check_180 : decode co_M_check 180 = .ok (.invokevirtual 258, 3) := by decide +kernel
theorem dc_M_check_183 : decode co_M_check 183 = .ok (.putfield 248, 3) := by decide +kernel
theorem dc_M_check_186 : decode co_M_check 186 = .ok (.aload_n 0, 1) := by decide +kernel
theorem dc_M_check_187 : decode co_M_check 187 = .ok (.aload_n 0, 1) := by decide +kernel
theorem dc_M_check_188 : decode co_M_check 188 = .ok (.aload_n 0, 1) := by decide +kernel
theorem dc_M_check_189 : decode co_M_check 189 = .ok (.getfield 217, 3) := by decide +kernel
theorem dc_M_check_192 : decode co_M_check 192 = .ok (.aload_n 0, 1) := by decide +kernel
theorem dc_M_check_193 : decode co_M_check 193 = .ok (.aload_n 0, 1) := by decide +kernel
theorem dc_M_check_194 : decode co_M_check 194 = .ok (.getfield 217, 3) := by decide +kernel
theorem dc_M_check_197 : decode co_M_check 197 = .ok (.iload_n 2, 1) := by decide +kernel
theorem dc_M_check_198 : decode co_M_check 198 = .ok (.invokevirtual 207, 3) := by decide +kernel
theorem dc_M_check_201 : decode co_M_check 201 = .ok (.invokevirtual 258, 3) := by decide +kernel
theorem dc_M_check_204 : decode co_M_check 204 = .ok (.putfield 252, 3) := by decide +kernel
theorem dc_M_check_207 : decode co_M_check 207 = .ok (.iconst 1, 1) := by decide +kernel
theorem dc_M_check_208 : decode co_M_check 208 = .ok (.ireturn, 1) := by decide +kernel
theorem dc_M_proven_0 : decode co_M_proven 0 = .ok (.iload_n 1, 1) := by decide +kernel
theorem dc_M_proven_1 : decode co_M_proven 1 = .ok (.ifCond .ne 10, 3) := by decide +kernel
theorem dc_M_proven_4 : decode co_M_proven 4 = .ok (.aload_n 0, 1) := by decide +kernel
theorem dc_M_proven_5 : decode co_M_proven 5 = .ok (.getfield 248, 3) := by decide +kernel
theorem dc_M_proven_8 : decode co_M_proven 8 = .ok (.goto 16, 3) := by decide +kernel
theorem dc_M_proven_11 : decode co_M_proven 11 = .ok (.iload_n 1, 1) := by decide +kernel
theorem dc_M_proven_12 : decode co_M_proven 12 = .ok (.iconst 1, 1) := by decide +kernel
theorem dc_M_proven_13 : decode co_M_proven 13 = .ok (.if_icmp .ne 10, 3) := by decide +kernel
theorem dc_M_proven_16 : decode co_M_proven 16 = .ok (.aload_n 0, 1) := by decide +kernel
theorem dc_M_proven_17 : decode co_M_proven 17 = .ok (.getfield 252, 3) := by decide +kernel
theorem dc_M_proven_20 : decode co_M_proven 20 = .ok (.goto 4, 3) := by decide +kernel
theorem dc_M_proven_23 : decode co_M_proven 23 = .ok (.lconst 0, 1) := by decide +kernel
theorem dc_M_proven_24 : decode co_M_proven 24 = .ok (.lreturn, 1) := by decide +kernel
