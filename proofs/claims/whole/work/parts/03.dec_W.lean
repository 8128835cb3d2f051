theorem dc_W_init_0 : decode co_W_init 0 = .ok (.aload_n 0, 1) := by decide +kernel
theorem dc_W_init_1 : decode co_W_init 1 = .ok (.invokespecial 3, 3) := by decide +kernel
theorem dc_W_init_4 : decode co_W_init 4 = .ok (.aload_n 0, 1) := by decide +kernel
theorem dc_W_init_5 : decode co_W_init 5 = .ok (.aload_n 1, 1) := by decide +kernel
theorem dc_W_init_6 : decode co_W_init 6 = .ok (.putfield 9, 3) := by decide +kernel
theorem dc_W_init_9 : decode co_W_init 9 = .ok (.aload_n 0, 1) := by decide +kernel
theorem dc_W_init_10 : decode co_W_init 10 = .ok (.aload_n 2, 1) := by decide +kernel
theorem dc_W_init_11 : decode co_W_init 11 = .ok (.putfield 15, 3) := by decide +kernel
theorem dc_W_init_14 : decode co_W_init 14 = .ok (.aload_n 0, 1) := by decide +kernel
theorem dc_W_init_15 : decode co_W_init 15 = .ok (.aload_n 1, 1) := by decide +kernel
theorem dc_W_init_16 : decode co_W_init 16 = .ok (.iconst 0, 1) := by decide +kernel
theorem dc_W_init_17 : decode co_W_init 17 = .ok (.invokevirtual 19, 3) := by decide +kernel
theorem dc_W_init_20 : decode co_W_init 20 = .ok (.putfield 25, 3) := by decide +kernel
theorem dc_W_init_23 : decode co_W_init 23 = .ok (.return_, 1) := by decide +kernel
theorem dc_W_follow_0 : decode co_W_follow 0 = .ok (.aload_n 0, 1) := by decide +kernel
theorem dc_W_follow_1 : decode co_W_follow 1 = .ok (.iload_n 1, 1) := by decide +kernel
theorem dc_W_follow_2 : decode co_W_follow 2 = .ok (.putfield 29, 3) := by decide +kernel
theorem dc_W_follow_5 : decode co_W_follow 5 = .ok (.aload_n 0, 1) := by decide +kernel
theorem dc_W_follow_6 : decode co_W_follow 6 = .ok (.iconst 0, 1) := by decide +kernel
theorem dc_W_follow_7 : decode co_W_follow 7 = .ok (.putfield 33, 3) := by decide +kernel
theorem dc_W_follow_10 : decode co_W_follow 10 = .ok (.aload_n 0, 1) := by decide +kernel
theorem dc_W_follow_11 : decode co_W_follow 11 = .ok (.iconst 0, 1) := by decide +kernel
theorem dc_W_follow_12 : decode co_W_follow 12 = .ok (.putfield 36, 3) := by decide +kernel
theorem dc_W_follow_15 : decode co_W_follow 15 = .ok (.aload_n 0, 1) := by decide +kernel
theorem dc_W_follow_16 : decode co_W_follow 16 = .ok (.iconst 0, 1) := by decide +kernel
theorem dc_W_follow_17 : decode co_W_follow 17 = .ok (.aload_n 2, 1) := by decide +kernel
theorem dc_W_follow_18 : decode co_W_follow 18 = .ok (.aload_n 2, 1) := by decide +kernel
theorem dc_W_follow_19 : decode co_W_follow 19 = .ok (.arraylength, 1) := by decide +kernel
theorem dc_W_follow_20 : decode co_W_follow 20 = .ok (.iconst 0, 1) := by decide +kernel
theorem dc_W_follow_21 : decode co_W_follow 21 = .ok (.invokevirtual 40, 3) := by decide +kernel
theorem dc_W_follow_24 : decode co_W_follow 24 = .ok (.ifCond .ne 5, 3) := by decide +kernel
theorem dc_W_follow_27 : decode co_W_follow 27 = .ok (.iconst (-1), 1) := by decide +kernel
theorem dc_W_follow_28 : decode co_W_follow 28 = .ok (.ireturn, 1) := by decide +kernel
theorem dc_W_follow_29 : decode co_W_follow 29 = .ok (.iconst 0, 1) := by decide +kernel
theorem dc_W_follow_30 : decode co_W_follow 30 = .ok (.istore_n 3, 1) := by decide +kernel
theorem dc_W_follow_31 : decode co_W_follow 31 = .ok (.iconst 0, 1) := by decide +kernel
theorem dc_W_follow_32 : decode co_W_follow 32 = .ok (.istore 4, 2) := by decide +kernel
theorem dc_W_follow_34 : decode co_W_follow 34 = .ok (.iload 4, 2) := by decide +kernel
theorem dc_W_follow_36 : decode co_W_follow 36 = .ok (.sipush 2020, 3) := by decide +kernel
theorem dc_W_follow_39 : decode co_W_follow 39 = .ok (.if_icmp .ge 36, 3) := by decide +kernel
theorem dc_W_follow_42 : decode co_W_follow 42 = .ok (.iload_n 3, 1) := by decide +kernel
theorem dc_W_follow_43 : decode co_W_follow 43 = .ok (.ifCond .ne 32, 3) := by decide +kernel
theorem dc_W_follow_46 : decode co_W_follow 46 = .ok (.aload_n 0, 1) := by decide +kernel
theorem dc_W_follow_47 : decode co_W_follow 47 = .ok (.invokevirtual 44, 3) := by decide +kernel
theorem dc_W_follow_50 : decode co_W_follow 50 = .ok (.istore 5, 2) := by decide +kernel
theorem dc_W_follow_52 : decode co_W_follow 52 = .ok (.iload 5, 2) := by decide +kernel
theorem dc_W_follow_54 : decode co_W_follow 54 = .ok (.iconst (-1), 1) := by decide +kernel
theorem dc_W_follow_55 : decode co_W_follow 55 = .ok (.if_icmp .ne 7, 3) := by decide +kernel
theorem dc_W_follow_58 : decode co_W_follow 58 = .ok (.iconst 1, 1) := by decide +kernel
theorem dc_W_follow_59 : decode co_W_follow 59 = .ok (.goto 9, 3) := by decide +kernel
theorem dc_W_follow_62 : decode co_W_follow 62 = .ok (.aload_n 0, 1) := by decide +kernel
theorem dc_W_follow_63 : decode co_W_follow 63 = .ok (.iload 5, 2) := by decide +kernel
theorem dc_W_follow_65 : decode co_W_follow 65 = .ok (.invokevirtual 48, 3) := by decide +kernel
theorem dc_W_follow_68 : decode co_W_follow 68 = .ok (.istore_n 3, 1) := by decide +kernel
theorem dc_W_follow_69 : decode co_W_follow 69 = .ok (.iinc 4 1, 3) := by decide +kernel
theorem dc_W_follow_72 : decode co_W_follow 72 = .ok (.goto (-38), 3) := by decide +kernel
theorem dc_W_follow_75 : decode co_W_follow 75 = .ok (.iload_n 3, 1) := by decide +kernel
theorem dc_W_follow_76 : decode co_W_follow 76 = .ok (.iconst 2, 1) := by decide +kernel
theorem dc_W_follow_77 : decode co_W_follow 77 = .ok (.if_icmp .eq 19, 3) := by decide +kernel
theorem dc_W_follow_80 : decode co_W_follow 80 = .ok (.aload_n 0, 1) := by decide +kernel
theorem dc_W_follow_81 : decode co_W_follow 81 = .ok (.getfield 52, 3) := by decide +kernel
theorem dc_W_follow_84 : decode co_W_follow 84 = .ok (.aload_n 0, 1) := by decide +kernel
theorem dc_W_follow_85 : decode co_W_follow 85 = .ok (.getfield 9, 3) := by decide +kernel
theorem dc_W_follow_88 : decode co_W_follow 88 = .ok (.invokevirtual 55, 3) := by decide +kernel
theorem dc_W_follow_91 : decode co_W_follow 91 = .ok (.iconst 1, 1) := by decide +kernel
theorem dc_W_follow_92 : decode co_W_follow 92 = .ok (.isub, 1) := by decide +kernel
theorem dc_W_follow_93 : decode co_W_follow 93 = .ok (.if_icmp .eq 5, 3) := by decide +kernel
theorem dc_W_follow_96 : decode co_W_follow 96 = .ok (.iconst (-1), 1) := by decide +kernel
theorem dc_W_follow_97 : decode co_W_follow 97 = .ok (.ireturn, 1) := by decide +kernel
theorem dc_W_follow_98 : decode co_W_follow 98 = .ok (.aload_n 0, 1) := by decide +kernel
theorem dc_W_follow_99 : decode co_W_follow 99 = .ok (.getfield 36, 3) := by decide +kernel
theorem dc_W_follow_102 : decode co_W_follow 102 = .ok (.ifCond .eq 7, 3) := by decide +kernel
theorem dc_W_follow_105 : decode co_W_follow 105 = .ok (.iconst 1, 1) := by decide +kernel
theorem dc_W_follow_106 : decode co_W_follow 106 = .ok (.goto 4, 3) := by decide +kernel
theorem dc_W_follow_109 : decode co_W_follow 109 = .ok (.iconst 0, 1) := by decide +kernel
theorem dc_W_follow_110 : decode co_W_follow 110 = .ok (.ireturn, 1) := by decide +kernel
theorem dc_W_foundNonce_0 : decode co_W_foundNonce 0 = .ok (.aload_n 0, 1) := by decide +kernel
theorem dc_W_foundNonce_1 : decode co_W_foundNonce 1 = .ok (.getfield 58, 3) := by decide +kernel
theorem dc_W_foundNonce_4 : decode co_W_foundNonce 4 = .ok (.lreturn, 1) := by decide +kernel
theorem dc_W_foundBalance_0 : decode co_W_foundBalance 0 = .ok (.aload_n 0, 1) := by decide +kernel
theorem dc_W_foundBalance_1 : decode co_W_foundBalance 1 = .ok (.getfield 62, 3) := by decide +kernel
theorem dc_W_foundBalance_4 : decode co_W_foundBalance 4 = .ok (.lreturn, 1) := by decide +kernel
theorem dc_W_enterPart_0 : decode co_W_enterPart 0 = .ok (.aload_n 0, 1) := by decide +kernel
theorem dc_W_enterPart_1 : decode co_W_enterPart 1 = .ok (.getfield 9, 3) := by decide +kernel
theorem dc_W_enterPart_4 : decode co_W_enterPart 4 = .ok (.iload_n 1, 1) := by decide +kernel
theorem dc_W_enterPart_5 : decode co_W_enterPart 5 = .ok (.invokevirtual 65, 3) := by decide +kernel
theorem dc_W_enterPart_8 : decode co_W_enterPart 8 = .ok (.ifCond .ne 5, 3) := by decide +kernel
theorem dc_W_enterPart_11 : decode co_W_enterPart 11 = .ok (.iconst 0, 1) := by decide +kernel
theorem dc_W_enterPart_12 : decode co_W_enterPart 12 = .ok (.ireturn, 1) := by decide +kernel
theorem dc_W_enterPart_13 : decode co_W_enterPart 13 = .ok (.aload_n 0, 1) := by decide +kernel
theorem dc_W_enterPart_14 : decode co_W_enterPart 14 = .ok (.getfield 15, 3) := by decide +kernel
theorem dc_W_enterPart_17 : decode co_W_enterPart 17 = .ok (.aload_n 0, 1) := by decide +kernel
theorem dc_W_enterPart_18 : decode co_W_enterPart 18 = .ok (.getfield 9, 3) := by decide +kernel
theorem dc_W_enterPart_21 : decode co_W_enterPart 21 = .ok (.iload_n 1, 1) := by decide +kernel
theorem dc_W_enterPart_22 : decode co_W_enterPart 22 = .ok (.invokevirtual 19, 3) := by decide +kernel
theorem dc_W_enterPart_25 : decode co_W_enterPart 25 = .ok (.iconst 0, 1) := by decide +kernel
theorem dc_W_enterPart_26 : decode co_W_enterPart 26 = .ok (.aload_n 0, 1) := by decide +kernel
theorem dc_W_enterPart_27 : decode co_W_enterPart 27 = .ok (.getfield 9, 3) := by decide +kernel
theorem dc_W_enterPart_30 : decode co_W_enterPart 30 = .ok (.iload_n 1, 1) := by decide +kernel
theorem dc_W_enterPart_31 : decode co_W_enterPart 31 = .ok (.invokevirtual 69, 3) := by decide +kernel
theorem dc_W_enterPart_34 : decode co_W_enterPart 34 = .ok (.invokevirtual 72, 3) := by decide +kernel
theorem dc_W_enterPart_37 : decode co_W_enterPart 37 = .ok (.aload_n 0, 1) := by decide +kernel
theorem dc_W_enterPart_38 : decode co_W_enterPart 38 = .ok (.getfield 15, 3) := by decide +kernel
theorem dc_W_enterPart_41 : decode co_W_enterPart 41 = .ok (.aload_n 2, 1) := by decide +kernel
theorem dc_W_enterPart_42 : decode co_W_enterPart 42 = .ok (.iload_n 3, 1) := by decide +kernel
theorem dc_W_enterPart_43 : decode co_W_enterPart 43 = .ok (.iload 4, 2) := by decide +kernel
theorem dc_W_enterPart_45 : decode co_W_enterPart 45 = .ok (.invokevirtual 78, 3) := by decide +kernel
theorem dc_W_enterPart_48 : decode co_W_enterPart 48 = .ok (.ifCond .ne 5, 3) := by decide +kernel
theorem dc_W_enterPart_51 : decode co_W_enterPart 51 = .ok (.iconst 0, 1) := by decide +kernel
theorem dc_W_enterPart_52 : decode co_W_enterPart 52 = .ok (.ireturn, 1) := by decide +kernel
theorem dc_W_enterPart_53 : decode co_W_enterPart 53 = .ok (.aload_n 0, 1) := by decide +kernel
theorem dc_W_enterPart_54 : decode co_W_enterPart 54 = .ok (.iload_n 1, 1) := by decide +kernel
theorem dc_W_enterPart_55 : decode co_W_enterPart 55 = .ok (.putfield 52, 3) := by decide +kernel
theorem dc_W_enterPart_58 : decode co_W_enterPart 58 = .ok (.aload_n 0, 1) := by decide +kernel
theorem dc_W_enterPart_59 : decode co_W_enterPart 59 = .ok (.aload_n 0, 1) := by decide +kernel
theorem dc_W_enterPart_60 : decode co_W_enterPart 60 = .ok (.getfield 9, 3) := by decide +kernel
theorem dc_W_enterPart_63 : decode co_W_enterPart 63 = .ok (.iload_n 1, 1) := by decide +kernel
theorem dc_W_enterPart_64 : decode co_W_enterPart 64 = .ok (.invokevirtual 19, 3) := by decide +kernel
theorem dc_W_enterPart_67 : decode co_W_enterPart 67 = .ok (.putfield 25, 3) := by decide +kernel
theorem dc_W_enterPart_70 : decode co_W_enterPart 70 = .ok (.aload_n 0, 1) := by decide +kernel
theorem dc_W_enterPart_71 : decode co_W_enterPart 71 = .ok (.aload_n 0, 1) := by decide +kernel
theorem dc_W_enterPart_72 : decode co_W_enterPart 72 = .ok (.getfield 9, 3) := by decide +kernel
theorem dc_W_enterPart_75 : decode co_W_enterPart 75 = .ok (.iload_n 1, 1) := by decide +kernel
theorem dc_W_enterPart_76 : decode co_W_enterPart 76 = .ok (.invokevirtual 69, 3) := by decide +kernel
theorem dc_W_enterPart_79 : decode co_W_enterPart 79 = .ok (.putfield 82, 3) := by decide +kernel
theorem dc_W_enterPart_82 : decode co_W_enterPart 82 = .ok (.aload_n 0, 1) := by decide +kernel
theorem dc_W_enterPart_83 : decode co_W_enterPart 83 = .ok (.iconst 0, 1) := by decide +kernel
theorem dc_W_enterPart_84 : decode co_W_enterPart 84 = .ok (.putfield 85, 3) := by decide +kernel
theorem dc_W_enterPart_87 : decode co_W_enterPart 87 = .ok (.iconst 1, 1) := by decide +kernel
theorem dc_W_enterPart_88 : decode co_W_enterPart 88 = .ok (.ireturn, 1) := by decide +kernel
theorem dc_W_goOn_0 : decode co_W_goOn 0 = .ok (.aload_n 0, 1) := by decide +kernel
theorem dc_W_goOn_1 : decode co_W_goOn 1 = .ok (.iload_n 1, 1) := by decide +kernel
theorem dc_W_goOn_2 : decode co_W_goOn 2 = .ok (.invokevirtual 88, 3) := by decide +kernel
theorem dc_W_goOn_5 : decode co_W_goOn 5 = .ok (.istore_n 2, 1) := by decide +kernel
theorem dc_W_goOn_6 : decode co_W_goOn 6 = .ok (.iload_n 2, 1) := by decide +kernel
theorem dc_W_goOn_7 : decode co_W_goOn 7 = .ok (.sipush 160, 3) := by decide +kernel
theorem dc_W_goOn_10 : decode co_W_goOn 10 = .ok (.if_icmp .ne 33, 3) := by decide +kernel
theorem dc_W_goOn_13 : decode co_W_goOn 13 = .ok (.aload_n 0, 1) := by decide +kernel
theorem dc_W_goOn_14 : decode co_W_goOn 14 = .ok (.aload_n 0, 1) := by decide +kernel
theorem dc_W_goOn_15 : decode co_W_goOn 15 = .ok (.getfield 52, 3) := by decide +kernel
theorem dc_W_goOn_18 : decode co_W_goOn 18 = .ok (.iconst 1, 1) := by decide +kernel
theorem dc_W_goOn_19 : decode co_W_goOn 19 = .ok (.iadd, 1) := by decide +kernel
theorem dc_W_goOn_20 : decode co_W_goOn 20 = .ok (.aload_n 0, 1) := by decide +kernel
theorem dc_W_goOn_21 : decode co_W_goOn 21 = .ok (.getfield 25, 3) := by decide +kernel
theorem dc_W_goOn_24 : decode co_W_goOn 24 = .ok (.aload_n 0, 1) := by decide +kernel
theorem dc_W_goOn_25 : decode co_W_goOn 25 = .ok (.getfield 82, 3) := by decide +kernel
theorem dc_W_goOn_28 : decode co_W_goOn 28 = .ok (.iload_n 1, 1) := by decide +kernel
theorem dc_W_goOn_29 : decode co_W_goOn 29 = .ok (.iconst 1, 1) := by decide +kernel
theorem dc_W_goOn_30 : decode co_W_goOn 30 = .ok (.iadd, 1) := by decide +kernel
theorem dc_W_goOn_31 : decode co_W_goOn 31 = .ok (.invokevirtual 40, 3) := by decide +kernel
theorem dc_W_goOn_34 : decode co_W_goOn 34 = .ok (.ifCond .eq 7, 3) := by decide +kernel
theorem dc_W_goOn_37 : decode co_W_goOn 37 = .ok (.iconst 0, 1) := by decide +kernel
theorem dc_W_goOn_38 : decode co_W_goOn 38 = .ok (.goto 4, 3) := by decide +kernel
theorem dc_W_goOn_41 : decode co_W_goOn 41 = .ok (.iconst 2, 1) := by decide +kernel
theorem dc_W_goOn_42 : decode co_W_goOn 42 = .ok (.ireturn, 1) := by decide +kernel
theorem dc_W_goOn_43 : decode co_W_goOn 43 = .ok (.iload_n 2, 1) := by decide +kernel
theorem dc_W_goOn_44 : decode co_W_goOn 44 = .ok (.sipush 192, 3) := by decide +kernel
theorem dc_W_goOn_47 : decode co_W_goOn 47 = .ok (.if_icmp .ge 5, 3) := by decide +kernel
theorem dc_W_goOn_50 : decode co_W_goOn 50 = .ok (.iconst 1, 1) := by decide +kernel
theorem dc_W_goOn_51 : decode co_W_goOn 51 = .ok (.ireturn, 1) := by decide +kernel
theorem dc_W_goOn_52 : decode co_W_goOn 52 = .ok (.aload_n 0, 1) := by decide +kernel
theorem dc_W_goOn_53 : decode co_W_goOn 53 = .ok (.iload_n 1, 1) := by decide +kernel
theorem dc_W_goOn_54 : decode co_W_goOn 54 = .ok (.putfield 85, 3) := by decide +kernel
theorem dc_W_goOn_57 : decode co_W_goOn 57 = .ok (.iconst 0, 1) := by decide +kernel
theorem dc_W_goOn_58 : decode co_W_goOn 58 = .ok (.ireturn, 1) := by decide +kernel
theorem dc_W_passNode_0 : decode co_W_passNode 0 = .ok (.aload_n 0, 1) := by decide +kernel
theorem dc_W_passNode_1 : decode co_W_passNode 1 = .ok (.invokevirtual 91, 3) := by decide +kernel
theorem dc_W_passNode_4 : decode co_W_passNode 4 = .ok (.istore_n 1, 1) := by decide +kernel
theorem dc_W_passNode_5 : decode co_W_passNode 5 = .ok (.iload_n 1, 1) := by decide +kernel
theorem dc_W_passNode_6 : decode co_W_passNode 6 = .ok (.iconst (-1), 1) := by decide +kernel
theorem dc_W_passNode_7 : decode co_W_passNode 7 = .ok (.if_icmp .ne 7, 3) := by decide +kernel
theorem dc_W_passNode_10 : decode co_W_passNode 10 = .ok (.iconst (-1), 1) := by decide +kernel
theorem dc_W_passNode_11 : decode co_W_passNode 11 = .ok (.goto 8, 3) := by decide +kernel
theorem dc_W_passNode_14 : decode co_W_passNode 14 = .ok (.aload_n 0, 1) := by decide +kernel
theorem dc_W_passNode_15 : decode co_W_passNode 15 = .ok (.iload_n 1, 1) := by decide +kernel
theorem dc_W_passNode_16 : decode co_W_passNode 16 = .ok (.invokevirtual 94, 3) := by decide +kernel
theorem dc_W_passNode_19 : decode co_W_passNode 19 = .ok (.istore_n 2, 1) := by decide +kernel
theorem dc_W_passNode_20 : decode co_W_passNode 20 = .ok (.iload_n 2, 1) := by decide +kernel
theorem dc_W_passNode_21 : decode co_W_passNode 21 = .ok (.iconst (-1), 1) := by decide +kernel
theorem dc_W_passNode_22 : decode co_W_passNode 22 = .ok (.if_icmp .ne 7, 3) := by decide +kernel
theorem dc_W_passNode_25 : decode co_W_passNode 25 = .ok (.iconst (-1), 1) := by decide +kernel
theorem dc_W_passNode_26 : decode co_W_passNode 26 = .ok (.goto 8, 3) := by decide +kernel
theorem dc_W_passNode_29 : decode co_W_passNode 29 = .ok (.aload_n 0, 1) := by decide +kernel
theorem dc_W_passNode_30 : decode co_W_passNode 30 = .ok (.iload_n 2, 1) := by decide +kernel
theorem dc_W_passNode_31 : decode co_W_passNode 31 = .ok (.invokevirtual 94, 3) := by decide +kernel
theorem dc_W_passNode_34 : decode co_W_passNode 34 = .ok (.istore_n 3, 1) := by decide +kernel
theorem dc_W_passNode_35 : decode co_W_passNode 35 = .ok (.iload_n 3, 1) := by decide +kernel
theorem dc_W_passNode_36 : decode co_W_passNode 36 = .ok (.iconst (-1), 1) := by decide +kernel
theorem dc_W_passNode_37 : decode co_W_passNode 37 = .ok (.if_icmp .ne 5, 3) := by decide +kernel
theorem dc_W_passNode_40 : decode co_W_passNode 40 = .ok (.iconst (-1), 1) := by decide +kernel
theorem dc_W_passNode_41 : decode co_W_passNode 41 = .ok (.ireturn, 1) := by decide +kernel
theorem dc_W_passNode_42 : decode co_W_passNode 42 = .ok (.iload_n 3, 1) := by decide +kernel
theorem dc_W_passNode_43 : decode co_W_passNode 43 = .ok (.aload_n 0, 1) := by decide +kernel
theorem dc_W_passNode_44 : decode co_W_passNode 44 = .ok (.iload_n 1, 1) := by decide +kernel
theorem dc_W_passNode_45 : decode co_W_passNode 45 = .ok (.invokevirtual 97, 3) := by decide +kernel
theorem dc_W_passNode_48 : decode co_W_passNode 48 = .ok (.if_icmp .ne 12, 3) := by decide +kernel
theorem dc_W_passNode_51 : decode co_W_passNode 51 = .ok (.aload_n 0, 1) := by decide +kernel
theorem dc_W_passNode_52 : decode co_W_passNode 52 = .ok (.iload_n 1, 1) := by decide +kernel
theorem dc_W_passNode_53 : decode co_W_passNode 53 = .ok (.iload_n 2, 1) := by decide +kernel
theorem dc_W_passNode_54 : decode co_W_passNode 54 = .ok (.invokevirtual 100, 3) := by decide +kernel
theorem dc_W_passNode_57 : decode co_W_passNode 57 = .ok (.goto 8, 3) := by decide +kernel
theorem dc_W_passNode_60 : decode co_W_passNode 60 = .ok (.aload_n 0, 1) := by decide +kernel
theorem dc_W_passNode_61 : decode co_W_passNode 61 = .ok (.iload_n 1, 1) := by decide +kernel
theorem dc_W_passNode_62 : decode co_W_passNode 62 = .ok (.invokevirtual 104, 3) := by decide +kernel
theorem dc_W_passNode_65 : decode co_W_passNode 65 = .ok (.ireturn, 1) := by decide +kernel
theorem dc_W_passDigits_0 : decode co_W_passDigits 0 = .ok (.aload_n 0, 1) := by decide +kernel
theorem dc_W_passDigits_1 : decode co_W_passDigits 1 = .ok (.iload_n 1, 1) := by decide +kernel
theorem dc_W_passDigits_2 : decode co_W_passDigits 2 = .ok (.invokevirtual 107, 3) := by decide +kernel
theorem dc_W_passDigits_5 : decode co_W_passDigits 5 = .ok (.istore_n 3, 1) := by decide +kernel
theorem dc_W_passDigits_6 : decode co_W_passDigits 6 = .ok (.iload_n 2, 1) := by decide +kernel
theorem dc_W_passDigits_7 : decode co_W_passDigits 7 = .ok (.iload_n 3, 1) := by decide +kernel
theorem dc_W_passDigits_8 : decode co_W_passDigits 8 = .ok (.isub, 1) := by decide +kernel
theorem dc_W_passDigits_9 : decode co_W_passDigits 9 = .ok (.istore 4, 2) := by decide +kernel
theorem dc_W_passDigits_11 : decode co_W_passDigits 11 = .ok (.iload 4, 2) := by decide +kernel
theorem dc_W_passDigits_13 : decode co_W_passDigits 13 = .ok (.ifCond .ne 5, 3) := by decide +kernel
theorem dc_W_passDigits_16 : decode co_W_passDigits 16 = .ok (.iconst (-1), 1) := by decide +kernel
theorem dc_W_passDigits_17 : decode co_W_passDigits 17 = .ok (.ireturn, 1) := by decide +kernel
theorem dc_W_passDigits_18 : decode co_W_passDigits 18 = .ok (.aload_n 0, 1) := by decide +kernel
theorem dc_W_passDigits_19 : decode co_W_passDigits 19 = .ok (.iload_n 3, 1) := by decide +kernel
theorem dc_W_passDigits_20 : decode co_W_passDigits 20 = .ok (.invokevirtual 88, 3) := by decide +kernel
theorem dc_W_passDigits_23 : decode co_W_passDigits 23 = .ok (.bipush 16, 2) := by decide +kernel
theorem dc_W_passDigits_25 : decode co_W_passDigits 25 = .ok (.idiv, 1) := by decide +kernel
theorem dc_W_passDigits_26 : decode co_W_passDigits 26 = .ok (.istore 5, 2) := by decide +kernel
theorem dc_W_passDigits_28 : decode co_W_passDigits 28 = .ok (.iload 5, 2) := by decide +kernel
theorem dc_W_passDigits_30 : decode co_W_passDigits 30 = .ok (.iconst 2, 1) := by decide +kernel
theorem dc_W_passDigits_31 : decode co_W_passDigits 31 = .ok (.irem, 1) := by decide +kernel
theorem dc_W_passDigits_32 : decode co_W_passDigits 32 = .ok (.istore 6, 2) := by decide +kernel
theorem dc_W_passDigits_34 : decode co_W_passDigits 34 = .ok (.iconst 2, 1) := by decide +kernel
theorem dc_W_passDigits_35 : decode co_W_passDigits 35 = .ok (.iload 4, 2) := by decide +kernel
theorem dc_W_passDigits_37 : decode co_W_passDigits 37 = .ok (.imul, 1) := by decide +kernel
theorem dc_W_passDigits_38 : decode co_W_passDigits 38 = .ok (.iconst 2, 1) := by decide +kernel
theorem dc_W_passDigits_39 : decode co_W_passDigits 39 = .ok (.isub, 1) := by decide +kernel
theorem dc_W_passDigits_40 : decode co_W_passDigits 40 = .ok (.iload 6, 2) := by decide +kernel
theorem dc_W_passDigits_42 : decode co_W_passDigits 42 = .ok (.iadd, 1) := by decide +kernel
theorem dc_W_passDigits_43 : decode co_W_passDigits 43 = .ok (.istore 7, 2) := by decide +kernel
theorem dc_W_passDigits_45 : decode co_W_passDigits 45 = .ok (.aload_n 0, 1) := by decide +kernel
theorem dc_W_passDigits_46 : decode co_W_passDigits 46 = .ok (.getfield 33, 3) := by decide +kernel
theorem dc_W_passDigits_49 : decode co_W_passDigits 49 = .ok (.iload 7, 2) := by decide +kernel
theorem dc_W_passDigits_51 : decode co_W_passDigits 51 = .ok (.iadd, 1) := by decide +kernel
theorem dc_W_passDigits_52 : decode co_W_passDigits 52 = .ok (.iconst 4, 1) := by decide +kernel
theorem dc_W_passDigits_53 : decode co_W_passDigits 53 = .ok (.if_icmp .gt 17, 3) := by decide +kernel
theorem dc_W_passDigits_56 : decode co_W_passDigits 56 = .ok (.aload_n 0, 1) := by decide +kernel
theorem dc_W_passDigits_57 : decode co_W_passDigits 57 = .ok (.iload_n 3, 1) := by decide +kernel
theorem dc_W_passDigits_58 : decode co_W_passDigits 58 = .ok (.iconst 2, 1) := by decide +kernel
theorem dc_W_passDigits_59 : decode co_W_passDigits 59 = .ok (.iload 6, 2) := by decide +kernel
theorem dc_W_passDigits_61 : decode co_W_passDigits 61 = .ok (.isub, 1) := by decide +kernel
theorem dc_W_passDigits_62 : decode co_W_passDigits 62 = .ok (.iload 7, 2) := by decide +kernel
theorem dc_W_passDigits_64 : decode co_W_passDigits 64 = .ok (.invokevirtual 110, 3) := by decide +kernel
theorem dc_W_passDigits_67 : decode co_W_passDigits 67 = .ok (.ifCond .ne 5, 3) := by decide +kernel
theorem dc_W_passDigits_70 : decode co_W_passDigits 70 = .ok (.iconst (-1), 1) := by decide +kernel
theorem dc_W_passDigits_71 : decode co_W_passDigits 71 = .ok (.ireturn, 1) := by decide +kernel
theorem dc_W_passDigits_72 : decode co_W_passDigits 72 = .ok (.aload_n 0, 1) := by decide +kernel
theorem dc_W_passDigits_73 : decode co_W_passDigits 73 = .ok (.dup, 1) := by decide +kernel
theorem dc_W_passDigits_74 : decode co_W_passDigits 74 = .ok (.getfield 33, 3) := by decide +kernel
theorem dc_W_passDigits_77 : decode co_W_passDigits 77 = .ok (.iload 7, 2) := by decide +kernel
theorem dc_W_passDigits_79 : decode co_W_passDigits 79 = .ok (.iadd, 1) := by decide +kernel
theorem dc_W_passDigits_80 : decode co_W_passDigits 80 = .ok (.putfield 33, 3) := by decide +kernel
theorem dc_W_passDigits_83 : decode co_W_passDigits 83 = .ok (.iload 5, 2) := by decide +kernel
theorem dc_W_passDigits_85 : decode co_W_passDigits 85 = .ok (.iconst 2, 1) := by decide +kernel
theorem dc_W_passDigits_86 : decode co_W_passDigits 86 = .ok (.iand, 1) := by decide +kernel
theorem dc_W_passDigits_87 : decode co_W_passDigits 87 = .ok (.ifCond .ne 5, 3) := by decide +kernel
theorem dc_W_passDigits_90 : decode co_W_passDigits 90 = .ok (.iload_n 2, 1) := by decide +kernel
theorem dc_W_passDigits_91 : decode co_W_passDigits 91 = .ok (.ireturn, 1) := by decide +kernel
theorem dc_W_passDigits_92 : decode co_W_passDigits 92 = .ok (.aload_n 0, 1) := by decide +kernel
theorem dc_W_passDigits_93 : decode co_W_passDigits 93 = .ok (.getfield 33, 3) := by decide +kernel
theorem dc_W_passDigits_96 : decode co_W_passDigits 96 = .ok (.iconst 4, 1) := by decide +kernel
theorem dc_W_passDigits_97 : decode co_W_passDigits 97 = .ok (.if_icmp .ne 8, 3) := by decide +kernel
theorem dc_W_passDigits_100 : decode co_W_passDigits 100 = .ok (.aload_n 0, 1) := by decide +kernel
theorem dc_W_passDigits_101 : decode co_W_passDigits 101 = .ok (.iload_n 2, 1) := by decide +kernel
theorem dc_W_passDigits_102 : decode co_W_passDigits 102 = .ok (.invokevirtual 114, 3) := by decide +kernel
theorem dc_W_passDigits_105 : decode co_W_passDigits 105 = .ok (.iconst (-1), 1) := by decide +kernel
theorem dc_W_passDigits_106 : decode co_W_passDigits 106 = .ok (.ireturn, 1) := by decide +kernel
theorem dc_W_haveDigits_0 : decode co_W_haveDigits 0 = .ok (.iconst 0, 1) := by decide +kernel
theorem dc_W_haveDigits_1 : decode co_W_haveDigits 1 = .ok (.istore 4, 2) := by decide +kernel
theorem dc_W_haveDigits_3 : decode co_W_haveDigits 3 = .ok (.iload 4, 2) := by decide +kernel
theorem dc_W_haveDigits_5 : decode co_W_haveDigits 5 = .ok (.iload_n 3, 1) := by decide +kernel
theorem dc_W_haveDigits_6 : decode co_W_haveDigits 6 = .ok (.if_icmp .ge 70, 3) := by decide +kernel
theorem dc_W_haveDigits_9 : decode co_W_haveDigits 9 = .ok (.iload_n 2, 1) := by decide +kernel
theorem dc_W_haveDigits_10 : decode co_W_haveDigits 10 = .ok (.iload 4, 2) := by decide +kernel
theorem dc_W_haveDigits_12 : decode co_W_haveDigits 12 = .ok (.iadd, 1) := by decide +kernel
theorem dc_W_haveDigits_13 : decode co_W_haveDigits 13 = .ok (.istore 5, 2) := by decide +kernel
theorem dc_W_haveDigits_15 : decode co_W_haveDigits 15 = .ok (.aload_n 0, 1) := by decide +kernel
theorem dc_W_haveDigits_16 : decode co_W_haveDigits 16 = .ok (.iload_n 1, 1) := by decide +kernel
theorem dc_W_haveDigits_17 : decode co_W_haveDigits 17 = .ok (.iload 5, 2) := by decide +kernel
theorem dc_W_haveDigits_19 : decode co_W_haveDigits 19 = .ok (.iconst 2, 1) := by decide +kernel
theorem dc_W_haveDigits_20 : decode co_W_haveDigits 20 = .ok (.idiv, 1) := by decide +kernel
theorem dc_W_haveDigits_21 : decode co_W_haveDigits 21 = .ok (.iadd, 1) := by decide +kernel
theorem dc_W_haveDigits_22 : decode co_W_haveDigits 22 = .ok (.invokevirtual 88, 3) := by decide +kernel
theorem dc_W_haveDigits_25 : decode co_W_haveDigits 25 = .ok (.istore 6, 2) := by decide +kernel
theorem dc_W_haveDigits_27 : decode co_W_haveDigits 27 = .ok (.iload 5, 2) := by decide +kernel
theorem dc_W_haveDigits_29 : decode co_W_haveDigits 29 = .ok (.iconst 2, 1) := by decide +kernel
theorem dc_W_haveDigits_30 : decode co_W_haveDigits 30 = .ok (.irem, 1) := by decide +kernel
theorem dc_W_haveDigits_31 : decode co_W_haveDigits 31 = .ok (.ifCond .ne 11, 3) := by decide +kernel
theorem dc_W_haveDigits_34 : decode co_W_haveDigits 34 = .ok (.iload 6, 2) := by decide +kernel
theorem dc_W_haveDigits_36 : decode co_W_haveDigits 36 = .ok (.bipush 16, 2) := by decide +kernel
theorem dc_W_haveDigits_38 : decode co_W_haveDigits 38 = .ok (.idiv, 1) := by decide +kernel
theorem dc_W_haveDigits_39 : decode co_W_haveDigits 39 = .ok (.goto 8, 3) := by decide +kernel
theorem dc_W_haveDigits_42 : decode co_W_haveDigits 42 = .ok (.iload 6, 2) := by decide +kernel
theorem dc_W_haveDigits_44 : decode co_W_haveDigits 44 = .ok (.bipush 16, 2) := by decide +kernel
theorem dc_W_haveDigits_46 : decode co_W_haveDigits 46 = .ok (.irem, 1) := by decide +kernel
theorem dc_W_haveDigits_47 : decode co_W_haveDigits 47 = .ok (.istore 7, 2) := by decide +kernel
theorem dc_W_haveDigits_49 : decode co_W_haveDigits 49 = .ok (.iload 7, 2) := by decide +kernel
theorem dc_W_haveDigits_51 : decode co_W_haveDigits 51 = .ok (.aload_n 0, 1) := by decide +kernel
theorem dc_W_haveDigits_52 : decode co_W_haveDigits 52 = .ok (.getfield 29, 3) := by decide +kernel
theorem dc_W_haveDigits_55 : decode co_W_haveDigits 55 = .ok (.aload_n 0, 1) := by decide +kernel
theorem dc_W_haveDigits_56 : decode co_W_haveDigits 56 = .ok (.getfield 33, 3) := by decide +kernel
theorem dc_W_haveDigits_59 : decode co_W_haveDigits 59 = .ok (.iload 4, 2) := by decide +kernel
theorem dc_W_haveDigits_61 : decode co_W_haveDigits 61 = .ok (.iadd, 1) := by decide +kernel
theorem dc_W_haveDigits_62 : decode co_W_haveDigits 62 = .ok (.invokestatic 118, 3) := by decide +kernel
theorem dc_W_haveDigits_65 : decode co_W_haveDigits 65 = .ok (.if_icmp .eq 5, 3) := by decide +kernel
theorem dc_W_haveDigits_68 : decode co_W_haveDigits 68 = .ok (.iconst 0, 1) := by decide +kernel
theorem dc_W_haveDigits_69 : decode co_W_haveDigits 69 = .ok (.ireturn, 1) := by decide +kernel
theorem dc_W_haveDigits_70 : decode co_W_haveDigits 70 = .ok (.iinc 4 1, 3) := by decide +kernel
theorem dc_W_haveDigits_73 : decode co_W_haveDigits 73 = .ok (.goto (-70), 3) := by decide +kernel
theorem dc_W_haveDigits_76 : decode co_W_haveDigits 76 = .ok (.iconst 1, 1) := by decide +kernel
theorem dc_W_haveDigits_77 : decode co_W_haveDigits 77 = .ok (.ireturn, 1) := by decide +kernel
theorem dc_W_passFork_0 : decode co_W_passFork 0 = .ok (.aload_n 0, 1) := by decide +kernel
theorem dc_W_passFork_1 : decode co_W_passFork 1 = .ok (.getfield 33, 3) := by decide +kernel
theorem dc_W_passFork_4 : decode co_W_passFork 4 = .ok (.iconst 4, 1) := by decide +kernel
theorem dc_W_passFork_5 : decode co_W_passFork 5 = .ok (.if_icmp .lt 5, 3) := by decide +kernel
theorem dc_W_passFork_8 : decode co_W_passFork 8 = .ok (.iconst (-1), 1) := by decide +kernel
theorem dc_W_passFork_9 : decode co_W_passFork 9 = .ok (.ireturn, 1) := by decide +kernel
theorem dc_W_passFork_10 : decode co_W_passFork 10 = .ok (.iload_n 1, 1) := by decide +kernel
theorem dc_W_passFork_11 : decode co_W_passFork 11 = .ok (.istore_n 2, 1) := by decide +kernel
theorem dc_W_passFork_12 : decode co_W_passFork 12 = .ok (.aload_n 0, 1) := by decide +kernel
theorem dc_W_passFork_13 : decode co_W_passFork 13 = .ok (.getfield 29, 3) := by decide +kernel
theorem dc_W_passFork_16 : decode co_W_passFork 16 = .ok (.aload_n 0, 1) := by decide +kernel
theorem dc_W_passFork_17 : decode co_W_passFork 17 = .ok (.getfield 33, 3) := by decide +kernel
theorem dc_W_passFork_20 : decode co_W_passFork 20 = .ok (.invokestatic 118, 3) := by decide +kernel
theorem dc_W_passFork_23 : decode co_W_passFork 23 = .ok (.istore_n 3, 1) := by decide +kernel
theorem dc_W_passFork_24 : decode co_W_passFork 24 = .ok (.iconst 0, 1) := by decide +kernel
theorem dc_W_passFork_25 : decode co_W_passFork 25 = .ok (.istore 4, 2) := by decide +kernel
theorem dc_W_passFork_27 : decode co_W_passFork 27 = .ok (.iload 4, 2) := by decide +kernel
theorem dc_W_passFork_29 : decode co_W_passFork 29 = .ok (.iload_n 3, 1) := by decide +kernel
theorem dc_W_passFork_30 : decode co_W_passFork 30 = .ok (.if_icmp .ge 20, 3) := by decide +kernel
theorem dc_W_passFork_33 : decode co_W_passFork 33 = .ok (.iload_n 2, 1) := by decide +kernel
theorem dc_W_passFork_34 : decode co_W_passFork 34 = .ok (.iconst (-1), 1) := by decide +kernel
theorem dc_W_passFork_35 : decode co_W_passFork 35 = .ok (.if_icmp .eq 15, 3) := by decide +kernel
theorem dc_W_passFork_38 : decode co_W_passFork 38 = .ok (.aload_n 0, 1) := by decide +kernel
theorem dc_W_passFork_39 : decode co_W_passFork 39 = .ok (.iload_n 2, 1) := by decide +kernel
theorem dc_W_passFork_40 : decode co_W_passFork 40 = .ok (.invokevirtual 94, 3) := by decide +kernel
theorem dc_W_passFork_43 : decode co_W_passFork 43 = .ok (.istore_n 2, 1) := by decide +kernel
theorem dc_W_passFork_44 : decode co_W_passFork 44 = .ok (.iinc 4 1, 3) := by decide +kernel
theorem dc_W_passFork_47 : decode co_W_passFork 47 = .ok (.goto (-20), 3) := by decide +kernel
theorem dc_W_passFork_50 : decode co_W_passFork 50 = .ok (.aload_n 0, 1) := by decide +kernel
theorem dc_W_passFork_51 : decode co_W_passFork 51 = .ok (.dup, 1) := by decide +kernel
theorem dc_W_passFork_52 : decode co_W_passFork 52 = .ok (.getfield 33, 3) := by decide +kernel
theorem dc_W_passFork_55 : decode co_W_passFork 55 = .ok (.iconst 1, 1) := by decide +kernel
theorem dc_W_passFork_56 : decode co_W_passFork 56 = .ok (.iadd, 1) := by decide +kernel
theorem dc_W_passFork_57 : decode co_W_passFork 57 = .ok (.putfield 33, 3) := by decide +kernel
theorem dc_W_passFork_60 : decode co_W_passFork 60 = .ok (.iload_n 2, 1) := by decide +kernel
theorem dc_W_passFork_61 : decode co_W_passFork 61 = .ok (.ireturn, 1) := by decide +kernel
theorem dc_W_findValue_0 : decode co_W_findValue 0 = .ok (.aload_n 0, 1) := by decide +kernel
theorem dc_W_findValue_1 : decode co_W_findValue 1 = .ok (.iload_n 1, 1) := by decide +kernel
theorem dc_W_findValue_2 : decode co_W_findValue 2 = .ok (.invokevirtual 88, 3) := by decide +kernel
theorem dc_W_findValue_5 : decode co_W_findValue 5 = .ok (.sipush 128, 3) := by decide +kernel
theorem dc_W_findValue_8 : decode co_W_findValue 8 = .ok (.if_icmp .ge 9, 3) := by decide +kernel
theorem dc_W_findValue_11 : decode co_W_findValue 11 = .ok (.iload_n 1, 1) := by decide +kernel
theorem dc_W_findValue_12 : decode co_W_findValue 12 = .ok (.iconst 1, 1) := by decide +kernel
theorem dc_W_findValue_13 : decode co_W_findValue 13 = .ok (.iadd, 1) := by decide +kernel
theorem dc_W_findValue_14 : decode co_W_findValue 14 = .ok (.goto 6, 3) := by decide +kernel
theorem dc_W_findValue_17 : decode co_W_findValue 17 = .ok (.iload_n 1, 1) := by decide +kernel
theorem dc_W_findValue_18 : decode co_W_findValue 18 = .ok (.iconst 2, 1) := by decide +kernel
theorem dc_W_findValue_19 : decode co_W_findValue 19 = .ok (.iadd, 1) := by decide +kernel
theorem dc_W_findValue_20 : decode co_W_findValue 20 = .ok (.istore_n 2, 1) := by decide +kernel
theorem dc_W_findValue_21 : decode co_W_findValue 21 = .ok (.aload_n 0, 1) := by decide +kernel
theorem dc_W_findValue_22 : decode co_W_findValue 22 = .ok (.iload_n 2, 1) := by decide +kernel
theorem dc_W_findValue_23 : decode co_W_findValue 23 = .ok (.invokevirtual 94, 3) := by decide +kernel
theorem dc_W_findValue_26 : decode co_W_findValue 26 = .ok (.istore_n 3, 1) := by decide +kernel
theorem dc_W_findValue_27 : decode co_W_findValue 27 = .ok (.aload_n 0, 1) := by decide +kernel
theorem dc_W_findValue_28 : decode co_W_findValue 28 = .ok (.iconst 1, 1) := by decide +kernel
theorem dc_W_findValue_29 : decode co_W_findValue 29 = .ok (.putfield 36, 3) := by decide +kernel
theorem dc_W_findValue_32 : decode co_W_findValue 32 = .ok (.aload_n 0, 1) := by decide +kernel
theorem dc_W_findValue_33 : decode co_W_findValue 33 = .ok (.aload_n 0, 1) := by decide +kernel
theorem dc_W_findValue_34 : decode co_W_findValue 34 = .ok (.iload_n 2, 1) := by decide +kernel
theorem dc_W_findValue_35 : decode co_W_findValue 35 = .ok (.iload_n 3, 1) := by decide +kernel
theorem dc_W_findValue_36 : decode co_W_findValue 36 = .ok (.invokevirtual 121, 3) := by decide +kernel
theorem dc_W_findValue_39 : decode co_W_findValue 39 = .ok (.putfield 58, 3) := by decide +kernel
theorem dc_W_findValue_42 : decode co_W_findValue 42 = .ok (.aload_n 0, 1) := by decide +kernel
theorem dc_W_findValue_43 : decode co_W_findValue 43 = .ok (.iload_n 3, 1) := by decide +kernel
theorem dc_W_findValue_44 : decode co_W_findValue 44 = .ok (.iconst (-1), 1) := by decide +kernel
theorem dc_W_findValue_45 : decode co_W_findValue 45 = .ok (.if_icmp .ne 7, 3) := by decide +kernel
theorem dc_W_findValue_48 : decode co_W_findValue 48 = .ok (.lconst 0, 1) := by decide +kernel
theorem dc_W_findValue_49 : decode co_W_findValue 49 = .ok (.goto 13, 3) := by decide +kernel
theorem dc_W_findValue_52 : decode co_W_findValue 52 = .ok (.aload_n 0, 1) := by decide +kernel
theorem dc_W_findValue_53 : decode co_W_findValue 53 = .ok (.iload_n 3, 1) := by decide +kernel
theorem dc_W_findValue_54 : decode co_W_findValue 54 = .ok (.aload_n 0, 1) := by decide +kernel
theorem dc_W_findValue_55 : decode co_W_findValue 55 = .ok (.iload_n 3, 1) := by decide +kernel
theorem dc_W_findValue_56 : decode co_W_findValue 56 = .ok (.invokevirtual 94, 3) := by decide +kernel
theorem dc_W_findValue_59 : decode co_W_findValue 59 = .ok (.invokevirtual 121, 3) := by decide +kernel
theorem dc_W_findValue_62 : decode co_W_findValue 62 = .ok (.putfield 62, 3) := by decide +kernel
theorem dc_W_findValue_65 : decode co_W_findValue 65 = .ok (.return_, 1) := by decide +kernel
theorem dc_W_numberAt_0 : decode co_W_numberAt 0 = .ok (.lconst 0, 1) := by decide +kernel
theorem dc_W_numberAt_1 : decode co_W_numberAt 1 = .ok (.lstore_n 3, 1) := by decide +kernel
theorem dc_W_numberAt_2 : decode co_W_numberAt 2 = .ok (.aload_n 0, 1) := by decide +kernel
theorem dc_W_numberAt_3 : decode co_W_numberAt 3 = .ok (.iload_n 1, 1) := by decide +kernel
theorem dc_W_numberAt_4 : decode co_W_numberAt 4 = .ok (.invokevirtual 107, 3) := by decide +kernel
theorem dc_W_numberAt_7 : decode co_W_numberAt 7 = .ok (.istore 5, 2) := by decide +kernel
theorem dc_W_numberAt_9 : decode co_W_numberAt 9 = .ok (.iload 5, 2) := by decide +kernel
theorem dc_W_numberAt_11 : decode co_W_numberAt 11 = .ok (.iload_n 2, 1) := by decide +kernel
theorem dc_W_numberAt_12 : decode co_W_numberAt 12 = .ok (.if_icmp .ge 22, 3) := by decide +kernel
theorem dc_W_numberAt_15 : decode co_W_numberAt 15 = .ok (.lload_n 3, 1) := by decide +kernel
theorem dc_W_numberAt_16 : decode co_W_numberAt 16 = .ok (.bipush 8, 2) := by decide +kernel
theorem dc_W_numberAt_18 : decode co_W_numberAt 18 = .ok (.lshl, 1) := by decide +kernel
theorem dc_W_numberAt_19 : decode co_W_numberAt 19 = .ok (.aload_n 0, 1) := by decide +kernel
theorem dc_W_numberAt_20 : decode co_W_numberAt 20 = .ok (.iload 5, 2) := by decide +kernel
theorem dc_W_numberAt_22 : decode co_W_numberAt 22 = .ok (.invokevirtual 88, 3) := by decide +kernel
theorem dc_W_numberAt_25 : decode co_W_numberAt 25 = .ok (.i2l, 1) := by decide +kernel
theorem dc_W_numberAt_26 : decode co_W_numberAt 26 = .ok (.lor, 1) := by decide +kernel
theorem dc_W_numberAt_27 : decode co_W_numberAt 27 = .ok (.lstore_n 3, 1) := by decide +kernel
theorem dc_W_numberAt_28 : decode co_W_numberAt 28 = .ok (.iinc 5 1, 3) := by decide +kernel
theorem dc_W_numberAt_31 : decode co_W_numberAt 31 = .ok (.goto (-22), 3) := by decide +kernel
theorem dc_W_numberAt_34 : decode co_W_numberAt 34 = .ok (.lload_n 3, 1) := by decide +kernel
theorem dc_W_numberAt_35 : decode co_W_numberAt 35 = .ok (.lreturn, 1) := by decide +kernel
theorem dc_W_firstItem_0 : decode co_W_firstItem 0 = .ok (.aload_n 0, 1) := by decide +kernel
theorem dc_W_firstItem_1 : decode co_W_firstItem 1 = .ok (.aload_n 0, 1) := by decide +kernel
theorem dc_W_firstItem_2 : decode co_W_firstItem 2 = .ok (.getfield 85, 3) := by decide +kernel
theorem dc_W_firstItem_5 : decode co_W_firstItem 5 = .ok (.invokevirtual 88, 3) := by decide +kernel
theorem dc_W_firstItem_8 : decode co_W_firstItem 8 = .ok (.istore_n 1, 1) := by decide +kernel
theorem dc_W_firstItem_9 : decode co_W_firstItem 9 = .ok (.iload_n 1, 1) := by decide +kernel
theorem dc_W_firstItem_10 : decode co_W_firstItem 10 = .ok (.sipush 192, 3) := by decide +kernel
theorem dc_W_firstItem_13 : decode co_W_firstItem 13 = .ok (.if_icmp .lt 10, 3) := by decide +kernel
theorem dc_W_firstItem_16 : decode co_W_firstItem 16 = .ok (.iload_n 1, 1) := by decide +kernel
theorem dc_W_firstItem_17 : decode co_W_firstItem 17 = .ok (.sipush 249, 3) := by decide +kernel
theorem dc_W_firstItem_20 : decode co_W_firstItem 20 = .ok (.if_icmp .le 5, 3) := by decide +kernel
theorem dc_W_firstItem_23 : decode co_W_firstItem 23 = .ok (.iconst (-1), 1) := by decide +kernel
theorem dc_W_firstItem_24 : decode co_W_firstItem 24 = .ok (.ireturn, 1) := by decide +kernel
theorem dc_W_firstItem_25 : decode co_W_firstItem 25 = .ok (.aload_n 0, 1) := by decide +kernel
theorem dc_W_firstItem_26 : decode co_W_firstItem 26 = .ok (.getfield 85, 3) := by decide +kernel
theorem dc_W_firstItem_29 : decode co_W_firstItem 29 = .ok (.iconst 1, 1) := by decide +kernel
theorem dc_W_firstItem_30 : decode co_W_firstItem 30 = .ok (.iadd, 1) := by decide +kernel
theorem dc_W_firstItem_31 : decode co_W_firstItem 31 = .ok (.iconst 0, 1) := by decide +kernel
theorem dc_W_firstItem_32 : decode co_W_firstItem 32 = .ok (.iload_n 1, 1) := by decide +kernel
theorem dc_W_firstItem_33 : decode co_W_firstItem 33 = .ok (.sipush 192, 3) := by decide +kernel
theorem dc_W_firstItem_36 : decode co_W_firstItem 36 = .ok (.isub, 1) := by decide +kernel
theorem dc_W_firstItem_37 : decode co_W_firstItem 37 = .ok (.bipush 55, 2) := by decide +kernel
theorem dc_W_firstItem_39 : decode co_W_firstItem 39 = .ok (.isub, 1) := by decide +kernel
theorem dc_W_firstItem_40 : decode co_W_firstItem 40 = .ok (.invokestatic 125, 3) := by decide +kernel
theorem dc_W_firstItem_43 : decode co_W_firstItem 43 = .ok (.iadd, 1) := by decide +kernel
theorem dc_W_firstItem_44 : decode co_W_firstItem 44 = .ok (.ireturn, 1) := by decide +kernel
theorem dc_W_nodeEnd_0 : decode co_W_nodeEnd 0 = .ok (.aload_n 0, 1) := by decide +kernel
theorem dc_W_nodeEnd_1 : decode co_W_nodeEnd 1 = .ok (.aload_n 0, 1) := by decide +kernel
theorem dc_W_nodeEnd_2 : decode co_W_nodeEnd 2 = .ok (.getfield 85, 3) := by decide +kernel
theorem dc_W_nodeEnd_5 : decode co_W_nodeEnd 5 = .ok (.invokevirtual 88, 3) := by decide +kernel
theorem dc_W_nodeEnd_8 : decode co_W_nodeEnd 8 = .ok (.istore_n 2, 1) := by decide +kernel
theorem dc_W_nodeEnd_9 : decode co_W_nodeEnd 9 = .ok (.iload_n 2, 1) := by decide +kernel
theorem dc_W_nodeEnd_10 : decode co_W_nodeEnd 10 = .ok (.sipush 247, 3) := by decide +kernel
theorem dc_W_nodeEnd_13 : decode co_W_nodeEnd 13 = .ok (.if_icmp .gt 11, 3) := by decide +kernel
theorem dc_W_nodeEnd_16 : decode co_W_nodeEnd 16 = .ok (.iload_n 1, 1) := by decide +kernel
theorem dc_W_nodeEnd_17 : decode co_W_nodeEnd 17 = .ok (.iload_n 2, 1) := by decide +kernel
theorem dc_W_nodeEnd_18 : decode co_W_nodeEnd 18 = .ok (.iadd, 1) := by decide +kernel
theorem dc_W_nodeEnd_19 : decode co_W_nodeEnd 19 = .ok (.sipush 192, 3) := by decide +kernel
theorem dc_W_nodeEnd_22 : decode co_W_nodeEnd 22 = .ok (.isub, 1) := by decide +kernel
theorem dc_W_nodeEnd_23 : decode co_W_nodeEnd 23 = .ok (.ireturn, 1) := by decide +kernel
theorem dc_W_nodeEnd_24 : decode co_W_nodeEnd 24 = .ok (.aload_n 0, 1) := by decide +kernel
theorem dc_W_nodeEnd_25 : decode co_W_nodeEnd 25 = .ok (.iload_n 1, 1) := by decide +kernel
theorem dc_W_nodeEnd_26 : decode co_W_nodeEnd 26 = .ok (.iconst 1, 1) := by decide +kernel
theorem dc_W_nodeEnd_27 : decode co_W_nodeEnd 27 = .ok (.isub, 1) := by decide +kernel
theorem dc_W_nodeEnd_28 : decode co_W_nodeEnd 28 = .ok (.invokevirtual 88, 3) := by decide +kernel
theorem dc_W_nodeEnd_31 : decode co_W_nodeEnd 31 = .ok (.istore_n 3, 1) := by decide +kernel
theorem dc_W_nodeEnd_32 : decode co_W_nodeEnd 32 = .ok (.iload_n 2, 1) := by decide +kernel
theorem dc_W_nodeEnd_33 : decode co_W_nodeEnd 33 = .ok (.sipush 248, 3) := by decide +kernel
theorem dc_W_nodeEnd_36 : decode co_W_nodeEnd 36 = .ok (.if_icmp .ne 9, 3) := by decide +kernel
theorem dc_W_nodeEnd_39 : decode co_W_nodeEnd 39 = .ok (.iload_n 1, 1) := by decide +kernel
theorem dc_W_nodeEnd_40 : decode co_W_nodeEnd 40 = .ok (.iload_n 3, 1) := by decide +kernel
theorem dc_W_nodeEnd_41 : decode co_W_nodeEnd 41 = .ok (.iadd, 1) := by decide +kernel
theorem dc_W_nodeEnd_42 : decode co_W_nodeEnd 42 = .ok (.goto 18, 3) := by decide +kernel
theorem dc_W_nodeEnd_45 : decode co_W_nodeEnd 45 = .ok (.iload_n 1, 1) := by decide +kernel
theorem dc_W_nodeEnd_46 : decode co_W_nodeEnd 46 = .ok (.sipush 256, 3) := by decide +kernel
theorem dc_W_nodeEnd_49 : decode co_W_nodeEnd 49 = .ok (.aload_n 0, 1) := by decide +kernel
theorem dc_W_nodeEnd_50 : decode co_W_nodeEnd 50 = .ok (.iload_n 1, 1) := by decide +kernel
theorem dc_W_nodeEnd_51 : decode co_W_nodeEnd 51 = .ok (.iconst 2, 1) := by decide +kernel
theorem dc_W_nodeEnd_52 : decode co_W_nodeEnd 52 = .ok (.isub, 1) := by decide +kernel
theorem dc_W_nodeEnd_53 : decode co_W_nodeEnd 53 = .ok (.invokevirtual 88, 3) := by decide +kernel
theorem dc_W_nodeEnd_56 : decode co_W_nodeEnd 56 = .ok (.imul, 1) := by decide +kernel
theorem dc_W_nodeEnd_57 : decode co_W_nodeEnd 57 = .ok (.iadd, 1) := by decide +kernel
theorem dc_W_nodeEnd_58 : decode co_W_nodeEnd 58 = .ok (.iload_n 3, 1) := by decide +kernel
theorem dc_W_nodeEnd_59 : decode co_W_nodeEnd 59 = .ok (.iadd, 1) := by decide +kernel
theorem dc_W_nodeEnd_60 : decode co_W_nodeEnd 60 = .ok (.ireturn, 1) := by decide +kernel
theorem dc_W_bytesBegin_0 : decode co_W_bytesBegin 0 = .ok (.aload_n 0, 1) := by decide +kernel
theorem dc_W_bytesBegin_1 : decode co_W_bytesBegin 1 = .ok (.iload_n 1, 1) := by decide +kernel
theorem dc_W_bytesBegin_2 : decode co_W_bytesBegin 2 = .ok (.invokevirtual 88, 3) := by decide +kernel
theorem dc_W_bytesBegin_5 : decode co_W_bytesBegin 5 = .ok (.sipush 128, 3) := by decide +kernel
theorem dc_W_bytesBegin_8 : decode co_W_bytesBegin 8 = .ok (.if_icmp .ge 7, 3) := by decide +kernel
theorem dc_W_bytesBegin_11 : decode co_W_bytesBegin 11 = .ok (.iload_n 1, 1) := by decide +kernel
theorem dc_W_bytesBegin_12 : decode co_W_bytesBegin 12 = .ok (.goto 6, 3) := by decide +kernel
theorem dc_W_bytesBegin_15 : decode co_W_bytesBegin 15 = .ok (.iload_n 1, 1) := by decide +kernel
theorem dc_W_bytesBegin_16 : decode co_W_bytesBegin 16 = .ok (.iconst 1, 1) := by decide +kernel
theorem dc_W_bytesBegin_17 : decode co_W_bytesBegin 17 = .ok (.iadd, 1) := by decide +kernel
theorem dc_W_bytesBegin_18 : decode co_W_bytesBegin 18 = .ok (.ireturn, 1) := by decide +kernel
theorem dc_W_itemEnd_0 : decode co_W_itemEnd 0 = .ok (.aload_n 0, 1) := by decide +kernel
theorem dc_W_itemEnd_1 : decode co_W_itemEnd 1 = .ok (.iload_n 1, 1) := by decide +kernel
theorem dc_W_itemEnd_2 : decode co_W_itemEnd 2 = .ok (.invokevirtual 88, 3) := by decide +kernel
theorem dc_W_itemEnd_5 : decode co_W_itemEnd 5 = .ok (.istore_n 2, 1) := by decide +kernel
theorem dc_W_itemEnd_6 : decode co_W_itemEnd 6 = .ok (.iload_n 2, 1) := by decide +kernel
theorem dc_W_itemEnd_7 : decode co_W_itemEnd 7 = .ok (.sipush 128, 3) := by decide +kernel
theorem dc_W_itemEnd_10 : decode co_W_itemEnd 10 = .ok (.if_icmp .ge 7, 3) := by decide +kernel
theorem dc_W_itemEnd_13 : decode co_W_itemEnd 13 = .ok (.iload_n 1, 1) := by decide +kernel
theorem dc_W_itemEnd_14 : decode co_W_itemEnd 14 = .ok (.iconst 1, 1) := by decide +kernel
theorem dc_W_itemEnd_15 : decode co_W_itemEnd 15 = .ok (.iadd, 1) := by decide +kernel
theorem dc_W_itemEnd_16 : decode co_W_itemEnd 16 = .ok (.ireturn, 1) := by decide +kernel
theorem dc_W_itemEnd_17 : decode co_W_itemEnd 17 = .ok (.iload_n 2, 1) := by decide +kernel
theorem dc_W_itemEnd_18 : decode co_W_itemEnd 18 = .ok (.sipush 183, 3) := by decide +kernel
theorem dc_W_itemEnd_21 : decode co_W_itemEnd 21 = .ok (.if_icmp .gt 13, 3) := by decide +kernel
theorem dc_W_itemEnd_24 : decode co_W_itemEnd 24 = .ok (.iload_n 1, 1) := by decide +kernel
theorem dc_W_itemEnd_25 : decode co_W_itemEnd 25 = .ok (.iconst 1, 1) := by decide +kernel
theorem dc_W_itemEnd_26 : decode co_W_itemEnd 26 = .ok (.iadd, 1) := by decide +kernel
theorem dc_W_itemEnd_27 : decode co_W_itemEnd 27 = .ok (.iload_n 2, 1) := by decide +kernel
theorem dc_W_itemEnd_28 : decode co_W_itemEnd 28 = .ok (.iadd, 1) := by decide +kernel
theorem dc_W_itemEnd_29 : decode co_W_itemEnd 29 = .ok (.sipush 128, 3) := by decide +kernel
theorem dc_W_itemEnd_32 : decode co_W_itemEnd 32 = .ok (.isub, 1) := by decide +kernel
theorem dc_W_itemEnd_33 : decode co_W_itemEnd 33 = .ok (.ireturn, 1) := by decide +kernel
theorem dc_W_itemEnd_34 : decode co_W_itemEnd 34 = .ok (.iload_n 2, 1) := by decide +kernel
theorem dc_W_itemEnd_35 : decode co_W_itemEnd 35 = .ok (.sipush 192, 3) := by decide +kernel
theorem dc_W_itemEnd_38 : decode co_W_itemEnd 38 = .ok (.if_icmp .lt 22, 3) := by decide +kernel
theorem dc_W_itemEnd_41 : decode co_W_itemEnd 41 = .ok (.iload_n 2, 1) := by decide +kernel
theorem dc_W_itemEnd_42 : decode co_W_itemEnd 42 = .ok (.sipush 247, 3) := by decide +kernel
theorem dc_W_itemEnd_45 : decode co_W_itemEnd 45 = .ok (.if_icmp .gt 15, 3) := by decide +kernel
theorem dc_W_itemEnd_48 : decode co_W_itemEnd 48 = .ok (.iload_n 1, 1) := by decide +kernel
theorem dc_W_itemEnd_49 : decode co_W_itemEnd 49 = .ok (.iconst 1, 1) := by decide +kernel
theorem dc_W_itemEnd_50 : decode co_W_itemEnd 50 = .ok (.iadd, 1) := by decide +kernel
theorem dc_W_itemEnd_51 : decode co_W_itemEnd 51 = .ok (.iload_n 2, 1) := by decide +kernel
theorem dc_W_itemEnd_52 : decode co_W_itemEnd 52 = .ok (.iadd, 1) := by decide +kernel
theorem dc_W_itemEnd_53 : decode co_W_itemEnd 53 = .ok (.sipush 192, 3) := by decide +kernel
theorem dc_W_itemEnd_56 : decode co_W_itemEnd 56 = .ok (.isub, 1) := by decide +kernel
theorem dc_W_itemEnd_57 : decode co_W_itemEnd 57 = .ok (.goto 4, 3) := by decide +kernel
theorem dc_W_itemEnd_60 : decode co_W_itemEnd 60 = .ok (.iconst (-1), 1) := by decide +kernel
theorem dc_W_itemEnd_61 : decode co_W_itemEnd 61 = .ok (.ireturn, 1) := by decide +kernel
theorem dc_W_byteAt_0 : decode co_W_byteAt 0 = .ok (.iload_n 1, 1) := by decide +kernel
theorem dc_W_byteAt_1 : decode co_W_byteAt 1 = .ok (.ifCond .lt 29, 3) := by decide +kernel
theorem dc_W_byteAt_4 : decode co_W_byteAt 4 = .ok (.iload_n 1, 1) := by decide +kernel
theorem dc_W_byteAt_5 : decode co_W_byteAt 5 = .ok (.aload_n 0, 1) := by decide +kernel
theorem dc_W_byteAt_6 : decode co_W_byteAt 6 = .ok (.getfield 82, 3) := by decide +kernel
theorem dc_W_byteAt_9 : decode co_W_byteAt 9 = .ok (.if_icmp .ge 21, 3) := by decide +kernel
theorem dc_W_byteAt_12 : decode co_W_byteAt 12 = .ok (.iload_n 1, 1) := by decide +kernel
theorem dc_W_byteAt_13 : decode co_W_byteAt 13 = .ok (.aload_n 0, 1) := by decide +kernel
theorem dc_W_byteAt_14 : decode co_W_byteAt 14 = .ok (.getfield 25, 3) := by decide +kernel
theorem dc_W_byteAt_17 : decode co_W_byteAt 17 = .ok (.arraylength, 1) := by decide +kernel
theorem dc_W_byteAt_18 : decode co_W_byteAt 18 = .ok (.if_icmp .ge 12, 3) := by decide +kernel
theorem dc_W_byteAt_21 : decode co_W_byteAt 21 = .ok (.aload_n 0, 1) := by decide +kernel
theorem dc_W_byteAt_22 : decode co_W_byteAt 22 = .ok (.getfield 25, 3) := by decide +kernel
theorem dc_W_byteAt_25 : decode co_W_byteAt 25 = .ok (.iload_n 1, 1) := by decide +kernel
theorem dc_W_byteAt_26 : decode co_W_byteAt 26 = .ok (.iaload, 1) := by decide +kernel
theorem dc_W_byteAt_27 : decode co_W_byteAt 27 = .ok (.goto 4, 3) := by decide +kernel
theorem dc_W_byteAt_30 : decode co_W_byteAt 30 = .ok (.iconst 0, 1) := by decide +kernel
theorem dc_W_byteAt_31 : decode co_W_byteAt 31 = .ok (.ireturn, 1) := by decide +kernel
