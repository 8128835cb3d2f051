theorem dc_L_init_0 : decode co_L_init 0 = .ok (.aload_n 0, 1) := by decide +kernel
theorem dc_L_init_1 : decode co_L_init 1 = .ok (.invokespecial 3, 3) := by decide +kernel
theorem dc_L_init_4 : decode co_L_init 4 = .ok (.aload_n 0, 1) := by decide +kernel
theorem dc_L_init_5 : decode co_L_init 5 = .ok (.new 9, 3) := by decide +kernel
theorem dc_L_init_8 : decode co_L_init 8 = .ok (.dup, 1) := by decide +kernel
theorem dc_L_init_9 : decode co_L_init 9 = .ok (.invokespecial 11, 3) := by decide +kernel
theorem dc_L_init_12 : decode co_L_init 12 = .ok (.putfield 12, 3) := by decide +kernel
theorem dc_L_init_15 : decode co_L_init 15 = .ok (.aload_n 0, 1) := by decide +kernel
theorem dc_L_init_16 : decode co_L_init 16 = .ok (.new 16, 3) := by decide +kernel
theorem dc_L_init_19 : decode co_L_init 19 = .ok (.dup, 1) := by decide +kernel
theorem dc_L_init_20 : decode co_L_init 20 = .ok (.invokespecial 18, 3) := by decide +kernel
theorem dc_L_init_23 : decode co_L_init 23 = .ok (.putfield 19, 3) := by decide +kernel
theorem dc_L_init_26 : decode co_L_init 26 = .ok (.aload_n 0, 1) := by decide +kernel
theorem dc_L_init_27 : decode co_L_init 27 = .ok (.new 23, 3) := by decide +kernel
theorem dc_L_init_30 : decode co_L_init 30 = .ok (.dup, 1) := by decide +kernel
theorem dc_L_init_31 : decode co_L_init 31 = .ok (.aload_n 0, 1) := by decide +kernel
theorem dc_L_init_32 : decode co_L_init 32 = .ok (.getfield 12, 3) := by decide +kernel
theorem dc_L_init_35 : decode co_L_init 35 = .ok (.aload_n 0, 1) := by decide +kernel
theorem dc_L_init_36 : decode co_L_init 36 = .ok (.getfield 19, 3) := by decide +kernel
theorem dc_L_init_39 : decode co_L_init 39 = .ok (.invokespecial 25, 3) := by decide +kernel
theorem dc_L_init_42 : decode co_L_init 42 = .ok (.putfield 28, 3) := by decide +kernel
theorem dc_L_init_45 : decode co_L_init 45 = .ok (.aload_n 0, 1) := by decide +kernel
theorem dc_L_init_46 : decode co_L_init 46 = .ok (.new 32, 3) := by decide +kernel
theorem dc_L_init_49 : decode co_L_init 49 = .ok (.dup, 1) := by decide +kernel
theorem dc_L_init_50 : decode co_L_init 50 = .ok (.invokespecial 34, 3) := by decide +kernel
theorem dc_L_init_53 : decode co_L_init 53 = .ok (.putfield 35, 3) := by decide +kernel
theorem dc_L_init_56 : decode co_L_init 56 = .ok (.aload_n 0, 1) := by decide +kernel
theorem dc_L_init_57 : decode co_L_init 57 = .ok (.new 39, 3) := by decide +kernel
theorem dc_L_init_60 : decode co_L_init 60 = .ok (.dup, 1) := by decide +kernel
theorem dc_L_init_61 : decode co_L_init 61 = .ok (.aload_n 0, 1) := by decide +kernel
theorem dc_L_init_62 : decode co_L_init 62 = .ok (.getfield 35, 3) := by decide +kernel
theorem dc_L_init_65 : decode co_L_init 65 = .ok (.aload_n 0, 1) := by decide +kernel
theorem dc_L_init_66 : decode co_L_init 66 = .ok (.getfield 19, 3) := by decide +kernel
theorem dc_L_init_69 : decode co_L_init 69 = .ok (.invokespecial 41, 3) := by decide +kernel
theorem dc_L_init_72 : decode co_L_init 72 = .ok (.putfield 44, 3) := by decide +kernel
theorem dc_L_init_75 : decode co_L_init 75 = .ok (.aload_n 0, 1) := by decide +kernel
theorem dc_L_init_76 : decode co_L_init 76 = .ok (.iconst 0, 1) := by decide +kernel
theorem dc_L_init_77 : decode co_L_init 77 = .ok (.putfield 48, 3) := by decide +kernel
theorem dc_L_init_80 : decode co_L_init 80 = .ok (.aload_n 0, 1) := by decide +kernel
theorem dc_L_init_81 : decode co_L_init 81 = .ok (.iconst (-1), 1) := by decide +kernel
theorem dc_L_init_82 : decode co_L_init 82 = .ok (.putfield 52, 3) := by decide +kernel
theorem dc_L_init_85 : decode co_L_init 85 = .ok (.return_, 1) := by decide +kernel
theorem dc_L_collector_0 : decode co_L_collector 0 = .ok (.iload_n 1, 1) := by decide +kernel
theorem dc_L_collector_1 : decode co_L_collector 1 = .ok (.invokestatic 55, 3) := by decide +kernel
theorem dc_L_collector_4 : decode co_L_collector 4 = .ok (.ifCond .ne 5, 3) := by decide +kernel
theorem dc_L_collector_7 : decode co_L_collector 7 = .ok (.iconst 0, 1) := by decide +kernel
theorem dc_L_collector_8 : decode co_L_collector 8 = .ok (.ireturn, 1) := by decide +kernel
theorem dc_L_collector_9 : decode co_L_collector 9 = .ok (.aload_n 0, 1) := by decide +kernel
theorem dc_L_collector_10 : decode co_L_collector 10 = .ok (.iload_n 1, 1) := by decide +kernel
theorem dc_L_collector_11 : decode co_L_collector 11 = .ok (.putfield 48, 3) := by decide +kernel
theorem dc_L_collector_14 : decode co_L_collector 14 = .ok (.iconst 1, 1) := by decide +kernel
theorem dc_L_collector_15 : decode co_L_collector 15 = .ok (.ireturn, 1) := by decide +kernel
theorem dc_L_grant_0 : decode co_L_grant 0 = .ok (.iload_n 1, 1) := by decide +kernel
theorem dc_L_grant_1 : decode co_L_grant 1 = .ok (.invokestatic 55, 3) := by decide +kernel
theorem dc_L_grant_4 : decode co_L_grant 4 = .ok (.ifCond .eq 17, 3) := by decide +kernel
theorem dc_L_grant_7 : decode co_L_grant 7 = .ok (.lload_n 2, 1) := by decide +kernel
theorem dc_L_grant_8 : decode co_L_grant 8 = .ok (.lconst 1, 1) := by decide +kernel
theorem dc_L_grant_9 : decode co_L_grant 9 = .ok (.lcmp, 1) := by decide +kernel
theorem dc_L_grant_10 : decode co_L_grant 10 = .ok (.ifCond .lt 11, 3) := by decide +kernel
theorem dc_L_grant_13 : decode co_L_grant 13 = .ok (.lload_n 2, 1) := by decide +kernel
theorem dc_L_grant_14 : decode co_L_grant 14 = .ok (.ldc2_w 59, 3) := by decide +kernel
theorem dc_L_grant_17 : decode co_L_grant 17 = .ok (.lcmp, 1) := by decide +kernel
theorem dc_L_grant_18 : decode co_L_grant 18 = .ok (.ifCond .le 5, 3) := by decide +kernel
theorem dc_L_grant_21 : decode co_L_grant 21 = .ok (.iconst (-1), 1) := by decide +kernel
theorem dc_L_grant_22 : decode co_L_grant 22 = .ok (.ireturn, 1) := by decide +kernel
theorem dc_L_grant_23 : decode co_L_grant 23 = .ok (.aload_n 0, 1) := by decide +kernel
theorem dc_L_grant_24 : decode co_L_grant 24 = .ok (.getfield 12, 3) := by decide +kernel
theorem dc_L_grant_27 : decode co_L_grant 27 = .ok (.iload_n 1, 1) := by decide +kernel
theorem dc_L_grant_28 : decode co_L_grant 28 = .ok (.invokevirtual 61, 3) := by decide +kernel
theorem dc_L_grant_31 : decode co_L_grant 31 = .ok (.ifCond .ne 18, 3) := by decide +kernel
theorem dc_L_grant_34 : decode co_L_grant 34 = .ok (.aload_n 0, 1) := by decide +kernel
theorem dc_L_grant_35 : decode co_L_grant 35 = .ok (.getfield 12, 3) := by decide +kernel
theorem dc_L_grant_38 : decode co_L_grant 38 = .ok (.invokevirtual 64, 3) := by decide +kernel
theorem dc_L_grant_41 : decode co_L_grant 41 = .ok (.bipush 12, 2) := by decide +kernel
theorem dc_L_grant_43 : decode co_L_grant 43 = .ok (.if_icmp .lt 6, 3) := by decide +kernel
theorem dc_L_grant_46 : decode co_L_grant 46 = .ok (.bipush (-4), 2) := by decide +kernel
theorem dc_L_grant_48 : decode co_L_grant 48 = .ok (.ireturn, 1) := by decide +kernel
theorem dc_L_grant_49 : decode co_L_grant 49 = .ok (.aload_n 0, 1) := by decide +kernel
theorem dc_L_grant_50 : decode co_L_grant 50 = .ok (.getfield 12, 3) := by decide +kernel
theorem dc_L_grant_53 : decode co_L_grant 53 = .ok (.iload_n 1, 1) := by decide +kernel
theorem dc_L_grant_54 : decode co_L_grant 54 = .ok (.lload_n 2, 1) := by decide +kernel
theorem dc_L_grant_55 : decode co_L_grant 55 = .ok (.invokevirtual 68, 3) := by decide +kernel
theorem dc_L_grant_58 : decode co_L_grant 58 = .ok (.aload_n 0, 1) := by decide +kernel
theorem dc_L_grant_59 : decode co_L_grant 59 = .ok (.getfield 28, 3) := by decide +kernel
theorem dc_L_grant_62 : decode co_L_grant 62 = .ok (.invokevirtual 72, 3) := by decide +kernel
theorem dc_L_grant_65 : decode co_L_grant 65 = .ok (.aload_n 0, 1) := by decide +kernel
theorem dc_L_grant_66 : decode co_L_grant 66 = .ok (.getfield 12, 3) := by decide +kernel
theorem dc_L_grant_69 : decode co_L_grant 69 = .ok (.invokevirtual 64, 3) := by decide +kernel
theorem dc_L_grant_72 : decode co_L_grant 72 = .ok (.ireturn, 1) := by decide +kernel
theorem dc_L_send_0 : decode co_L_send 0 = .ok (.iload_n 1, 1) := by decide +kernel
theorem dc_L_send_1 : decode co_L_send 1 = .ok (.invokestatic 55, 3) := by decide +kernel
theorem dc_L_send_4 : decode co_L_send 4 = .ok (.ifCond .eq 25, 3) := by decide +kernel
theorem dc_L_send_7 : decode co_L_send 7 = .ok (.iload_n 2, 1) := by decide +kernel
theorem dc_L_send_8 : decode co_L_send 8 = .ok (.invokestatic 55, 3) := by decide +kernel
theorem dc_L_send_11 : decode co_L_send 11 = .ok (.ifCond .eq 18, 3) := by decide +kernel
theorem dc_L_send_14 : decode co_L_send 14 = .ok (.lload_n 3, 1) := by decide +kernel
theorem dc_L_send_15 : decode co_L_send 15 = .ok (.invokestatic 75, 3) := by decide +kernel
theorem dc_L_send_18 : decode co_L_send 18 = .ok (.ifCond .eq 11, 3) := by decide +kernel
theorem dc_L_send_21 : decode co_L_send 21 = .ok (.lload 5, 2) := by decide +kernel
theorem dc_L_send_23 : decode co_L_send 23 = .ok (.invokestatic 75, 3) := by decide +kernel
theorem dc_L_send_26 : decode co_L_send 26 = .ok (.ifCond .ne 5, 3) := by decide +kernel
theorem dc_L_send_29 : decode co_L_send 29 = .ok (.iconst (-1), 1) := by decide +kernel
theorem dc_L_send_30 : decode co_L_send 30 = .ok (.ireturn, 1) := by decide +kernel
theorem dc_L_send_31 : decode co_L_send 31 = .ok (.iload 7, 2) := by decide +kernel
theorem dc_L_send_33 : decode co_L_send 33 = .ok (.aload_n 0, 1) := by decide +kernel
theorem dc_L_send_34 : decode co_L_send 34 = .ok (.getfield 12, 3) := by decide +kernel
theorem dc_L_send_37 : decode co_L_send 37 = .ok (.iload_n 1, 1) := by decide +kernel
theorem dc_L_send_38 : decode co_L_send 38 = .ok (.invokevirtual 79, 3) := by decide +kernel
theorem dc_L_send_41 : decode co_L_send 41 = .ok (.if_icmp .eq 6, 3) := by decide +kernel
theorem dc_L_send_44 : decode co_L_send 44 = .ok (.bipush (-2), 2) := by decide +kernel
theorem dc_L_send_46 : decode co_L_send 46 = .ok (.ireturn, 1) := by decide +kernel
theorem dc_L_send_47 : decode co_L_send 47 = .ok (.lload_n 3, 1) := by decide +kernel
theorem dc_L_send_48 : decode co_L_send 48 = .ok (.lload 5, 2) := by decide +kernel
theorem dc_L_send_50 : decode co_L_send 50 = .ok (.ladd, 1) := by decide +kernel
theorem dc_L_send_51 : decode co_L_send 51 = .ok (.aload_n 0, 1) := by decide +kernel
theorem dc_L_send_52 : decode co_L_send 52 = .ok (.getfield 12, 3) := by decide +kernel
theorem dc_L_send_55 : decode co_L_send 55 = .ok (.iload_n 1, 1) := by decide +kernel
theorem dc_L_send_56 : decode co_L_send 56 = .ok (.invokevirtual 83, 3) := by decide +kernel
theorem dc_L_send_59 : decode co_L_send 59 = .ok (.lcmp, 1) := by decide +kernel
theorem dc_L_send_60 : decode co_L_send 60 = .ok (.ifCond .le 6, 3) := by decide +kernel
theorem dc_L_send_63 : decode co_L_send 63 = .ok (.bipush (-3), 2) := by decide +kernel
theorem dc_L_send_65 : decode co_L_send 65 = .ok (.ireturn, 1) := by decide +kernel
theorem dc_L_send_66 : decode co_L_send 66 = .ok (.aload_n 0, 1) := by decide +kernel
theorem dc_L_send_67 : decode co_L_send 67 = .ok (.getfield 12, 3) := by decide +kernel
theorem dc_L_send_70 : decode co_L_send 70 = .ok (.invokevirtual 64, 3) := by decide +kernel
theorem dc_L_send_73 : decode co_L_send 73 = .ok (.aload_n 0, 1) := by decide +kernel
theorem dc_L_send_74 : decode co_L_send 74 = .ok (.iload_n 1, 1) := by decide +kernel
theorem dc_L_send_75 : decode co_L_send 75 = .ok (.iload_n 2, 1) := by decide +kernel
theorem dc_L_send_76 : decode co_L_send 76 = .ok (.lload_n 3, 1) := by decide +kernel
theorem dc_L_send_77 : decode co_L_send 77 = .ok (.lload 5, 2) := by decide +kernel
theorem dc_L_send_79 : decode co_L_send 79 = .ok (.invokevirtual 87, 3) := by decide +kernel
theorem dc_L_send_82 : decode co_L_send 82 = .ok (.iadd, 1) := by decide +kernel
theorem dc_L_send_83 : decode co_L_send 83 = .ok (.bipush 12, 2) := by decide +kernel
theorem dc_L_send_85 : decode co_L_send 85 = .ok (.if_icmp .le 6, 3) := by decide +kernel
theorem dc_L_send_88 : decode co_L_send 88 = .ok (.bipush (-4), 2) := by decide +kernel
theorem dc_L_send_90 : decode co_L_send 90 = .ok (.ireturn, 1) := by decide +kernel
theorem dc_L_send_91 : decode co_L_send 91 = .ok (.aload_n 0, 1) := by decide +kernel
theorem dc_L_send_92 : decode co_L_send 92 = .ok (.getfield 12, 3) := by decide +kernel
theorem dc_L_send_95 : decode co_L_send 95 = .ok (.iload_n 1, 1) := by decide +kernel
theorem dc_L_send_96 : decode co_L_send 96 = .ok (.iload 7, 2) := by decide +kernel
theorem dc_L_send_98 : decode co_L_send 98 = .ok (.iconst 1, 1) := by decide +kernel
theorem dc_L_send_99 : decode co_L_send 99 = .ok (.iadd, 1) := by decide +kernel
theorem dc_L_send_100 : decode co_L_send 100 = .ok (.aload_n 0, 1) := by decide +kernel
theorem dc_L_send_101 : decode co_L_send 101 = .ok (.getfield 12, 3) := by decide +kernel
theorem dc_L_send_104 : decode co_L_send 104 = .ok (.iload_n 1, 1) := by decide +kernel
theorem dc_L_send_105 : decode co_L_send 105 = .ok (.invokevirtual 83, 3) := by decide +kernel
theorem dc_L_send_108 : decode co_L_send 108 = .ok (.lload_n 3, 1) := by decide +kernel
theorem dc_L_send_109 : decode co_L_send 109 = .ok (.lsub, 1) := by decide +kernel
theorem dc_L_send_110 : decode co_L_send 110 = .ok (.lload 5, 2) := by decide +kernel
theorem dc_L_send_112 : decode co_L_send 112 = .ok (.lsub, 1) := by decide +kernel
theorem dc_L_send_113 : decode co_L_send 113 = .ok (.invokevirtual 91, 3) := by decide +kernel
theorem dc_L_send_116 : decode co_L_send 116 = .ok (.aload_n 0, 1) := by decide +kernel
theorem dc_L_send_117 : decode co_L_send 117 = .ok (.getfield 12, 3) := by decide +kernel
theorem dc_L_send_120 : decode co_L_send 120 = .ok (.iload_n 2, 1) := by decide +kernel
theorem dc_L_send_121 : decode co_L_send 121 = .ok (.lload_n 3, 1) := by decide +kernel
theorem dc_L_send_122 : decode co_L_send 122 = .ok (.invokevirtual 68, 3) := by decide +kernel
theorem dc_L_send_125 : decode co_L_send 125 = .ok (.aload_n 0, 1) := by decide +kernel
theorem dc_L_send_126 : decode co_L_send 126 = .ok (.getfield 12, 3) := by decide +kernel
theorem dc_L_send_129 : decode co_L_send 129 = .ok (.aload_n 0, 1) := by decide +kernel
theorem dc_L_send_130 : decode co_L_send 130 = .ok (.getfield 48, 3) := by decide +kernel
theorem dc_L_send_133 : decode co_L_send 133 = .ok (.lload 5, 2) := by decide +kernel
theorem dc_L_send_135 : decode co_L_send 135 = .ok (.invokevirtual 68, 3) := by decide +kernel
theorem dc_L_send_138 : decode co_L_send 138 = .ok (.aload_n 0, 1) := by decide +kernel
theorem dc_L_send_139 : decode co_L_send 139 = .ok (.getfield 28, 3) := by decide +kernel
theorem dc_L_send_142 : decode co_L_send 142 = .ok (.invokevirtual 72, 3) := by decide +kernel
theorem dc_L_send_145 : decode co_L_send 145 = .ok (.aload_n 0, 1) := by decide +kernel
theorem dc_L_send_146 : decode co_L_send 146 = .ok (.getfield 12, 3) := by decide +kernel
theorem dc_L_send_149 : decode co_L_send 149 = .ok (.invokevirtual 64, 3) := by decide +kernel
theorem dc_L_send_152 : decode co_L_send 152 = .ok (.ireturn, 1) := by decide +kernel
theorem dc_L_close_0 : decode co_L_close 0 = .ok (.iload_n 1, 1) := by decide +kernel
theorem dc_L_close_1 : decode co_L_close 1 = .ok (.invokestatic 55, 3) := by decide +kernel
theorem dc_L_close_4 : decode co_L_close 4 = .ok (.ifCond .eq 14, 3) := by decide +kernel
theorem dc_L_close_7 : decode co_L_close 7 = .ok (.aload_n 0, 1) := by decide +kernel
theorem dc_L_close_8 : decode co_L_close 8 = .ok (.getfield 12, 3) := by decide +kernel
theorem dc_L_close_11 : decode co_L_close 11 = .ok (.iload_n 1, 1) := by decide +kernel
theorem dc_L_close_12 : decode co_L_close 12 = .ok (.invokevirtual 61, 3) := by decide +kernel
theorem dc_L_close_15 : decode co_L_close 15 = .ok (.ifCond .ne 5, 3) := by decide +kernel
theorem dc_L_close_18 : decode co_L_close 18 = .ok (.iconst 0, 1) := by decide +kernel
theorem dc_L_close_19 : decode co_L_close 19 = .ok (.ireturn, 1) := by decide +kernel
theorem dc_L_close_20 : decode co_L_close 20 = .ok (.aload_n 0, 1) := by decide +kernel
theorem dc_L_close_21 : decode co_L_close 21 = .ok (.getfield 12, 3) := by decide +kernel
theorem dc_L_close_24 : decode co_L_close 24 = .ok (.iload_n 1, 1) := by decide +kernel
theorem dc_L_close_25 : decode co_L_close 25 = .ok (.iconst 0, 1) := by decide +kernel
theorem dc_L_close_26 : decode co_L_close 26 = .ok (.lconst 0, 1) := by decide +kernel
theorem dc_L_close_27 : decode co_L_close 27 = .ok (.invokevirtual 91, 3) := by decide +kernel
theorem dc_L_close_30 : decode co_L_close 30 = .ok (.aload_n 0, 1) := by decide +kernel
theorem dc_L_close_31 : decode co_L_close 31 = .ok (.getfield 28, 3) := by decide +kernel
theorem dc_L_close_34 : decode co_L_close 34 = .ok (.invokevirtual 72, 3) := by decide +kernel
theorem dc_L_close_37 : decode co_L_close 37 = .ok (.iconst 1, 1) := by decide +kernel
theorem dc_L_close_38 : decode co_L_close 38 = .ok (.ireturn, 1) := by decide +kernel
theorem dc_L_nonce_0 : decode co_L_nonce 0 = .ok (.aload_n 0, 1) := by decide +kernel
theorem dc_L_nonce_1 : decode co_L_nonce 1 = .ok (.getfield 12, 3) := by decide +kernel
theorem dc_L_nonce_4 : decode co_L_nonce 4 = .ok (.iload_n 1, 1) := by decide +kernel
theorem dc_L_nonce_5 : decode co_L_nonce 5 = .ok (.invokevirtual 79, 3) := by decide +kernel
theorem dc_L_nonce_8 : decode co_L_nonce 8 = .ok (.ireturn, 1) := by decide +kernel
theorem dc_L_balance_0 : decode co_L_balance 0 = .ok (.aload_n 0, 1) := by decide +kernel
theorem dc_L_balance_1 : decode co_L_balance 1 = .ok (.getfield 12, 3) := by decide +kernel
theorem dc_L_balance_4 : decode co_L_balance 4 = .ok (.iload_n 1, 1) := by decide +kernel
theorem dc_L_balance_5 : decode co_L_balance 5 = .ok (.invokevirtual 83, 3) := by decide +kernel
theorem dc_L_balance_8 : decode co_L_balance 8 = .ok (.lreturn, 1) := by decide +kernel
theorem dc_L_accounts_0 : decode co_L_accounts 0 = .ok (.aload_n 0, 1) := by decide +kernel
theorem dc_L_accounts_1 : decode co_L_accounts 1 = .ok (.getfield 12, 3) := by decide +kernel
theorem dc_L_accounts_4 : decode co_L_accounts 4 = .ok (.invokevirtual 64, 3) := by decide +kernel
theorem dc_L_accounts_7 : decode co_L_accounts 7 = .ok (.ireturn, 1) := by decide +kernel
theorem dc_L_root_0 : decode co_L_root 0 = .ok (.iload_n 1, 1) := by decide +kernel
theorem dc_L_root_1 : decode co_L_root 1 = .ok (.ifCond .lt 8, 3) := by decide +kernel
theorem dc_L_root_4 : decode co_L_root 4 = .ok (.iload_n 1, 1) := by decide +kernel
theorem dc_L_root_5 : decode co_L_root 5 = .ok (.iconst 4, 1) := by decide +kernel
theorem dc_L_root_6 : decode co_L_root 6 = .ok (.if_icmp .lt 5, 3) := by decide +kernel
theorem dc_L_root_9 : decode co_L_root 9 = .ok (.lconst 0, 1) := by decide +kernel
theorem dc_L_root_10 : decode co_L_root 10 = .ok (.lreturn, 1) := by decide +kernel
theorem dc_L_root_11 : decode co_L_root 11 = .ok (.aload_n 0, 1) := by decide +kernel
theorem dc_L_root_12 : decode co_L_root 12 = .ok (.getfield 28, 3) := by decide +kernel
theorem dc_L_root_15 : decode co_L_root 15 = .ok (.invokevirtual 95, 3) := by decide +kernel
theorem dc_L_root_18 : decode co_L_root 18 = .ok (.lconst 0, 1) := by decide +kernel
theorem dc_L_root_19 : decode co_L_root 19 = .ok (.lstore_n 2, 1) := by decide +kernel
theorem dc_L_root_20 : decode co_L_root 20 = .ok (.bipush 8, 2) := by decide +kernel
theorem dc_L_root_22 : decode co_L_root 22 = .ok (.iload_n 1, 1) := by decide +kernel
theorem dc_L_root_23 : decode co_L_root 23 = .ok (.imul, 1) := by decide +kernel
theorem dc_L_root_24 : decode co_L_root 24 = .ok (.istore 4, 2) := by decide +kernel
theorem dc_L_root_26 : decode co_L_root 26 = .ok (.iload 4, 2) := by decide +kernel
theorem dc_L_root_28 : decode co_L_root 28 = .ok (.bipush 8, 2) := by decide +kernel
theorem dc_L_root_30 : decode co_L_root 30 = .ok (.iload_n 1, 1) := by decide +kernel
theorem dc_L_root_31 : decode co_L_root 31 = .ok (.imul, 1) := by decide +kernel
theorem dc_L_root_32 : decode co_L_root 32 = .ok (.bipush 8, 2) := by decide +kernel
theorem dc_L_root_34 : decode co_L_root 34 = .ok (.iadd, 1) := by decide +kernel
theorem dc_L_root_35 : decode co_L_root 35 = .ok (.if_icmp .ge 25, 3) := by decide +kernel
theorem dc_L_root_38 : decode co_L_root 38 = .ok (.lload_n 2, 1) := by decide +kernel
theorem dc_L_root_39 : decode co_L_root 39 = .ok (.bipush 8, 2) := by decide +kernel
theorem dc_L_root_41 : decode co_L_root 41 = .ok (.lshl, 1) := by decide +kernel
theorem dc_L_root_42 : decode co_L_root 42 = .ok (.aload_n 0, 1) := by decide +kernel
theorem dc_L_root_43 : decode co_L_root 43 = .ok (.getfield 28, 3) := by decide +kernel
theorem dc_L_root_46 : decode co_L_root 46 = .ok (.iload 4, 2) := by decide +kernel
theorem dc_L_root_48 : decode co_L_root 48 = .ok (.invokevirtual 98, 3) := by decide +kernel
theorem dc_L_root_51 : decode co_L_root 51 = .ok (.i2l, 1) := by decide +kernel
theorem dc_L_root_52 : decode co_L_root 52 = .ok (.lor, 1) := by decide +kernel
theorem dc_L_root_53 : decode co_L_root 53 = .ok (.lstore_n 2, 1) := by decide +kernel
theorem dc_L_root_54 : decode co_L_root 54 = .ok (.iinc 4 1, 3) := by decide +kernel
theorem dc_L_root_57 : decode co_L_root 57 = .ok (.goto (-31), 3) := by decide +kernel
theorem dc_L_root_60 : decode co_L_root 60 = .ok (.lload_n 2, 1) := by decide +kernel
theorem dc_L_root_61 : decode co_L_root 61 = .ok (.lreturn, 1) := by decide +kernel
theorem dc_L_nodes_0 : decode co_L_nodes 0 = .ok (.iload_n 1, 1) := by decide +kernel
theorem dc_L_nodes_1 : decode co_L_nodes 1 = .ok (.ifCond .eq 15, 3) := by decide +kernel
theorem dc_L_nodes_4 : decode co_L_nodes 4 = .ok (.iload_n 1, 1) := by decide +kernel
theorem dc_L_nodes_5 : decode co_L_nodes 5 = .ok (.iconst 1, 1) := by decide +kernel
theorem dc_L_nodes_6 : decode co_L_nodes 6 = .ok (.if_icmp .eq 10, 3) := by decide +kernel
theorem dc_L_nodes_9 : decode co_L_nodes 9 = .ok (.iload_n 1, 1) := by decide +kernel
theorem dc_L_nodes_10 : decode co_L_nodes 10 = .ok (.iconst 2, 1) := by decide +kernel
theorem dc_L_nodes_11 : decode co_L_nodes 11 = .ok (.if_icmp .eq 5, 3) := by decide +kernel
theorem dc_L_nodes_14 : decode co_L_nodes 14 = .ok (.iconst (-1), 1) := by decide +kernel
theorem dc_L_nodes_15 : decode co_L_nodes 15 = .ok (.ireturn, 1) := by decide +kernel
theorem dc_L_nodes_16 : decode co_L_nodes 16 = .ok (.aload_n 0, 1) := by decide +kernel
theorem dc_L_nodes_17 : decode co_L_nodes 17 = .ok (.getfield 28, 3) := by decide +kernel
theorem dc_L_nodes_20 : decode co_L_nodes 20 = .ok (.invokevirtual 95, 3) := by decide +kernel
theorem dc_L_nodes_23 : decode co_L_nodes 23 = .ok (.aload_n 0, 1) := by decide +kernel
theorem dc_L_nodes_24 : decode co_L_nodes 24 = .ok (.getfield 28, 3) := by decide +kernel
theorem dc_L_nodes_27 : decode co_L_nodes 27 = .ok (.iload_n 1, 1) := by decide +kernel
theorem dc_L_nodes_28 : decode co_L_nodes 28 = .ok (.invokevirtual 101, 3) := by decide +kernel
theorem dc_L_nodes_31 : decode co_L_nodes 31 = .ok (.ireturn, 1) := by decide +kernel
theorem dc_L_size_0 : decode co_L_size 0 = .ok (.aload_n 0, 1) := by decide +kernel
theorem dc_L_size_1 : decode co_L_size 1 = .ok (.getfield 28, 3) := by decide +kernel
theorem dc_L_size_4 : decode co_L_size 4 = .ok (.invokevirtual 95, 3) := by decide +kernel
theorem dc_L_size_7 : decode co_L_size 7 = .ok (.aload_n 0, 1) := by decide +kernel
theorem dc_L_size_8 : decode co_L_size 8 = .ok (.getfield 28, 3) := by decide +kernel
theorem dc_L_size_11 : decode co_L_size 11 = .ok (.invokevirtual 104, 3) := by decide +kernel
theorem dc_L_size_14 : decode co_L_size 14 = .ok (.ireturn, 1) := by decide +kernel
theorem dc_L_prove_0 : decode co_L_prove 0 = .ok (.iload_n 1, 1) := by decide +kernel
theorem dc_L_prove_1 : decode co_L_prove 1 = .ok (.invokestatic 55, 3) := by decide +kernel
theorem dc_L_prove_4 : decode co_L_prove 4 = .ok (.ifCond .ne 5, 3) := by decide +kernel
theorem dc_L_prove_7 : decode co_L_prove 7 = .ok (.iconst (-1), 1) := by decide +kernel
theorem dc_L_prove_8 : decode co_L_prove 8 = .ok (.ireturn, 1) := by decide +kernel
theorem dc_L_prove_9 : decode co_L_prove 9 = .ok (.aload_n 0, 1) := by decide +kernel
theorem dc_L_prove_10 : decode co_L_prove 10 = .ok (.getfield 28, 3) := by decide +kernel
theorem dc_L_prove_13 : decode co_L_prove 13 = .ok (.invokevirtual 95, 3) := by decide +kernel
theorem dc_L_prove_16 : decode co_L_prove 16 = .ok (.aload_n 0, 1) := by decide +kernel
theorem dc_L_prove_17 : decode co_L_prove 17 = .ok (.getfield 28, 3) := by decide +kernel
theorem dc_L_prove_20 : decode co_L_prove 20 = .ok (.iload_n 1, 1) := by decide +kernel
theorem dc_L_prove_21 : decode co_L_prove 21 = .ok (.aload_n 0, 1) := by decide +kernel
theorem dc_L_prove_22 : decode co_L_prove 22 = .ok (.getfield 35, 3) := by decide +kernel
theorem dc_L_prove_25 : decode co_L_prove 25 = .ok (.invokevirtual 107, 3) := by decide +kernel
theorem dc_L_prove_28 : decode co_L_prove 28 = .ok (.aload_n 0, 1) := by decide +kernel
theorem dc_L_prove_29 : decode co_L_prove 29 = .ok (.getfield 35, 3) := by decide +kernel
theorem dc_L_prove_32 : decode co_L_prove 32 = .ok (.invokevirtual 111, 3) := by decide +kernel
theorem dc_L_prove_35 : decode co_L_prove 35 = .ok (.ireturn, 1) := by decide +kernel
theorem dc_L_parts_0 : decode co_L_parts 0 = .ok (.aload_n 0, 1) := by decide +kernel
theorem dc_L_parts_1 : decode co_L_parts 1 = .ok (.getfield 35, 3) := by decide +kernel
theorem dc_L_parts_4 : decode co_L_parts 4 = .ok (.invokevirtual 111, 3) := by decide +kernel
theorem dc_L_parts_7 : decode co_L_parts 7 = .ok (.ireturn, 1) := by decide +kernel
theorem dc_L_length_0 : decode co_L_length 0 = .ok (.aload_n 0, 1) := by decide +kernel
theorem dc_L_length_1 : decode co_L_length 1 = .ok (.getfield 35, 3) := by decide +kernel
theorem dc_L_length_4 : decode co_L_length 4 = .ok (.iload_n 1, 1) := by decide +kernel
theorem dc_L_length_5 : decode co_L_length 5 = .ok (.invokevirtual 112, 3) := by decide +kernel
theorem dc_L_length_8 : decode co_L_length 8 = .ok (.ifCond .eq 14, 3) := by decide +kernel
theorem dc_L_length_11 : decode co_L_length 11 = .ok (.aload_n 0, 1) := by decide +kernel
theorem dc_L_length_12 : decode co_L_length 12 = .ok (.getfield 35, 3) := by decide +kernel
theorem dc_L_length_15 : decode co_L_length 15 = .ok (.iload_n 1, 1) := by decide +kernel
theorem dc_L_length_16 : decode co_L_length 16 = .ok (.invokevirtual 115, 3) := by decide +kernel
theorem dc_L_length_19 : decode co_L_length 19 = .ok (.goto 4, 3) := by decide +kernel
theorem dc_L_length_22 : decode co_L_length 22 = .ok (.iconst (-1), 1) := by decide +kernel
theorem dc_L_length_23 : decode co_L_length 23 = .ok (.ireturn, 1) := by decide +kernel
theorem dc_L_part_0 : decode co_L_part 0 = .ok (.aload_n 0, 1) := by decide +kernel
theorem dc_L_part_1 : decode co_L_part 1 = .ok (.getfield 35, 3) := by decide +kernel
theorem dc_L_part_4 : decode co_L_part 4 = .ok (.iload_n 1, 1) := by decide +kernel
theorem dc_L_part_5 : decode co_L_part 5 = .ok (.iload_n 2, 1) := by decide +kernel
theorem dc_L_part_6 : decode co_L_part 6 = .ok (.invokevirtual 118, 3) := by decide +kernel
theorem dc_L_part_9 : decode co_L_part 9 = .ok (.ifCond .eq 15, 3) := by decide +kernel
theorem dc_L_part_12 : decode co_L_part 12 = .ok (.aload_n 0, 1) := by decide +kernel
theorem dc_L_part_13 : decode co_L_part 13 = .ok (.getfield 35, 3) := by decide +kernel
theorem dc_L_part_16 : decode co_L_part 16 = .ok (.iload_n 1, 1) := by decide +kernel
theorem dc_L_part_17 : decode co_L_part 17 = .ok (.iload_n 2, 1) := by decide +kernel
theorem dc_L_part_18 : decode co_L_part 18 = .ok (.invokevirtual 122, 3) := by decide +kernel
theorem dc_L_part_21 : decode co_L_part 21 = .ok (.goto 4, 3) := by decide +kernel
theorem dc_L_part_24 : decode co_L_part 24 = .ok (.iconst (-1), 1) := by decide +kernel
theorem dc_L_part_25 : decode co_L_part 25 = .ok (.ireturn, 1) := by decide +kernel
theorem dc_L_alter_0 : decode co_L_alter 0 = .ok (.aload_n 0, 1) := by decide +kernel
theorem dc_L_alter_1 : decode co_L_alter 1 = .ok (.getfield 35, 3) := by decide +kernel
theorem dc_L_alter_4 : decode co_L_alter 4 = .ok (.iload_n 1, 1) := by decide +kernel
theorem dc_L_alter_5 : decode co_L_alter 5 = .ok (.iload_n 2, 1) := by decide +kernel
theorem dc_L_alter_6 : decode co_L_alter 6 = .ok (.invokevirtual 118, 3) := by decide +kernel
theorem dc_L_alter_9 : decode co_L_alter 9 = .ok (.ifCond .eq 14, 3) := by decide +kernel
theorem dc_L_alter_12 : decode co_L_alter 12 = .ok (.iload_n 3, 1) := by decide +kernel
theorem dc_L_alter_13 : decode co_L_alter 13 = .ok (.ifCond .lt 10, 3) := by decide +kernel
theorem dc_L_alter_16 : decode co_L_alter 16 = .ok (.iload_n 3, 1) := by decide +kernel
theorem dc_L_alter_17 : decode co_L_alter 17 = .ok (.sipush 255, 3) := by decide +kernel
theorem dc_L_alter_20 : decode co_L_alter 20 = .ok (.if_icmp .le 5, 3) := by decide +kernel
theorem dc_L_alter_23 : decode co_L_alter 23 = .ok (.iconst 0, 1) := by decide +kernel
theorem dc_L_alter_24 : decode co_L_alter 24 = .ok (.ireturn, 1) := by decide +kernel
theorem dc_L_alter_25 : decode co_L_alter 25 = .ok (.aload_n 0, 1) := by decide +kernel
theorem dc_L_alter_26 : decode co_L_alter 26 = .ok (.getfield 35, 3) := by decide +kernel
theorem dc_L_alter_29 : decode co_L_alter 29 = .ok (.iload_n 1, 1) := by decide +kernel
theorem dc_L_alter_30 : decode co_L_alter 30 = .ok (.iload_n 2, 1) := by decide +kernel
theorem dc_L_alter_31 : decode co_L_alter 31 = .ok (.invokevirtual 122, 3) := by decide +kernel
theorem dc_L_alter_34 : decode co_L_alter 34 = .ok (.iload_n 3, 1) := by decide +kernel
theorem dc_L_alter_35 : decode co_L_alter 35 = .ok (.if_icmp .eq 7, 3) := by decide +kernel
theorem dc_L_alter_38 : decode co_L_alter 38 = .ok (.iconst 1, 1) := by decide +kernel
theorem dc_L_alter_39 : decode co_L_alter 39 = .ok (.goto 4, 3) := by decide +kernel
theorem dc_L_alter_42 : decode co_L_alter 42 = .ok (.iconst 0, 1) := by decide +kernel
theorem dc_L_alter_43 : decode co_L_alter 43 = .ok (.istore 4, 2) := by decide +kernel
theorem dc_L_alter_45 : decode co_L_alter 45 = .ok (.aload_n 0, 1) := by decide +kernel
theorem dc_L_alter_46 : decode co_L_alter 46 = .ok (.getfield 35, 3) := by decide +kernel
theorem dc_L_alter_49 : decode co_L_alter 49 = .ok (.iload_n 1, 1) := by decide +kernel
theorem dc_L_alter_50 : decode co_L_alter 50 = .ok (.iload_n 2, 1) := by decide +kernel
theorem dc_L_alter_51 : decode co_L_alter 51 = .ok (.iload_n 3, 1) := by decide +kernel
theorem dc_L_alter_52 : decode co_L_alter 52 = .ok (.invokevirtual 126, 3) := by decide +kernel
theorem dc_L_alter_55 : decode co_L_alter 55 = .ok (.iload 4, 2) := by decide +kernel
theorem dc_L_alter_57 : decode co_L_alter 57 = .ok (.ireturn, 1) := by decide +kernel
theorem dc_L_shorten_0 : decode co_L_shorten 0 = .ok (.aload_n 0, 1) := by decide +kernel
theorem dc_L_shorten_1 : decode co_L_shorten 1 = .ok (.getfield 35, 3) := by decide +kernel
theorem dc_L_shorten_4 : decode co_L_shorten 4 = .ok (.invokevirtual 111, 3) := by decide +kernel
theorem dc_L_shorten_7 : decode co_L_shorten 7 = .ok (.ifCond .ne 5, 3) := by decide +kernel
theorem dc_L_shorten_10 : decode co_L_shorten 10 = .ok (.iconst (-1), 1) := by decide +kernel
theorem dc_L_shorten_11 : decode co_L_shorten 11 = .ok (.ireturn, 1) := by decide +kernel
theorem dc_L_shorten_12 : decode co_L_shorten 12 = .ok (.aload_n 0, 1) := by decide +kernel
theorem dc_L_shorten_13 : decode co_L_shorten 13 = .ok (.getfield 35, 3) := by decide +kernel
theorem dc_L_shorten_16 : decode co_L_shorten 16 = .ok (.invokevirtual 130, 3) := by decide +kernel
theorem dc_L_shorten_19 : decode co_L_shorten 19 = .ok (.aload_n 0, 1) := by decide +kernel
theorem dc_L_shorten_20 : decode co_L_shorten 20 = .ok (.getfield 35, 3) := by decide +kernel
theorem dc_L_shorten_23 : decode co_L_shorten 23 = .ok (.invokevirtual 111, 3) := by decide +kernel
theorem dc_L_shorten_26 : decode co_L_shorten 26 = .ok (.ireturn, 1) := by decide +kernel
theorem dc_L_check_0 : decode co_L_check 0 = .ok (.aload_n 0, 1) := by decide +kernel
theorem dc_L_check_1 : decode co_L_check 1 = .ok (.getfield 28, 3) := by decide +kernel
theorem dc_L_check_4 : decode co_L_check 4 = .ok (.invokevirtual 95, 3) := by decide +kernel
theorem dc_L_check_7 : decode co_L_check 7 = .ok (.aload_n 0, 1) := by decide +kernel
theorem dc_L_check_8 : decode co_L_check 8 = .ok (.iload_n 1, 1) := by decide +kernel
theorem dc_L_check_9 : decode co_L_check 9 = .ok (.invokestatic 55, 3) := by decide +kernel
theorem dc_L_check_12 : decode co_L_check 12 = .ok (.ifCond .eq 21, 3) := by decide +kernel
theorem dc_L_check_15 : decode co_L_check 15 = .ok (.aload_n 0, 1) := by decide +kernel
theorem dc_L_check_16 : decode co_L_check 16 = .ok (.getfield 44, 3) := by decide +kernel
theorem dc_L_check_19 : decode co_L_check 19 = .ok (.iload_n 1, 1) := by decide +kernel
theorem dc_L_check_20 : decode co_L_check 20 = .ok (.aload_n 0, 1) := by decide +kernel
theorem dc_L_check_21 : decode co_L_check 21 = .ok (.getfield 28, 3) := by decide +kernel
theorem dc_L_check_24 : decode co_L_check 24 = .ok (.invokevirtual 133, 3) := by decide +kernel
theorem dc_L_check_27 : decode co_L_check 27 = .ok (.invokevirtual 137, 3) := by decide +kernel
theorem dc_L_check_30 : decode co_L_check 30 = .ok (.goto 4, 3) := by decide +kernel
theorem dc_L_check_33 : decode co_L_check 33 = .ok (.iconst (-1), 1) := by decide +kernel
theorem dc_L_check_34 : decode co_L_check 34 = .ok (.putfield 52, 3) := by decide +kernel
theorem dc_L_check_37 : decode co_L_check 37 = .ok (.aload_n 0, 1) := by decide +kernel
theorem dc_L_check_38 : decode co_L_check 38 = .ok (.getfield 52, 3) := by decide +kernel
theorem dc_L_check_41 : decode co_L_check 41 = .ok (.ireturn, 1) := by decide +kernel
theorem dc_L_proven_0 : decode co_L_proven 0 = .ok (.aload_n 0, 1) := by decide +kernel
theorem dc_L_proven_1 : decode co_L_proven 1 = .ok (.getfield 52, 3) := by decide +kernel
theorem dc_L_proven_4 : decode co_L_proven 4 = .ok (.iconst 1, 1) := by decide +kernel
theorem dc_L_proven_5 : decode co_L_proven 5 = .ok (.if_icmp .eq 5, 3) := by decide +kernel
theorem dc_L_proven_8 : decode co_L_proven 8 = .ok (.lconst 0, 1) := by decide +kernel
theorem dc_L_proven_9 : decode co_L_proven 9 = .ok (.lreturn, 1) := by decide +kernel
theorem dc_L_proven_10 : decode co_L_proven 10 = .ok (.iload_n 1, 1) := by decide +kernel
theorem dc_L_proven_11 : decode co_L_proven 11 = .ok (.ifCond .ne 11, 3) := by decide +kernel
theorem dc_L_proven_14 : decode co_L_proven 14 = .ok (.aload_n 0, 1) := by decide +kernel
theorem dc_L_proven_15 : decode co_L_proven 15 = .ok (.getfield 44, 3) := by decide +kernel
theorem dc_L_proven_18 : decode co_L_proven 18 = .ok (.invokevirtual 141, 3) := by decide +kernel
theorem dc_L_proven_21 : decode co_L_proven 21 = .ok (.lreturn, 1) := by decide +kernel
theorem dc_L_proven_22 : decode co_L_proven 22 = .ok (.iload_n 1, 1) := by decide +kernel
theorem dc_L_proven_23 : decode co_L_proven 23 = .ok (.iconst 1, 1) := by decide +kernel
theorem dc_L_proven_24 : decode co_L_proven 24 = .ok (.if_icmp .ne 13, 3) := by decide +kernel
theorem dc_L_proven_27 : decode co_L_proven 27 = .ok (.aload_n 0, 1) := by decide +kernel
theorem dc_L_proven_28 : decode co_L_proven 28 = .ok (.getfield 44, 3) := by decide +kernel
theorem dc_L_proven_31 : decode co_L_proven 31 = .ok (.invokevirtual 145, 3) := by decide +kernel
theorem dc_L_proven_34 : decode co_L_proven 34 = .ok (.goto 4, 3) := by decide +kernel
theorem dc_L_proven_37 : decode co_L_proven 37 = .ok (.lconst 0, 1) := by decide +kernel
theorem dc_L_proven_38 : decode co_L_proven 38 = .ok (.lreturn, 1) := by decide +kernel
theorem dc_L_isAccount_0 : decode co_L_isAccount 0 = .ok (.iload_n 0, 1) := by decide +kernel
theorem dc_L_isAccount_1 : decode co_L_isAccount 1 = .ok (.ifCond .lt 13, 3) := by decide +kernel
theorem dc_L_isAccount_4 : decode co_L_isAccount 4 = .ok (.iload_n 0, 1) := by decide +kernel
theorem dc_L_isAccount_5 : decode co_L_isAccount 5 = .ok (.ldc 148, 2) := by decide +kernel
theorem dc_L_isAccount_7 : decode co_L_isAccount 7 = .ok (.if_icmp .gt 7, 3) := by decide +kernel
theorem dc_L_isAccount_10 : decode co_L_isAccount 10 = .ok (.iconst 1, 1) := by decide +kernel
theorem dc_L_isAccount_11 : decode co_L_isAccount 11 = .ok (.goto 4, 3) := by decide +kernel
theorem dc_L_isAccount_14 : decode co_L_isAccount 14 = .ok (.iconst 0, 1) := by decide +kernel
theorem dc_L_isAccount_15 : decode co_L_isAccount 15 = .ok (.ireturn, 1) := by decide +kernel
theorem dc_L_isSendable_0 : decode co_L_isSendable 0 = .ok (.lload_n 0, 1) := by decide +kernel
theorem dc_L_isSendable_1 : decode co_L_isSendable 1 = .ok (.lconst 0, 1) := by decide +kernel
theorem dc_L_isSendable_2 : decode co_L_isSendable 2 = .ok (.lcmp, 1) := by decide +kernel
theorem dc_L_isSendable_3 : decode co_L_isSendable 3 = .ok (.ifCond .lt 15, 3) := by decide +kernel
theorem dc_L_isSendable_6 : decode co_L_isSendable 6 = .ok (.lload_n 0, 1) := by decide +kernel
theorem dc_L_isSendable_7 : decode co_L_isSendable 7 = .ok (.ldc2_w 59, 3) := by decide +kernel
theorem dc_L_isSendable_10 : decode co_L_isSendable 10 = .ok (.lcmp, 1) := by decide +kernel
theorem dc_L_isSendable_11 : decode co_L_isSendable 11 = .ok (.ifCond .gt 7, 3) := by decide +kernel
theorem dc_L_isSendable_14 : decode co_L_isSendable 14 = .ok (.iconst 1, 1) := by decide +kernel
theorem dc_L_isSendable_15 : decode co_L_isSendable 15 = .ok (.goto 4, 3) := by decide +kernel
theorem dc_L_isSendable_18 : decode co_L_isSendable 18 = .ok (.iconst 0, 1) := by decide +kernel
theorem dc_L_isSendable_19 : decode co_L_isSendable 19 = .ok (.ireturn, 1) := by decide +kernel
theorem dc_L_digit_0 : decode co_L_digit 0 = .ok (.iload_n 0, 1) := by decide +kernel
theorem dc_L_digit_1 : decode co_L_digit 1 = .ok (.iconst 4, 1) := by decide +kernel
theorem dc_L_digit_2 : decode co_L_digit 2 = .ok (.iconst 3, 1) := by decide +kernel
theorem dc_L_digit_3 : decode co_L_digit 3 = .ok (.iload_n 1, 1) := by decide +kernel
theorem dc_L_digit_4 : decode co_L_digit 4 = .ok (.isub, 1) := by decide +kernel
theorem dc_L_digit_5 : decode co_L_digit 5 = .ok (.imul, 1) := by decide +kernel
theorem dc_L_digit_6 : decode co_L_digit 6 = .ok (.ishr, 1) := by decide +kernel
theorem dc_L_digit_7 : decode co_L_digit 7 = .ok (.bipush 15, 2) := by decide +kernel
theorem dc_L_digit_9 : decode co_L_digit 9 = .ok (.iand, 1) := by decide +kernel
theorem dc_L_digit_10 : decode co_L_digit 10 = .ok (.ireturn, 1) := by decide +kernel
theorem dc_L_newcomers_0 : decode co_L_newcomers 0 = .ok (.aload_n 0, 1) := by decide +kernel
theorem dc_L_newcomers_1 : decode co_L_newcomers 1 = .ok (.getfield 12, 3) := by decide +kernel
theorem dc_L_newcomers_4 : decode co_L_newcomers 4 = .ok (.iload_n 1, 1) := by decide +kernel
theorem dc_L_newcomers_5 : decode co_L_newcomers 5 = .ok (.invokevirtual 61, 3) := by decide +kernel
theorem dc_L_newcomers_8 : decode co_L_newcomers 8 = .ok (.ifCond .ne 7, 3) := by decide +kernel
theorem dc_L_newcomers_11 : decode co_L_newcomers 11 = .ok (.iconst 1, 1) := by decide +kernel
theorem dc_L_newcomers_12 : decode co_L_newcomers 12 = .ok (.goto 4, 3) := by decide +kernel
theorem dc_L_newcomers_15 : decode co_L_newcomers 15 = .ok (.iconst 0, 1) := by decide +kernel
theorem dc_L_newcomers_16 : decode co_L_newcomers 16 = .ok (.istore 7, 2) := by decide +kernel
theorem dc_L_newcomers_18 : decode co_L_newcomers 18 = .ok (.lload_n 3, 1) := by decide +kernel
theorem dc_L_newcomers_19 : decode co_L_newcomers 19 = .ok (.lconst 0, 1) := by decide +kernel
theorem dc_L_newcomers_20 : decode co_L_newcomers 20 = .ok (.lcmp, 1) := by decide +kernel
theorem dc_L_newcomers_21 : decode co_L_newcomers 21 = .ok (.ifCond .le 23, 3) := by decide +kernel
theorem dc_L_newcomers_24 : decode co_L_newcomers 24 = .ok (.iload_n 2, 1) := by decide +kernel
theorem dc_L_newcomers_25 : decode co_L_newcomers 25 = .ok (.iload_n 1, 1) := by decide +kernel
theorem dc_L_newcomers_26 : decode co_L_newcomers 26 = .ok (.if_icmp .eq 18, 3) := by decide +kernel
theorem dc_L_newcomers_29 : decode co_L_newcomers 29 = .ok (.aload_n 0, 1) := by decide +kernel
theorem dc_L_newcomers_30 : decode co_L_newcomers 30 = .ok (.getfield 12, 3) := by decide +kernel
theorem dc_L_newcomers_33 : decode co_L_newcomers 33 = .ok (.iload_n 2, 1) := by decide +kernel
theorem dc_L_newcomers_34 : decode co_L_newcomers 34 = .ok (.invokevirtual 61, 3) := by decide +kernel
theorem dc_L_newcomers_37 : decode co_L_newcomers 37 = .ok (.ifCond .ne 7, 3) := by decide +kernel
theorem dc_L_newcomers_40 : decode co_L_newcomers 40 = .ok (.iconst 1, 1) := by decide +kernel
theorem dc_L_newcomers_41 : decode co_L_newcomers 41 = .ok (.goto 4, 3) := by decide +kernel
theorem dc_L_newcomers_44 : decode co_L_newcomers 44 = .ok (.iconst 0, 1) := by decide +kernel
theorem dc_L_newcomers_45 : decode co_L_newcomers 45 = .ok (.istore 8, 2) := by decide +kernel
theorem dc_L_newcomers_47 : decode co_L_newcomers 47 = .ok (.lload 5, 2) := by decide +kernel
theorem dc_L_newcomers_49 : decode co_L_newcomers 49 = .ok (.lconst 0, 1) := by decide +kernel
theorem dc_L_newcomers_50 : decode co_L_newcomers 50 = .ok (.lcmp, 1) := by decide +kernel
theorem dc_L_newcomers_51 : decode co_L_newcomers 51 = .ok (.ifCond .le 42, 3) := by decide +kernel
theorem dc_L_newcomers_54 : decode co_L_newcomers 54 = .ok (.aload_n 0, 1) := by decide +kernel
theorem dc_L_newcomers_55 : decode co_L_newcomers 55 = .ok (.getfield 48, 3) := by decide +kernel
theorem dc_L_newcomers_58 : decode co_L_newcomers 58 = .ok (.iload_n 1, 1) := by decide +kernel
theorem dc_L_newcomers_59 : decode co_L_newcomers 59 = .ok (.if_icmp .eq 34, 3) := by decide +kernel
theorem dc_L_newcomers_62 : decode co_L_newcomers 62 = .ok (.aload_n 0, 1) := by decide +kernel
theorem dc_L_newcomers_63 : decode co_L_newcomers 63 = .ok (.getfield 12, 3) := by decide +kernel
theorem dc_L_newcomers_66 : decode co_L_newcomers 66 = .ok (.aload_n 0, 1) := by decide +kernel
theorem dc_L_newcomers_67 : decode co_L_newcomers 67 = .ok (.getfield 48, 3) := by decide +kernel
theorem dc_L_newcomers_70 : decode co_L_newcomers 70 = .ok (.invokevirtual 61, 3) := by decide +kernel
theorem dc_L_newcomers_73 : decode co_L_newcomers 73 = .ok (.ifCond .ne 20, 3) := by decide +kernel
theorem dc_L_newcomers_76 : decode co_L_newcomers 76 = .ok (.iload 8, 2) := by decide +kernel
theorem dc_L_newcomers_78 : decode co_L_newcomers 78 = .ok (.ifCond .eq 11, 3) := by decide +kernel
theorem dc_L_newcomers_81 : decode co_L_newcomers 81 = .ok (.aload_n 0, 1) := by decide +kernel
theorem dc_L_newcomers_82 : decode co_L_newcomers 82 = .ok (.getfield 48, 3) := by decide +kernel
theorem dc_L_newcomers_85 : decode co_L_newcomers 85 = .ok (.iload_n 2, 1) := by decide +kernel
theorem dc_L_newcomers_86 : decode co_L_newcomers 86 = .ok (.if_icmp .eq 7, 3) := by decide +kernel
theorem dc_L_newcomers_89 : decode co_L_newcomers 89 = .ok (.iconst 1, 1) := by decide +kernel
theorem dc_L_newcomers_90 : decode co_L_newcomers 90 = .ok (.goto 4, 3) := by decide +kernel
theorem dc_L_newcomers_93 : decode co_L_newcomers 93 = .ok (.iconst 0, 1) := by decide +kernel
theorem dc_L_newcomers_94 : decode co_L_newcomers 94 = .ok (.istore 9, 2) := by decide +kernel
theorem dc_L_newcomers_96 : decode co_L_newcomers 96 = .ok (.iload 7, 2) := by decide +kernel
theorem dc_L_newcomers_98 : decode co_L_newcomers 98 = .ok (.ifCond .eq 7, 3) := by decide +kernel
theorem dc_L_newcomers_101 : decode co_L_newcomers 101 = .ok (.iconst 1, 1) := by decide +kernel
theorem dc_L_newcomers_102 : decode co_L_newcomers 102 = .ok (.goto 4, 3) := by decide +kernel
theorem dc_L_newcomers_105 : decode co_L_newcomers 105 = .ok (.iconst 0, 1) := by decide +kernel
theorem dc_L_newcomers_106 : decode co_L_newcomers 106 = .ok (.iload 8, 2) := by decide +kernel
theorem dc_L_newcomers_108 : decode co_L_newcomers 108 = .ok (.ifCond .eq 7, 3) := by decide +kernel
theorem dc_L_newcomers_111 : decode co_L_newcomers 111 = .ok (.iconst 1, 1) := by decide +kernel
theorem dc_L_newcomers_112 : decode co_L_newcomers 112 = .ok (.goto 4, 3) := by decide +kernel
theorem dc_L_newcomers_115 : decode co_L_newcomers 115 = .ok (.iconst 0, 1) := by decide +kernel
theorem dc_L_newcomers_116 : decode co_L_newcomers 116 = .ok (.iadd, 1) := by decide +kernel
theorem dc_L_newcomers_117 : decode co_L_newcomers 117 = .ok (.iload 9, 2) := by decide +kernel
theorem dc_L_newcomers_119 : decode co_L_newcomers 119 = .ok (.ifCond .eq 7, 3) := by decide +kernel
theorem dc_L_newcomers_122 : decode co_L_newcomers 122 = .ok (.iconst 1, 1) := by decide +kernel
theorem dc_L_newcomers_123 : decode co_L_newcomers 123 = .ok (.goto 4, 3) := by decide +kernel
theorem dc_L_newcomers_126 : decode co_L_newcomers 126 = .ok (.iconst 0, 1) := by decide +kernel
theorem dc_L_newcomers_127 : decode co_L_newcomers 127 = .ok (.iadd, 1) := by decide +kernel
theorem dc_L_newcomers_128 : decode co_L_newcomers 128 = .ok (.ireturn, 1) := by decide +kernel
