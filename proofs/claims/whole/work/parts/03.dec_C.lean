theorem dc_C_init_0 : decode co_C_init 0 = .ok (.aload_n 0, 1) := by decide +kernel
theorem dc_C_init_1 : decode co_C_init 1 = .ok (.invokespecial 3, 3) := by decide +kernel
theorem dc_C_init_4 : decode co_C_init 4 = .ok (.aload_n 0, 1) := by decide +kernel
theorem dc_C_init_5 : decode co_C_init 5 = .ok (.sipush 2176, 3) := by decide +kernel
theorem dc_C_init_8 : decode co_C_init 8 = .ok (.newarray .int, 2) := by decide +kernel
theorem dc_C_init_10 : decode co_C_init 10 = .ok (.putfield 9, 3) := by decide +kernel
theorem dc_C_init_13 : decode co_C_init 13 = .ok (.return_, 1) := by decide +kernel
theorem dc_C_clear_0 : decode co_C_clear 0 = .ok (.aload_n 0, 1) := by decide +kernel
theorem dc_C_clear_1 : decode co_C_clear 1 = .ok (.iconst 0, 1) := by decide +kernel
theorem dc_C_clear_2 : decode co_C_clear 2 = .ok (.putfield 15, 3) := by decide +kernel
theorem dc_C_clear_5 : decode co_C_clear 5 = .ok (.return_, 1) := by decide +kernel
theorem dc_C_used_0 : decode co_C_used 0 = .ok (.aload_n 0, 1) := by decide +kernel
theorem dc_C_used_1 : decode co_C_used 1 = .ok (.getfield 15, 3) := by decide +kernel
theorem dc_C_used_4 : decode co_C_used 4 = .ok (.ireturn, 1) := by decide +kernel
theorem dc_C_bytes_0 : decode co_C_bytes 0 = .ok (.aload_n 0, 1) := by decide +kernel
theorem dc_C_bytes_1 : decode co_C_bytes 1 = .ok (.getfield 9, 3) := by decide +kernel
theorem dc_C_bytes_4 : decode co_C_bytes 4 = .ok (.areturn, 1) := by decide +kernel
theorem dc_C_put_0 : decode co_C_put 0 = .ok (.aload_n 0, 1) := by decide +kernel
theorem dc_C_put_1 : decode co_C_put 1 = .ok (.getfield 15, 3) := by decide +kernel
theorem dc_C_put_4 : decode co_C_put 4 = .ok (.aload_n 0, 1) := by decide +kernel
theorem dc_C_put_5 : decode co_C_put 5 = .ok (.getfield 9, 3) := by decide +kernel
theorem dc_C_put_8 : decode co_C_put 8 = .ok (.arraylength, 1) := by decide +kernel
theorem dc_C_put_9 : decode co_C_put 9 = .ok (.if_icmp .ge 23, 3) := by decide +kernel
theorem dc_C_put_12 : decode co_C_put 12 = .ok (.aload_n 0, 1) := by decide +kernel
theorem dc_C_put_13 : decode co_C_put 13 = .ok (.getfield 9, 3) := by decide +kernel
theorem dc_C_put_16 : decode co_C_put 16 = .ok (.aload_n 0, 1) := by decide +kernel
theorem dc_C_put_17 : decode co_C_put 17 = .ok (.getfield 15, 3) := by decide +kernel
theorem dc_C_put_20 : decode co_C_put 20 = .ok (.iload_n 1, 1) := by decide +kernel
theorem dc_C_put_21 : decode co_C_put 21 = .ok (.iastore, 1) := by decide +kernel
theorem dc_C_put_22 : decode co_C_put 22 = .ok (.aload_n 0, 1) := by decide +kernel
theorem dc_C_put_23 : decode co_C_put 23 = .ok (.dup, 1) := by decide +kernel
theorem dc_C_put_24 : decode co_C_put 24 = .ok (.getfield 15, 3) := by decide +kernel
theorem dc_C_put_27 : decode co_C_put 27 = .ok (.iconst 1, 1) := by decide +kernel
theorem dc_C_put_28 : decode co_C_put 28 = .ok (.iadd, 1) := by decide +kernel
theorem dc_C_put_29 : decode co_C_put 29 = .ok (.putfield 15, 3) := by decide +kernel
theorem dc_C_put_32 : decode co_C_put 32 = .ok (.return_, 1) := by decide +kernel
theorem dc_C_copy_0 : decode co_C_copy 0 = .ok (.iload_n 1, 1) := by decide +kernel
theorem dc_C_copy_1 : decode co_C_copy 1 = .ok (.istore_n 3, 1) := by decide +kernel
theorem dc_C_copy_2 : decode co_C_copy 2 = .ok (.iload_n 3, 1) := by decide +kernel
theorem dc_C_copy_3 : decode co_C_copy 3 = .ok (.iload_n 1, 1) := by decide +kernel
theorem dc_C_copy_4 : decode co_C_copy 4 = .ok (.iload_n 2, 1) := by decide +kernel
theorem dc_C_copy_5 : decode co_C_copy 5 = .ok (.iadd, 1) := by decide +kernel
theorem dc_C_copy_6 : decode co_C_copy 6 = .ok (.if_icmp .ge 31, 3) := by decide +kernel
theorem dc_C_copy_9 : decode co_C_copy 9 = .ok (.iload_n 3, 1) := by decide +kernel
theorem dc_C_copy_10 : decode co_C_copy 10 = .ok (.ifCond .lt 27, 3) := by decide +kernel
theorem dc_C_copy_13 : decode co_C_copy 13 = .ok (.iload_n 3, 1) := by decide +kernel
theorem dc_C_copy_14 : decode co_C_copy 14 = .ok (.aload_n 0, 1) := by decide +kernel
theorem dc_C_copy_15 : decode co_C_copy 15 = .ok (.getfield 15, 3) := by decide +kernel
theorem dc_C_copy_18 : decode co_C_copy 18 = .ok (.if_icmp .ge 19, 3) := by decide +kernel
theorem dc_C_copy_21 : decode co_C_copy 21 = .ok (.aload_n 0, 1) := by decide +kernel
theorem dc_C_copy_22 : decode co_C_copy 22 = .ok (.aload_n 0, 1) := by decide +kernel
theorem dc_C_copy_23 : decode co_C_copy 23 = .ok (.getfield 9, 3) := by decide +kernel
theorem dc_C_copy_26 : decode co_C_copy 26 = .ok (.iload_n 3, 1) := by decide +kernel
theorem dc_C_copy_27 : decode co_C_copy 27 = .ok (.iaload, 1) := by decide +kernel
theorem dc_C_copy_28 : decode co_C_copy 28 = .ok (.invokevirtual 19, 3) := by decide +kernel
theorem dc_C_copy_31 : decode co_C_copy 31 = .ok (.iinc 3 1, 3) := by decide +kernel
theorem dc_C_copy_34 : decode co_C_copy 34 = .ok (.goto (-32), 3) := by decide +kernel
theorem dc_C_copy_37 : decode co_C_copy 37 = .ok (.return_, 1) := by decide +kernel
theorem dc_C_open_0 : decode co_C_open 0 = .ok (.aload_n 0, 1) := by decide +kernel
theorem dc_C_open_1 : decode co_C_open 1 = .ok (.getfield 15, 3) := by decide +kernel
theorem dc_C_open_4 : decode co_C_open 4 = .ok (.istore_n 1, 1) := by decide +kernel
theorem dc_C_open_5 : decode co_C_open 5 = .ok (.iconst 0, 1) := by decide +kernel
theorem dc_C_open_6 : decode co_C_open 6 = .ok (.istore_n 2, 1) := by decide +kernel
theorem dc_C_open_7 : decode co_C_open 7 = .ok (.iload_n 2, 1) := by decide +kernel
theorem dc_C_open_8 : decode co_C_open 8 = .ok (.iconst 3, 1) := by decide +kernel
theorem dc_C_open_9 : decode co_C_open 9 = .ok (.if_icmp .ge 14, 3) := by decide +kernel
theorem dc_C_open_12 : decode co_C_open 12 = .ok (.aload_n 0, 1) := by decide +kernel
theorem dc_C_open_13 : decode co_C_open 13 = .ok (.iconst 0, 1) := by decide +kernel
theorem dc_C_open_14 : decode co_C_open 14 = .ok (.invokevirtual 19, 3) := by decide +kernel
theorem dc_C_open_17 : decode co_C_open 17 = .ok (.iinc 2 1, 3) := by decide +kernel
theorem dc_C_open_20 : decode co_C_open 20 = .ok (.goto (-13), 3) := by decide +kernel
theorem dc_C_open_23 : decode co_C_open 23 = .ok (.iload_n 1, 1) := by decide +kernel
theorem dc_C_open_24 : decode co_C_open 24 = .ok (.ireturn, 1) := by decide +kernel
theorem dc_C_shut_0 : decode co_C_shut 0 = .ok (.iload_n 1, 1) := by decide +kernel
theorem dc_C_shut_1 : decode co_C_shut 1 = .ok (.iconst 3, 1) := by decide +kernel
theorem dc_C_shut_2 : decode co_C_shut 2 = .ok (.iadd, 1) := by decide +kernel
theorem dc_C_shut_3 : decode co_C_shut 3 = .ok (.istore_n 3, 1) := by decide +kernel
theorem dc_C_shut_4 : decode co_C_shut 4 = .ok (.aload_n 0, 1) := by decide +kernel
theorem dc_C_shut_5 : decode co_C_shut 5 = .ok (.getfield 15, 3) := by decide +kernel
theorem dc_C_shut_8 : decode co_C_shut 8 = .ok (.iload_n 3, 1) := by decide +kernel
theorem dc_C_shut_9 : decode co_C_shut 9 = .ok (.isub, 1) := by decide +kernel
theorem dc_C_shut_10 : decode co_C_shut 10 = .ok (.istore 4, 2) := by decide +kernel
theorem dc_C_shut_12 : decode co_C_shut 12 = .ok (.iload_n 1, 1) := by decide +kernel
theorem dc_C_shut_13 : decode co_C_shut 13 = .ok (.ifCond .lt 8, 3) := by decide +kernel
theorem dc_C_shut_16 : decode co_C_shut 16 = .ok (.iload 4, 2) := by decide +kernel
theorem dc_C_shut_18 : decode co_C_shut 18 = .ok (.ifCond .ge 4, 3) := by decide +kernel
theorem dc_C_shut_21 : decode co_C_shut 21 = .ok (.return_, 1) := by decide +kernel
theorem dc_C_shut_22 : decode co_C_shut 22 = .ok (.iload 4, 2) := by decide +kernel
theorem dc_C_shut_24 : decode co_C_shut 24 = .ok (.ifCond .ne 7, 3) := by decide +kernel
theorem dc_C_shut_27 : decode co_C_shut 27 = .ok (.iconst 0, 1) := by decide +kernel
theorem dc_C_shut_28 : decode co_C_shut 28 = .ok (.goto 9, 3) := by decide +kernel
theorem dc_C_shut_31 : decode co_C_shut 31 = .ok (.aload_n 0, 1) := by decide +kernel
theorem dc_C_shut_32 : decode co_C_shut 32 = .ok (.getfield 9, 3) := by decide +kernel
theorem dc_C_shut_35 : decode co_C_shut 35 = .ok (.iload_n 3, 1) := by decide +kernel
theorem dc_C_shut_36 : decode co_C_shut 36 = .ok (.iaload, 1) := by decide +kernel
theorem dc_C_shut_37 : decode co_C_shut 37 = .ok (.istore 5, 2) := by decide +kernel
theorem dc_C_shut_39 : decode co_C_shut 39 = .ok (.aload_n 0, 1) := by decide +kernel
theorem dc_C_shut_40 : decode co_C_shut 40 = .ok (.iload_n 1, 1) := by decide +kernel
theorem dc_C_shut_41 : decode co_C_shut 41 = .ok (.putfield 15, 3) := by decide +kernel
theorem dc_C_shut_44 : decode co_C_shut 44 = .ok (.iload_n 2, 1) := by decide +kernel
theorem dc_C_shut_45 : decode co_C_shut 45 = .ok (.sipush 192, 3) := by decide +kernel
theorem dc_C_shut_48 : decode co_C_shut 48 = .ok (.if_icmp .eq 17, 3) := by decide +kernel
theorem dc_C_shut_51 : decode co_C_shut 51 = .ok (.iload 4, 2) := by decide +kernel
theorem dc_C_shut_53 : decode co_C_shut 53 = .ok (.iconst 1, 1) := by decide +kernel
theorem dc_C_shut_54 : decode co_C_shut 54 = .ok (.if_icmp .ne 11, 3) := by decide +kernel
theorem dc_C_shut_57 : decode co_C_shut 57 = .ok (.iload 5, 2) := by decide +kernel
theorem dc_C_shut_59 : decode co_C_shut 59 = .ok (.sipush 128, 3) := by decide +kernel
theorem dc_C_shut_62 : decode co_C_shut 62 = .ok (.if_icmp .lt 10, 3) := by decide +kernel
theorem dc_C_shut_65 : decode co_C_shut 65 = .ok (.aload_n 0, 1) := by decide +kernel
theorem dc_C_shut_66 : decode co_C_shut 66 = .ok (.iload_n 2, 1) := by decide +kernel
theorem dc_C_shut_67 : decode co_C_shut 67 = .ok (.iload 4, 2) := by decide +kernel
theorem dc_C_shut_69 : decode co_C_shut 69 = .ok (.invokevirtual 23, 3) := by decide +kernel
theorem dc_C_shut_72 : decode co_C_shut 72 = .ok (.iload_n 3, 1) := by decide +kernel
theorem dc_C_shut_73 : decode co_C_shut 73 = .ok (.istore 6, 2) := by decide +kernel
theorem dc_C_shut_75 : decode co_C_shut 75 = .ok (.iload 6, 2) := by decide +kernel
theorem dc_C_shut_77 : decode co_C_shut 77 = .ok (.iload_n 3, 1) := by decide +kernel
theorem dc_C_shut_78 : decode co_C_shut 78 = .ok (.iload 4, 2) := by decide +kernel
theorem dc_C_shut_80 : decode co_C_shut 80 = .ok (.iadd, 1) := by decide +kernel
theorem dc_C_shut_81 : decode co_C_shut 81 = .ok (.if_icmp .ge 20, 3) := by decide +kernel
theorem dc_C_shut_84 : decode co_C_shut 84 = .ok (.aload_n 0, 1) := by decide +kernel
theorem dc_C_shut_85 : decode co_C_shut 85 = .ok (.aload_n 0, 1) := by decide +kernel
theorem dc_C_shut_86 : decode co_C_shut 86 = .ok (.getfield 9, 3) := by decide +kernel
theorem dc_C_shut_89 : decode co_C_shut 89 = .ok (.iload 6, 2) := by decide +kernel
theorem dc_C_shut_91 : decode co_C_shut 91 = .ok (.iaload, 1) := by decide +kernel
theorem dc_C_shut_92 : decode co_C_shut 92 = .ok (.invokevirtual 19, 3) := by decide +kernel
theorem dc_C_shut_95 : decode co_C_shut 95 = .ok (.iinc 6 1, 3) := by decide +kernel
theorem dc_C_shut_98 : decode co_C_shut 98 = .ok (.goto (-23), 3) := by decide +kernel
theorem dc_C_shut_101 : decode co_C_shut 101 = .ok (.return_, 1) := by decide +kernel
theorem dc_C_putHead_0 : decode co_C_putHead 0 = .ok (.iload_n 2, 1) := by decide +kernel
theorem dc_C_putHead_1 : decode co_C_putHead 1 = .ok (.bipush 55, 2) := by decide +kernel
theorem dc_C_putHead_3 : decode co_C_putHead 3 = .ok (.if_icmp .gt 13, 3) := by decide +kernel
theorem dc_C_putHead_6 : decode co_C_putHead 6 = .ok (.aload_n 0, 1) := by decide +kernel
theorem dc_C_putHead_7 : decode co_C_putHead 7 = .ok (.iload_n 1, 1) := by decide +kernel
theorem dc_C_putHead_8 : decode co_C_putHead 8 = .ok (.iload_n 2, 1) := by decide +kernel
theorem dc_C_putHead_9 : decode co_C_putHead 9 = .ok (.iadd, 1) := by decide +kernel
theorem dc_C_putHead_10 : decode co_C_putHead 10 = .ok (.invokevirtual 19, 3) := by decide +kernel
theorem dc_C_putHead_13 : decode co_C_putHead 13 = .ok (.goto 55, 3) := by decide +kernel
theorem dc_C_putHead_16 : decode co_C_putHead 16 = .ok (.iload_n 2, 1) := by decide +kernel
theorem dc_C_putHead_17 : decode co_C_putHead 17 = .ok (.sipush 256, 3) := by decide +kernel
theorem dc_C_putHead_20 : decode co_C_putHead 20 = .ok (.if_icmp .ge 21, 3) := by decide +kernel
theorem dc_C_putHead_23 : decode co_C_putHead 23 = .ok (.aload_n 0, 1) := by decide +kernel
theorem dc_C_putHead_24 : decode co_C_putHead 24 = .ok (.iload_n 1, 1) := by decide +kernel
theorem dc_C_putHead_25 : decode co_C_putHead 25 = .ok (.bipush 55, 2) := by decide +kernel
theorem dc_C_putHead_27 : decode co_C_putHead 27 = .ok (.iadd, 1) := by decide +kernel
theorem dc_C_putHead_28 : decode co_C_putHead 28 = .ok (.iconst 1, 1) := by decide +kernel
theorem dc_C_putHead_29 : decode co_C_putHead 29 = .ok (.iadd, 1) := by decide +kernel
theorem dc_C_putHead_30 : decode co_C_putHead 30 = .ok (.invokevirtual 19, 3) := by decide +kernel
theorem dc_C_putHead_33 : decode co_C_putHead 33 = .ok (.aload_n 0, 1) := by decide +kernel
theorem dc_C_putHead_34 : decode co_C_putHead 34 = .ok (.iload_n 2, 1) := by decide +kernel
theorem dc_C_putHead_35 : decode co_C_putHead 35 = .ok (.invokevirtual 19, 3) := by decide +kernel
theorem dc_C_putHead_38 : decode co_C_putHead 38 = .ok (.goto 30, 3) := by decide +kernel
theorem dc_C_putHead_41 : decode co_C_putHead 41 = .ok (.aload_n 0, 1) := by decide +kernel
theorem dc_C_putHead_42 : decode co_C_putHead 42 = .ok (.iload_n 1, 1) := by decide +kernel
theorem dc_C_putHead_43 : decode co_C_putHead 43 = .ok (.bipush 55, 2) := by decide +kernel
theorem dc_C_putHead_45 : decode co_C_putHead 45 = .ok (.iadd, 1) := by decide +kernel
theorem dc_C_putHead_46 : decode co_C_putHead 46 = .ok (.iconst 2, 1) := by decide +kernel
theorem dc_C_putHead_47 : decode co_C_putHead 47 = .ok (.iadd, 1) := by decide +kernel
theorem dc_C_putHead_48 : decode co_C_putHead 48 = .ok (.invokevirtual 19, 3) := by decide +kernel
theorem dc_C_putHead_51 : decode co_C_putHead 51 = .ok (.aload_n 0, 1) := by decide +kernel
theorem dc_C_putHead_52 : decode co_C_putHead 52 = .ok (.iload_n 2, 1) := by decide +kernel
theorem dc_C_putHead_53 : decode co_C_putHead 53 = .ok (.bipush 8, 2) := by decide +kernel
theorem dc_C_putHead_55 : decode co_C_putHead 55 = .ok (.ishr, 1) := by decide +kernel
theorem dc_C_putHead_56 : decode co_C_putHead 56 = .ok (.invokevirtual 19, 3) := by decide +kernel
theorem dc_C_putHead_59 : decode co_C_putHead 59 = .ok (.aload_n 0, 1) := by decide +kernel
theorem dc_C_putHead_60 : decode co_C_putHead 60 = .ok (.iload_n 2, 1) := by decide +kernel
theorem dc_C_putHead_61 : decode co_C_putHead 61 = .ok (.sipush 255, 3) := by decide +kernel
theorem dc_C_putHead_64 : decode co_C_putHead 64 = .ok (.iand, 1) := by decide +kernel
theorem dc_C_putHead_65 : decode co_C_putHead 65 = .ok (.invokevirtual 19, 3) := by decide +kernel
theorem dc_C_putHead_68 : decode co_C_putHead 68 = .ok (.return_, 1) := by decide +kernel
theorem dc_C_putNumber_0 : decode co_C_putNumber 0 = .ok (.aload_n 0, 1) := by decide +kernel
theorem dc_C_putNumber_1 : decode co_C_putNumber 1 = .ok (.invokevirtual 27, 3) := by decide +kernel
theorem dc_C_putNumber_4 : decode co_C_putNumber 4 = .ok (.istore_n 3, 1) := by decide +kernel
theorem dc_C_putNumber_5 : decode co_C_putNumber 5 = .ok (.iconst 0, 1) := by decide +kernel
theorem dc_C_putNumber_6 : decode co_C_putNumber 6 = .ok (.istore 4, 2) := by decide +kernel
theorem dc_C_putNumber_8 : decode co_C_putNumber 8 = .ok (.bipush 56, 2) := by decide +kernel
theorem dc_C_putNumber_10 : decode co_C_putNumber 10 = .ok (.istore 5, 2) := by decide +kernel
theorem dc_C_putNumber_12 : decode co_C_putNumber 12 = .ok (.iload 5, 2) := by decide +kernel
theorem dc_C_putNumber_14 : decode co_C_putNumber 14 = .ok (.ifCond .lt 48, 3) := by decide +kernel
theorem dc_C_putNumber_17 : decode co_C_putNumber 17 = .ok (.lload_n 1, 1) := by decide +kernel
theorem dc_C_putNumber_18 : decode co_C_putNumber 18 = .ok (.iload 5, 2) := by decide +kernel
theorem dc_C_putNumber_20 : decode co_C_putNumber 20 = .ok (.lushr, 1) := by decide +kernel
theorem dc_C_putNumber_21 : decode co_C_putNumber 21 = .ok (.l2i, 1) := by decide +kernel
theorem dc_C_putNumber_22 : decode co_C_putNumber 22 = .ok (.sipush 255, 3) := by decide +kernel
theorem dc_C_putNumber_25 : decode co_C_putNumber 25 = .ok (.iand, 1) := by decide +kernel
theorem dc_C_putNumber_26 : decode co_C_putNumber 26 = .ok (.istore 6, 2) := by decide +kernel
theorem dc_C_putNumber_28 : decode co_C_putNumber 28 = .ok (.iload 4, 2) := by decide +kernel
theorem dc_C_putNumber_30 : decode co_C_putNumber 30 = .ok (.ifCond .ne 8, 3) := by decide +kernel
theorem dc_C_putNumber_33 : decode co_C_putNumber 33 = .ok (.iload 6, 2) := by decide +kernel
theorem dc_C_putNumber_35 : decode co_C_putNumber 35 = .ok (.ifCond .eq 7, 3) := by decide +kernel
theorem dc_C_putNumber_38 : decode co_C_putNumber 38 = .ok (.iconst 1, 1) := by decide +kernel
theorem dc_C_putNumber_39 : decode co_C_putNumber 39 = .ok (.goto 4, 3) := by decide +kernel
theorem dc_C_putNumber_42 : decode co_C_putNumber 42 = .ok (.iconst 0, 1) := by decide +kernel
theorem dc_C_putNumber_43 : decode co_C_putNumber 43 = .ok (.istore 4, 2) := by decide +kernel
theorem dc_C_putNumber_45 : decode co_C_putNumber 45 = .ok (.iload 4, 2) := by decide +kernel
theorem dc_C_putNumber_47 : decode co_C_putNumber 47 = .ok (.ifCond .eq 9, 3) := by decide +kernel
theorem dc_C_putNumber_50 : decode co_C_putNumber 50 = .ok (.aload_n 0, 1) := by decide +kernel
theorem dc_C_putNumber_51 : decode co_C_putNumber 51 = .ok (.iload 6, 2) := by decide +kernel
theorem dc_C_putNumber_53 : decode co_C_putNumber 53 = .ok (.invokevirtual 19, 3) := by decide +kernel
theorem dc_C_putNumber_56 : decode co_C_putNumber 56 = .ok (.iinc 5 (-8), 3) := by decide +kernel
theorem dc_C_putNumber_59 : decode co_C_putNumber 59 = .ok (.goto (-47), 3) := by decide +kernel
theorem dc_C_putNumber_62 : decode co_C_putNumber 62 = .ok (.aload_n 0, 1) := by decide +kernel
theorem dc_C_putNumber_63 : decode co_C_putNumber 63 = .ok (.iload_n 3, 1) := by decide +kernel
theorem dc_C_putNumber_64 : decode co_C_putNumber 64 = .ok (.sipush 128, 3) := by decide +kernel
theorem dc_C_putNumber_67 : decode co_C_putNumber 67 = .ok (.invokevirtual 31, 3) := by decide +kernel
theorem dc_C_putNumber_70 : decode co_C_putNumber 70 = .ok (.return_, 1) := by decide +kernel
theorem dc_C_putDigits_0 : decode co_C_putDigits 0 = .ok (.aload_n 0, 1) := by decide +kernel
theorem dc_C_putDigits_1 : decode co_C_putDigits 1 = .ok (.invokevirtual 27, 3) := by decide +kernel
theorem dc_C_putDigits_4 : decode co_C_putDigits 4 = .ok (.istore 5, 2) := by decide +kernel
theorem dc_C_putDigits_6 : decode co_C_putDigits 6 = .ok (.iload 4, 2) := by decide +kernel
theorem dc_C_putDigits_8 : decode co_C_putDigits 8 = .ok (.ifCond .eq 7, 3) := by decide +kernel
theorem dc_C_putDigits_11 : decode co_C_putDigits 11 = .ok (.iconst 2, 1) := by decide +kernel
theorem dc_C_putDigits_12 : decode co_C_putDigits 12 = .ok (.goto 4, 3) := by decide +kernel
theorem dc_C_putDigits_15 : decode co_C_putDigits 15 = .ok (.iconst 0, 1) := by decide +kernel
theorem dc_C_putDigits_16 : decode co_C_putDigits 16 = .ok (.istore 6, 2) := by decide +kernel
theorem dc_C_putDigits_18 : decode co_C_putDigits 18 = .ok (.iload_n 2, 1) := by decide +kernel
theorem dc_C_putDigits_19 : decode co_C_putDigits 19 = .ok (.istore 7, 2) := by decide +kernel
theorem dc_C_putDigits_21 : decode co_C_putDigits 21 = .ok (.iload_n 3, 1) := by decide +kernel
theorem dc_C_putDigits_22 : decode co_C_putDigits 22 = .ok (.iload_n 2, 1) := by decide +kernel
theorem dc_C_putDigits_23 : decode co_C_putDigits 23 = .ok (.isub, 1) := by decide +kernel
theorem dc_C_putDigits_24 : decode co_C_putDigits 24 = .ok (.iconst 2, 1) := by decide +kernel
theorem dc_C_putDigits_25 : decode co_C_putDigits 25 = .ok (.irem, 1) := by decide +kernel
theorem dc_C_putDigits_26 : decode co_C_putDigits 26 = .ok (.ifCond .ne 15, 3) := by decide +kernel
theorem dc_C_putDigits_29 : decode co_C_putDigits 29 = .ok (.aload_n 0, 1) := by decide +kernel
theorem dc_C_putDigits_30 : decode co_C_putDigits 30 = .ok (.bipush 16, 2) := by decide +kernel
theorem dc_C_putDigits_32 : decode co_C_putDigits 32 = .ok (.iload 6, 2) := by decide +kernel
theorem dc_C_putDigits_34 : decode co_C_putDigits 34 = .ok (.imul, 1) := by decide +kernel
theorem dc_C_putDigits_35 : decode co_C_putDigits 35 = .ok (.invokevirtual 19, 3) := by decide +kernel
theorem dc_C_putDigits_38 : decode co_C_putDigits 38 = .ok (.goto 23, 3) := by decide +kernel
theorem dc_C_putDigits_41 : decode co_C_putDigits 41 = .ok (.aload_n 0, 1) := by decide +kernel
theorem dc_C_putDigits_42 : decode co_C_putDigits 42 = .ok (.bipush 16, 2) := by decide +kernel
theorem dc_C_putDigits_44 : decode co_C_putDigits 44 = .ok (.iload 6, 2) := by decide +kernel
theorem dc_C_putDigits_46 : decode co_C_putDigits 46 = .ok (.iconst 1, 1) := by decide +kernel
theorem dc_C_putDigits_47 : decode co_C_putDigits 47 = .ok (.iadd, 1) := by decide +kernel
theorem dc_C_putDigits_48 : decode co_C_putDigits 48 = .ok (.imul, 1) := by decide +kernel
theorem dc_C_putDigits_49 : decode co_C_putDigits 49 = .ok (.iload_n 1, 1) := by decide +kernel
theorem dc_C_putDigits_50 : decode co_C_putDigits 50 = .ok (.iload_n 2, 1) := by decide +kernel
theorem dc_C_putDigits_51 : decode co_C_putDigits 51 = .ok (.invokestatic 34, 3) := by decide +kernel
theorem dc_C_putDigits_54 : decode co_C_putDigits 54 = .ok (.iadd, 1) := by decide +kernel
theorem dc_C_putDigits_55 : decode co_C_putDigits 55 = .ok (.invokevirtual 19, 3) := by decide +kernel
theorem dc_C_putDigits_58 : decode co_C_putDigits 58 = .ok (.iinc 7 1, 3) := by decide +kernel
theorem dc_C_putDigits_61 : decode co_C_putDigits 61 = .ok (.iload 7, 2) := by decide +kernel
theorem dc_C_putDigits_63 : decode co_C_putDigits 63 = .ok (.istore 8, 2) := by decide +kernel
theorem dc_C_putDigits_65 : decode co_C_putDigits 65 = .ok (.iload 8, 2) := by decide +kernel
theorem dc_C_putDigits_67 : decode co_C_putDigits 67 = .ok (.iconst 1, 1) := by decide +kernel
theorem dc_C_putDigits_68 : decode co_C_putDigits 68 = .ok (.iadd, 1) := by decide +kernel
theorem dc_C_putDigits_69 : decode co_C_putDigits 69 = .ok (.iload_n 3, 1) := by decide +kernel
theorem dc_C_putDigits_70 : decode co_C_putDigits 70 = .ok (.if_icmp .ge 31, 3) := by decide +kernel
theorem dc_C_putDigits_73 : decode co_C_putDigits 73 = .ok (.aload_n 0, 1) := by decide +kernel
theorem dc_C_putDigits_74 : decode co_C_putDigits 74 = .ok (.bipush 16, 2) := by decide +kernel
theorem dc_C_putDigits_76 : decode co_C_putDigits 76 = .ok (.iload_n 1, 1) := by decide +kernel
theorem dc_C_putDigits_77 : decode co_C_putDigits 77 = .ok (.iload 8, 2) := by decide +kernel
theorem dc_C_putDigits_79 : decode co_C_putDigits 79 = .ok (.invokestatic 34, 3) := by decide +kernel
theorem dc_C_putDigits_82 : decode co_C_putDigits 82 = .ok (.imul, 1) := by decide +kernel
theorem dc_C_putDigits_83 : decode co_C_putDigits 83 = .ok (.iload_n 1, 1) := by decide +kernel
theorem dc_C_putDigits_84 : decode co_C_putDigits 84 = .ok (.iload 8, 2) := by decide +kernel
theorem dc_C_putDigits_86 : decode co_C_putDigits 86 = .ok (.iconst 1, 1) := by decide +kernel
theorem dc_C_putDigits_87 : decode co_C_putDigits 87 = .ok (.iadd, 1) := by decide +kernel
theorem dc_C_putDigits_88 : decode co_C_putDigits 88 = .ok (.invokestatic 34, 3) := by decide +kernel
theorem dc_C_putDigits_91 : decode co_C_putDigits 91 = .ok (.iadd, 1) := by decide +kernel
theorem dc_C_putDigits_92 : decode co_C_putDigits 92 = .ok (.invokevirtual 19, 3) := by decide +kernel
theorem dc_C_putDigits_95 : decode co_C_putDigits 95 = .ok (.iinc 8 2, 3) := by decide +kernel
theorem dc_C_putDigits_98 : decode co_C_putDigits 98 = .ok (.goto (-33), 3) := by decide +kernel
theorem dc_C_putDigits_101 : decode co_C_putDigits 101 = .ok (.aload_n 0, 1) := by decide +kernel
theorem dc_C_putDigits_102 : decode co_C_putDigits 102 = .ok (.iload 5, 2) := by decide +kernel
theorem dc_C_putDigits_104 : decode co_C_putDigits 104 = .ok (.sipush 128, 3) := by decide +kernel
theorem dc_C_putDigits_107 : decode co_C_putDigits 107 = .ok (.invokevirtual 31, 3) := by decide +kernel
theorem dc_C_putDigits_110 : decode co_C_putDigits 110 = .ok (.return_, 1) := by decide +kernel
