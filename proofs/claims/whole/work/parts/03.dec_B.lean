theorem dc_B_init_0 : decode co_B_init 0 = .ok (.aload_n 0, 1) := by decide +kernel
theorem dc_B_init_1 : decode co_B_init 1 = .ok (.invokespecial 3, 3) := by decide +kernel
theorem dc_B_init_4 : decode co_B_init 4 = .ok (.aload_n 0, 1) := by decide +kernel
theorem dc_B_init_5 : decode co_B_init 5 = .ok (.bipush 12, 2) := by decide +kernel
theorem dc_B_init_7 : decode co_B_init 7 = .ok (.newarray .int, 2) := by decide +kernel
theorem dc_B_init_9 : decode co_B_init 9 = .ok (.putfield 9, 3) := by decide +kernel
theorem dc_B_init_12 : decode co_B_init 12 = .ok (.aload_n 0, 1) := by decide +kernel
theorem dc_B_init_13 : decode co_B_init 13 = .ok (.bipush 12, 2) := by decide +kernel
theorem dc_B_init_15 : decode co_B_init 15 = .ok (.newarray .int, 2) := by decide +kernel
theorem dc_B_init_17 : decode co_B_init 17 = .ok (.putfield 15, 3) := by decide +kernel
theorem dc_B_init_20 : decode co_B_init 20 = .ok (.aload_n 0, 1) := by decide +kernel
theorem dc_B_init_21 : decode co_B_init 21 = .ok (.bipush 12, 2) := by decide +kernel
theorem dc_B_init_23 : decode co_B_init 23 = .ok (.newarray .long, 2) := by decide +kernel
theorem dc_B_init_25 : decode co_B_init 25 = .ok (.putfield 18, 3) := by decide +kernel
theorem dc_B_init_28 : decode co_B_init 28 = .ok (.return_, 1) := by decide +kernel
theorem dc_B_count_0 : decode co_B_count 0 = .ok (.aload_n 0, 1) := by decide +kernel
theorem dc_B_count_1 : decode co_B_count 1 = .ok (.getfield 22, 3) := by decide +kernel
theorem dc_B_count_4 : decode co_B_count 4 = .ok (.ireturn, 1) := by decide +kernel
theorem dc_B_has_0 : decode co_B_has 0 = .ok (.aload_n 0, 1) := by decide +kernel
theorem dc_B_has_1 : decode co_B_has 1 = .ok (.iload_n 1, 1) := by decide +kernel
theorem dc_B_has_2 : decode co_B_has 2 = .ok (.invokevirtual 26, 3) := by decide +kernel
theorem dc_B_has_5 : decode co_B_has 5 = .ok (.ifCond .lt 7, 3) := by decide +kernel
theorem dc_B_has_8 : decode co_B_has 8 = .ok (.iconst 1, 1) := by decide +kernel
theorem dc_B_has_9 : decode co_B_has 9 = .ok (.goto 4, 3) := by decide +kernel
theorem dc_B_has_12 : decode co_B_has 12 = .ok (.iconst 0, 1) := by decide +kernel
theorem dc_B_has_13 : decode co_B_has 13 = .ok (.ireturn, 1) := by decide +kernel
theorem dc_B_nonceOf_0 : decode co_B_nonceOf 0 = .ok (.aload_n 0, 1) := by decide +kernel
theorem dc_B_nonceOf_1 : decode co_B_nonceOf 1 = .ok (.iload_n 1, 1) := by decide +kernel
theorem dc_B_nonceOf_2 : decode co_B_nonceOf 2 = .ok (.invokevirtual 26, 3) := by decide +kernel
theorem dc_B_nonceOf_5 : decode co_B_nonceOf 5 = .ok (.istore_n 2, 1) := by decide +kernel
theorem dc_B_nonceOf_6 : decode co_B_nonceOf 6 = .ok (.iload_n 2, 1) := by decide +kernel
theorem dc_B_nonceOf_7 : decode co_B_nonceOf 7 = .ok (.ifCond .ge 7, 3) := by decide +kernel
theorem dc_B_nonceOf_10 : decode co_B_nonceOf 10 = .ok (.iconst 0, 1) := by decide +kernel
theorem dc_B_nonceOf_11 : decode co_B_nonceOf 11 = .ok (.goto 9, 3) := by decide +kernel
theorem dc_B_nonceOf_14 : decode co_B_nonceOf 14 = .ok (.aload_n 0, 1) := by decide +kernel
theorem dc_B_nonceOf_15 : decode co_B_nonceOf 15 = .ok (.getfield 15, 3) := by decide +kernel
theorem dc_B_nonceOf_18 : decode co_B_nonceOf 18 = .ok (.iload_n 2, 1) := by decide +kernel
theorem dc_B_nonceOf_19 : decode co_B_nonceOf 19 = .ok (.iaload, 1) := by decide +kernel
theorem dc_B_nonceOf_20 : decode co_B_nonceOf 20 = .ok (.ireturn, 1) := by decide +kernel
theorem dc_B_balanceOf_0 : decode co_B_balanceOf 0 = .ok (.aload_n 0, 1) := by decide +kernel
theorem dc_B_balanceOf_1 : decode co_B_balanceOf 1 = .ok (.iload_n 1, 1) := by decide +kernel
theorem dc_B_balanceOf_2 : decode co_B_balanceOf 2 = .ok (.invokevirtual 26, 3) := by decide +kernel
theorem dc_B_balanceOf_5 : decode co_B_balanceOf 5 = .ok (.istore_n 2, 1) := by decide +kernel
theorem dc_B_balanceOf_6 : decode co_B_balanceOf 6 = .ok (.iload_n 2, 1) := by decide +kernel
theorem dc_B_balanceOf_7 : decode co_B_balanceOf 7 = .ok (.ifCond .ge 7, 3) := by decide +kernel
theorem dc_B_balanceOf_10 : decode co_B_balanceOf 10 = .ok (.lconst 0, 1) := by decide +kernel
theorem dc_B_balanceOf_11 : decode co_B_balanceOf 11 = .ok (.goto 9, 3) := by decide +kernel
theorem dc_B_balanceOf_14 : decode co_B_balanceOf 14 = .ok (.aload_n 0, 1) := by decide +kernel
theorem dc_B_balanceOf_15 : decode co_B_balanceOf 15 = .ok (.getfield 18, 3) := by decide +kernel
theorem dc_B_balanceOf_18 : decode co_B_balanceOf 18 = .ok (.iload_n 2, 1) := by decide +kernel
theorem dc_B_balanceOf_19 : decode co_B_balanceOf 19 = .ok (.laload, 1) := by decide +kernel
theorem dc_B_balanceOf_20 : decode co_B_balanceOf 20 = .ok (.lreturn, 1) := by decide +kernel
theorem dc_B_numberAt_0 : decode co_B_numberAt 0 = .ok (.iload_n 1, 1) := by decide +kernel
theorem dc_B_numberAt_1 : decode co_B_numberAt 1 = .ok (.ifCond .lt 20, 3) := by decide +kernel
theorem dc_B_numberAt_4 : decode co_B_numberAt 4 = .ok (.iload_n 1, 1) := by decide +kernel
theorem dc_B_numberAt_5 : decode co_B_numberAt 5 = .ok (.aload_n 0, 1) := by decide +kernel
theorem dc_B_numberAt_6 : decode co_B_numberAt 6 = .ok (.getfield 22, 3) := by decide +kernel
theorem dc_B_numberAt_9 : decode co_B_numberAt 9 = .ok (.if_icmp .ge 12, 3) := by decide +kernel
theorem dc_B_numberAt_12 : decode co_B_numberAt 12 = .ok (.aload_n 0, 1) := by decide +kernel
theorem dc_B_numberAt_13 : decode co_B_numberAt 13 = .ok (.getfield 9, 3) := by decide +kernel
theorem dc_B_numberAt_16 : decode co_B_numberAt 16 = .ok (.iload_n 1, 1) := by decide +kernel
theorem dc_B_numberAt_17 : decode co_B_numberAt 17 = .ok (.iaload, 1) := by decide +kernel
theorem dc_B_numberAt_18 : decode co_B_numberAt 18 = .ok (.goto 4, 3) := by decide +kernel
theorem dc_B_numberAt_21 : decode co_B_numberAt 21 = .ok (.iconst 0, 1) := by decide +kernel
theorem dc_B_numberAt_22 : decode co_B_numberAt 22 = .ok (.ireturn, 1) := by decide +kernel
theorem dc_B_credit_0 : decode co_B_credit 0 = .ok (.aload_n 0, 1) := by decide +kernel
theorem dc_B_credit_1 : decode co_B_credit 1 = .ok (.iload_n 1, 1) := by decide +kernel
theorem dc_B_credit_2 : decode co_B_credit 2 = .ok (.aload_n 0, 1) := by decide +kernel
theorem dc_B_credit_3 : decode co_B_credit 3 = .ok (.iload_n 1, 1) := by decide +kernel
theorem dc_B_credit_4 : decode co_B_credit 4 = .ok (.invokevirtual 30, 3) := by decide +kernel
theorem dc_B_credit_7 : decode co_B_credit 7 = .ok (.aload_n 0, 1) := by decide +kernel
theorem dc_B_credit_8 : decode co_B_credit 8 = .ok (.iload_n 1, 1) := by decide +kernel
theorem dc_B_credit_9 : decode co_B_credit 9 = .ok (.invokevirtual 33, 3) := by decide +kernel
theorem dc_B_credit_12 : decode co_B_credit 12 = .ok (.lload_n 2, 1) := by decide +kernel
theorem dc_B_credit_13 : decode co_B_credit 13 = .ok (.ladd, 1) := by decide +kernel
theorem dc_B_credit_14 : decode co_B_credit 14 = .ok (.invokevirtual 37, 3) := by decide +kernel
theorem dc_B_credit_17 : decode co_B_credit 17 = .ok (.return_, 1) := by decide +kernel
theorem dc_B_put_0 : decode co_B_put 0 = .ok (.iload_n 2, 1) := by decide +kernel
theorem dc_B_put_1 : decode co_B_put 1 = .ok (.ifCond .ne 9, 3) := by decide +kernel
theorem dc_B_put_4 : decode co_B_put 4 = .ok (.lload_n 3, 1) := by decide +kernel
theorem dc_B_put_5 : decode co_B_put 5 = .ok (.lconst 0, 1) := by decide +kernel
theorem dc_B_put_6 : decode co_B_put 6 = .ok (.lcmp, 1) := by decide +kernel
theorem dc_B_put_7 : decode co_B_put 7 = .ok (.ifCond .eq 7, 3) := by decide +kernel
theorem dc_B_put_10 : decode co_B_put 10 = .ok (.iconst 1, 1) := by decide +kernel
theorem dc_B_put_11 : decode co_B_put 11 = .ok (.goto 4, 3) := by decide +kernel
theorem dc_B_put_14 : decode co_B_put 14 = .ok (.iconst 0, 1) := by decide +kernel
theorem dc_B_put_15 : decode co_B_put 15 = .ok (.istore 5, 2) := by decide +kernel
theorem dc_B_put_17 : decode co_B_put 17 = .ok (.aload_n 0, 1) := by decide +kernel
theorem dc_B_put_18 : decode co_B_put 18 = .ok (.iload_n 1, 1) := by decide +kernel
theorem dc_B_put_19 : decode co_B_put 19 = .ok (.invokevirtual 26, 3) := by decide +kernel
theorem dc_B_put_22 : decode co_B_put 22 = .ok (.istore 6, 2) := by decide +kernel
theorem dc_B_put_24 : decode co_B_put 24 = .ok (.iload 6, 2) := by decide +kernel
theorem dc_B_put_26 : decode co_B_put 26 = .ok (.ifCond .lt 15, 3) := by decide +kernel
theorem dc_B_put_29 : decode co_B_put 29 = .ok (.iload 5, 2) := by decide +kernel
theorem dc_B_put_31 : decode co_B_put 31 = .ok (.ifCond .ne 10, 3) := by decide +kernel
theorem dc_B_put_34 : decode co_B_put 34 = .ok (.aload_n 0, 1) := by decide +kernel
theorem dc_B_put_35 : decode co_B_put 35 = .ok (.iload 6, 2) := by decide +kernel
theorem dc_B_put_37 : decode co_B_put 37 = .ok (.invokevirtual 41, 3) := by decide +kernel
theorem dc_B_put_40 : decode co_B_put 40 = .ok (.return_, 1) := by decide +kernel
theorem dc_B_put_41 : decode co_B_put 41 = .ok (.iload 6, 2) := by decide +kernel
theorem dc_B_put_43 : decode co_B_put 43 = .ok (.ifCond .ge 15, 3) := by decide +kernel
theorem dc_B_put_46 : decode co_B_put 46 = .ok (.iload 5, 2) := by decide +kernel
theorem dc_B_put_48 : decode co_B_put 48 = .ok (.ifCond .eq 10, 3) := by decide +kernel
theorem dc_B_put_51 : decode co_B_put 51 = .ok (.aload_n 0, 1) := by decide +kernel
theorem dc_B_put_52 : decode co_B_put 52 = .ok (.iload_n 1, 1) := by decide +kernel
theorem dc_B_put_53 : decode co_B_put 53 = .ok (.invokevirtual 45, 3) := by decide +kernel
theorem dc_B_put_56 : decode co_B_put 56 = .ok (.istore 6, 2) := by decide +kernel
theorem dc_B_put_58 : decode co_B_put 58 = .ok (.iload 6, 2) := by decide +kernel
theorem dc_B_put_60 : decode co_B_put 60 = .ok (.ifCond .lt 19, 3) := by decide +kernel
theorem dc_B_put_63 : decode co_B_put 63 = .ok (.aload_n 0, 1) := by decide +kernel
theorem dc_B_put_64 : decode co_B_put 64 = .ok (.getfield 15, 3) := by decide +kernel
theorem dc_B_put_67 : decode co_B_put 67 = .ok (.iload 6, 2) := by decide +kernel
theorem dc_B_put_69 : decode co_B_put 69 = .ok (.iload_n 2, 1) := by decide +kernel
theorem dc_B_put_70 : decode co_B_put 70 = .ok (.iastore, 1) := by decide +kernel
theorem dc_B_put_71 : decode co_B_put 71 = .ok (.aload_n 0, 1) := by decide +kernel
theorem dc_B_put_72 : decode co_B_put 72 = .ok (.getfield 18, 3) := by decide +kernel
theorem dc_B_put_75 : decode co_B_put 75 = .ok (.iload 6, 2) := by decide +kernel
theorem dc_B_put_77 : decode co_B_put 77 = .ok (.lload_n 3, 1) := by decide +kernel
theorem dc_B_put_78 : decode co_B_put 78 = .ok (.lastore, 1) := by decide +kernel
theorem dc_B_put_79 : decode co_B_put 79 = .ok (.return_, 1) := by decide +kernel
theorem dc_B_find_0 : decode co_B_find 0 = .ok (.iconst 0, 1) := by decide +kernel
theorem dc_B_find_1 : decode co_B_find 1 = .ok (.istore_n 2, 1) := by decide +kernel
theorem dc_B_find_2 : decode co_B_find 2 = .ok (.iload_n 2, 1) := by decide +kernel
theorem dc_B_find_3 : decode co_B_find 3 = .ok (.aload_n 0, 1) := by decide +kernel
theorem dc_B_find_4 : decode co_B_find 4 = .ok (.getfield 22, 3) := by decide +kernel
theorem dc_B_find_7 : decode co_B_find 7 = .ok (.if_icmp .ge 21, 3) := by decide +kernel
theorem dc_B_find_10 : decode co_B_find 10 = .ok (.aload_n 0, 1) := by decide +kernel
theorem dc_B_find_11 : decode co_B_find 11 = .ok (.getfield 9, 3) := by decide +kernel
theorem dc_B_find_14 : decode co_B_find 14 = .ok (.iload_n 2, 1) := by decide +kernel
theorem dc_B_find_15 : decode co_B_find 15 = .ok (.iaload, 1) := by decide +kernel
theorem dc_B_find_16 : decode co_B_find 16 = .ok (.iload_n 1, 1) := by decide +kernel
theorem dc_B_find_17 : decode co_B_find 17 = .ok (.if_icmp .ne 5, 3) := by decide +kernel
theorem dc_B_find_20 : decode co_B_find 20 = .ok (.iload_n 2, 1) := by decide +kernel
theorem dc_B_find_21 : decode co_B_find 21 = .ok (.ireturn, 1) := by decide +kernel
theorem dc_B_find_22 : decode co_B_find 22 = .ok (.iinc 2 1, 3) := by decide +kernel
theorem dc_B_find_25 : decode co_B_find 25 = .ok (.goto (-23), 3) := by decide +kernel
theorem dc_B_find_28 : decode co_B_find 28 = .ok (.iconst (-1), 1) := by decide +kernel
theorem dc_B_find_29 : decode co_B_find 29 = .ok (.ireturn, 1) := by decide +kernel
theorem dc_B_insert_0 : decode co_B_insert 0 = .ok (.aload_n 0, 1) := by decide +kernel
theorem dc_B_insert_1 : decode co_B_insert 1 = .ok (.getfield 22, 3) := by decide +kernel
theorem dc_B_insert_4 : decode co_B_insert 4 = .ok (.bipush 12, 2) := by decide +kernel
theorem dc_B_insert_6 : decode co_B_insert 6 = .ok (.if_icmp .lt 5, 3) := by decide +kernel
theorem dc_B_insert_9 : decode co_B_insert 9 = .ok (.iconst (-1), 1) := by decide +kernel
theorem dc_B_insert_10 : decode co_B_insert 10 = .ok (.ireturn, 1) := by decide +kernel
theorem dc_B_insert_11 : decode co_B_insert 11 = .ok (.aload_n 0, 1) := by decide +kernel
theorem dc_B_insert_12 : decode co_B_insert 12 = .ok (.getfield 22, 3) := by decide +kernel
theorem dc_B_insert_15 : decode co_B_insert 15 = .ok (.istore_n 2, 1) := by decide +kernel
theorem dc_B_insert_16 : decode co_B_insert 16 = .ok (.iload_n 2, 1) := by decide +kernel
theorem dc_B_insert_17 : decode co_B_insert 17 = .ok (.ifCond .le 29, 3) := by decide +kernel
theorem dc_B_insert_20 : decode co_B_insert 20 = .ok (.aload_n 0, 1) := by decide +kernel
theorem dc_B_insert_21 : decode co_B_insert 21 = .ok (.getfield 9, 3) := by decide +kernel
theorem dc_B_insert_24 : decode co_B_insert 24 = .ok (.iload_n 2, 1) := by decide +kernel
theorem dc_B_insert_25 : decode co_B_insert 25 = .ok (.iconst 1, 1) := by decide +kernel
theorem dc_B_insert_26 : decode co_B_insert 26 = .ok (.isub, 1) := by decide +kernel
theorem dc_B_insert_27 : decode co_B_insert 27 = .ok (.iaload, 1) := by decide +kernel
theorem dc_B_insert_28 : decode co_B_insert 28 = .ok (.iload_n 1, 1) := by decide +kernel
theorem dc_B_insert_29 : decode co_B_insert 29 = .ok (.if_icmp .le 17, 3) := by decide +kernel
theorem dc_B_insert_32 : decode co_B_insert 32 = .ok (.aload_n 0, 1) := by decide +kernel
theorem dc_B_insert_33 : decode co_B_insert 33 = .ok (.iload_n 2, 1) := by decide +kernel
theorem dc_B_insert_34 : decode co_B_insert 34 = .ok (.iconst 1, 1) := by decide +kernel
theorem dc_B_insert_35 : decode co_B_insert 35 = .ok (.isub, 1) := by decide +kernel
theorem dc_B_insert_36 : decode co_B_insert 36 = .ok (.iload_n 2, 1) := by decide +kernel
theorem dc_B_insert_37 : decode co_B_insert 37 = .ok (.invokevirtual 48, 3) := by decide +kernel
theorem dc_B_insert_40 : decode co_B_insert 40 = .ok (.iinc 2 (-1), 3) := by decide +kernel
theorem dc_B_insert_43 : decode co_B_insert 43 = .ok (.goto (-27), 3) := by decide +kernel
theorem dc_B_insert_46 : decode co_B_insert 46 = .ok (.aload_n 0, 1) := by decide +kernel
theorem dc_B_insert_47 : decode co_B_insert 47 = .ok (.getfield 9, 3) := by decide +kernel
theorem dc_B_insert_50 : decode co_B_insert 50 = .ok (.iload_n 2, 1) := by decide +kernel
theorem dc_B_insert_51 : decode co_B_insert 51 = .ok (.iload_n 1, 1) := by decide +kernel
theorem dc_B_insert_52 : decode co_B_insert 52 = .ok (.iastore, 1) := by decide +kernel
theorem dc_B_insert_53 : decode co_B_insert 53 = .ok (.aload_n 0, 1) := by decide +kernel
theorem dc_B_insert_54 : decode co_B_insert 54 = .ok (.dup, 1) := by decide +kernel
theorem dc_B_insert_55 : decode co_B_insert 55 = .ok (.getfield 22, 3) := by decide +kernel
theorem dc_B_insert_58 : decode co_B_insert 58 = .ok (.iconst 1, 1) := by decide +kernel
theorem dc_B_insert_59 : decode co_B_insert 59 = .ok (.iadd, 1) := by decide +kernel
theorem dc_B_insert_60 : decode co_B_insert 60 = .ok (.putfield 22, 3) := by decide +kernel
theorem dc_B_insert_63 : decode co_B_insert 63 = .ok (.iload_n 2, 1) := by decide +kernel
theorem dc_B_insert_64 : decode co_B_insert 64 = .ok (.ireturn, 1) := by decide +kernel
theorem dc_B_remove_0 : decode co_B_remove 0 = .ok (.iload_n 1, 1) := by decide +kernel
theorem dc_B_remove_1 : decode co_B_remove 1 = .ok (.istore_n 2, 1) := by decide +kernel
theorem dc_B_remove_2 : decode co_B_remove 2 = .ok (.iload_n 2, 1) := by decide +kernel
theorem dc_B_remove_3 : decode co_B_remove 3 = .ok (.aload_n 0, 1) := by decide +kernel
theorem dc_B_remove_4 : decode co_B_remove 4 = .ok (.getfield 22, 3) := by decide +kernel
theorem dc_B_remove_7 : decode co_B_remove 7 = .ok (.iconst 1, 1) := by decide +kernel
theorem dc_B_remove_8 : decode co_B_remove 8 = .ok (.isub, 1) := by decide +kernel
theorem dc_B_remove_9 : decode co_B_remove 9 = .ok (.if_icmp .ge 17, 3) := by decide +kernel
theorem dc_B_remove_12 : decode co_B_remove 12 = .ok (.aload_n 0, 1) := by decide +kernel
theorem dc_B_remove_13 : decode co_B_remove 13 = .ok (.iload_n 2, 1) := by decide +kernel
theorem dc_B_remove_14 : decode co_B_remove 14 = .ok (.iconst 1, 1) := by decide +kernel
theorem dc_B_remove_15 : decode co_B_remove 15 = .ok (.iadd, 1) := by decide +kernel
theorem dc_B_remove_16 : decode co_B_remove 16 = .ok (.iload_n 2, 1) := by decide +kernel
theorem dc_B_remove_17 : decode co_B_remove 17 = .ok (.invokevirtual 48, 3) := by decide +kernel
theorem dc_B_remove_20 : decode co_B_remove 20 = .ok (.iinc 2 1, 3) := by decide +kernel
theorem dc_B_remove_23 : decode co_B_remove 23 = .ok (.goto (-21), 3) := by decide +kernel
theorem dc_B_remove_26 : decode co_B_remove 26 = .ok (.aload_n 0, 1) := by decide +kernel
theorem dc_B_remove_27 : decode co_B_remove 27 = .ok (.dup, 1) := by decide +kernel
theorem dc_B_remove_28 : decode co_B_remove 28 = .ok (.getfield 22, 3) := by decide +kernel
theorem dc_B_remove_31 : decode co_B_remove 31 = .ok (.iconst 1, 1) := by decide +kernel
theorem dc_B_remove_32 : decode co_B_remove 32 = .ok (.isub, 1) := by decide +kernel
theorem dc_B_remove_33 : decode co_B_remove 33 = .ok (.putfield 22, 3) := by decide +kernel
theorem dc_B_remove_36 : decode co_B_remove 36 = .ok (.return_, 1) := by decide +kernel
theorem dc_B_move_0 : decode co_B_move 0 = .ok (.aload_n 0, 1) := by decide +kernel
theorem dc_B_move_1 : decode co_B_move 1 = .ok (.getfield 9, 3) := by decide +kernel
theorem dc_B_move_4 : decode co_B_move 4 = .ok (.iload_n 2, 1) := by decide +kernel
theorem dc_B_move_5 : decode co_B_move 5 = .ok (.aload_n 0, 1) := by decide +kernel
theorem dc_B_move_6 : decode co_B_move 6 = .ok (.getfield 9, 3) := by decide +kernel
theorem dc_B_move_9 : decode co_B_move 9 = .ok (.iload_n 1, 1) := by decide +kernel
theorem dc_B_move_10 : decode co_B_move 10 = .ok (.iaload, 1) := by decide +kernel
theorem dc_B_move_11 : decode co_B_move 11 = .ok (.iastore, 1) := by decide +kernel
theorem dc_B_move_12 : decode co_B_move 12 = .ok (.aload_n 0, 1) := by decide +kernel
theorem dc_B_move_13 : decode co_B_move 13 = .ok (.getfield 15, 3) := by decide +kernel
theorem dc_B_move_16 : decode co_B_move 16 = .ok (.iload_n 2, 1) := by decide +kernel
theorem dc_B_move_17 : decode co_B_move 17 = .ok (.aload_n 0, 1) := by decide +kernel
theorem dc_B_move_18 : decode co_B_move 18 = .ok (.getfield 15, 3) := by decide +kernel
theorem dc_B_move_21 : decode co_B_move 21 = .ok (.iload_n 1, 1) := by decide +kernel
theorem dc_B_move_22 : decode co_B_move 22 = .ok (.iaload, 1) := by decide +kernel
theorem dc_B_move_23 : decode co_B_move 23 = .ok (.iastore, 1) := by decide +kernel
theorem dc_B_move_24 : decode co_B_move 24 = .ok (.aload_n 0, 1) := by decide +kernel
theorem dc_B_move_25 : decode co_B_move 25 = .ok (.getfield 18, 3) := by decide +kernel
theorem dc_B_move_28 : decode co_B_move 28 = .ok (.iload_n 2, 1) := by decide +kernel
theorem dc_B_move_29 : decode co_B_move 29 = .ok (.aload_n 0, 1) := by decide +kernel
theorem dc_B_move_30 : decode co_B_move 30 = .ok (.getfield 18, 3) := by decide +kernel
theorem dc_B_move_33 : decode co_B_move 33 = .ok (.iload_n 1, 1) := by decide +kernel
theorem dc_B_move_34 : decode co_B_move 34 = .ok (.laload, 1) := by decide +kernel
theorem dc_B_move_35 : decode co_B_move 35 = .ok (.lastore, 1) := by decide +kernel
theorem dc_B_move_36 : decode co_B_move 36 = .ok (.return_, 1) := by decide +kernel
