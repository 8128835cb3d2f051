theorem dc_N_init_0 : decode co_N_init 0 = .ok (.aload_n 0, 1) := by decide +kernel
theorem dc_N_init_1 : decode co_N_init 1 = .ok (.invokespecial 3, 3) := by decide +kernel
theorem dc_N_init_4 : decode co_N_init 4 = .ok (.aload_n 0, 1) := by decide +kernel
theorem dc_N_init_5 : decode co_N_init 5 = .ok (.bipush 16, 2) := by decide +kernel
theorem dc_N_init_7 : decode co_N_init 7 = .ok (.anewarray 9, 3) := by decide +kernel
theorem dc_N_init_10 : decode co_N_init 10 = .ok (.putfield 11, 3) := by decide +kernel
theorem dc_N_init_13 : decode co_N_init 13 = .ok (.return_, 1) := by decide +kernel
theorem dc_N_become_0 : decode co_N_become 0 = .ok (.aload_n 0, 1) := by decide +kernel
theorem dc_N_become_1 : decode co_N_become 1 = .ok (.iload_n 1, 1) := by decide +kernel
theorem dc_N_become_2 : decode co_N_become 2 = .ok (.putfield 15, 3) := by decide +kernel
theorem dc_N_become_5 : decode co_N_become 5 = .ok (.aload_n 0, 1) := by decide +kernel
theorem dc_N_become_6 : decode co_N_become 6 = .ok (.iload_n 2, 1) := by decide +kernel
theorem dc_N_become_7 : decode co_N_become 7 = .ok (.putfield 19, 3) := by decide +kernel
theorem dc_N_become_10 : decode co_N_become 10 = .ok (.aload_n 0, 1) := by decide +kernel
theorem dc_N_become_11 : decode co_N_become 11 = .ok (.iload_n 3, 1) := by decide +kernel
theorem dc_N_become_12 : decode co_N_become 12 = .ok (.putfield 22, 3) := by decide +kernel
theorem dc_N_become_15 : decode co_N_become 15 = .ok (.aload_n 0, 1) := by decide +kernel
theorem dc_N_become_16 : decode co_N_become 16 = .ok (.iload 4, 2) := by decide +kernel
theorem dc_N_become_18 : decode co_N_become 18 = .ok (.putfield 25, 3) := by decide +kernel
theorem dc_N_become_21 : decode co_N_become 21 = .ok (.iconst 0, 1) := by decide +kernel
theorem dc_N_become_22 : decode co_N_become 22 = .ok (.istore 5, 2) := by decide +kernel
theorem dc_N_become_24 : decode co_N_become 24 = .ok (.iload 5, 2) := by decide +kernel
theorem dc_N_become_26 : decode co_N_become 26 = .ok (.bipush 16, 2) := by decide +kernel
theorem dc_N_become_28 : decode co_N_become 28 = .ok (.if_icmp .ge 17, 3) := by decide +kernel
theorem dc_N_become_31 : decode co_N_become 31 = .ok (.aload_n 0, 1) := by decide +kernel
theorem dc_N_become_32 : decode co_N_become 32 = .ok (.getfield 11, 3) := by decide +kernel
theorem dc_N_become_35 : decode co_N_become 35 = .ok (.iload 5, 2) := by decide +kernel
theorem dc_N_become_37 : decode co_N_become 37 = .ok (.aconst_null, 1) := by decide +kernel
theorem dc_N_become_38 : decode co_N_become 38 = .ok (.aastore, 1) := by decide +kernel
theorem dc_N_become_39 : decode co_N_become 39 = .ok (.iinc 5 1, 3) := by decide +kernel
theorem dc_N_become_42 : decode co_N_become 42 = .ok (.goto (-18), 3) := by decide +kernel
theorem dc_N_become_45 : decode co_N_become 45 = .ok (.return_, 1) := by decide +kernel
theorem dc_N_next_0 : decode co_N_next 0 = .ok (.aload_n 0, 1) := by decide +kernel
theorem dc_N_next_1 : decode co_N_next 1 = .ok (.getfield 15, 3) := by decide +kernel
theorem dc_N_next_4 : decode co_N_next 4 = .ok (.iconst 2, 1) := by decide +kernel
theorem dc_N_next_5 : decode co_N_next 5 = .ok (.if_icmp .ne 17, 3) := by decide +kernel
theorem dc_N_next_8 : decode co_N_next 8 = .ok (.aload_n 0, 1) := by decide +kernel
theorem dc_N_next_9 : decode co_N_next 9 = .ok (.getfield 11, 3) := by decide +kernel
theorem dc_N_next_12 : decode co_N_next 12 = .ok (.iload_n 1, 1) := by decide +kernel
theorem dc_N_next_13 : decode co_N_next 13 = .ok (.aload_n 0, 1) := by decide +kernel
theorem dc_N_next_14 : decode co_N_next 14 = .ok (.getfield 22, 3) := by decide +kernel
theorem dc_N_next_17 : decode co_N_next 17 = .ok (.invokestatic 28, 3) := by decide +kernel
theorem dc_N_next_20 : decode co_N_next 20 = .ok (.aaload, 1) := by decide +kernel
theorem dc_N_next_21 : decode co_N_next 21 = .ok (.areturn, 1) := by decide +kernel
theorem dc_N_next_22 : decode co_N_next 22 = .ok (.aload_n 0, 1) := by decide +kernel
theorem dc_N_next_23 : decode co_N_next 23 = .ok (.getfield 15, 3) := by decide +kernel
theorem dc_N_next_26 : decode co_N_next 26 = .ok (.iconst 1, 1) := by decide +kernel
theorem dc_N_next_27 : decode co_N_next 27 = .ok (.if_icmp .ne 20, 3) := by decide +kernel
theorem dc_N_next_30 : decode co_N_next 30 = .ok (.aload_n 0, 1) := by decide +kernel
theorem dc_N_next_31 : decode co_N_next 31 = .ok (.iload_n 1, 1) := by decide +kernel
theorem dc_N_next_32 : decode co_N_next 32 = .ok (.invokevirtual 32, 3) := by decide +kernel
theorem dc_N_next_35 : decode co_N_next 35 = .ok (.ifCond .eq 12, 3) := by decide +kernel
theorem dc_N_next_38 : decode co_N_next 38 = .ok (.aload_n 0, 1) := by decide +kernel
theorem dc_N_next_39 : decode co_N_next 39 = .ok (.getfield 11, 3) := by decide +kernel
theorem dc_N_next_42 : decode co_N_next 42 = .ok (.iconst 0, 1) := by decide +kernel
theorem dc_N_next_43 : decode co_N_next 43 = .ok (.aaload, 1) := by decide +kernel
theorem dc_N_next_44 : decode co_N_next 44 = .ok (.goto 4, 3) := by decide +kernel
theorem dc_N_next_47 : decode co_N_next 47 = .ok (.aconst_null, 1) := by decide +kernel
theorem dc_N_next_48 : decode co_N_next 48 = .ok (.areturn, 1) := by decide +kernel
theorem dc_N_hasDigitsOf_0 : decode co_N_hasDigitsOf 0 = .ok (.aload_n 0, 1) := by decide +kernel
theorem dc_N_hasDigitsOf_1 : decode co_N_hasDigitsOf 1 = .ok (.getfield 22, 3) := by decide +kernel
theorem dc_N_hasDigitsOf_4 : decode co_N_hasDigitsOf 4 = .ok (.istore_n 2, 1) := by decide +kernel
theorem dc_N_hasDigitsOf_5 : decode co_N_hasDigitsOf 5 = .ok (.iload_n 2, 1) := by decide +kernel
theorem dc_N_hasDigitsOf_6 : decode co_N_hasDigitsOf 6 = .ok (.aload_n 0, 1) := by decide +kernel
theorem dc_N_hasDigitsOf_7 : decode co_N_hasDigitsOf 7 = .ok (.getfield 25, 3) := by decide +kernel
theorem dc_N_hasDigitsOf_10 : decode co_N_hasDigitsOf 10 = .ok (.if_icmp .ge 27, 3) := by decide +kernel
theorem dc_N_hasDigitsOf_13 : decode co_N_hasDigitsOf 13 = .ok (.iload_n 1, 1) := by decide +kernel
theorem dc_N_hasDigitsOf_14 : decode co_N_hasDigitsOf 14 = .ok (.iload_n 2, 1) := by decide +kernel
theorem dc_N_hasDigitsOf_15 : decode co_N_hasDigitsOf 15 = .ok (.invokestatic 28, 3) := by decide +kernel
theorem dc_N_hasDigitsOf_18 : decode co_N_hasDigitsOf 18 = .ok (.aload_n 0, 1) := by decide +kernel
theorem dc_N_hasDigitsOf_19 : decode co_N_hasDigitsOf 19 = .ok (.getfield 19, 3) := by decide +kernel
theorem dc_N_hasDigitsOf_22 : decode co_N_hasDigitsOf 22 = .ok (.iload_n 2, 1) := by decide +kernel
theorem dc_N_hasDigitsOf_23 : decode co_N_hasDigitsOf 23 = .ok (.invokestatic 28, 3) := by decide +kernel
theorem dc_N_hasDigitsOf_26 : decode co_N_hasDigitsOf 26 = .ok (.if_icmp .eq 5, 3) := by decide +kernel
theorem dc_N_hasDigitsOf_29 : decode co_N_hasDigitsOf 29 = .ok (.iconst 0, 1) := by decide +kernel
theorem dc_N_hasDigitsOf_30 : decode co_N_hasDigitsOf 30 = .ok (.ireturn, 1) := by decide +kernel
theorem dc_N_hasDigitsOf_31 : decode co_N_hasDigitsOf 31 = .ok (.iinc 2 1, 3) := by decide +kernel
theorem dc_N_hasDigitsOf_34 : decode co_N_hasDigitsOf 34 = .ok (.goto (-29), 3) := by decide +kernel
theorem dc_N_hasDigitsOf_37 : decode co_N_hasDigitsOf 37 = .ok (.iconst 1, 1) := by decide +kernel
theorem dc_N_hasDigitsOf_38 : decode co_N_hasDigitsOf 38 = .ok (.ireturn, 1) := by decide +kernel
