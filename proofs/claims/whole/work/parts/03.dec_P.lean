theorem dc_P_init_0 : decode co_P_init 0 = .ok (.aload_n 0, 1) := by decide +kernel
theorem dc_P_init_1 : decode co_P_init 1 = .ok (.invokespecial 3, 3) := by decide +kernel
theorem dc_P_init_4 : decode co_P_init 4 = .ok (.aload_n 0, 1) := by decide +kernel
theorem dc_P_init_5 : decode co_P_init 5 = .ok (.iconst 5, 1) := by decide +kernel
theorem dc_P_init_6 : decode co_P_init 6 = .ok (.sipush 404, 3) := by decide +kernel
theorem dc_P_init_9 : decode co_P_init 9 = .ok (.multianewarray 9 2, 4) := by decide +kernel
theorem dc_P_init_13 : decode co_P_init 13 = .ok (.putfield 11, 3) := by decide +kernel
theorem dc_P_init_16 : decode co_P_init 16 = .ok (.aload_n 0, 1) := by decide +kernel
theorem dc_P_init_17 : decode co_P_init 17 = .ok (.iconst 5, 1) := by decide +kernel
theorem dc_P_init_18 : decode co_P_init 18 = .ok (.newarray .int, 2) := by decide +kernel
theorem dc_P_init_20 : decode co_P_init 20 = .ok (.putfield 16, 3) := by decide +kernel
theorem dc_P_init_23 : decode co_P_init 23 = .ok (.return_, 1) := by decide +kernel
theorem dc_P_count_0 : decode co_P_count 0 = .ok (.aload_n 0, 1) := by decide +kernel
theorem dc_P_count_1 : decode co_P_count 1 = .ok (.getfield 20, 3) := by decide +kernel
theorem dc_P_count_4 : decode co_P_count 4 = .ok (.ireturn, 1) := by decide +kernel
theorem dc_P_clear_0 : decode co_P_clear 0 = .ok (.aload_n 0, 1) := by decide +kernel
theorem dc_P_clear_1 : decode co_P_clear 1 = .ok (.iconst 0, 1) := by decide +kernel
theorem dc_P_clear_2 : decode co_P_clear 2 = .ok (.putfield 20, 3) := by decide +kernel
theorem dc_P_clear_5 : decode co_P_clear 5 = .ok (.return_, 1) := by decide +kernel
theorem dc_P_add_0 : decode co_P_add 0 = .ok (.iload_n 2, 1) := by decide +kernel
theorem dc_P_add_1 : decode co_P_add 1 = .ok (.ifCond .lt 19, 3) := by decide +kernel
theorem dc_P_add_4 : decode co_P_add 4 = .ok (.iload_n 3, 1) := by decide +kernel
theorem dc_P_add_5 : decode co_P_add 5 = .ok (.ifCond .lt 15, 3) := by decide +kernel
theorem dc_P_add_8 : decode co_P_add 8 = .ok (.iload_n 3, 1) := by decide +kernel
theorem dc_P_add_9 : decode co_P_add 9 = .ok (.aload_n 1, 1) := by decide +kernel
theorem dc_P_add_10 : decode co_P_add 10 = .ok (.arraylength, 1) := by decide +kernel
theorem dc_P_add_11 : decode co_P_add 11 = .ok (.iload_n 2, 1) := by decide +kernel
theorem dc_P_add_12 : decode co_P_add 12 = .ok (.isub, 1) := by decide +kernel
theorem dc_P_add_13 : decode co_P_add 13 = .ok (.if_icmp .gt 7, 3) := by decide +kernel
theorem dc_P_add_16 : decode co_P_add 16 = .ok (.iconst 1, 1) := by decide +kernel
theorem dc_P_add_17 : decode co_P_add 17 = .ok (.goto 4, 3) := by decide +kernel
theorem dc_P_add_20 : decode co_P_add 20 = .ok (.iconst 0, 1) := by decide +kernel
theorem dc_P_add_21 : decode co_P_add 21 = .ok (.istore 4, 2) := by decide +kernel
theorem dc_P_add_23 : decode co_P_add 23 = .ok (.iload 4, 2) := by decide +kernel
theorem dc_P_add_25 : decode co_P_add 25 = .ok (.ifCond .eq 18, 3) := by decide +kernel
theorem dc_P_add_28 : decode co_P_add 28 = .ok (.iload_n 3, 1) := by decide +kernel
theorem dc_P_add_29 : decode co_P_add 29 = .ok (.sipush 404, 3) := by decide +kernel
theorem dc_P_add_32 : decode co_P_add 32 = .ok (.if_icmp .gt 11, 3) := by decide +kernel
theorem dc_P_add_35 : decode co_P_add 35 = .ok (.aload_n 0, 1) := by decide +kernel
theorem dc_P_add_36 : decode co_P_add 36 = .ok (.getfield 20, 3) := by decide +kernel
theorem dc_P_add_39 : decode co_P_add 39 = .ok (.iconst 5, 1) := by decide +kernel
theorem dc_P_add_40 : decode co_P_add 40 = .ok (.if_icmp .lt 4, 3) := by decide +kernel
theorem dc_P_add_43 : decode co_P_add 43 = .ok (.return_, 1) := by decide +kernel
theorem dc_P_add_44 : decode co_P_add 44 = .ok (.aload_n 1, 1) := by decide +kernel
theorem dc_P_add_45 : decode co_P_add 45 = .ok (.iload_n 2, 1) := by decide +kernel
theorem dc_P_add_46 : decode co_P_add 46 = .ok (.aload_n 0, 1) := by decide +kernel
theorem dc_P_add_47 : decode co_P_add 47 = .ok (.getfield 11, 3) := by decide +kernel
theorem dc_P_add_50 : decode co_P_add 50 = .ok (.aload_n 0, 1) := by decide +kernel
theorem dc_P_add_51 : decode co_P_add 51 = .ok (.getfield 20, 3) := by decide +kernel
theorem dc_P_add_54 : decode co_P_add 54 = .ok (.aaload, 1) := by decide +kernel
theorem dc_P_add_55 : decode co_P_add 55 = .ok (.iconst 0, 1) := by decide +kernel
theorem dc_P_add_56 : decode co_P_add 56 = .ok (.iload_n 3, 1) := by decide +kernel
theorem dc_P_add_57 : decode co_P_add 57 = .ok (.invokestatic 24, 3) := by decide +kernel
theorem dc_P_add_60 : decode co_P_add 60 = .ok (.aload_n 0, 1) := by decide +kernel
theorem dc_P_add_61 : decode co_P_add 61 = .ok (.getfield 16, 3) := by decide +kernel
theorem dc_P_add_64 : decode co_P_add 64 = .ok (.aload_n 0, 1) := by decide +kernel
theorem dc_P_add_65 : decode co_P_add 65 = .ok (.getfield 20, 3) := by decide +kernel
theorem dc_P_add_68 : decode co_P_add 68 = .ok (.iload_n 3, 1) := by decide +kernel
theorem dc_P_add_69 : decode co_P_add 69 = .ok (.iastore, 1) := by decide +kernel
theorem dc_P_add_70 : decode co_P_add 70 = .ok (.aload_n 0, 1) := by decide +kernel
theorem dc_P_add_71 : decode co_P_add 71 = .ok (.dup, 1) := by decide +kernel
theorem dc_P_add_72 : decode co_P_add 72 = .ok (.getfield 20, 3) := by decide +kernel
theorem dc_P_add_75 : decode co_P_add 75 = .ok (.iconst 1, 1) := by decide +kernel
theorem dc_P_add_76 : decode co_P_add 76 = .ok (.iadd, 1) := by decide +kernel
theorem dc_P_add_77 : decode co_P_add 77 = .ok (.putfield 20, 3) := by decide +kernel
theorem dc_P_add_80 : decode co_P_add 80 = .ok (.return_, 1) := by decide +kernel
theorem dc_P_dropLast_0 : decode co_P_dropLast 0 = .ok (.aload_n 0, 1) := by decide +kernel
theorem dc_P_dropLast_1 : decode co_P_dropLast 1 = .ok (.getfield 20, 3) := by decide +kernel
theorem dc_P_dropLast_4 : decode co_P_dropLast 4 = .ok (.ifCond .le 13, 3) := by decide +kernel
theorem dc_P_dropLast_7 : decode co_P_dropLast 7 = .ok (.aload_n 0, 1) := by decide +kernel
theorem dc_P_dropLast_8 : decode co_P_dropLast 8 = .ok (.dup, 1) := by decide +kernel
theorem dc_P_dropLast_9 : decode co_P_dropLast 9 = .ok (.getfield 20, 3) := by decide +kernel
theorem dc_P_dropLast_12 : decode co_P_dropLast 12 = .ok (.iconst 1, 1) := by decide +kernel
theorem dc_P_dropLast_13 : decode co_P_dropLast 13 = .ok (.isub, 1) := by decide +kernel
theorem dc_P_dropLast_14 : decode co_P_dropLast 14 = .ok (.putfield 20, 3) := by decide +kernel
theorem dc_P_dropLast_17 : decode co_P_dropLast 17 = .ok (.return_, 1) := by decide +kernel
theorem dc_P_hasPart_0 : decode co_P_hasPart 0 = .ok (.iload_n 1, 1) := by decide +kernel
theorem dc_P_hasPart_1 : decode co_P_hasPart 1 = .ok (.ifCond .lt 15, 3) := by decide +kernel
theorem dc_P_hasPart_4 : decode co_P_hasPart 4 = .ok (.iload_n 1, 1) := by decide +kernel
theorem dc_P_hasPart_5 : decode co_P_hasPart 5 = .ok (.aload_n 0, 1) := by decide +kernel
theorem dc_P_hasPart_6 : decode co_P_hasPart 6 = .ok (.getfield 20, 3) := by decide +kernel
theorem dc_P_hasPart_9 : decode co_P_hasPart 9 = .ok (.if_icmp .ge 7, 3) := by decide +kernel
theorem dc_P_hasPart_12 : decode co_P_hasPart 12 = .ok (.iconst 1, 1) := by decide +kernel
theorem dc_P_hasPart_13 : decode co_P_hasPart 13 = .ok (.goto 4, 3) := by decide +kernel
theorem dc_P_hasPart_16 : decode co_P_hasPart 16 = .ok (.iconst 0, 1) := by decide +kernel
theorem dc_P_hasPart_17 : decode co_P_hasPart 17 = .ok (.ireturn, 1) := by decide +kernel
theorem dc_P_hasByte_0 : decode co_P_hasByte 0 = .ok (.iload_n 1, 1) := by decide +kernel
theorem dc_P_hasByte_1 : decode co_P_hasByte 1 = .ok (.ifCond .lt 29, 3) := by decide +kernel
theorem dc_P_hasByte_4 : decode co_P_hasByte 4 = .ok (.iload_n 1, 1) := by decide +kernel
theorem dc_P_hasByte_5 : decode co_P_hasByte 5 = .ok (.aload_n 0, 1) := by decide +kernel
theorem dc_P_hasByte_6 : decode co_P_hasByte 6 = .ok (.getfield 20, 3) := by decide +kernel
theorem dc_P_hasByte_9 : decode co_P_hasByte 9 = .ok (.if_icmp .ge 21, 3) := by decide +kernel
theorem dc_P_hasByte_12 : decode co_P_hasByte 12 = .ok (.iload_n 2, 1) := by decide +kernel
theorem dc_P_hasByte_13 : decode co_P_hasByte 13 = .ok (.ifCond .lt 17, 3) := by decide +kernel
theorem dc_P_hasByte_16 : decode co_P_hasByte 16 = .ok (.iload_n 2, 1) := by decide +kernel
theorem dc_P_hasByte_17 : decode co_P_hasByte 17 = .ok (.aload_n 0, 1) := by decide +kernel
theorem dc_P_hasByte_18 : decode co_P_hasByte 18 = .ok (.getfield 16, 3) := by decide +kernel
theorem dc_P_hasByte_21 : decode co_P_hasByte 21 = .ok (.iload_n 1, 1) := by decide +kernel
theorem dc_P_hasByte_22 : decode co_P_hasByte 22 = .ok (.iaload, 1) := by decide +kernel
theorem dc_P_hasByte_23 : decode co_P_hasByte 23 = .ok (.if_icmp .ge 7, 3) := by decide +kernel
theorem dc_P_hasByte_26 : decode co_P_hasByte 26 = .ok (.iconst 1, 1) := by decide +kernel
theorem dc_P_hasByte_27 : decode co_P_hasByte 27 = .ok (.goto 4, 3) := by decide +kernel
theorem dc_P_hasByte_30 : decode co_P_hasByte 30 = .ok (.iconst 0, 1) := by decide +kernel
theorem dc_P_hasByte_31 : decode co_P_hasByte 31 = .ok (.ireturn, 1) := by decide +kernel
theorem dc_P_lengthOf_0 : decode co_P_lengthOf 0 = .ok (.aload_n 0, 1) := by decide +kernel
theorem dc_P_lengthOf_1 : decode co_P_lengthOf 1 = .ok (.iload_n 1, 1) := by decide +kernel
theorem dc_P_lengthOf_2 : decode co_P_lengthOf 2 = .ok (.invokevirtual 30, 3) := by decide +kernel
theorem dc_P_lengthOf_5 : decode co_P_lengthOf 5 = .ok (.ifCond .eq 12, 3) := by decide +kernel
theorem dc_P_lengthOf_8 : decode co_P_lengthOf 8 = .ok (.aload_n 0, 1) := by decide +kernel
theorem dc_P_lengthOf_9 : decode co_P_lengthOf 9 = .ok (.getfield 16, 3) := by decide +kernel
theorem dc_P_lengthOf_12 : decode co_P_lengthOf 12 = .ok (.iload_n 1, 1) := by decide +kernel
theorem dc_P_lengthOf_13 : decode co_P_lengthOf 13 = .ok (.iaload, 1) := by decide +kernel
theorem dc_P_lengthOf_14 : decode co_P_lengthOf 14 = .ok (.goto 4, 3) := by decide +kernel
theorem dc_P_lengthOf_17 : decode co_P_lengthOf 17 = .ok (.iconst 0, 1) := by decide +kernel
theorem dc_P_lengthOf_18 : decode co_P_lengthOf 18 = .ok (.ireturn, 1) := by decide +kernel
theorem dc_P_rowOf_0 : decode co_P_rowOf 0 = .ok (.aload_n 0, 1) := by decide +kernel
theorem dc_P_rowOf_1 : decode co_P_rowOf 1 = .ok (.getfield 11, 3) := by decide +kernel
theorem dc_P_rowOf_4 : decode co_P_rowOf 4 = .ok (.iload_n 1, 1) := by decide +kernel
theorem dc_P_rowOf_5 : decode co_P_rowOf 5 = .ok (.ifCond .lt 16, 3) := by decide +kernel
theorem dc_P_rowOf_8 : decode co_P_rowOf 8 = .ok (.iload_n 1, 1) := by decide +kernel
theorem dc_P_rowOf_9 : decode co_P_rowOf 9 = .ok (.aload_n 0, 1) := by decide +kernel
theorem dc_P_rowOf_10 : decode co_P_rowOf 10 = .ok (.getfield 11, 3) := by decide +kernel
theorem dc_P_rowOf_13 : decode co_P_rowOf 13 = .ok (.arraylength, 1) := by decide +kernel
theorem dc_P_rowOf_14 : decode co_P_rowOf 14 = .ok (.if_icmp .ge 7, 3) := by decide +kernel
theorem dc_P_rowOf_17 : decode co_P_rowOf 17 = .ok (.iload_n 1, 1) := by decide +kernel
theorem dc_P_rowOf_18 : decode co_P_rowOf 18 = .ok (.goto 4, 3) := by decide +kernel
theorem dc_P_rowOf_21 : decode co_P_rowOf 21 = .ok (.iconst 0, 1) := by decide +kernel
theorem dc_P_rowOf_22 : decode co_P_rowOf 22 = .ok (.aaload, 1) := by decide +kernel
theorem dc_P_rowOf_23 : decode co_P_rowOf 23 = .ok (.areturn, 1) := by decide +kernel
theorem dc_P_byteAt_0 : decode co_P_byteAt 0 = .ok (.aload_n 0, 1) := by decide +kernel
theorem dc_P_byteAt_1 : decode co_P_byteAt 1 = .ok (.iload_n 1, 1) := by decide +kernel
theorem dc_P_byteAt_2 : decode co_P_byteAt 2 = .ok (.iload_n 2, 1) := by decide +kernel
theorem dc_P_byteAt_3 : decode co_P_byteAt 3 = .ok (.invokevirtual 34, 3) := by decide +kernel
theorem dc_P_byteAt_6 : decode co_P_byteAt 6 = .ok (.ifCond .eq 14, 3) := by decide +kernel
theorem dc_P_byteAt_9 : decode co_P_byteAt 9 = .ok (.aload_n 0, 1) := by decide +kernel
theorem dc_P_byteAt_10 : decode co_P_byteAt 10 = .ok (.getfield 11, 3) := by decide +kernel
theorem dc_P_byteAt_13 : decode co_P_byteAt 13 = .ok (.iload_n 1, 1) := by decide +kernel
theorem dc_P_byteAt_14 : decode co_P_byteAt 14 = .ok (.aaload, 1) := by decide +kernel
theorem dc_P_byteAt_15 : decode co_P_byteAt 15 = .ok (.iload_n 2, 1) := by decide +kernel
theorem dc_P_byteAt_16 : decode co_P_byteAt 16 = .ok (.iaload, 1) := by decide +kernel
theorem dc_P_byteAt_17 : decode co_P_byteAt 17 = .ok (.goto 4, 3) := by decide +kernel
theorem dc_P_byteAt_20 : decode co_P_byteAt 20 = .ok (.iconst 0, 1) := by decide +kernel
theorem dc_P_byteAt_21 : decode co_P_byteAt 21 = .ok (.ireturn, 1) := by decide +kernel
theorem dc_P_setByte_0 : decode co_P_setByte 0 = .ok (.aload_n 0, 1) := by decide +kernel
theorem dc_P_setByte_1 : decode co_P_setByte 1 = .ok (.iload_n 1, 1) := by decide +kernel
theorem dc_P_setByte_2 : decode co_P_setByte 2 = .ok (.iload_n 2, 1) := by decide +kernel
theorem dc_P_setByte_3 : decode co_P_setByte 3 = .ok (.invokevirtual 34, 3) := by decide +kernel
theorem dc_P_setByte_6 : decode co_P_setByte 6 = .ok (.ifCond .eq 12, 3) := by decide +kernel
theorem dc_P_setByte_9 : decode co_P_setByte 9 = .ok (.aload_n 0, 1) := by decide +kernel
theorem dc_P_setByte_10 : decode co_P_setByte 10 = .ok (.getfield 11, 3) := by decide +kernel
theorem dc_P_setByte_13 : decode co_P_setByte 13 = .ok (.iload_n 1, 1) := by decide +kernel
theorem dc_P_setByte_14 : decode co_P_setByte 14 = .ok (.aaload, 1) := by decide +kernel
theorem dc_P_setByte_15 : decode co_P_setByte 15 = .ok (.iload_n 2, 1) := by decide +kernel
theorem dc_P_setByte_16 : decode co_P_setByte 16 = .ok (.iload_n 3, 1) := by decide +kernel
theorem dc_P_setByte_17 : decode co_P_setByte 17 = .ok (.iastore, 1) := by decide +kernel
theorem dc_P_setByte_18 : decode co_P_setByte 18 = .ok (.return_, 1) := by decide +kernel
