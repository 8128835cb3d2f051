theorem dc_T_init_0 : decode co_T_init 0 = .ok (.aload_n 0, 1) := by decide +kernel
theorem dc_T_init_1 : decode co_T_init 1 = .ok (.invokespecial 3, 3) := by decide +kernel
theorem dc_T_init_4 : decode co_T_init 4 = .ok (.aload_n 0, 1) := by decide +kernel
theorem dc_T_init_5 : decode co_T_init 5 = .ok (.new 9, 3) := by decide +kernel
theorem dc_T_init_8 : decode co_T_init 8 = .ok (.dup, 1) := by decide +kernel
theorem dc_T_init_9 : decode co_T_init 9 = .ok (.invokespecial 11, 3) := by decide +kernel
theorem dc_T_init_12 : decode co_T_init 12 = .ok (.putfield 12, 3) := by decide +kernel
theorem dc_T_init_15 : decode co_T_init 15 = .ok (.aload_n 0, 1) := by decide +kernel
theorem dc_T_init_16 : decode co_T_init 16 = .ok (.bipush 34, 2) := by decide +kernel
theorem dc_T_init_18 : decode co_T_init 18 = .ok (.anewarray 18, 3) := by decide +kernel
theorem dc_T_init_21 : decode co_T_init 21 = .ok (.putfield 20, 3) := by decide +kernel
theorem dc_T_init_24 : decode co_T_init 24 = .ok (.aload_n 0, 1) := by decide +kernel
theorem dc_T_init_25 : decode co_T_init 25 = .ok (.iconst 4, 1) := by decide +kernel
theorem dc_T_init_26 : decode co_T_init 26 = .ok (.newarray .int, 2) := by decide +kernel
theorem dc_T_init_28 : decode co_T_init 28 = .ok (.putfield 24, 3) := by decide +kernel
theorem dc_T_init_31 : decode co_T_init 31 = .ok (.aload_n 0, 1) := by decide +kernel
theorem dc_T_init_32 : decode co_T_init 32 = .ok (.bipush 32, 2) := by decide +kernel
theorem dc_T_init_34 : decode co_T_init 34 = .ok (.newarray .int, 2) := by decide +kernel
theorem dc_T_init_36 : decode co_T_init 36 = .ok (.putfield 28, 3) := by decide +kernel
theorem dc_T_init_39 : decode co_T_init 39 = .ok (.aload_n 0, 1) := by decide +kernel
theorem dc_T_init_40 : decode co_T_init 40 = .ok (.aload_n 1, 1) := by decide +kernel
theorem dc_T_init_41 : decode co_T_init 41 = .ok (.putfield 31, 3) := by decide +kernel
theorem dc_T_init_44 : decode co_T_init 44 = .ok (.aload_n 0, 1) := by decide +kernel
theorem dc_T_init_45 : decode co_T_init 45 = .ok (.aload_n 2, 1) := by decide +kernel
theorem dc_T_init_46 : decode co_T_init 46 = .ok (.putfield 35, 3) := by decide +kernel
theorem dc_T_init_49 : decode co_T_init 49 = .ok (.iconst 0, 1) := by decide +kernel
theorem dc_T_init_50 : decode co_T_init 50 = .ok (.istore_n 3, 1) := by decide +kernel
theorem dc_T_init_51 : decode co_T_init 51 = .ok (.iload_n 3, 1) := by decide +kernel
theorem dc_T_init_52 : decode co_T_init 52 = .ok (.aload_n 0, 1) := by decide +kernel
theorem dc_T_init_53 : decode co_T_init 53 = .ok (.getfield 20, 3) := by decide +kernel
theorem dc_T_init_56 : decode co_T_init 56 = .ok (.arraylength, 1) := by decide +kernel
theorem dc_T_init_57 : decode co_T_init 57 = .ok (.if_icmp .ge 22, 3) := by decide +kernel
theorem dc_T_init_60 : decode co_T_init 60 = .ok (.aload_n 0, 1) := by decide +kernel
theorem dc_T_init_61 : decode co_T_init 61 = .ok (.getfield 20, 3) := by decide +kernel
theorem dc_T_init_64 : decode co_T_init 64 = .ok (.iload_n 3, 1) := by decide +kernel
theorem dc_T_init_65 : decode co_T_init 65 = .ok (.new 18, 3) := by decide +kernel
theorem dc_T_init_68 : decode co_T_init 68 = .ok (.dup, 1) := by decide +kernel
theorem dc_T_init_69 : decode co_T_init 69 = .ok (.invokespecial 39, 3) := by decide +kernel
theorem dc_T_init_72 : decode co_T_init 72 = .ok (.aastore, 1) := by decide +kernel
theorem dc_T_init_73 : decode co_T_init 73 = .ok (.iinc 3 1, 3) := by decide +kernel
theorem dc_T_init_76 : decode co_T_init 76 = .ok (.goto (-25), 3) := by decide +kernel
theorem dc_T_init_79 : decode co_T_init 79 = .ok (.aload_n 0, 1) := by decide +kernel
theorem dc_T_init_80 : decode co_T_init 80 = .ok (.aload_n 0, 1) := by decide +kernel
theorem dc_T_init_81 : decode co_T_init 81 = .ok (.getfield 20, 3) := by decide +kernel
theorem dc_T_init_84 : decode co_T_init 84 = .ok (.iconst 0, 1) := by decide +kernel
theorem dc_T_init_85 : decode co_T_init 85 = .ok (.aaload, 1) := by decide +kernel
theorem dc_T_init_86 : decode co_T_init 86 = .ok (.putfield 40, 3) := by decide +kernel
theorem dc_T_init_89 : decode co_T_init 89 = .ok (.aload_n 0, 1) := by decide +kernel
theorem dc_T_init_90 : decode co_T_init 90 = .ok (.iconst 1, 1) := by decide +kernel
theorem dc_T_init_91 : decode co_T_init 91 = .ok (.putfield 44, 3) := by decide +kernel
theorem dc_T_init_94 : decode co_T_init 94 = .ok (.return_, 1) := by decide +kernel
theorem dc_T_outdate_0 : decode co_T_outdate 0 = .ok (.aload_n 0, 1) := by decide +kernel
theorem dc_T_outdate_1 : decode co_T_outdate 1 = .ok (.iconst 1, 1) := by decide +kernel
theorem dc_T_outdate_2 : decode co_T_outdate 2 = .ok (.putfield 44, 3) := by decide +kernel
theorem dc_T_outdate_5 : decode co_T_outdate 5 = .ok (.return_, 1) := by decide +kernel
theorem dc_T_refresh_0 : decode co_T_refresh 0 = .ok (.aload_n 0, 1) := by decide +kernel
theorem dc_T_refresh_1 : decode co_T_refresh 1 = .ok (.getfield 44, 3) := by decide +kernel
theorem dc_T_refresh_4 : decode co_T_refresh 4 = .ok (.ifCond .ne 4, 3) := by decide +kernel
theorem dc_T_refresh_7 : decode co_T_refresh 7 = .ok (.return_, 1) := by decide +kernel
theorem dc_T_refresh_8 : decode co_T_refresh 8 = .ok (.aload_n 0, 1) := by decide +kernel
theorem dc_T_refresh_9 : decode co_T_refresh 9 = .ok (.iconst 0, 1) := by decide +kernel
theorem dc_T_refresh_10 : decode co_T_refresh 10 = .ok (.putfield 44, 3) := by decide +kernel
theorem dc_T_refresh_13 : decode co_T_refresh 13 = .ok (.aload_n 0, 1) := by decide +kernel
theorem dc_T_refresh_14 : decode co_T_refresh 14 = .ok (.getfield 12, 3) := by decide +kernel
theorem dc_T_refresh_17 : decode co_T_refresh 17 = .ok (.invokevirtual 48, 3) := by decide +kernel
theorem dc_T_refresh_20 : decode co_T_refresh 20 = .ok (.aload_n 0, 1) := by decide +kernel
theorem dc_T_refresh_21 : decode co_T_refresh 21 = .ok (.iconst 0, 1) := by decide +kernel
theorem dc_T_refresh_22 : decode co_T_refresh 22 = .ok (.putfield 51, 3) := by decide +kernel
theorem dc_T_refresh_25 : decode co_T_refresh 25 = .ok (.iconst 0, 1) := by decide +kernel
theorem dc_T_refresh_26 : decode co_T_refresh 26 = .ok (.istore_n 1, 1) := by decide +kernel
theorem dc_T_refresh_27 : decode co_T_refresh 27 = .ok (.iload_n 1, 1) := by decide +kernel
theorem dc_T_refresh_28 : decode co_T_refresh 28 = .ok (.aload_n 0, 1) := by decide +kernel
theorem dc_T_refresh_29 : decode co_T_refresh 29 = .ok (.getfield 24, 3) := by decide +kernel
theorem dc_T_refresh_32 : decode co_T_refresh 32 = .ok (.arraylength, 1) := by decide +kernel
theorem dc_T_refresh_33 : decode co_T_refresh 33 = .ok (.if_icmp .ge 16, 3) := by decide +kernel
theorem dc_T_refresh_36 : decode co_T_refresh 36 = .ok (.aload_n 0, 1) := by decide +kernel
theorem dc_T_refresh_37 : decode co_T_refresh 37 = .ok (.getfield 24, 3) := by decide +kernel
theorem dc_T_refresh_40 : decode co_T_refresh 40 = .ok (.iload_n 1, 1) := by decide +kernel
theorem dc_T_refresh_41 : decode co_T_refresh 41 = .ok (.iconst 0, 1) := by decide +kernel
theorem dc_T_refresh_42 : decode co_T_refresh 42 = .ok (.iastore, 1) := by decide +kernel
theorem dc_T_refresh_43 : decode co_T_refresh 43 = .ok (.iinc 1 1, 3) := by decide +kernel
theorem dc_T_refresh_46 : decode co_T_refresh 46 = .ok (.goto (-19), 3) := by decide +kernel
theorem dc_T_refresh_49 : decode co_T_refresh 49 = .ok (.aload_n 0, 1) := by decide +kernel
theorem dc_T_refresh_50 : decode co_T_refresh 50 = .ok (.aload_n 0, 1) := by decide +kernel
theorem dc_T_refresh_51 : decode co_T_refresh 51 = .ok (.getfield 31, 3) := by decide +kernel
theorem dc_T_refresh_54 : decode co_T_refresh 54 = .ok (.invokevirtual 55, 3) := by decide +kernel
theorem dc_T_refresh_57 : decode co_T_refresh 57 = .ok (.ifCond .ne 10, 3) := by decide +kernel
theorem dc_T_refresh_60 : decode co_T_refresh 60 = .ok (.aload_n 0, 1) := by decide +kernel
theorem dc_T_refresh_61 : decode co_T_refresh 61 = .ok (.invokevirtual 61, 3) := by decide +kernel
theorem dc_T_refresh_64 : decode co_T_refresh 64 = .ok (.goto 16, 3) := by decide +kernel
theorem dc_T_refresh_67 : decode co_T_refresh 67 = .ok (.aload_n 0, 1) := by decide +kernel
theorem dc_T_refresh_68 : decode co_T_refresh 68 = .ok (.iconst 0, 1) := by decide +kernel
theorem dc_T_refresh_69 : decode co_T_refresh 69 = .ok (.aload_n 0, 1) := by decide +kernel
theorem dc_T_refresh_70 : decode co_T_refresh 70 = .ok (.getfield 31, 3) := by decide +kernel
theorem dc_T_refresh_73 : decode co_T_refresh 73 = .ok (.invokevirtual 55, 3) := by decide +kernel
theorem dc_T_refresh_76 : decode co_T_refresh 76 = .ok (.iconst 0, 1) := by decide +kernel
theorem dc_T_refresh_77 : decode co_T_refresh 77 = .ok (.invokevirtual 65, 3) := by decide +kernel
theorem dc_T_refresh_80 : decode co_T_refresh 80 = .ok (.putfield 40, 3) := by decide +kernel
theorem dc_T_refresh_83 : decode co_T_refresh 83 = .ok (.aload_n 0, 1) := by decide +kernel
theorem dc_T_refresh_84 : decode co_T_refresh 84 = .ok (.getfield 35, 3) := by decide +kernel
theorem dc_T_refresh_87 : decode co_T_refresh 87 = .ok (.aload_n 0, 1) := by decide +kernel
theorem dc_T_refresh_88 : decode co_T_refresh 88 = .ok (.getfield 12, 3) := by decide +kernel
theorem dc_T_refresh_91 : decode co_T_refresh 91 = .ok (.invokevirtual 69, 3) := by decide +kernel
theorem dc_T_refresh_94 : decode co_T_refresh 94 = .ok (.aload_n 0, 1) := by decide +kernel
theorem dc_T_refresh_95 : decode co_T_refresh 95 = .ok (.getfield 40, 3) := by decide +kernel
theorem dc_T_refresh_98 : decode co_T_refresh 98 = .ok (.getfield 73, 3) := by decide +kernel
theorem dc_T_refresh_101 : decode co_T_refresh 101 = .ok (.aload_n 0, 1) := by decide +kernel
theorem dc_T_refresh_102 : decode co_T_refresh 102 = .ok (.getfield 40, 3) := by decide +kernel
theorem dc_T_refresh_105 : decode co_T_refresh 105 = .ok (.getfield 76, 3) := by decide +kernel
theorem dc_T_refresh_108 : decode co_T_refresh 108 = .ok (.invokevirtual 79, 3) := by decide +kernel
theorem dc_T_refresh_111 : decode co_T_refresh 111 = .ok (.iconst 0, 1) := by decide +kernel
theorem dc_T_refresh_112 : decode co_T_refresh 112 = .ok (.istore_n 1, 1) := by decide +kernel
theorem dc_T_refresh_113 : decode co_T_refresh 113 = .ok (.iload_n 1, 1) := by decide +kernel
theorem dc_T_refresh_114 : decode co_T_refresh 114 = .ok (.bipush 32, 2) := by decide +kernel
theorem dc_T_refresh_116 : decode co_T_refresh 116 = .ok (.if_icmp .ge 23, 3) := by decide +kernel
theorem dc_T_refresh_119 : decode co_T_refresh 119 = .ok (.aload_n 0, 1) := by decide +kernel
theorem dc_T_refresh_120 : decode co_T_refresh 120 = .ok (.getfield 28, 3) := by decide +kernel
theorem dc_T_refresh_123 : decode co_T_refresh 123 = .ok (.iload_n 1, 1) := by decide +kernel
theorem dc_T_refresh_124 : decode co_T_refresh 124 = .ok (.aload_n 0, 1) := by decide +kernel
theorem dc_T_refresh_125 : decode co_T_refresh 125 = .ok (.getfield 35, 3) := by decide +kernel
theorem dc_T_refresh_128 : decode co_T_refresh 128 = .ok (.iload_n 1, 1) := by decide +kernel
theorem dc_T_refresh_129 : decode co_T_refresh 129 = .ok (.invokevirtual 85, 3) := by decide +kernel
theorem dc_T_refresh_132 : decode co_T_refresh 132 = .ok (.iastore, 1) := by decide +kernel
theorem dc_T_refresh_133 : decode co_T_refresh 133 = .ok (.iinc 1 1, 3) := by decide +kernel
theorem dc_T_refresh_136 : decode co_T_refresh 136 = .ok (.goto (-23), 3) := by decide +kernel
theorem dc_T_refresh_139 : decode co_T_refresh 139 = .ok (.return_, 1) := by decide +kernel
theorem dc_T_topLength_0 : decode co_T_topLength 0 = .ok (.aload_n 0, 1) := by decide +kernel
theorem dc_T_topLength_1 : decode co_T_topLength 1 = .ok (.getfield 40, 3) := by decide +kernel
theorem dc_T_topLength_4 : decode co_T_topLength 4 = .ok (.getfield 76, 3) := by decide +kernel
theorem dc_T_topLength_7 : decode co_T_topLength 7 = .ok (.ireturn, 1) := by decide +kernel
theorem dc_T_rootRow_0 : decode co_T_rootRow 0 = .ok (.aload_n 0, 1) := by decide +kernel
theorem dc_T_rootRow_1 : decode co_T_rootRow 1 = .ok (.getfield 28, 3) := by decide +kernel
theorem dc_T_rootRow_4 : decode co_T_rootRow 4 = .ok (.areturn, 1) := by decide +kernel
theorem dc_T_rootByte_0 : decode co_T_rootByte 0 = .ok (.iload_n 1, 1) := by decide +kernel
theorem dc_T_rootByte_1 : decode co_T_rootByte 1 = .ok (.ifCond .lt 18, 3) := by decide +kernel
theorem dc_T_rootByte_4 : decode co_T_rootByte 4 = .ok (.iload_n 1, 1) := by decide +kernel
theorem dc_T_rootByte_5 : decode co_T_rootByte 5 = .ok (.bipush 32, 2) := by decide +kernel
theorem dc_T_rootByte_7 : decode co_T_rootByte 7 = .ok (.if_icmp .ge 12, 3) := by decide +kernel
theorem dc_T_rootByte_10 : decode co_T_rootByte 10 = .ok (.aload_n 0, 1) := by decide +kernel
theorem dc_T_rootByte_11 : decode co_T_rootByte 11 = .ok (.getfield 28, 3) := by decide +kernel
theorem dc_T_rootByte_14 : decode co_T_rootByte 14 = .ok (.iload_n 1, 1) := by decide +kernel
theorem dc_T_rootByte_15 : decode co_T_rootByte 15 = .ok (.iaload, 1) := by decide +kernel
theorem dc_T_rootByte_16 : decode co_T_rootByte 16 = .ok (.goto 4, 3) := by decide +kernel
theorem dc_T_rootByte_19 : decode co_T_rootByte 19 = .ok (.iconst 0, 1) := by decide +kernel
theorem dc_T_rootByte_20 : decode co_T_rootByte 20 = .ok (.ireturn, 1) := by decide +kernel
theorem dc_T_countOf_0 : decode co_T_countOf 0 = .ok (.iload_n 1, 1) := by decide +kernel
theorem dc_T_countOf_1 : decode co_T_countOf 1 = .ok (.ifCond .lt 21, 3) := by decide +kernel
theorem dc_T_countOf_4 : decode co_T_countOf 4 = .ok (.iload_n 1, 1) := by decide +kernel
theorem dc_T_countOf_5 : decode co_T_countOf 5 = .ok (.aload_n 0, 1) := by decide +kernel
theorem dc_T_countOf_6 : decode co_T_countOf 6 = .ok (.getfield 24, 3) := by decide +kernel
theorem dc_T_countOf_9 : decode co_T_countOf 9 = .ok (.arraylength, 1) := by decide +kernel
theorem dc_T_countOf_10 : decode co_T_countOf 10 = .ok (.if_icmp .ge 12, 3) := by decide +kernel
theorem dc_T_countOf_13 : decode co_T_countOf 13 = .ok (.aload_n 0, 1) := by decide +kernel
theorem dc_T_countOf_14 : decode co_T_countOf 14 = .ok (.getfield 24, 3) := by decide +kernel
theorem dc_T_countOf_17 : decode co_T_countOf 17 = .ok (.iload_n 1, 1) := by decide +kernel
theorem dc_T_countOf_18 : decode co_T_countOf 18 = .ok (.iaload, 1) := by decide +kernel
theorem dc_T_countOf_19 : decode co_T_countOf 19 = .ok (.goto 4, 3) := by decide +kernel
theorem dc_T_countOf_22 : decode co_T_countOf 22 = .ok (.iconst 0, 1) := by decide +kernel
theorem dc_T_countOf_23 : decode co_T_countOf 23 = .ok (.ireturn, 1) := by decide +kernel
theorem dc_T_writeProof_0 : decode co_T_writeProof 0 = .ok (.aload_n 2, 1) := by decide +kernel
theorem dc_T_writeProof_1 : decode co_T_writeProof 1 = .ok (.invokevirtual 89, 3) := by decide +kernel
theorem dc_T_writeProof_4 : decode co_T_writeProof 4 = .ok (.aload_n 2, 1) := by decide +kernel
theorem dc_T_writeProof_5 : decode co_T_writeProof 5 = .ok (.aload_n 0, 1) := by decide +kernel
theorem dc_T_writeProof_6 : decode co_T_writeProof 6 = .ok (.getfield 12, 3) := by decide +kernel
theorem dc_T_writeProof_9 : decode co_T_writeProof 9 = .ok (.invokevirtual 69, 3) := by decide +kernel
theorem dc_T_writeProof_12 : decode co_T_writeProof 12 = .ok (.aload_n 0, 1) := by decide +kernel
theorem dc_T_writeProof_13 : decode co_T_writeProof 13 = .ok (.getfield 40, 3) := by decide +kernel
theorem dc_T_writeProof_16 : decode co_T_writeProof 16 = .ok (.getfield 73, 3) := by decide +kernel
theorem dc_T_writeProof_19 : decode co_T_writeProof 19 = .ok (.aload_n 0, 1) := by decide +kernel
theorem dc_T_writeProof_20 : decode co_T_writeProof 20 = .ok (.getfield 40, 3) := by decide +kernel
theorem dc_T_writeProof_23 : decode co_T_writeProof 23 = .ok (.getfield 76, 3) := by decide +kernel
theorem dc_T_writeProof_26 : decode co_T_writeProof 26 = .ok (.invokevirtual 92, 3) := by decide +kernel
theorem dc_T_writeProof_29 : decode co_T_writeProof 29 = .ok (.aload_n 0, 1) := by decide +kernel
theorem dc_T_writeProof_30 : decode co_T_writeProof 30 = .ok (.getfield 40, 3) := by decide +kernel
theorem dc_T_writeProof_33 : decode co_T_writeProof 33 = .ok (.iload_n 1, 1) := by decide +kernel
theorem dc_T_writeProof_34 : decode co_T_writeProof 34 = .ok (.invokevirtual 95, 3) := by decide +kernel
theorem dc_T_writeProof_37 : decode co_T_writeProof 37 = .ok (.astore_n 3, 1) := by decide +kernel
theorem dc_T_writeProof_38 : decode co_T_writeProof 38 = .ok (.iconst 1, 1) := by decide +kernel
theorem dc_T_writeProof_39 : decode co_T_writeProof 39 = .ok (.istore 4, 2) := by decide +kernel
theorem dc_T_writeProof_41 : decode co_T_writeProof 41 = .ok (.iload 4, 2) := by decide +kernel
theorem dc_T_writeProof_43 : decode co_T_writeProof 43 = .ok (.iconst 4, 1) := by decide +kernel
theorem dc_T_writeProof_44 : decode co_T_writeProof 44 = .ok (.if_icmp .gt 45, 3) := by decide +kernel
theorem dc_T_writeProof_47 : decode co_T_writeProof 47 = .ok (.aload_n 3, 1) := by decide +kernel
theorem dc_T_writeProof_48 : decode co_T_writeProof 48 = .ok (.ifnull 41, 3) := by decide +kernel
theorem dc_T_writeProof_51 : decode co_T_writeProof 51 = .ok (.aload_n 3, 1) := by decide +kernel
theorem dc_T_writeProof_52 : decode co_T_writeProof 52 = .ok (.invokestatic 99, 3) := by decide +kernel
theorem dc_T_writeProof_55 : decode co_T_writeProof 55 = .ok (.ifCond .eq 22, 3) := by decide +kernel
theorem dc_T_writeProof_58 : decode co_T_writeProof 58 = .ok (.aload_n 2, 1) := by decide +kernel
theorem dc_T_writeProof_59 : decode co_T_writeProof 59 = .ok (.aload_n 0, 1) := by decide +kernel
theorem dc_T_writeProof_60 : decode co_T_writeProof 60 = .ok (.getfield 12, 3) := by decide +kernel
theorem dc_T_writeProof_63 : decode co_T_writeProof 63 = .ok (.invokevirtual 69, 3) := by decide +kernel
theorem dc_T_writeProof_66 : decode co_T_writeProof 66 = .ok (.aload_n 3, 1) := by decide +kernel
theorem dc_T_writeProof_67 : decode co_T_writeProof 67 = .ok (.getfield 73, 3) := by decide +kernel
theorem dc_T_writeProof_70 : decode co_T_writeProof 70 = .ok (.aload_n 3, 1) := by decide +kernel
theorem dc_T_writeProof_71 : decode co_T_writeProof 71 = .ok (.getfield 76, 3) := by decide +kernel
theorem dc_T_writeProof_74 : decode co_T_writeProof 74 = .ok (.invokevirtual 92, 3) := by decide +kernel
theorem dc_T_writeProof_77 : decode co_T_writeProof 77 = .ok (.aload_n 3, 1) := by decide +kernel
theorem dc_T_writeProof_78 : decode co_T_writeProof 78 = .ok (.iload_n 1, 1) := by decide +kernel
theorem dc_T_writeProof_79 : decode co_T_writeProof 79 = .ok (.invokevirtual 95, 3) := by decide +kernel
theorem dc_T_writeProof_82 : decode co_T_writeProof 82 = .ok (.astore_n 3, 1) := by decide +kernel
theorem dc_T_writeProof_83 : decode co_T_writeProof 83 = .ok (.iinc 4 1, 3) := by decide +kernel
theorem dc_T_writeProof_86 : decode co_T_writeProof 86 = .ok (.goto (-45), 3) := by decide +kernel
theorem dc_T_writeProof_89 : decode co_T_writeProof 89 = .ok (.return_, 1) := by decide +kernel
theorem dc_T_isHashed_0 : decode co_T_isHashed 0 = .ok (.aload_n 0, 1) := by decide +kernel
theorem dc_T_isHashed_1 : decode co_T_isHashed 1 = .ok (.getfield 76, 3) := by decide +kernel
theorem dc_T_isHashed_4 : decode co_T_isHashed 4 = .ok (.bipush 32, 2) := by decide +kernel
theorem dc_T_isHashed_6 : decode co_T_isHashed 6 = .ok (.if_icmp .lt 7, 3) := by decide +kernel
theorem dc_T_isHashed_9 : decode co_T_isHashed 9 = .ok (.iconst 1, 1) := by decide +kernel
theorem dc_T_isHashed_10 : decode co_T_isHashed 10 = .ok (.goto 4, 3) := by decide +kernel
theorem dc_T_isHashed_13 : decode co_T_isHashed 13 = .ok (.iconst 0, 1) := by decide +kernel
theorem dc_T_isHashed_14 : decode co_T_isHashed 14 = .ok (.ireturn, 1) := by decide +kernel
theorem dc_T_grow_0 : decode co_T_grow 0 = .ok (.iload_n 2, 1) := by decide +kernel
theorem dc_T_grow_1 : decode co_T_grow 1 = .ok (.iload_n 1, 1) := by decide +kernel
theorem dc_T_grow_2 : decode co_T_grow 2 = .ok (.isub, 1) := by decide +kernel
theorem dc_T_grow_3 : decode co_T_grow 3 = .ok (.iconst 1, 1) := by decide +kernel
theorem dc_T_grow_4 : decode co_T_grow 4 = .ok (.if_icmp .eq 8, 3) := by decide +kernel
theorem dc_T_grow_7 : decode co_T_grow 7 = .ok (.iload_n 3, 1) := by decide +kernel
theorem dc_T_grow_8 : decode co_T_grow 8 = .ok (.iconst 4, 1) := by decide +kernel
theorem dc_T_grow_9 : decode co_T_grow 9 = .ok (.if_icmp .lt 17, 3) := by decide +kernel
theorem dc_T_grow_12 : decode co_T_grow 12 = .ok (.aload_n 0, 1) := by decide +kernel
theorem dc_T_grow_13 : decode co_T_grow 13 = .ok (.aload_n 0, 1) := by decide +kernel
theorem dc_T_grow_14 : decode co_T_grow 14 = .ok (.getfield 31, 3) := by decide +kernel
theorem dc_T_grow_17 : decode co_T_grow 17 = .ok (.iload_n 1, 1) := by decide +kernel
theorem dc_T_grow_18 : decode co_T_grow 18 = .ok (.invokevirtual 103, 3) := by decide +kernel
theorem dc_T_grow_21 : decode co_T_grow 21 = .ok (.iload_n 3, 1) := by decide +kernel
theorem dc_T_grow_22 : decode co_T_grow 22 = .ok (.invokevirtual 106, 3) := by decide +kernel
theorem dc_T_grow_25 : decode co_T_grow 25 = .ok (.areturn, 1) := by decide +kernel
theorem dc_T_grow_26 : decode co_T_grow 26 = .ok (.aload_n 0, 1) := by decide +kernel
theorem dc_T_grow_27 : decode co_T_grow 27 = .ok (.getfield 31, 3) := by decide +kernel
theorem dc_T_grow_30 : decode co_T_grow 30 = .ok (.iload_n 1, 1) := by decide +kernel
theorem dc_T_grow_31 : decode co_T_grow 31 = .ok (.invokevirtual 103, 3) := by decide +kernel
theorem dc_T_grow_34 : decode co_T_grow 34 = .ok (.aload_n 0, 1) := by decide +kernel
theorem dc_T_grow_35 : decode co_T_grow 35 = .ok (.getfield 31, 3) := by decide +kernel
theorem dc_T_grow_38 : decode co_T_grow 38 = .ok (.iload_n 2, 1) := by decide +kernel
theorem dc_T_grow_39 : decode co_T_grow 39 = .ok (.iconst 1, 1) := by decide +kernel
theorem dc_T_grow_40 : decode co_T_grow 40 = .ok (.isub, 1) := by decide +kernel
theorem dc_T_grow_41 : decode co_T_grow 41 = .ok (.invokevirtual 103, 3) := by decide +kernel
theorem dc_T_grow_44 : decode co_T_grow 44 = .ok (.iload_n 3, 1) := by decide +kernel
theorem dc_T_grow_45 : decode co_T_grow 45 = .ok (.invokestatic 110, 3) := by decide +kernel
theorem dc_T_grow_48 : decode co_T_grow 48 = .ok (.istore 4, 2) := by decide +kernel
theorem dc_T_grow_50 : decode co_T_grow 50 = .ok (.iload 4, 2) := by decide +kernel
theorem dc_T_grow_52 : decode co_T_grow 52 = .ok (.iload_n 3, 1) := by decide +kernel
theorem dc_T_grow_53 : decode co_T_grow 53 = .ok (.if_icmp .le 15, 3) := by decide +kernel
theorem dc_T_grow_56 : decode co_T_grow 56 = .ok (.aload_n 0, 1) := by decide +kernel
theorem dc_T_grow_57 : decode co_T_grow 57 = .ok (.iload_n 1, 1) := by decide +kernel
theorem dc_T_grow_58 : decode co_T_grow 58 = .ok (.iload_n 2, 1) := by decide +kernel
theorem dc_T_grow_59 : decode co_T_grow 59 = .ok (.iload_n 3, 1) := by decide +kernel
theorem dc_T_grow_60 : decode co_T_grow 60 = .ok (.iload 4, 2) := by decide +kernel
theorem dc_T_grow_62 : decode co_T_grow 62 = .ok (.invokevirtual 114, 3) := by decide +kernel
theorem dc_T_grow_65 : decode co_T_grow 65 = .ok (.goto 10, 3) := by decide +kernel
theorem dc_T_grow_68 : decode co_T_grow 68 = .ok (.aload_n 0, 1) := by decide +kernel
theorem dc_T_grow_69 : decode co_T_grow 69 = .ok (.iload_n 1, 1) := by decide +kernel
theorem dc_T_grow_70 : decode co_T_grow 70 = .ok (.iload_n 2, 1) := by decide +kernel
theorem dc_T_grow_71 : decode co_T_grow 71 = .ok (.iload_n 3, 1) := by decide +kernel
theorem dc_T_grow_72 : decode co_T_grow 72 = .ok (.invokevirtual 118, 3) := by decide +kernel
theorem dc_T_grow_75 : decode co_T_grow 75 = .ok (.areturn, 1) := by decide +kernel
theorem dc_T_agreedDepth_0 : decode co_T_agreedDepth 0 = .ok (.iload_n 2, 1) := by decide +kernel
theorem dc_T_agreedDepth_1 : decode co_T_agreedDepth 1 = .ok (.istore_n 3, 1) := by decide +kernel
theorem dc_T_agreedDepth_2 : decode co_T_agreedDepth 2 = .ok (.iload_n 3, 1) := by decide +kernel
theorem dc_T_agreedDepth_3 : decode co_T_agreedDepth 3 = .ok (.iconst 4, 1) := by decide +kernel
theorem dc_T_agreedDepth_4 : decode co_T_agreedDepth 4 = .ok (.if_icmp .ge 22, 3) := by decide +kernel
theorem dc_T_agreedDepth_7 : decode co_T_agreedDepth 7 = .ok (.iload_n 0, 1) := by decide +kernel
theorem dc_T_agreedDepth_8 : decode co_T_agreedDepth 8 = .ok (.iload_n 3, 1) := by decide +kernel
theorem dc_T_agreedDepth_9 : decode co_T_agreedDepth 9 = .ok (.invokestatic 121, 3) := by decide +kernel
theorem dc_T_agreedDepth_12 : decode co_T_agreedDepth 12 = .ok (.iload_n 1, 1) := by decide +kernel
theorem dc_T_agreedDepth_13 : decode co_T_agreedDepth 13 = .ok (.iload_n 3, 1) := by decide +kernel
theorem dc_T_agreedDepth_14 : decode co_T_agreedDepth 14 = .ok (.invokestatic 121, 3) := by decide +kernel
theorem dc_T_agreedDepth_17 : decode co_T_agreedDepth 17 = .ok (.if_icmp .ne 9, 3) := by decide +kernel
theorem dc_T_agreedDepth_20 : decode co_T_agreedDepth 20 = .ok (.iinc 3 1, 3) := by decide +kernel
theorem dc_T_agreedDepth_23 : decode co_T_agreedDepth 23 = .ok (.goto (-21), 3) := by decide +kernel
theorem dc_T_agreedDepth_26 : decode co_T_agreedDepth 26 = .ok (.iload_n 3, 1) := by decide +kernel
theorem dc_T_agreedDepth_27 : decode co_T_agreedDepth 27 = .ok (.ireturn, 1) := by decide +kernel
theorem dc_T_growNothing_0 : decode co_T_growNothing 0 = .ok (.aload_n 0, 1) := by decide +kernel
theorem dc_T_growNothing_1 : decode co_T_growNothing 1 = .ok (.iconst 3, 1) := by decide +kernel
theorem dc_T_growNothing_2 : decode co_T_growNothing 2 = .ok (.iconst 0, 1) := by decide +kernel
theorem dc_T_growNothing_3 : decode co_T_growNothing 3 = .ok (.iconst 0, 1) := by decide +kernel
theorem dc_T_growNothing_4 : decode co_T_growNothing 4 = .ok (.iconst 0, 1) := by decide +kernel
theorem dc_T_growNothing_5 : decode co_T_growNothing 5 = .ok (.invokevirtual 125, 3) := by decide +kernel
theorem dc_T_growNothing_8 : decode co_T_growNothing 8 = .ok (.astore_n 1, 1) := by decide +kernel
theorem dc_T_growNothing_9 : decode co_T_growNothing 9 = .ok (.aload_n 0, 1) := by decide +kernel
theorem dc_T_growNothing_10 : decode co_T_growNothing 10 = .ok (.getfield 12, 3) := by decide +kernel
theorem dc_T_growNothing_13 : decode co_T_growNothing 13 = .ok (.invokevirtual 128, 3) := by decide +kernel
theorem dc_T_growNothing_16 : decode co_T_growNothing 16 = .ok (.istore_n 2, 1) := by decide +kernel
theorem dc_T_growNothing_17 : decode co_T_growNothing 17 = .ok (.aload_n 0, 1) := by decide +kernel
theorem dc_T_growNothing_18 : decode co_T_growNothing 18 = .ok (.getfield 12, 3) := by decide +kernel
theorem dc_T_growNothing_21 : decode co_T_growNothing 21 = .ok (.iload_n 2, 1) := by decide +kernel
theorem dc_T_growNothing_22 : decode co_T_growNothing 22 = .ok (.sipush 128, 3) := by decide +kernel
theorem dc_T_growNothing_25 : decode co_T_growNothing 25 = .ok (.invokevirtual 131, 3) := by decide +kernel
theorem dc_T_growNothing_28 : decode co_T_growNothing 28 = .ok (.aload_n 0, 1) := by decide +kernel
theorem dc_T_growNothing_29 : decode co_T_growNothing 29 = .ok (.aload_n 1, 1) := by decide +kernel
theorem dc_T_growNothing_30 : decode co_T_growNothing 30 = .ok (.iload_n 2, 1) := by decide +kernel
theorem dc_T_growNothing_31 : decode co_T_growNothing 31 = .ok (.invokevirtual 135, 3) := by decide +kernel
theorem dc_T_growNothing_34 : decode co_T_growNothing 34 = .ok (.areturn, 1) := by decide +kernel
theorem dc_T_growLeaf_0 : decode co_T_growLeaf 0 = .ok (.aload_n 0, 1) := by decide +kernel
theorem dc_T_growLeaf_1 : decode co_T_growLeaf 1 = .ok (.iconst 0, 1) := by decide +kernel
theorem dc_T_growLeaf_2 : decode co_T_growLeaf 2 = .ok (.iload_n 1, 1) := by decide +kernel
theorem dc_T_growLeaf_3 : decode co_T_growLeaf 3 = .ok (.iload_n 2, 1) := by decide +kernel
theorem dc_T_growLeaf_4 : decode co_T_growLeaf 4 = .ok (.iconst 4, 1) := by decide +kernel
theorem dc_T_growLeaf_5 : decode co_T_growLeaf 5 = .ok (.invokevirtual 125, 3) := by decide +kernel
theorem dc_T_growLeaf_8 : decode co_T_growLeaf 8 = .ok (.astore_n 3, 1) := by decide +kernel
theorem dc_T_growLeaf_9 : decode co_T_growLeaf 9 = .ok (.aload_n 0, 1) := by decide +kernel
theorem dc_T_growLeaf_10 : decode co_T_growLeaf 10 = .ok (.getfield 12, 3) := by decide +kernel
theorem dc_T_growLeaf_13 : decode co_T_growLeaf 13 = .ok (.invokevirtual 128, 3) := by decide +kernel
theorem dc_T_growLeaf_16 : decode co_T_growLeaf 16 = .ok (.istore 4, 2) := by decide +kernel
theorem dc_T_growLeaf_18 : decode co_T_growLeaf 18 = .ok (.aload_n 0, 1) := by decide +kernel
theorem dc_T_growLeaf_19 : decode co_T_growLeaf 19 = .ok (.getfield 12, 3) := by decide +kernel
theorem dc_T_growLeaf_22 : decode co_T_growLeaf 22 = .ok (.iload_n 1, 1) := by decide +kernel
theorem dc_T_growLeaf_23 : decode co_T_growLeaf 23 = .ok (.iload_n 2, 1) := by decide +kernel
theorem dc_T_growLeaf_24 : decode co_T_growLeaf 24 = .ok (.iconst 4, 1) := by decide +kernel
theorem dc_T_growLeaf_25 : decode co_T_growLeaf 25 = .ok (.iconst 1, 1) := by decide +kernel
theorem dc_T_growLeaf_26 : decode co_T_growLeaf 26 = .ok (.invokevirtual 139, 3) := by decide +kernel
theorem dc_T_growLeaf_29 : decode co_T_growLeaf 29 = .ok (.aload_n 0, 1) := by decide +kernel
theorem dc_T_growLeaf_30 : decode co_T_growLeaf 30 = .ok (.getfield 12, 3) := by decide +kernel
theorem dc_T_growLeaf_33 : decode co_T_growLeaf 33 = .ok (.invokevirtual 128, 3) := by decide +kernel
theorem dc_T_growLeaf_36 : decode co_T_growLeaf 36 = .ok (.istore 5, 2) := by decide +kernel
theorem dc_T_growLeaf_38 : decode co_T_growLeaf 38 = .ok (.aload_n 0, 1) := by decide +kernel
theorem dc_T_growLeaf_39 : decode co_T_growLeaf 39 = .ok (.getfield 12, 3) := by decide +kernel
theorem dc_T_growLeaf_42 : decode co_T_growLeaf 42 = .ok (.invokevirtual 128, 3) := by decide +kernel
theorem dc_T_growLeaf_45 : decode co_T_growLeaf 45 = .ok (.istore 6, 2) := by decide +kernel
theorem dc_T_growLeaf_47 : decode co_T_growLeaf 47 = .ok (.aload_n 0, 1) := by decide +kernel
theorem dc_T_growLeaf_48 : decode co_T_growLeaf 48 = .ok (.getfield 12, 3) := by decide +kernel
theorem dc_T_growLeaf_51 : decode co_T_growLeaf 51 = .ok (.aload_n 0, 1) := by decide +kernel
theorem dc_T_growLeaf_52 : decode co_T_growLeaf 52 = .ok (.getfield 31, 3) := by decide +kernel
theorem dc_T_growLeaf_55 : decode co_T_growLeaf 55 = .ok (.iload_n 1, 1) := by decide +kernel
theorem dc_T_growLeaf_56 : decode co_T_growLeaf 56 = .ok (.invokevirtual 143, 3) := by decide +kernel
theorem dc_T_growLeaf_59 : decode co_T_growLeaf 59 = .ok (.i2l, 1) := by decide +kernel
theorem dc_T_growLeaf_60 : decode co_T_growLeaf 60 = .ok (.invokevirtual 146, 3) := by decide +kernel
theorem dc_T_growLeaf_63 : decode co_T_growLeaf 63 = .ok (.aload_n 0, 1) := by decide +kernel
theorem dc_T_growLeaf_64 : decode co_T_growLeaf 64 = .ok (.getfield 12, 3) := by decide +kernel
theorem dc_T_growLeaf_67 : decode co_T_growLeaf 67 = .ok (.aload_n 0, 1) := by decide +kernel
theorem dc_T_growLeaf_68 : decode co_T_growLeaf 68 = .ok (.getfield 31, 3) := by decide +kernel
theorem dc_T_growLeaf_71 : decode co_T_growLeaf 71 = .ok (.iload_n 1, 1) := by decide +kernel
theorem dc_T_growLeaf_72 : decode co_T_growLeaf 72 = .ok (.invokevirtual 150, 3) := by decide +kernel
theorem dc_T_growLeaf_75 : decode co_T_growLeaf 75 = .ok (.invokevirtual 146, 3) := by decide +kernel
theorem dc_T_growLeaf_78 : decode co_T_growLeaf 78 = .ok (.aload_n 0, 1) := by decide +kernel
theorem dc_T_growLeaf_79 : decode co_T_growLeaf 79 = .ok (.getfield 12, 3) := by decide +kernel
theorem dc_T_growLeaf_82 : decode co_T_growLeaf 82 = .ok (.iload 6, 2) := by decide +kernel
theorem dc_T_growLeaf_84 : decode co_T_growLeaf 84 = .ok (.sipush 192, 3) := by decide +kernel
theorem dc_T_growLeaf_87 : decode co_T_growLeaf 87 = .ok (.invokevirtual 131, 3) := by decide +kernel
theorem dc_T_growLeaf_90 : decode co_T_growLeaf 90 = .ok (.aload_n 0, 1) := by decide +kernel
theorem dc_T_growLeaf_91 : decode co_T_growLeaf 91 = .ok (.getfield 12, 3) := by decide +kernel
theorem dc_T_growLeaf_94 : decode co_T_growLeaf 94 = .ok (.iload 5, 2) := by decide +kernel
theorem dc_T_growLeaf_96 : decode co_T_growLeaf 96 = .ok (.sipush 128, 3) := by decide +kernel
theorem dc_T_growLeaf_99 : decode co_T_growLeaf 99 = .ok (.invokevirtual 131, 3) := by decide +kernel
theorem dc_T_growLeaf_102 : decode co_T_growLeaf 102 = .ok (.aload_n 0, 1) := by decide +kernel
theorem dc_T_growLeaf_103 : decode co_T_growLeaf 103 = .ok (.getfield 12, 3) := by decide +kernel
theorem dc_T_growLeaf_106 : decode co_T_growLeaf 106 = .ok (.iload 4, 2) := by decide +kernel
theorem dc_T_growLeaf_108 : decode co_T_growLeaf 108 = .ok (.sipush 192, 3) := by decide +kernel
theorem dc_T_growLeaf_111 : decode co_T_growLeaf 111 = .ok (.invokevirtual 131, 3) := by decide +kernel
theorem dc_T_growLeaf_114 : decode co_T_growLeaf 114 = .ok (.aload_n 0, 1) := by decide +kernel
theorem dc_T_growLeaf_115 : decode co_T_growLeaf 115 = .ok (.aload_n 3, 1) := by decide +kernel
theorem dc_T_growLeaf_116 : decode co_T_growLeaf 116 = .ok (.iload 4, 2) := by decide +kernel
theorem dc_T_growLeaf_118 : decode co_T_growLeaf 118 = .ok (.invokevirtual 135, 3) := by decide +kernel
theorem dc_T_growLeaf_121 : decode co_T_growLeaf 121 = .ok (.areturn, 1) := by decide +kernel
theorem dc_T_growStem_0 : decode co_T_growStem 0 = .ok (.aload_n 0, 1) := by decide +kernel
theorem dc_T_growStem_1 : decode co_T_growStem 1 = .ok (.getfield 31, 3) := by decide +kernel
theorem dc_T_growStem_4 : decode co_T_growStem 4 = .ok (.iload_n 1, 1) := by decide +kernel
theorem dc_T_growStem_5 : decode co_T_growStem 5 = .ok (.invokevirtual 103, 3) := by decide +kernel
theorem dc_T_growStem_8 : decode co_T_growStem 8 = .ok (.istore 5, 2) := by decide +kernel
theorem dc_T_growStem_10 : decode co_T_growStem 10 = .ok (.aload_n 0, 1) := by decide +kernel
theorem dc_T_growStem_11 : decode co_T_growStem 11 = .ok (.iconst 1, 1) := by decide +kernel
theorem dc_T_growStem_12 : decode co_T_growStem 12 = .ok (.iload 5, 2) := by decide +kernel
theorem dc_T_growStem_14 : decode co_T_growStem 14 = .ok (.iload_n 3, 1) := by decide +kernel
theorem dc_T_growStem_15 : decode co_T_growStem 15 = .ok (.iload 4, 2) := by decide +kernel
theorem dc_T_growStem_17 : decode co_T_growStem 17 = .ok (.invokevirtual 125, 3) := by decide +kernel
theorem dc_T_growStem_20 : decode co_T_growStem 20 = .ok (.astore 6, 2) := by decide +kernel
theorem dc_T_growStem_22 : decode co_T_growStem 22 = .ok (.aload 6, 2) := by decide +kernel
theorem dc_T_growStem_24 : decode co_T_growStem 24 = .ok (.getfield 154, 3) := by decide +kernel
theorem dc_T_growStem_27 : decode co_T_growStem 27 = .ok (.iconst 0, 1) := by decide +kernel
theorem dc_T_growStem_28 : decode co_T_growStem 28 = .ok (.aload_n 0, 1) := by decide +kernel
theorem dc_T_growStem_29 : decode co_T_growStem 29 = .ok (.iload_n 1, 1) := by decide +kernel
theorem dc_T_growStem_30 : decode co_T_growStem 30 = .ok (.iload_n 2, 1) := by decide +kernel
theorem dc_T_growStem_31 : decode co_T_growStem 31 = .ok (.iload 4, 2) := by decide +kernel
theorem dc_T_growStem_33 : decode co_T_growStem 33 = .ok (.invokevirtual 65, 3) := by decide +kernel
theorem dc_T_growStem_36 : decode co_T_growStem 36 = .ok (.aastore, 1) := by decide +kernel
theorem dc_T_growStem_37 : decode co_T_growStem 37 = .ok (.aload_n 0, 1) := by decide +kernel
theorem dc_T_growStem_38 : decode co_T_growStem 38 = .ok (.getfield 12, 3) := by decide +kernel
theorem dc_T_growStem_41 : decode co_T_growStem 41 = .ok (.invokevirtual 128, 3) := by decide +kernel
theorem dc_T_growStem_44 : decode co_T_growStem 44 = .ok (.istore 7, 2) := by decide +kernel
theorem dc_T_growStem_46 : decode co_T_growStem 46 = .ok (.aload_n 0, 1) := by decide +kernel
theorem dc_T_growStem_47 : decode co_T_growStem 47 = .ok (.getfield 12, 3) := by decide +kernel
theorem dc_T_growStem_50 : decode co_T_growStem 50 = .ok (.iload 5, 2) := by decide +kernel
theorem dc_T_growStem_52 : decode co_T_growStem 52 = .ok (.iload_n 3, 1) := by decide +kernel
theorem dc_T_growStem_53 : decode co_T_growStem 53 = .ok (.iload 4, 2) := by decide +kernel
theorem dc_T_growStem_55 : decode co_T_growStem 55 = .ok (.iconst 0, 1) := by decide +kernel
theorem dc_T_growStem_56 : decode co_T_growStem 56 = .ok (.invokevirtual 139, 3) := by decide +kernel
theorem dc_T_growStem_59 : decode co_T_growStem 59 = .ok (.aload_n 0, 1) := by decide +kernel
theorem dc_T_growStem_60 : decode co_T_growStem 60 = .ok (.aload 6, 2) := by decide +kernel
theorem dc_T_growStem_62 : decode co_T_growStem 62 = .ok (.getfield 154, 3) := by decide +kernel
theorem dc_T_growStem_65 : decode co_T_growStem 65 = .ok (.iconst 0, 1) := by decide +kernel
theorem dc_T_growStem_66 : decode co_T_growStem 66 = .ok (.aaload, 1) := by decide +kernel
theorem dc_T_growStem_67 : decode co_T_growStem 67 = .ok (.invokevirtual 157, 3) := by decide +kernel
theorem dc_T_growStem_70 : decode co_T_growStem 70 = .ok (.aload_n 0, 1) := by decide +kernel
theorem dc_T_growStem_71 : decode co_T_growStem 71 = .ok (.getfield 12, 3) := by decide +kernel
theorem dc_T_growStem_74 : decode co_T_growStem 74 = .ok (.iload 7, 2) := by decide +kernel
theorem dc_T_growStem_76 : decode co_T_growStem 76 = .ok (.sipush 192, 3) := by decide +kernel
theorem dc_T_growStem_79 : decode co_T_growStem 79 = .ok (.invokevirtual 131, 3) := by decide +kernel
theorem dc_T_growStem_82 : decode co_T_growStem 82 = .ok (.aload_n 0, 1) := by decide +kernel
theorem dc_T_growStem_83 : decode co_T_growStem 83 = .ok (.aload 6, 2) := by decide +kernel
theorem dc_T_growStem_85 : decode co_T_growStem 85 = .ok (.iload 7, 2) := by decide +kernel
theorem dc_T_growStem_87 : decode co_T_growStem 87 = .ok (.invokevirtual 135, 3) := by decide +kernel
theorem dc_T_growStem_90 : decode co_T_growStem 90 = .ok (.areturn, 1) := by decide +kernel
theorem dc_T_growFork_0 : decode co_T_growFork 0 = .ok (.aload_n 0, 1) := by decide +kernel
theorem dc_T_growFork_1 : decode co_T_growFork 1 = .ok (.iconst 2, 1) := by decide +kernel
theorem dc_T_growFork_2 : decode co_T_growFork 2 = .ok (.iconst 0, 1) := by decide +kernel
theorem dc_T_growFork_3 : decode co_T_growFork 3 = .ok (.iload_n 3, 1) := by decide +kernel
theorem dc_T_growFork_4 : decode co_T_growFork 4 = .ok (.iload_n 3, 1) := by decide +kernel
theorem dc_T_growFork_5 : decode co_T_growFork 5 = .ok (.invokevirtual 125, 3) := by decide +kernel
theorem dc_T_growFork_8 : decode co_T_growFork 8 = .ok (.astore 4, 2) := by decide +kernel
theorem dc_T_growFork_10 : decode co_T_growFork 10 = .ok (.iload_n 1, 1) := by decide +kernel
theorem dc_T_growFork_11 : decode co_T_growFork 11 = .ok (.istore 5, 2) := by decide +kernel
theorem dc_T_growFork_13 : decode co_T_growFork 13 = .ok (.iconst 0, 1) := by decide +kernel
theorem dc_T_growFork_14 : decode co_T_growFork 14 = .ok (.istore 6, 2) := by decide +kernel
theorem dc_T_growFork_16 : decode co_T_growFork 16 = .ok (.iload 6, 2) := by decide +kernel
theorem dc_T_growFork_18 : decode co_T_growFork 18 = .ok (.bipush 16, 2) := by decide +kernel
theorem dc_T_growFork_20 : decode co_T_growFork 20 = .ok (.if_icmp .ge 73, 3) := by decide +kernel
theorem dc_T_growFork_23 : decode co_T_growFork 23 = .ok (.iload 5, 2) := by decide +kernel
theorem dc_T_growFork_25 : decode co_T_growFork 25 = .ok (.istore 7, 2) := by decide +kernel
theorem dc_T_growFork_27 : decode co_T_growFork 27 = .ok (.iload 7, 2) := by decide +kernel
theorem dc_T_growFork_29 : decode co_T_growFork 29 = .ok (.iload_n 2, 1) := by decide +kernel
theorem dc_T_growFork_30 : decode co_T_growFork 30 = .ok (.if_icmp .ge 27, 3) := by decide +kernel
theorem dc_T_growFork_33 : decode co_T_growFork 33 = .ok (.aload_n 0, 1) := by decide +kernel
theorem dc_T_growFork_34 : decode co_T_growFork 34 = .ok (.getfield 31, 3) := by decide +kernel
theorem dc_T_growFork_37 : decode co_T_growFork 37 = .ok (.iload 7, 2) := by decide +kernel
theorem dc_T_growFork_39 : decode co_T_growFork 39 = .ok (.invokevirtual 103, 3) := by decide +kernel
theorem dc_T_growFork_42 : decode co_T_growFork 42 = .ok (.iload_n 3, 1) := by decide +kernel
theorem dc_T_growFork_43 : decode co_T_growFork 43 = .ok (.invokestatic 121, 3) := by decide +kernel
theorem dc_T_growFork_46 : decode co_T_growFork 46 = .ok (.iload 6, 2) := by decide +kernel
theorem dc_T_growFork_48 : decode co_T_growFork 48 = .ok (.if_icmp .ne 9, 3) := by decide +kernel
theorem dc_T_growFork_51 : decode co_T_growFork 51 = .ok (.iinc 7 1, 3) := by decide +kernel
theorem dc_T_growFork_54 : decode co_T_growFork 54 = .ok (.goto (-27), 3) := by decide +kernel
theorem dc_T_growFork_57 : decode co_T_growFork 57 = .ok (.iload 7, 2) := by decide +kernel
theorem dc_T_growFork_59 : decode co_T_growFork 59 = .ok (.iload 5, 2) := by decide +kernel
theorem dc_T_growFork_61 : decode co_T_growFork 61 = .ok (.if_icmp .le 22, 3) := by decide +kernel
theorem dc_T_growFork_64 : decode co_T_growFork 64 = .ok (.aload 4, 2) := by decide +kernel
theorem dc_T_growFork_66 : decode co_T_growFork 66 = .ok (.getfield 154, 3) := by decide +kernel
theorem dc_T_growFork_69 : decode co_T_growFork 69 = .ok (.iload 6, 2) := by decide +kernel
theorem dc_T_growFork_71 : decode co_T_growFork 71 = .ok (.aload_n 0, 1) := by decide +kernel
theorem dc_T_growFork_72 : decode co_T_growFork 72 = .ok (.iload 5, 2) := by decide +kernel
theorem dc_T_growFork_74 : decode co_T_growFork 74 = .ok (.iload 7, 2) := by decide +kernel
theorem dc_T_growFork_76 : decode co_T_growFork 76 = .ok (.iload_n 3, 1) := by decide +kernel
theorem dc_T_growFork_77 : decode co_T_growFork 77 = .ok (.iconst 1, 1) := by decide +kernel
theorem dc_T_growFork_78 : decode co_T_growFork 78 = .ok (.iadd, 1) := by decide +kernel
theorem dc_T_growFork_79 : decode co_T_growFork 79 = .ok (.invokevirtual 65, 3) := by decide +kernel
theorem dc_T_growFork_82 : decode co_T_growFork 82 = .ok (.aastore, 1) := by decide +kernel
theorem dc_T_growFork_83 : decode co_T_growFork 83 = .ok (.iload 7, 2) := by decide +kernel
theorem dc_T_growFork_85 : decode co_T_growFork 85 = .ok (.istore 5, 2) := by decide +kernel
theorem dc_T_growFork_87 : decode co_T_growFork 87 = .ok (.iinc 6 1, 3) := by decide +kernel
theorem dc_T_growFork_90 : decode co_T_growFork 90 = .ok (.goto (-74), 3) := by decide +kernel
theorem dc_T_growFork_93 : decode co_T_growFork 93 = .ok (.aload_n 0, 1) := by decide +kernel
theorem dc_T_growFork_94 : decode co_T_growFork 94 = .ok (.getfield 12, 3) := by decide +kernel
theorem dc_T_growFork_97 : decode co_T_growFork 97 = .ok (.invokevirtual 128, 3) := by decide +kernel
theorem dc_T_growFork_100 : decode co_T_growFork 100 = .ok (.istore 6, 2) := by decide +kernel
theorem dc_T_growFork_102 : decode co_T_growFork 102 = .ok (.iconst 0, 1) := by decide +kernel
theorem dc_T_growFork_103 : decode co_T_growFork 103 = .ok (.istore 7, 2) := by decide +kernel
theorem dc_T_growFork_105 : decode co_T_growFork 105 = .ok (.iload 7, 2) := by decide +kernel
theorem dc_T_growFork_107 : decode co_T_growFork 107 = .ok (.bipush 16, 2) := by decide +kernel
theorem dc_T_growFork_109 : decode co_T_growFork 109 = .ok (.if_icmp .ge 21, 3) := by decide +kernel
theorem dc_T_growFork_112 : decode co_T_growFork 112 = .ok (.aload_n 0, 1) := by decide +kernel
theorem dc_T_growFork_113 : decode co_T_growFork 113 = .ok (.aload 4, 2) := by decide +kernel
theorem dc_T_growFork_115 : decode co_T_growFork 115 = .ok (.getfield 154, 3) := by decide +kernel
theorem dc_T_growFork_118 : decode co_T_growFork 118 = .ok (.iload 7, 2) := by decide +kernel
theorem dc_T_growFork_120 : decode co_T_growFork 120 = .ok (.aaload, 1) := by decide +kernel
theorem dc_T_growFork_121 : decode co_T_growFork 121 = .ok (.invokevirtual 157, 3) := by decide +kernel
theorem dc_T_growFork_124 : decode co_T_growFork 124 = .ok (.iinc 7 1, 3) := by decide +kernel
theorem dc_T_growFork_127 : decode co_T_growFork 127 = .ok (.goto (-22), 3) := by decide +kernel
theorem dc_T_growFork_130 : decode co_T_growFork 130 = .ok (.aload_n 0, 1) := by decide +kernel
theorem dc_T_growFork_131 : decode co_T_growFork 131 = .ok (.getfield 12, 3) := by decide +kernel
theorem dc_T_growFork_134 : decode co_T_growFork 134 = .ok (.sipush 128, 3) := by decide +kernel
theorem dc_T_growFork_137 : decode co_T_growFork 137 = .ok (.invokevirtual 161, 3) := by decide +kernel
theorem dc_T_growFork_140 : decode co_T_growFork 140 = .ok (.aload_n 0, 1) := by decide +kernel
theorem dc_T_growFork_141 : decode co_T_growFork 141 = .ok (.getfield 12, 3) := by decide +kernel
theorem dc_T_growFork_144 : decode co_T_growFork 144 = .ok (.iload 6, 2) := by decide +kernel
theorem dc_T_growFork_146 : decode co_T_growFork 146 = .ok (.sipush 192, 3) := by decide +kernel
theorem dc_T_growFork_149 : decode co_T_growFork 149 = .ok (.invokevirtual 131, 3) := by decide +kernel
theorem dc_T_growFork_152 : decode co_T_growFork 152 = .ok (.aload_n 0, 1) := by decide +kernel
theorem dc_T_growFork_153 : decode co_T_growFork 153 = .ok (.aload 4, 2) := by decide +kernel
theorem dc_T_growFork_155 : decode co_T_growFork 155 = .ok (.iload 6, 2) := by decide +kernel
theorem dc_T_growFork_157 : decode co_T_growFork 157 = .ok (.invokevirtual 135, 3) := by decide +kernel
theorem dc_T_growFork_160 : decode co_T_growFork 160 = .ok (.areturn, 1) := by decide +kernel
theorem dc_T_putReference_0 : decode co_T_putReference 0 = .ok (.aload_n 1, 1) := by decide +kernel
theorem dc_T_putReference_1 : decode co_T_putReference 1 = .ok (.ifnonnull 16, 3) := by decide +kernel
theorem dc_T_putReference_4 : decode co_T_putReference 4 = .ok (.aload_n 0, 1) := by decide +kernel
theorem dc_T_putReference_5 : decode co_T_putReference 5 = .ok (.getfield 12, 3) := by decide +kernel
theorem dc_T_putReference_8 : decode co_T_putReference 8 = .ok (.sipush 128, 3) := by decide +kernel
theorem dc_T_putReference_11 : decode co_T_putReference 11 = .ok (.invokevirtual 161, 3) := by decide +kernel
theorem dc_T_putReference_14 : decode co_T_putReference 14 = .ok (.goto 89, 3) := by decide +kernel
theorem dc_T_putReference_17 : decode co_T_putReference 17 = .ok (.aload_n 1, 1) := by decide +kernel
theorem dc_T_putReference_18 : decode co_T_putReference 18 = .ok (.invokestatic 99, 3) := by decide +kernel
theorem dc_T_putReference_21 : decode co_T_putReference 21 = .ok (.ifCond .eq 67, 3) := by decide +kernel
theorem dc_T_putReference_24 : decode co_T_putReference 24 = .ok (.aload_n 0, 1) := by decide +kernel
theorem dc_T_putReference_25 : decode co_T_putReference 25 = .ok (.getfield 35, 3) := by decide +kernel
theorem dc_T_putReference_28 : decode co_T_putReference 28 = .ok (.aload_n 0, 1) := by decide +kernel
theorem dc_T_putReference_29 : decode co_T_putReference 29 = .ok (.getfield 12, 3) := by decide +kernel
theorem dc_T_putReference_32 : decode co_T_putReference 32 = .ok (.invokevirtual 69, 3) := by decide +kernel
theorem dc_T_putReference_35 : decode co_T_putReference 35 = .ok (.aload_n 1, 1) := by decide +kernel
theorem dc_T_putReference_36 : decode co_T_putReference 36 = .ok (.getfield 73, 3) := by decide +kernel
theorem dc_T_putReference_39 : decode co_T_putReference 39 = .ok (.aload_n 1, 1) := by decide +kernel
theorem dc_T_putReference_40 : decode co_T_putReference 40 = .ok (.getfield 76, 3) := by decide +kernel
theorem dc_T_putReference_43 : decode co_T_putReference 43 = .ok (.invokevirtual 79, 3) := by decide +kernel
theorem dc_T_putReference_46 : decode co_T_putReference 46 = .ok (.aload_n 0, 1) := by decide +kernel
theorem dc_T_putReference_47 : decode co_T_putReference 47 = .ok (.getfield 12, 3) := by decide +kernel
theorem dc_T_putReference_50 : decode co_T_putReference 50 = .ok (.sipush 160, 3) := by decide +kernel
theorem dc_T_putReference_53 : decode co_T_putReference 53 = .ok (.invokevirtual 161, 3) := by decide +kernel
theorem dc_T_putReference_56 : decode co_T_putReference 56 = .ok (.iconst 0, 1) := by decide +kernel
theorem dc_T_putReference_57 : decode co_T_putReference 57 = .ok (.istore_n 2, 1) := by decide +kernel
theorem dc_T_putReference_58 : decode co_T_putReference 58 = .ok (.iload_n 2, 1) := by decide +kernel
theorem dc_T_putReference_59 : decode co_T_putReference 59 = .ok (.bipush 32, 2) := by decide +kernel
theorem dc_T_putReference_61 : decode co_T_putReference 61 = .ok (.if_icmp .ge 24, 3) := by decide +kernel
theorem dc_T_putReference_64 : decode co_T_putReference 64 = .ok (.aload_n 0, 1) := by decide +kernel
theorem dc_T_putReference_65 : decode co_T_putReference 65 = .ok (.getfield 12, 3) := by decide +kernel
theorem dc_T_putReference_68 : decode co_T_putReference 68 = .ok (.aload_n 0, 1) := by decide +kernel
theorem dc_T_putReference_69 : decode co_T_putReference 69 = .ok (.getfield 35, 3) := by decide +kernel
theorem dc_T_putReference_72 : decode co_T_putReference 72 = .ok (.iload_n 2, 1) := by decide +kernel
theorem dc_T_putReference_73 : decode co_T_putReference 73 = .ok (.invokevirtual 85, 3) := by decide +kernel
theorem dc_T_putReference_76 : decode co_T_putReference 76 = .ok (.invokevirtual 161, 3) := by decide +kernel
theorem dc_T_putReference_79 : decode co_T_putReference 79 = .ok (.iinc 2 1, 3) := by decide +kernel
theorem dc_T_putReference_82 : decode co_T_putReference 82 = .ok (.goto (-24), 3) := by decide +kernel
theorem dc_T_putReference_85 : decode co_T_putReference 85 = .ok (.goto 18, 3) := by decide +kernel
theorem dc_T_putReference_88 : decode co_T_putReference 88 = .ok (.aload_n 0, 1) := by decide +kernel
theorem dc_T_putReference_89 : decode co_T_putReference 89 = .ok (.getfield 12, 3) := by decide +kernel
theorem dc_T_putReference_92 : decode co_T_putReference 92 = .ok (.aload_n 1, 1) := by decide +kernel
theorem dc_T_putReference_93 : decode co_T_putReference 93 = .ok (.getfield 73, 3) := by decide +kernel
theorem dc_T_putReference_96 : decode co_T_putReference 96 = .ok (.aload_n 1, 1) := by decide +kernel
theorem dc_T_putReference_97 : decode co_T_putReference 97 = .ok (.getfield 76, 3) := by decide +kernel
theorem dc_T_putReference_100 : decode co_T_putReference 100 = .ok (.invokevirtual 165, 3) := by decide +kernel
theorem dc_T_putReference_103 : decode co_T_putReference 103 = .ok (.return_, 1) := by decide +kernel
theorem dc_T_take_0 : decode co_T_take 0 = .ok (.aload_n 0, 1) := by decide +kernel
theorem dc_T_take_1 : decode co_T_take 1 = .ok (.getfield 20, 3) := by decide +kernel
theorem dc_T_take_4 : decode co_T_take 4 = .ok (.aload_n 0, 1) := by decide +kernel
theorem dc_T_take_5 : decode co_T_take 5 = .ok (.getfield 51, 3) := by decide +kernel
theorem dc_T_take_8 : decode co_T_take 8 = .ok (.aaload, 1) := by decide +kernel
theorem dc_T_take_9 : decode co_T_take 9 = .ok (.astore 5, 2) := by decide +kernel
theorem dc_T_take_11 : decode co_T_take 11 = .ok (.aload_n 0, 1) := by decide +kernel
theorem dc_T_take_12 : decode co_T_take 12 = .ok (.getfield 51, 3) := by decide +kernel
theorem dc_T_take_15 : decode co_T_take 15 = .ok (.aload_n 0, 1) := by decide +kernel
theorem dc_T_take_16 : decode co_T_take 16 = .ok (.getfield 20, 3) := by decide +kernel
theorem dc_T_take_19 : decode co_T_take 19 = .ok (.arraylength, 1) := by decide +kernel
theorem dc_T_take_20 : decode co_T_take 20 = .ok (.iconst 1, 1) := by decide +kernel
theorem dc_T_take_21 : decode co_T_take 21 = .ok (.isub, 1) := by decide +kernel
theorem dc_T_take_22 : decode co_T_take 22 = .ok (.if_icmp .ge 13, 3) := by decide +kernel
theorem dc_T_take_25 : decode co_T_take 25 = .ok (.aload_n 0, 1) := by decide +kernel
theorem dc_T_take_26 : decode co_T_take 26 = .ok (.dup, 1) := by decide +kernel
theorem dc_T_take_27 : decode co_T_take 27 = .ok (.getfield 51, 3) := by decide +kernel
theorem dc_T_take_30 : decode co_T_take 30 = .ok (.iconst 1, 1) := by decide +kernel
theorem dc_T_take_31 : decode co_T_take 31 = .ok (.iadd, 1) := by decide +kernel
theorem dc_T_take_32 : decode co_T_take 32 = .ok (.putfield 51, 3) := by decide +kernel
theorem dc_T_take_35 : decode co_T_take 35 = .ok (.aload 5, 2) := by decide +kernel
theorem dc_T_take_37 : decode co_T_take 37 = .ok (.iload_n 1, 1) := by decide +kernel
theorem dc_T_take_38 : decode co_T_take 38 = .ok (.iload_n 2, 1) := by decide +kernel
theorem dc_T_take_39 : decode co_T_take 39 = .ok (.iload_n 3, 1) := by decide +kernel
theorem dc_T_take_40 : decode co_T_take 40 = .ok (.iload 4, 2) := by decide +kernel
theorem dc_T_take_42 : decode co_T_take 42 = .ok (.invokevirtual 168, 3) := by decide +kernel
theorem dc_T_take_45 : decode co_T_take 45 = .ok (.aload_n 0, 1) := by decide +kernel
theorem dc_T_take_46 : decode co_T_take 46 = .ok (.getfield 24, 3) := by decide +kernel
theorem dc_T_take_49 : decode co_T_take 49 = .ok (.iload_n 1, 1) := by decide +kernel
theorem dc_T_take_50 : decode co_T_take 50 = .ok (.dup2, 1) := by decide +kernel
theorem dc_T_take_51 : decode co_T_take 51 = .ok (.iaload, 1) := by decide +kernel
theorem dc_T_take_52 : decode co_T_take 52 = .ok (.iconst 1, 1) := by decide +kernel
theorem dc_T_take_53 : decode co_T_take 53 = .ok (.iadd, 1) := by decide +kernel
theorem dc_T_take_54 : decode co_T_take 54 = .ok (.iastore, 1) := by decide +kernel
theorem dc_T_take_55 : decode co_T_take 55 = .ok (.aload 5, 2) := by decide +kernel
theorem dc_T_take_57 : decode co_T_take 57 = .ok (.areturn, 1) := by decide +kernel
theorem dc_T_finish_0 : decode co_T_finish 0 = .ok (.aload_n 1, 1) := by decide +kernel
theorem dc_T_finish_1 : decode co_T_finish 1 = .ok (.iload_n 2, 1) := by decide +kernel
theorem dc_T_finish_2 : decode co_T_finish 2 = .ok (.putfield 73, 3) := by decide +kernel
theorem dc_T_finish_5 : decode co_T_finish 5 = .ok (.aload_n 1, 1) := by decide +kernel
theorem dc_T_finish_6 : decode co_T_finish 6 = .ok (.aload_n 0, 1) := by decide +kernel
theorem dc_T_finish_7 : decode co_T_finish 7 = .ok (.getfield 12, 3) := by decide +kernel
theorem dc_T_finish_10 : decode co_T_finish 10 = .ok (.invokevirtual 172, 3) := by decide +kernel
theorem dc_T_finish_13 : decode co_T_finish 13 = .ok (.iload_n 2, 1) := by decide +kernel
theorem dc_T_finish_14 : decode co_T_finish 14 = .ok (.isub, 1) := by decide +kernel
theorem dc_T_finish_15 : decode co_T_finish 15 = .ok (.putfield 76, 3) := by decide +kernel
theorem dc_T_finish_18 : decode co_T_finish 18 = .ok (.aload_n 1, 1) := by decide +kernel
theorem dc_T_finish_19 : decode co_T_finish 19 = .ok (.areturn, 1) := by decide +kernel
