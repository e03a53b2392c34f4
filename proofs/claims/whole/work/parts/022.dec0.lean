-- decode rows, cut out of the printed text of the task
theorem dX0_init_0 : decode cX0_init 0 = .ok (.aload_n 0, 1) := by decide +kernel
theorem dX0_init_1 : decode cX0_init 1 = .ok (.invokespecial 3, 3) := by decide +kernel
theorem dX0_init_4 : decode cX0_init 4 = .ok (.aload_n 0, 1) := by decide +kernel
theorem dX0_init_5 : decode cX0_init 5 = .ok (.iload_n 1, 1) := by decide +kernel
theorem dX0_init_6 : decode cX0_init 6 = .ok (.putfield 9, 3) := by decide +kernel
theorem dX0_init_9 : decode cX0_init 9 = .ok (.aload_n 0, 1) := by decide +kernel
theorem dX0_init_10 : decode cX0_init 10 = .ok (.iload_n 2, 1) := by decide +kernel
theorem dX0_init_11 : decode cX0_init 11 = .ok (.putfield 15, 3) := by decide +kernel
theorem dX0_init_14 : decode cX0_init 14 = .ok (.aload_n 0, 1) := by decide +kernel
theorem dX0_init_15 : decode cX0_init 15 = .ok (.aload_n 3, 1) := by decide +kernel
theorem dX0_init_16 : decode cX0_init 16 = .ok (.putfield 18, 3) := by decide +kernel
theorem dX0_init_19 : decode cX0_init 19 = .ok (.aload_n 0, 1) := by decide +kernel
theorem dX0_init_20 : decode cX0_init 20 = .ok (.iload 4, 2) := by decide +kernel
theorem dX0_init_22 : decode cX0_init 22 = .ok (.putfield 22, 3) := by decide +kernel
theorem dX0_init_25 : decode cX0_init 25 = .ok (.aload_n 0, 1) := by decide +kernel
theorem dX0_init_26 : decode cX0_init 26 = .ok (.iload 5, 2) := by decide +kernel
theorem dX0_init_28 : decode cX0_init 28 = .ok (.putfield 25, 3) := by decide +kernel
theorem dX0_init_31 : decode cX0_init 31 = .ok (.aload_n 0, 1) := by decide +kernel
theorem dX0_init_32 : decode cX0_init 32 = .ok (.iload_n 2, 1) := by decide +kernel
theorem dX0_init_33 : decode cX0_init 33 = .ok (.aload_n 3, 1) := by decide +kernel
theorem dX0_init_34 : decode cX0_init 34 = .ok (.iload 4, 2) := by decide +kernel
theorem dX0_init_36 : decode cX0_init 36 = .ok (.iload 5, 2) := by decide +kernel
theorem dX0_init_38 : decode cX0_init 38 = .ok (.invokestatic 28, 3) := by decide +kernel
theorem dX0_init_41 : decode cX0_init 41 = .ok (.putfield 32, 3) := by decide +kernel
theorem dX0_init_44 : decode cX0_init 44 = .ok (.aload_n 0, 1) := by decide +kernel
theorem dX0_init_45 : decode cX0_init 45 = .ok (.iconst (-1), 1) := by decide +kernel
theorem dX0_init_46 : decode cX0_init 46 = .ok (.putfield 36, 3) := by decide +kernel
theorem dX0_init_49 : decode cX0_init 49 = .ok (.return_, 1) := by decide +kernel
theorem dX0_write_0 : decode cX0_write 0 = .ok (.new 39, 3) := by decide +kernel
theorem dX0_write_3 : decode cX0_write 3 = .ok (.dup, 1) := by decide +kernel
theorem dX0_write_4 : decode cX0_write 4 = .ok (.invokespecial 41, 3) := by decide +kernel
theorem dX0_write_7 : decode cX0_write 7 = .ok (.astore 4, 2) := by decide +kernel
theorem dX0_write_9 : decode cX0_write 9 = .ok (.aload 4, 2) := by decide +kernel
theorem dX0_write_11 : decode cX0_write 11 = .ok (.iload_n 0, 1) := by decide +kernel
theorem dX0_write_12 : decode cX0_write 12 = .ok (.iconst 1, 1) := by decide +kernel
theorem dX0_write_13 : decode cX0_write 13 = .ok (.if_icmp .ne 8, 3) := by decide +kernel
theorem dX0_write_16 : decode cX0_write 16 = .ok (.ldc 42, 2) := by decide +kernel
theorem dX0_write_18 : decode cX0_write 18 = .ok (.goto 5, 3) := by decide +kernel
theorem dX0_write_21 : decode cX0_write 21 = .ok (.ldc 44, 2) := by decide +kernel
theorem dX0_write_23 : decode cX0_write 23 = .ok (.invokevirtual 46, 3) := by decide +kernel
theorem dX0_write_26 : decode cX0_write 26 = .ok (.pop, 1) := by decide +kernel
theorem dX0_write_27 : decode cX0_write 27 = .ok (.aload_n 1, 1) := by decide +kernel
theorem dX0_write_28 : decode cX0_write 28 = .ok (.aload 4, 2) := by decide +kernel
theorem dX0_write_30 : decode cX0_write 30 = .ok (.invokevirtual 50, 3) := by decide +kernel
theorem dX0_write_33 : decode cX0_write 33 = .ok (.iload_n 2, 1) := by decide +kernel
theorem dX0_write_34 : decode cX0_write 34 = .ok (.ifCond .eq 15, 3) := by decide +kernel
theorem dX0_write_37 : decode cX0_write 37 = .ok (.aload 4, 2) := by decide +kernel
theorem dX0_write_39 : decode cX0_write 39 = .ok (.bipush 58, 2) := by decide +kernel
theorem dX0_write_41 : decode cX0_write 41 = .ok (.invokevirtual 56, 3) := by decide +kernel
theorem dX0_write_44 : decode cX0_write 44 = .ok (.iload_n 2, 1) := by decide +kernel
theorem dX0_write_45 : decode cX0_write 45 = .ok (.invokevirtual 59, 3) := by decide +kernel
theorem dX0_write_48 : decode cX0_write 48 = .ok (.pop, 1) := by decide +kernel
theorem dX0_write_49 : decode cX0_write 49 = .ok (.iload_n 3, 1) := by decide +kernel
theorem dX0_write_50 : decode cX0_write 50 = .ok (.bipush 100, 2) := by decide +kernel
theorem dX0_write_52 : decode cX0_write 52 = .ok (.if_icmp .lt 8, 3) := by decide +kernel
theorem dX0_write_55 : decode cX0_write 55 = .ok (.bipush 100, 2) := by decide +kernel
theorem dX0_write_57 : decode cX0_write 57 = .ok (.goto 15, 3) := by decide +kernel
theorem dX0_write_60 : decode cX0_write 60 = .ok (.iload_n 3, 1) := by decide +kernel
theorem dX0_write_61 : decode cX0_write 61 = .ok (.bipush 10, 2) := by decide +kernel
theorem dX0_write_63 : decode cX0_write 63 = .ok (.if_icmp .lt 8, 3) := by decide +kernel
theorem dX0_write_66 : decode cX0_write 66 = .ok (.bipush 10, 2) := by decide +kernel
theorem dX0_write_68 : decode cX0_write 68 = .ok (.goto 4, 3) := by decide +kernel
theorem dX0_write_71 : decode cX0_write 71 = .ok (.iconst 1, 1) := by decide +kernel
theorem dX0_write_72 : decode cX0_write 72 = .ok (.istore 5, 2) := by decide +kernel
theorem dX0_write_74 : decode cX0_write 74 = .ok (.iload 5, 2) := by decide +kernel
theorem dX0_write_76 : decode cX0_write 76 = .ok (.istore 6, 2) := by decide +kernel
theorem dX0_write_78 : decode cX0_write 78 = .ok (.iload 6, 2) := by decide +kernel
theorem dX0_write_80 : decode cX0_write 80 = .ok (.iconst 1, 1) := by decide +kernel
theorem dX0_write_81 : decode cX0_write 81 = .ok (.if_icmp .lt 35, 3) := by decide +kernel
theorem dX0_write_84 : decode cX0_write 84 = .ok (.iload_n 3, 1) := by decide +kernel
theorem dX0_write_85 : decode cX0_write 85 = .ok (.ifCond .le 31, 3) := by decide +kernel
theorem dX0_write_88 : decode cX0_write 88 = .ok (.aload 4, 2) := by decide +kernel
theorem dX0_write_90 : decode cX0_write 90 = .ok (.bipush 47, 2) := by decide +kernel
theorem dX0_write_92 : decode cX0_write 92 = .ok (.invokevirtual 56, 3) := by decide +kernel
theorem dX0_write_95 : decode cX0_write 95 = .ok (.iload_n 3, 1) := by decide +kernel
theorem dX0_write_96 : decode cX0_write 96 = .ok (.iload 6, 2) := by decide +kernel
theorem dX0_write_98 : decode cX0_write 98 = .ok (.idiv, 1) := by decide +kernel
theorem dX0_write_99 : decode cX0_write 99 = .ok (.bipush 10, 2) := by decide +kernel
theorem dX0_write_101 : decode cX0_write 101 = .ok (.irem, 1) := by decide +kernel
theorem dX0_write_102 : decode cX0_write 102 = .ok (.invokevirtual 59, 3) := by decide +kernel
theorem dX0_write_105 : decode cX0_write 105 = .ok (.pop, 1) := by decide +kernel
theorem dX0_write_106 : decode cX0_write 106 = .ok (.iload 6, 2) := by decide +kernel
theorem dX0_write_108 : decode cX0_write 108 = .ok (.bipush 10, 2) := by decide +kernel
theorem dX0_write_110 : decode cX0_write 110 = .ok (.idiv, 1) := by decide +kernel
theorem dX0_write_111 : decode cX0_write 111 = .ok (.istore 6, 2) := by decide +kernel
theorem dX0_write_113 : decode cX0_write 113 = .ok (.goto (-35), 3) := by decide +kernel
theorem dX0_write_116 : decode cX0_write 116 = .ok (.iload_n 3, 1) := by decide +kernel
theorem dX0_write_117 : decode cX0_write 117 = .ok (.ifCond .ne 11, 3) := by decide +kernel
theorem dX0_write_120 : decode cX0_write 120 = .ok (.aload 4, 2) := by decide +kernel
theorem dX0_write_122 : decode cX0_write 122 = .ok (.bipush 47, 2) := by decide +kernel
theorem dX0_write_124 : decode cX0_write 124 = .ok (.invokevirtual 56, 3) := by decide +kernel
theorem dX0_write_127 : decode cX0_write 127 = .ok (.pop, 1) := by decide +kernel
theorem dX0_write_128 : decode cX0_write 128 = .ok (.aload 4, 2) := by decide +kernel
theorem dX0_write_130 : decode cX0_write 130 = .ok (.invokevirtual 62, 3) := by decide +kernel
theorem dX0_write_133 : decode cX0_write 133 = .ok (.areturn, 1) := by decide +kernel
theorem dX0_origin_0 : decode cX0_origin 0 = .ok (.aload_n 0, 1) := by decide +kernel
theorem dX0_origin_1 : decode cX0_origin 1 = .ok (.getfield 15, 3) := by decide +kernel
theorem dX0_origin_4 : decode cX0_origin 4 = .ok (.iconst 1, 1) := by decide +kernel
theorem dX0_origin_5 : decode cX0_origin 5 = .ok (.if_icmp .ne 9, 3) := by decide +kernel
theorem dX0_origin_8 : decode cX0_origin 8 = .ok (.sipush 443, 3) := by decide +kernel
theorem dX0_origin_11 : decode cX0_origin 11 = .ok (.goto 5, 3) := by decide +kernel
theorem dX0_origin_14 : decode cX0_origin 14 = .ok (.bipush 80, 2) := by decide +kernel
theorem dX0_origin_16 : decode cX0_origin 16 = .ok (.istore_n 1, 1) := by decide +kernel
theorem dX0_origin_17 : decode cX0_origin 17 = .ok (.iconst 2, 1) := by decide +kernel
theorem dX0_origin_18 : decode cX0_origin 18 = .ok (.aload_n 0, 1) := by decide +kernel
theorem dX0_origin_19 : decode cX0_origin 19 = .ok (.getfield 18, 3) := by decide +kernel
theorem dX0_origin_22 : decode cX0_origin 22 = .ok (.getfield 66, 3) := by decide +kernel
theorem dX0_origin_25 : decode cX0_origin 25 = .ok (.imul, 1) := by decide +kernel
theorem dX0_origin_26 : decode cX0_origin 26 = .ok (.aload_n 0, 1) := by decide +kernel
theorem dX0_origin_27 : decode cX0_origin 27 = .ok (.getfield 15, 3) := by decide +kernel
theorem dX0_origin_30 : decode cX0_origin 30 = .ok (.iadd, 1) := by decide +kernel
theorem dX0_origin_31 : decode cX0_origin 31 = .ok (.sipush 10000, 3) := by decide +kernel
theorem dX0_origin_34 : decode cX0_origin 34 = .ok (.imul, 1) := by decide +kernel
theorem dX0_origin_35 : decode cX0_origin 35 = .ok (.aload_n 0, 1) := by decide +kernel
theorem dX0_origin_36 : decode cX0_origin 36 = .ok (.getfield 22, 3) := by decide +kernel
theorem dX0_origin_39 : decode cX0_origin 39 = .ok (.ifCond .ne 7, 3) := by decide +kernel
theorem dX0_origin_42 : decode cX0_origin 42 = .ok (.iload_n 1, 1) := by decide +kernel
theorem dX0_origin_43 : decode cX0_origin 43 = .ok (.goto 7, 3) := by decide +kernel
theorem dX0_origin_46 : decode cX0_origin 46 = .ok (.aload_n 0, 1) := by decide +kernel
theorem dX0_origin_47 : decode cX0_origin 47 = .ok (.getfield 22, 3) := by decide +kernel
theorem dX0_origin_50 : decode cX0_origin 50 = .ok (.iadd, 1) := by decide +kernel
theorem dX0_origin_51 : decode cX0_origin 51 = .ok (.ireturn, 1) := by decide +kernel
theorem dX0_siteCode_0 : decode cX0_siteCode 0 = .ok (.iconst 2, 1) := by decide +kernel
theorem dX0_siteCode_1 : decode cX0_siteCode 1 = .ok (.aload_n 0, 1) := by decide +kernel
theorem dX0_siteCode_2 : decode cX0_siteCode 2 = .ok (.getfield 18, 3) := by decide +kernel
theorem dX0_siteCode_5 : decode cX0_siteCode 5 = .ok (.invokevirtual 67, 3) := by decide +kernel
theorem dX0_siteCode_8 : decode cX0_siteCode 8 = .ok (.getfield 66, 3) := by decide +kernel
theorem dX0_siteCode_11 : decode cX0_siteCode 11 = .ok (.imul, 1) := by decide +kernel
theorem dX0_siteCode_12 : decode cX0_siteCode 12 = .ok (.aload_n 0, 1) := by decide +kernel
theorem dX0_siteCode_13 : decode cX0_siteCode 13 = .ok (.getfield 15, 3) := by decide +kernel
theorem dX0_siteCode_16 : decode cX0_siteCode 16 = .ok (.iadd, 1) := by decide +kernel
theorem dX0_siteCode_17 : decode cX0_siteCode 17 = .ok (.ireturn, 1) := by decide +kernel
theorem dX1_init_0 : decode cX1_init 0 = .ok (.aload_n 0, 1) := by decide +kernel
theorem dX1_init_1 : decode cX1_init 1 = .ok (.invokespecial 1, 3) := by decide +kernel
theorem dX1_init_4 : decode cX1_init 4 = .ok (.aload_n 0, 1) := by decide +kernel
theorem dX1_init_5 : decode cX1_init 5 = .ok (.iload_n 1, 1) := by decide +kernel
theorem dX1_init_6 : decode cX1_init 6 = .ok (.putfield 7, 3) := by decide +kernel
theorem dX1_init_9 : decode cX1_init 9 = .ok (.aload_n 0, 1) := by decide +kernel
theorem dX1_init_10 : decode cX1_init 10 = .ok (.iload_n 2, 1) := by decide +kernel
theorem dX1_init_11 : decode cX1_init 11 = .ok (.putfield 13, 3) := by decide +kernel
theorem dX1_init_14 : decode cX1_init 14 = .ok (.aload_n 0, 1) := by decide +kernel
theorem dX1_init_15 : decode cX1_init 15 = .ok (.iload_n 3, 1) := by decide +kernel
theorem dX1_init_16 : decode cX1_init 16 = .ok (.putfield 17, 3) := by decide +kernel
theorem dX1_init_19 : decode cX1_init 19 = .ok (.return_, 1) := by decide +kernel
theorem dX2_init_0 : decode cX2_init 0 = .ok (.aload_n 0, 1) := by decide +kernel
theorem dX2_init_1 : decode cX2_init 1 = .ok (.invokespecial 3, 3) := by decide +kernel
theorem dX2_init_4 : decode cX2_init 4 = .ok (.aload_n 2, 1) := by decide +kernel
theorem dX2_init_5 : decode cX2_init 5 = .ok (.getfield 9, 3) := by decide +kernel
theorem dX2_init_8 : decode cX2_init 8 = .ok (.getfield 15, 3) := by decide +kernel
theorem dX2_init_11 : decode cX2_init 11 = .ok (.astore 4, 2) := by decide +kernel
theorem dX2_init_13 : decode cX2_init 13 = .ok (.aload_n 0, 1) := by decide +kernel
theorem dX2_init_14 : decode cX2_init 14 = .ok (.aload_n 1, 1) := by decide +kernel
theorem dX2_init_15 : decode cX2_init 15 = .ok (.putfield 21, 3) := by decide +kernel
theorem dX2_init_18 : decode cX2_init 18 = .ok (.aload_n 0, 1) := by decide +kernel
theorem dX2_init_19 : decode cX2_init 19 = .ok (.aload_n 1, 1) := by decide +kernel
theorem dX2_init_20 : decode cX2_init 20 = .ok (.getfield 27, 3) := by decide +kernel
theorem dX2_init_23 : decode cX2_init 23 = .ok (.ifnull 22, 3) := by decide +kernel
theorem dX2_init_26 : decode cX2_init 26 = .ok (.aload_n 1, 1) := by decide +kernel
theorem dX2_init_27 : decode cX2_init 27 = .ok (.getfield 27, 3) := by decide +kernel
theorem dX2_init_30 : decode cX2_init 30 = .ok (.getfield 32, 3) := by decide +kernel
theorem dX2_init_33 : decode cX2_init 33 = .ok (.ifCond .eq 16, 3) := by decide +kernel
theorem dX2_init_36 : decode cX2_init 36 = .ok (.aload_n 1, 1) := by decide +kernel
theorem dX2_init_37 : decode cX2_init 37 = .ok (.getfield 27, 3) := by decide +kernel
theorem dX2_init_40 : decode cX2_init 40 = .ok (.aload 4, 2) := by decide +kernel
theorem dX2_init_42 : decode cX2_init 42 = .ok (.if_acmp .ne 7, 3) := by decide +kernel
theorem dX2_init_45 : decode cX2_init 45 = .ok (.iconst 1, 1) := by decide +kernel
theorem dX2_init_46 : decode cX2_init 46 = .ok (.goto 4, 3) := by decide +kernel
theorem dX2_init_49 : decode cX2_init 49 = .ok (.iconst 0, 1) := by decide +kernel
theorem dX2_init_50 : decode cX2_init 50 = .ok (.putfield 38, 3) := by decide +kernel
theorem dX2_init_53 : decode cX2_init 53 = .ok (.aload_n 0, 1) := by decide +kernel
theorem dX2_init_54 : decode cX2_init 54 = .ok (.aload_n 0, 1) := by decide +kernel
theorem dX2_init_55 : decode cX2_init 55 = .ok (.getfield 38, 3) := by decide +kernel
theorem dX2_init_58 : decode cX2_init 58 = .ok (.ifCond .eq 8, 3) := by decide +kernel
theorem dX2_init_61 : decode cX2_init 61 = .ok (.aload 4, 2) := by decide +kernel
theorem dX2_init_63 : decode cX2_init 63 = .ok (.goto 7, 3) := by decide +kernel
theorem dX2_init_66 : decode cX2_init 66 = .ok (.aload_n 1, 1) := by decide +kernel
theorem dX2_init_67 : decode cX2_init 67 = .ok (.getfield 27, 3) := by decide +kernel
theorem dX2_init_70 : decode cX2_init 70 = .ok (.putfield 41, 3) := by decide +kernel
theorem dX2_init_73 : decode cX2_init 73 = .ok (.aload_n 0, 1) := by decide +kernel
theorem dX2_init_74 : decode cX2_init 74 = .ok (.aload_n 1, 1) := by decide +kernel
theorem dX2_init_75 : decode cX2_init 75 = .ok (.iconst 2, 1) := by decide +kernel
theorem dX2_init_76 : decode cX2_init 76 = .ok (.invokevirtual 42, 3) := by decide +kernel
theorem dX2_init_79 : decode cX2_init 79 = .ok (.ifCond .eq 10, 3) := by decide +kernel
theorem dX2_init_82 : decode cX2_init 82 = .ok (.aload_n 2, 1) := by decide +kernel
theorem dX2_init_83 : decode cX2_init 83 = .ok (.getfield 46, 3) := by decide +kernel
theorem dX2_init_86 : decode cX2_init 86 = .ok (.goto 4, 3) := by decide +kernel
theorem dX2_init_89 : decode cX2_init 89 = .ok (.iconst (-1), 1) := by decide +kernel
theorem dX2_init_90 : decode cX2_init 90 = .ok (.putfield 50, 3) := by decide +kernel
theorem dX2_init_93 : decode cX2_init 93 = .ok (.aload_n 0, 1) := by decide +kernel
theorem dX2_init_94 : decode cX2_init 94 = .ok (.iload_n 3, 1) := by decide +kernel
theorem dX2_init_95 : decode cX2_init 95 = .ok (.aload_n 1, 1) := by decide +kernel
theorem dX2_init_96 : decode cX2_init 96 = .ok (.getfield 51, 3) := by decide +kernel
theorem dX2_init_99 : decode cX2_init 99 = .ok (.iadd, 1) := by decide +kernel
theorem dX2_init_100 : decode cX2_init 100 = .ok (.putfield 54, 3) := by decide +kernel
theorem dX2_init_103 : decode cX2_init 103 = .ok (.return_, 1) := by decide +kernel
theorem dX2_isGone_0 : decode cX2_isGone 0 = .ok (.aload_n 0, 1) := by decide +kernel
theorem dX2_isGone_1 : decode cX2_isGone 1 = .ok (.getfield 21, 3) := by decide +kernel
theorem dX2_isGone_4 : decode cX2_isGone 4 = .ok (.getfield 51, 3) := by decide +kernel
theorem dX2_isGone_7 : decode cX2_isGone 7 = .ok (.ifCond .eq 15, 3) := by decide +kernel
theorem dX2_isGone_10 : decode cX2_isGone 10 = .ok (.iload_n 1, 1) := by decide +kernel
theorem dX2_isGone_11 : decode cX2_isGone 11 = .ok (.aload_n 0, 1) := by decide +kernel
theorem dX2_isGone_12 : decode cX2_isGone 12 = .ok (.getfield 54, 3) := by decide +kernel
theorem dX2_isGone_15 : decode cX2_isGone 15 = .ok (.if_icmp .lt 7, 3) := by decide +kernel
theorem dX2_isGone_18 : decode cX2_isGone 18 = .ok (.iconst 1, 1) := by decide +kernel
theorem dX2_isGone_19 : decode cX2_isGone 19 = .ok (.goto 4, 3) := by decide +kernel
theorem dX2_isGone_22 : decode cX2_isGone 22 = .ok (.iconst 0, 1) := by decide +kernel
theorem dX2_isGone_23 : decode cX2_isGone 23 = .ok (.ireturn, 1) := by decide +kernel
theorem dX2_isSame_0 : decode cX2_isSame 0 = .ok (.aload_n 0, 1) := by decide +kernel
theorem dX2_isSame_1 : decode cX2_isSame 1 = .ok (.getfield 21, 3) := by decide +kernel
theorem dX2_isSame_4 : decode cX2_isSame 4 = .ok (.getfield 57, 3) := by decide +kernel
theorem dX2_isSame_7 : decode cX2_isSame 7 = .ok (.aload_n 1, 1) := by decide +kernel
theorem dX2_isSame_8 : decode cX2_isSame 8 = .ok (.getfield 21, 3) := by decide +kernel
theorem dX2_isSame_11 : decode cX2_isSame 11 = .ok (.getfield 57, 3) := by decide +kernel
theorem dX2_isSame_14 : decode cX2_isSame 14 = .ok (.if_icmp .ne 46, 3) := by decide +kernel
theorem dX2_isSame_17 : decode cX2_isSame 17 = .ok (.aload_n 0, 1) := by decide +kernel
theorem dX2_isSame_18 : decode cX2_isSame 18 = .ok (.getfield 41, 3) := by decide +kernel
theorem dX2_isSame_21 : decode cX2_isSame 21 = .ok (.aload_n 1, 1) := by decide +kernel
theorem dX2_isSame_22 : decode cX2_isSame 22 = .ok (.getfield 41, 3) := by decide +kernel
theorem dX2_isSame_25 : decode cX2_isSame 25 = .ok (.if_acmp .ne 35, 3) := by decide +kernel
theorem dX2_isSame_28 : decode cX2_isSame 28 = .ok (.aload_n 0, 1) := by decide +kernel
theorem dX2_isSame_29 : decode cX2_isSame 29 = .ok (.getfield 21, 3) := by decide +kernel
theorem dX2_isSame_32 : decode cX2_isSame 32 = .ok (.getfield 60, 3) := by decide +kernel
theorem dX2_isSame_35 : decode cX2_isSame 35 = .ok (.aload_n 1, 1) := by decide +kernel
theorem dX2_isSame_36 : decode cX2_isSame 36 = .ok (.getfield 21, 3) := by decide +kernel
theorem dX2_isSame_39 : decode cX2_isSame 39 = .ok (.getfield 60, 3) := by decide +kernel
theorem dX2_isSame_42 : decode cX2_isSame 42 = .ok (.if_icmp .ne 18, 3) := by decide +kernel
theorem dX2_isSame_45 : decode cX2_isSame 45 = .ok (.aload_n 0, 1) := by decide +kernel
theorem dX2_isSame_46 : decode cX2_isSame 46 = .ok (.getfield 50, 3) := by decide +kernel
theorem dX2_isSame_49 : decode cX2_isSame 49 = .ok (.aload_n 1, 1) := by decide +kernel
theorem dX2_isSame_50 : decode cX2_isSame 50 = .ok (.getfield 50, 3) := by decide +kernel
theorem dX2_isSame_53 : decode cX2_isSame 53 = .ok (.if_icmp .ne 7, 3) := by decide +kernel
theorem dX2_isSame_56 : decode cX2_isSame 56 = .ok (.iconst 1, 1) := by decide +kernel
theorem dX2_isSame_57 : decode cX2_isSame 57 = .ok (.goto 4, 3) := by decide +kernel
theorem dX2_isSame_60 : decode cX2_isSame 60 = .ok (.iconst 0, 1) := by decide +kernel
theorem dX2_isSame_61 : decode cX2_isSame 61 = .ok (.ireturn, 1) := by decide +kernel
theorem dX2_sharesLimitWith_0 : decode cX2_sharesLimitWith 0 = .ok (.aload_n 0, 1) := by decide +kernel
theorem dX2_sharesLimitWith_1 : decode cX2_sharesLimitWith 1 = .ok (.getfield 50, 3) := by decide +kernel
theorem dX2_sharesLimitWith_4 : decode cX2_sharesLimitWith 4 = .ok (.aload_n 1, 1) := by decide +kernel
theorem dX2_sharesLimitWith_5 : decode cX2_sharesLimitWith 5 = .ok (.getfield 50, 3) := by decide +kernel
theorem dX2_sharesLimitWith_8 : decode cX2_sharesLimitWith 8 = .ok (.if_icmp .ne 24, 3) := by decide +kernel
theorem dX2_sharesLimitWith_11 : decode cX2_sharesLimitWith 11 = .ok (.aload_n 0, 1) := by decide +kernel
theorem dX2_sharesLimitWith_12 : decode cX2_sharesLimitWith 12 = .ok (.getfield 41, 3) := by decide +kernel
theorem dX2_sharesLimitWith_15 : decode cX2_sharesLimitWith 15 = .ok (.invokevirtual 63, 3) := by decide +kernel
theorem dX2_sharesLimitWith_18 : decode cX2_sharesLimitWith 18 = .ok (.aload_n 1, 1) := by decide +kernel
theorem dX2_sharesLimitWith_19 : decode cX2_sharesLimitWith 19 = .ok (.getfield 41, 3) := by decide +kernel
theorem dX2_sharesLimitWith_22 : decode cX2_sharesLimitWith 22 = .ok (.invokevirtual 63, 3) := by decide +kernel
theorem dX2_sharesLimitWith_25 : decode cX2_sharesLimitWith 25 = .ok (.if_acmp .ne 7, 3) := by decide +kernel
theorem dX2_sharesLimitWith_28 : decode cX2_sharesLimitWith 28 = .ok (.iconst 1, 1) := by decide +kernel
theorem dX2_sharesLimitWith_29 : decode cX2_sharesLimitWith 29 = .ok (.goto 4, 3) := by decide +kernel
theorem dX2_sharesLimitWith_32 : decode cX2_sharesLimitWith 32 = .ok (.iconst 0, 1) := by decide +kernel
theorem dX2_sharesLimitWith_33 : decode cX2_sharesLimitWith 33 = .ok (.ireturn, 1) := by decide +kernel
theorem dX2_goesBefore_0 : decode cX2_goesBefore 0 = .ok (.aload_n 0, 1) := by decide +kernel
theorem dX2_goesBefore_1 : decode cX2_goesBefore 1 = .ok (.getfield 21, 3) := by decide +kernel
theorem dX2_goesBefore_4 : decode cX2_goesBefore 4 = .ok (.iconst 1, 1) := by decide +kernel
theorem dX2_goesBefore_5 : decode cX2_goesBefore 5 = .ok (.invokevirtual 42, 3) := by decide +kernel
theorem dX2_goesBefore_8 : decode cX2_goesBefore 8 = .ok (.istore_n 2, 1) := by decide +kernel
theorem dX2_goesBefore_9 : decode cX2_goesBefore 9 = .ok (.iload_n 2, 1) := by decide +kernel
theorem dX2_goesBefore_10 : decode cX2_goesBefore 10 = .ok (.aload_n 1, 1) := by decide +kernel
theorem dX2_goesBefore_11 : decode cX2_goesBefore 11 = .ok (.getfield 21, 3) := by decide +kernel
theorem dX2_goesBefore_14 : decode cX2_goesBefore 14 = .ok (.iconst 1, 1) := by decide +kernel
theorem dX2_goesBefore_15 : decode cX2_goesBefore 15 = .ok (.invokevirtual 42, 3) := by decide +kernel
theorem dX2_goesBefore_18 : decode cX2_goesBefore 18 = .ok (.if_icmp .ne 22, 3) := by decide +kernel
theorem dX2_goesBefore_21 : decode cX2_goesBefore 21 = .ok (.aload_n 0, 1) := by decide +kernel
theorem dX2_goesBefore_22 : decode cX2_goesBefore 22 = .ok (.getfield 67, 3) := by decide +kernel
theorem dX2_goesBefore_25 : decode cX2_goesBefore 25 = .ok (.aload_n 1, 1) := by decide +kernel
theorem dX2_goesBefore_26 : decode cX2_goesBefore 26 = .ok (.getfield 67, 3) := by decide +kernel
theorem dX2_goesBefore_29 : decode cX2_goesBefore 29 = .ok (.if_icmp .ge 7, 3) := by decide +kernel
theorem dX2_goesBefore_32 : decode cX2_goesBefore 32 = .ok (.iconst 1, 1) := by decide +kernel
theorem dX2_goesBefore_33 : decode cX2_goesBefore 33 = .ok (.goto 16, 3) := by decide +kernel
theorem dX2_goesBefore_36 : decode cX2_goesBefore 36 = .ok (.iconst 0, 1) := by decide +kernel
theorem dX2_goesBefore_37 : decode cX2_goesBefore 37 = .ok (.goto 12, 3) := by decide +kernel
theorem dX2_goesBefore_40 : decode cX2_goesBefore 40 = .ok (.iload_n 2, 1) := by decide +kernel
theorem dX2_goesBefore_41 : decode cX2_goesBefore 41 = .ok (.ifCond .ne 7, 3) := by decide +kernel
theorem dX2_goesBefore_44 : decode cX2_goesBefore 44 = .ok (.iconst 1, 1) := by decide +kernel
theorem dX2_goesBefore_45 : decode cX2_goesBefore 45 = .ok (.goto 4, 3) := by decide +kernel
theorem dX2_goesBefore_48 : decode cX2_goesBefore 48 = .ok (.iconst 0, 1) := by decide +kernel
theorem dX2_goesBefore_49 : decode cX2_goesBefore 49 = .ok (.ireturn, 1) := by decide +kernel
theorem dX2_isSeenAt_0 : decode cX2_isSeenAt 0 = .ok (.aload_n 0, 1) := by decide +kernel
theorem dX2_isSeenAt_1 : decode cX2_isSeenAt 1 = .ok (.getfield 50, 3) := by decide +kernel
theorem dX2_isSeenAt_4 : decode cX2_isSeenAt 4 = .ok (.iconst (-1), 1) := by decide +kernel
theorem dX2_isSeenAt_5 : decode cX2_isSeenAt 5 = .ok (.if_icmp .eq 14, 3) := by decide +kernel
theorem dX2_isSeenAt_8 : decode cX2_isSeenAt 8 = .ok (.aload_n 0, 1) := by decide +kernel
theorem dX2_isSeenAt_9 : decode cX2_isSeenAt 9 = .ok (.getfield 50, 3) := by decide +kernel
theorem dX2_isSeenAt_12 : decode cX2_isSeenAt 12 = .ok (.aload_n 1, 1) := by decide +kernel
theorem dX2_isSeenAt_13 : decode cX2_isSeenAt 13 = .ok (.getfield 46, 3) := by decide +kernel
theorem dX2_isSeenAt_16 : decode cX2_isSeenAt 16 = .ok (.if_icmp .ne 7, 3) := by decide +kernel
theorem dX2_isSeenAt_19 : decode cX2_isSeenAt 19 = .ok (.iconst 1, 1) := by decide +kernel
theorem dX2_isSeenAt_20 : decode cX2_isSeenAt 20 = .ok (.goto 4, 3) := by decide +kernel
theorem dX2_isSeenAt_23 : decode cX2_isSeenAt 23 = .ok (.iconst 0, 1) := by decide +kernel
theorem dX2_isSeenAt_24 : decode cX2_isSeenAt 24 = .ok (.ireturn, 1) := by decide +kernel
theorem dX3_init_0 : decode cX3_init 0 = .ok (.aload_n 0, 1) := by decide +kernel
theorem dX3_init_1 : decode cX3_init 1 = .ok (.invokespecial 3, 3) := by decide +kernel
theorem dX3_init_4 : decode cX3_init 4 = .ok (.aload_n 0, 1) := by decide +kernel
theorem dX3_init_5 : decode cX3_init 5 = .ok (.iload_n 1, 1) := by decide +kernel
theorem dX3_init_6 : decode cX3_init 6 = .ok (.putfield 9, 3) := by decide +kernel
theorem dX3_init_9 : decode cX3_init 9 = .ok (.aload_n 0, 1) := by decide +kernel
theorem dX3_init_10 : decode cX3_init 10 = .ok (.iload_n 2, 1) := by decide +kernel
theorem dX3_init_11 : decode cX3_init 11 = .ok (.putfield 15, 3) := by decide +kernel
theorem dX3_init_14 : decode cX3_init 14 = .ok (.aload_n 0, 1) := by decide +kernel
theorem dX3_init_15 : decode cX3_init 15 = .ok (.aload_n 3, 1) := by decide +kernel
theorem dX3_init_16 : decode cX3_init 16 = .ok (.putfield 18, 3) := by decide +kernel
theorem dX3_init_19 : decode cX3_init 19 = .ok (.aload_n 0, 1) := by decide +kernel
theorem dX3_init_20 : decode cX3_init 20 = .ok (.iload 4, 2) := by decide +kernel
theorem dX3_init_22 : decode cX3_init 22 = .ok (.putfield 22, 3) := by decide +kernel
theorem dX3_init_25 : decode cX3_init 25 = .ok (.aload_n 0, 1) := by decide +kernel
theorem dX3_init_26 : decode cX3_init 26 = .ok (.iload 5, 2) := by decide +kernel
theorem dX3_init_28 : decode cX3_init 28 = .ok (.putfield 25, 3) := by decide +kernel
theorem dX3_init_31 : decode cX3_init 31 = .ok (.aload_n 0, 1) := by decide +kernel
theorem dX3_init_32 : decode cX3_init 32 = .ok (.iload 6, 2) := by decide +kernel
theorem dX3_init_34 : decode cX3_init 34 = .ok (.putfield 28, 3) := by decide +kernel
theorem dX3_init_37 : decode cX3_init 37 = .ok (.return_, 1) := by decide +kernel
theorem dX3_has_0 : decode cX3_has 0 = .ok (.aload_n 0, 1) := by decide +kernel
theorem dX3_has_1 : decode cX3_has 1 = .ok (.getfield 25, 3) := by decide +kernel
theorem dX3_has_4 : decode cX3_has 4 = .ok (.iload_n 1, 1) := by decide +kernel
theorem dX3_has_5 : decode cX3_has 5 = .ok (.iand, 1) := by decide +kernel
theorem dX3_has_6 : decode cX3_has 6 = .ok (.ifCond .eq 7, 3) := by decide +kernel
theorem dX3_has_9 : decode cX3_has 9 = .ok (.iconst 1, 1) := by decide +kernel
theorem dX3_has_10 : decode cX3_has 10 = .ok (.goto 4, 3) := by decide +kernel
theorem dX3_has_13 : decode cX3_has 13 = .ok (.iconst 0, 1) := by decide +kernel
theorem dX3_has_14 : decode cX3_has 14 = .ok (.ireturn, 1) := by decide +kernel
theorem dX3_isLaxOrStrict_0 : decode cX3_isLaxOrStrict 0 = .ok (.aload_n 0, 1) := by decide +kernel
theorem dX3_isLaxOrStrict_1 : decode cX3_isLaxOrStrict 1 = .ok (.iconst 4, 1) := by decide +kernel
theorem dX3_isLaxOrStrict_2 : decode cX3_isLaxOrStrict 2 = .ok (.invokevirtual 31, 3) := by decide +kernel
theorem dX3_isLaxOrStrict_5 : decode cX3_isLaxOrStrict 5 = .ok (.ifCond .ne 12, 3) := by decide +kernel
theorem dX3_isLaxOrStrict_8 : decode cX3_isLaxOrStrict 8 = .ok (.aload_n 0, 1) := by decide +kernel
theorem dX3_isLaxOrStrict_9 : decode cX3_isLaxOrStrict 9 = .ok (.bipush 8, 2) := by decide +kernel
theorem dX3_isLaxOrStrict_11 : decode cX3_isLaxOrStrict 11 = .ok (.invokevirtual 31, 3) := by decide +kernel
theorem dX3_isLaxOrStrict_14 : decode cX3_isLaxOrStrict 14 = .ok (.ifCond .eq 7, 3) := by decide +kernel
theorem dX3_isLaxOrStrict_17 : decode cX3_isLaxOrStrict 17 = .ok (.iconst 1, 1) := by decide +kernel
theorem dX3_isLaxOrStrict_18 : decode cX3_isLaxOrStrict 18 = .ok (.goto 4, 3) := by decide +kernel
theorem dX3_isLaxOrStrict_21 : decode cX3_isLaxOrStrict 21 = .ok (.iconst 0, 1) := by decide +kernel
theorem dX3_isLaxOrStrict_22 : decode cX3_isLaxOrStrict 22 = .ok (.ireturn, 1) := by decide +kernel
theorem dX3_nameAndValue_0 : decode cX3_nameAndValue 0 = .ok (.sipush 1000, 3) := by decide +kernel
theorem dX3_nameAndValue_3 : decode cX3_nameAndValue 3 = .ok (.aload_n 0, 1) := by decide +kernel
theorem dX3_nameAndValue_4 : decode cX3_nameAndValue 4 = .ok (.getfield 9, 3) := by decide +kernel
theorem dX3_nameAndValue_7 : decode cX3_nameAndValue 7 = .ok (.imul, 1) := by decide +kernel
theorem dX3_nameAndValue_8 : decode cX3_nameAndValue 8 = .ok (.aload_n 0, 1) := by decide +kernel
theorem dX3_nameAndValue_9 : decode cX3_nameAndValue 9 = .ok (.getfield 15, 3) := by decide +kernel
theorem dX3_nameAndValue_12 : decode cX3_nameAndValue 12 = .ok (.iadd, 1) := by decide +kernel
theorem dX3_nameAndValue_13 : decode cX3_nameAndValue 13 = .ok (.ireturn, 1) := by decide +kernel
theorem dX4_init_0 : decode cX4_init 0 = .ok (.aload_n 0, 1) := by decide +kernel
theorem dX4_init_1 : decode cX4_init 1 = .ok (.invokespecial 3, 3) := by decide +kernel
theorem dX4_init_4 : decode cX4_init 4 = .ok (.aload_n 0, 1) := by decide +kernel
theorem dX4_init_5 : decode cX4_init 5 = .ok (.aload_n 2, 1) := by decide +kernel
theorem dX4_init_6 : decode cX4_init 6 = .ok (.putfield 9, 3) := by decide +kernel
theorem dX4_init_9 : decode cX4_init 9 = .ok (.aload_n 0, 1) := by decide +kernel
theorem dX4_init_10 : decode cX4_init 10 = .ok (.aload_n 1, 1) := by decide +kernel
theorem dX4_init_11 : decode cX4_init 11 = .ok (.getfield 15, 3) := by decide +kernel
theorem dX4_init_14 : decode cX4_init 14 = .ok (.putfield 21, 3) := by decide +kernel
theorem dX4_init_17 : decode cX4_init 17 = .ok (.aload_n 0, 1) := by decide +kernel
theorem dX4_init_18 : decode cX4_init 18 = .ok (.aload_n 1, 1) := by decide +kernel
theorem dX4_init_19 : decode cX4_init 19 = .ok (.getfield 22, 3) := by decide +kernel
theorem dX4_init_22 : decode cX4_init 22 = .ok (.putfield 26, 3) := by decide +kernel
theorem dX4_init_25 : decode cX4_init 25 = .ok (.aload_n 0, 1) := by decide +kernel
theorem dX4_init_26 : decode cX4_init 26 = .ok (.aload_n 1, 1) := by decide +kernel
theorem dX4_init_27 : decode cX4_init 27 = .ok (.getfield 27, 3) := by decide +kernel
theorem dX4_init_30 : decode cX4_init 30 = .ok (.putfield 30, 3) := by decide +kernel
theorem dX4_init_33 : decode cX4_init 33 = .ok (.aload_n 0, 1) := by decide +kernel
theorem dX4_init_34 : decode cX4_init 34 = .ok (.aload_n 1, 1) := by decide +kernel
theorem dX4_init_35 : decode cX4_init 35 = .ok (.getfield 31, 3) := by decide +kernel
theorem dX4_init_38 : decode cX4_init 38 = .ok (.iconst 2, 1) := by decide +kernel
theorem dX4_init_39 : decode cX4_init 39 = .ok (.if_icmp .ne 7, 3) := by decide +kernel
theorem dX4_init_42 : decode cX4_init 42 = .ok (.iconst 1, 1) := by decide +kernel
theorem dX4_init_43 : decode cX4_init 43 = .ok (.goto 4, 3) := by decide +kernel
theorem dX4_init_46 : decode cX4_init 46 = .ok (.iconst 0, 1) := by decide +kernel
theorem dX4_init_47 : decode cX4_init 47 = .ok (.putfield 34, 3) := by decide +kernel
theorem dX4_init_50 : decode cX4_init 50 = .ok (.aload_n 0, 1) := by decide +kernel
theorem dX4_init_51 : decode cX4_init 51 = .ok (.aload_n 0, 1) := by decide +kernel
theorem dX4_init_52 : decode cX4_init 52 = .ok (.getfield 34, 3) := by decide +kernel
theorem dX4_init_55 : decode cX4_init 55 = .ok (.ifCond .eq 10, 3) := by decide +kernel
theorem dX4_init_58 : decode cX4_init 58 = .ok (.aload_n 2, 1) := by decide +kernel
theorem dX4_init_59 : decode cX4_init 59 = .ok (.invokevirtual 37, 3) := by decide +kernel
theorem dX4_init_62 : decode cX4_init 62 = .ok (.goto 16, 3) := by decide +kernel
theorem dX4_init_65 : decode cX4_init 65 = .ok (.aload_n 1, 1) := by decide +kernel
theorem dX4_init_66 : decode cX4_init 66 = .ok (.getfield 43, 3) := by decide +kernel
theorem dX4_init_69 : decode cX4_init 69 = .ok (.invokevirtual 47, 3) := by decide +kernel
theorem dX4_init_72 : decode cX4_init 72 = .ok (.getfield 53, 3) := by decide +kernel
theorem dX4_init_75 : decode cX4_init 75 = .ok (.invokevirtual 37, 3) := by decide +kernel
theorem dX4_init_78 : decode cX4_init 78 = .ok (.putfield 54, 3) := by decide +kernel
theorem dX4_init_81 : decode cX4_init 81 = .ok (.aload_n 0, 1) := by decide +kernel
theorem dX4_init_82 : decode cX4_init 82 = .ok (.aload_n 1, 1) := by decide +kernel
theorem dX4_init_83 : decode cX4_init 83 = .ok (.getfield 43, 3) := by decide +kernel
theorem dX4_init_86 : decode cX4_init 86 = .ok (.aload_n 2, 1) := by decide +kernel
theorem dX4_init_87 : decode cX4_init 87 = .ok (.invokevirtual 57, 3) := by decide +kernel
theorem dX4_init_90 : decode cX4_init 90 = .ok (.putfield 61, 3) := by decide +kernel
theorem dX4_init_93 : decode cX4_init 93 = .ok (.aload_n 0, 1) := by decide +kernel
theorem dX4_init_94 : decode cX4_init 94 = .ok (.bipush 10, 2) := by decide +kernel
theorem dX4_init_96 : decode cX4_init 96 = .ok (.newarray .int, 2) := by decide +kernel
theorem dX4_init_98 : decode cX4_init 98 = .ok (.putfield 64, 3) := by decide +kernel
theorem dX4_init_101 : decode cX4_init 101 = .ok (.return_, 1) := by decide +kernel
theorem dX4_noteSent_0 : decode cX4_noteSent 0 = .ok (.aload_n 0, 1) := by decide +kernel
theorem dX4_noteSent_1 : decode cX4_noteSent 1 = .ok (.getfield 68, 3) := by decide +kernel
theorem dX4_noteSent_4 : decode cX4_noteSent 4 = .ok (.aload_n 0, 1) := by decide +kernel
theorem dX4_noteSent_5 : decode cX4_noteSent 5 = .ok (.getfield 64, 3) := by decide +kernel
theorem dX4_noteSent_8 : decode cX4_noteSent 8 = .ok (.arraylength, 1) := by decide +kernel
theorem dX4_noteSent_9 : decode cX4_noteSent 9 = .ok (.if_icmp .ge 29, 3) := by decide +kernel
theorem dX4_noteSent_12 : decode cX4_noteSent 12 = .ok (.aload_n 0, 1) := by decide +kernel
theorem dX4_noteSent_13 : decode cX4_noteSent 13 = .ok (.getfield 64, 3) := by decide +kernel
theorem dX4_noteSent_16 : decode cX4_noteSent 16 = .ok (.aload_n 0, 1) := by decide +kernel
theorem dX4_noteSent_17 : decode cX4_noteSent 17 = .ok (.getfield 68, 3) := by decide +kernel
theorem dX4_noteSent_20 : decode cX4_noteSent 20 = .ok (.aload_n 1, 1) := by decide +kernel
theorem dX4_noteSent_21 : decode cX4_noteSent 21 = .ok (.getfield 71, 3) := by decide +kernel
theorem dX4_noteSent_24 : decode cX4_noteSent 24 = .ok (.invokevirtual 77, 3) := by decide +kernel
theorem dX4_noteSent_27 : decode cX4_noteSent 27 = .ok (.iastore, 1) := by decide +kernel
theorem dX4_noteSent_28 : decode cX4_noteSent 28 = .ok (.aload_n 0, 1) := by decide +kernel
theorem dX4_noteSent_29 : decode cX4_noteSent 29 = .ok (.dup, 1) := by decide +kernel
theorem dX4_noteSent_30 : decode cX4_noteSent 30 = .ok (.getfield 68, 3) := by decide +kernel
theorem dX4_noteSent_33 : decode cX4_noteSent 33 = .ok (.iconst 1, 1) := by decide +kernel
theorem dX4_noteSent_34 : decode cX4_noteSent 34 = .ok (.iadd, 1) := by decide +kernel
theorem dX4_noteSent_35 : decode cX4_noteSent 35 = .ok (.putfield 68, 3) := by decide +kernel
theorem dX4_noteSent_38 : decode cX4_noteSent 38 = .ok (.return_, 1) := by decide +kernel
theorem dX5_init_0 : decode cX5_init 0 = .ok (.aload_n 0, 1) := by decide +kernel
theorem dX5_init_1 : decode cX5_init 1 = .ok (.invokespecial 3, 3) := by decide +kernel
theorem dX5_init_4 : decode cX5_init 4 = .ok (.aload_n 0, 1) := by decide +kernel
theorem dX5_init_5 : decode cX5_init 5 = .ok (.iload_n 1, 1) := by decide +kernel
theorem dX5_init_6 : decode cX5_init 6 = .ok (.putfield 9, 3) := by decide +kernel
theorem dX5_init_9 : decode cX5_init 9 = .ok (.aload_n 0, 1) := by decide +kernel
theorem dX5_init_10 : decode cX5_init 10 = .ok (.aload_n 2, 1) := by decide +kernel
theorem dX5_init_11 : decode cX5_init 11 = .ok (.putfield 15, 3) := by decide +kernel
theorem dX5_init_14 : decode cX5_init 14 = .ok (.aload_n 0, 1) := by decide +kernel
theorem dX5_init_15 : decode cX5_init 15 = .ok (.iload_n 3, 1) := by decide +kernel
theorem dX5_init_16 : decode cX5_init 16 = .ok (.putfield 19, 3) := by decide +kernel
theorem dX5_init_19 : decode cX5_init 19 = .ok (.aload_n 0, 1) := by decide +kernel
theorem dX5_init_20 : decode cX5_init 20 = .ok (.iload 4, 2) := by decide +kernel
theorem dX5_init_22 : decode cX5_init 22 = .ok (.putfield 22, 3) := by decide +kernel
theorem dX5_init_25 : decode cX5_init 25 = .ok (.return_, 1) := by decide +kernel
theorem dX5_siteHost_0 : decode cX5_siteHost 0 = .ok (.aload_n 0, 1) := by decide +kernel
theorem dX5_siteHost_1 : decode cX5_siteHost 1 = .ok (.astore_n 1, 1) := by decide +kernel
theorem dX5_siteHost_2 : decode cX5_siteHost 2 = .ok (.aload_n 1, 1) := by decide +kernel
theorem dX5_siteHost_3 : decode cX5_siteHost 3 = .ok (.getfield 25, 3) := by decide +kernel
theorem dX5_siteHost_6 : decode cX5_siteHost 6 = .ok (.ifCond .ne 28, 3) := by decide +kernel
theorem dX5_siteHost_9 : decode cX5_siteHost 9 = .ok (.aload_n 1, 1) := by decide +kernel
theorem dX5_siteHost_10 : decode cX5_siteHost 10 = .ok (.getfield 15, 3) := by decide +kernel
theorem dX5_siteHost_13 : decode cX5_siteHost 13 = .ok (.ifnull 21, 3) := by decide +kernel
theorem dX5_siteHost_16 : decode cX5_siteHost 16 = .ok (.aload_n 1, 1) := by decide +kernel
theorem dX5_siteHost_17 : decode cX5_siteHost 17 = .ok (.getfield 15, 3) := by decide +kernel
theorem dX5_siteHost_20 : decode cX5_siteHost 20 = .ok (.getfield 25, 3) := by decide +kernel
theorem dX5_siteHost_23 : decode cX5_siteHost 23 = .ok (.ifCond .ne 11, 3) := by decide +kernel
theorem dX5_siteHost_26 : decode cX5_siteHost 26 = .ok (.aload_n 1, 1) := by decide +kernel
theorem dX5_siteHost_27 : decode cX5_siteHost 27 = .ok (.getfield 15, 3) := by decide +kernel
theorem dX5_siteHost_30 : decode cX5_siteHost 30 = .ok (.astore_n 1, 1) := by decide +kernel
theorem dX5_siteHost_31 : decode cX5_siteHost 31 = .ok (.goto (-29), 3) := by decide +kernel
theorem dX5_siteHost_34 : decode cX5_siteHost 34 = .ok (.aload_n 1, 1) := by decide +kernel
theorem dX5_siteHost_35 : decode cX5_siteHost 35 = .ok (.areturn, 1) := by decide +kernel
theorem dX5_isIn_0 : decode cX5_isIn 0 = .ok (.aload_n 0, 1) := by decide +kernel
theorem dX5_isIn_1 : decode cX5_isIn 1 = .ok (.astore_n 2, 1) := by decide +kernel
theorem dX5_isIn_2 : decode cX5_isIn 2 = .ok (.aload_n 2, 1) := by decide +kernel
theorem dX5_isIn_3 : decode cX5_isIn 3 = .ok (.ifnull 18, 3) := by decide +kernel
theorem dX5_isIn_6 : decode cX5_isIn 6 = .ok (.aload_n 2, 1) := by decide +kernel
theorem dX5_isIn_7 : decode cX5_isIn 7 = .ok (.aload_n 1, 1) := by decide +kernel
theorem dX5_isIn_8 : decode cX5_isIn 8 = .ok (.if_acmp .ne 5, 3) := by decide +kernel
theorem dX5_isIn_11 : decode cX5_isIn 11 = .ok (.iconst 1, 1) := by decide +kernel
theorem dX5_isIn_12 : decode cX5_isIn 12 = .ok (.ireturn, 1) := by decide +kernel
theorem dX5_isIn_13 : decode cX5_isIn 13 = .ok (.aload_n 2, 1) := by decide +kernel
theorem dX5_isIn_14 : decode cX5_isIn 14 = .ok (.getfield 15, 3) := by decide +kernel
theorem dX5_isIn_17 : decode cX5_isIn 17 = .ok (.astore_n 2, 1) := by decide +kernel
theorem dX5_isIn_18 : decode cX5_isIn 18 = .ok (.goto (-16), 3) := by decide +kernel
theorem dX5_isIn_21 : decode cX5_isIn 21 = .ok (.iconst 0, 1) := by decide +kernel
theorem dX5_isIn_22 : decode cX5_isIn 22 = .ok (.ireturn, 1) := by decide +kernel
theorem dX5_appendTo_0 : decode cX5_appendTo 0 = .ok (.aload_n 0, 1) := by decide +kernel
theorem dX5_appendTo_1 : decode cX5_appendTo 1 = .ok (.astore_n 2, 1) := by decide +kernel
theorem dX5_appendTo_2 : decode cX5_appendTo 2 = .ok (.aload_n 2, 1) := by decide +kernel
theorem dX5_appendTo_3 : decode cX5_appendTo 3 = .ok (.ifnull 72, 3) := by decide +kernel
theorem dX5_appendTo_6 : decode cX5_appendTo 6 = .ok (.aload_n 2, 1) := by decide +kernel
theorem dX5_appendTo_7 : decode cX5_appendTo 7 = .ok (.aload_n 0, 1) := by decide +kernel
theorem dX5_appendTo_8 : decode cX5_appendTo 8 = .ok (.if_acmp .eq 10, 3) := by decide +kernel
theorem dX5_appendTo_11 : decode cX5_appendTo 11 = .ok (.aload_n 1, 1) := by decide +kernel
theorem dX5_appendTo_12 : decode cX5_appendTo 12 = .ok (.bipush 46, 2) := by decide +kernel
theorem dX5_appendTo_14 : decode cX5_appendTo 14 = .ok (.invokevirtual 29, 3) := by decide +kernel
theorem dX5_appendTo_17 : decode cX5_appendTo 17 = .ok (.pop, 1) := by decide +kernel
theorem dX5_appendTo_18 : decode cX5_appendTo 18 = .ok (.aload_n 2, 1) := by decide +kernel
theorem dX5_appendTo_19 : decode cX5_appendTo 19 = .ok (.getfield 19, 3) := by decide +kernel
theorem dX5_appendTo_22 : decode cX5_appendTo 22 = .ok (.bipush 26, 2) := by decide +kernel
theorem dX5_appendTo_24 : decode cX5_appendTo 24 = .ok (.isub, 1) := by decide +kernel
theorem dX5_appendTo_25 : decode cX5_appendTo 25 = .ok (.istore_n 3, 1) := by decide +kernel
theorem dX5_appendTo_26 : decode cX5_appendTo 26 = .ok (.iload_n 3, 1) := by decide +kernel
theorem dX5_appendTo_27 : decode cX5_appendTo 27 = .ok (.ifCond .lt 16, 3) := by decide +kernel
theorem dX5_appendTo_30 : decode cX5_appendTo 30 = .ok (.aload_n 1, 1) := by decide +kernel
theorem dX5_appendTo_31 : decode cX5_appendTo 31 = .ok (.bipush 97, 2) := by decide +kernel
theorem dX5_appendTo_33 : decode cX5_appendTo 33 = .ok (.iload_n 3, 1) := by decide +kernel
theorem dX5_appendTo_34 : decode cX5_appendTo 34 = .ok (.bipush 26, 2) := by decide +kernel
theorem dX5_appendTo_36 : decode cX5_appendTo 36 = .ok (.idiv, 1) := by decide +kernel
theorem dX5_appendTo_37 : decode cX5_appendTo 37 = .ok (.iadd, 1) := by decide +kernel
theorem dX5_appendTo_38 : decode cX5_appendTo 38 = .ok (.i2c, 1) := by decide +kernel
theorem dX5_appendTo_39 : decode cX5_appendTo 39 = .ok (.invokevirtual 29, 3) := by decide +kernel
theorem dX5_appendTo_42 : decode cX5_appendTo 42 = .ok (.pop, 1) := by decide +kernel
theorem dX5_appendTo_43 : decode cX5_appendTo 43 = .ok (.aload_n 1, 1) := by decide +kernel
theorem dX5_appendTo_44 : decode cX5_appendTo 44 = .ok (.bipush 97, 2) := by decide +kernel
theorem dX5_appendTo_46 : decode cX5_appendTo 46 = .ok (.iload_n 3, 1) := by decide +kernel
theorem dX5_appendTo_47 : decode cX5_appendTo 47 = .ok (.ifCond .lt 10, 3) := by decide +kernel
theorem dX5_appendTo_50 : decode cX5_appendTo 50 = .ok (.iload_n 3, 1) := by decide +kernel
theorem dX5_appendTo_51 : decode cX5_appendTo 51 = .ok (.bipush 26, 2) := by decide +kernel
theorem dX5_appendTo_53 : decode cX5_appendTo 53 = .ok (.irem, 1) := by decide +kernel
theorem dX5_appendTo_54 : decode cX5_appendTo 54 = .ok (.goto 7, 3) := by decide +kernel
theorem dX5_appendTo_57 : decode cX5_appendTo 57 = .ok (.aload_n 2, 1) := by decide +kernel
theorem dX5_appendTo_58 : decode cX5_appendTo 58 = .ok (.getfield 19, 3) := by decide +kernel
theorem dX5_appendTo_61 : decode cX5_appendTo 61 = .ok (.iadd, 1) := by decide +kernel
theorem dX5_appendTo_62 : decode cX5_appendTo 62 = .ok (.i2c, 1) := by decide +kernel
theorem dX5_appendTo_63 : decode cX5_appendTo 63 = .ok (.invokevirtual 29, 3) := by decide +kernel
theorem dX5_appendTo_66 : decode cX5_appendTo 66 = .ok (.pop, 1) := by decide +kernel
theorem dX5_appendTo_67 : decode cX5_appendTo 67 = .ok (.aload_n 2, 1) := by decide +kernel
theorem dX5_appendTo_68 : decode cX5_appendTo 68 = .ok (.getfield 15, 3) := by decide +kernel
theorem dX5_appendTo_71 : decode cX5_appendTo 71 = .ok (.astore_n 2, 1) := by decide +kernel
theorem dX5_appendTo_72 : decode cX5_appendTo 72 = .ok (.goto (-70), 3) := by decide +kernel
theorem dX5_appendTo_75 : decode cX5_appendTo 75 = .ok (.return_, 1) := by decide +kernel
theorem dX6_init_0 : decode cX6_init 0 = .ok (.aload_n 0, 1) := by decide +kernel
theorem dX6_init_1 : decode cX6_init 1 = .ok (.invokespecial 3, 3) := by decide +kernel
theorem dX6_init_4 : decode cX6_init 4 = .ok (.aload_n 0, 1) := by decide +kernel
theorem dX6_init_5 : decode cX6_init 5 = .ok (.new 9, 3) := by decide +kernel
theorem dX6_init_8 : decode cX6_init 8 = .ok (.dup, 1) := by decide +kernel
theorem dX6_init_9 : decode cX6_init 9 = .ok (.invokespecial 11, 3) := by decide +kernel
theorem dX6_init_12 : decode cX6_init 12 = .ok (.putfield 12, 3) := by decide +kernel
theorem dX6_init_15 : decode cX6_init 15 = .ok (.return_, 1) := by decide +kernel
theorem dX6_dropGone_0 : decode cX6_dropGone 0 = .ok (.aload_n 0, 1) := by decide +kernel
theorem dX6_dropGone_1 : decode cX6_dropGone 1 = .ok (.getfield 12, 3) := by decide +kernel
theorem dX6_dropGone_4 : decode cX6_dropGone 4 = .ok (.invokevirtual 18, 3) := by decide +kernel
theorem dX6_dropGone_7 : decode cX6_dropGone 7 = .ok (.iconst 1, 1) := by decide +kernel
theorem dX6_dropGone_8 : decode cX6_dropGone 8 = .ok (.isub, 1) := by decide +kernel
theorem dX6_dropGone_9 : decode cX6_dropGone 9 = .ok (.istore_n 2, 1) := by decide +kernel
theorem dX6_dropGone_10 : decode cX6_dropGone 10 = .ok (.iload_n 2, 1) := by decide +kernel
theorem dX6_dropGone_11 : decode cX6_dropGone 11 = .ok (.ifCond .lt 36, 3) := by decide +kernel
theorem dX6_dropGone_14 : decode cX6_dropGone 14 = .ok (.aload_n 0, 1) := by decide +kernel
theorem dX6_dropGone_15 : decode cX6_dropGone 15 = .ok (.getfield 12, 3) := by decide +kernel
theorem dX6_dropGone_18 : decode cX6_dropGone 18 = .ok (.iload_n 2, 1) := by decide +kernel
theorem dX6_dropGone_19 : decode cX6_dropGone 19 = .ok (.invokevirtual 22, 3) := by decide +kernel
theorem dX6_dropGone_22 : decode cX6_dropGone 22 = .ok (.checkcast 26, 3) := by decide +kernel
theorem dX6_dropGone_25 : decode cX6_dropGone 25 = .ok (.iload_n 1, 1) := by decide +kernel
theorem dX6_dropGone_26 : decode cX6_dropGone 26 = .ok (.invokevirtual 28, 3) := by decide +kernel
theorem dX6_dropGone_29 : decode cX6_dropGone 29 = .ok (.ifCond .eq 12, 3) := by decide +kernel
theorem dX6_dropGone_32 : decode cX6_dropGone 32 = .ok (.aload_n 0, 1) := by decide +kernel
theorem dX6_dropGone_33 : decode cX6_dropGone 33 = .ok (.getfield 12, 3) := by decide +kernel
theorem dX6_dropGone_36 : decode cX6_dropGone 36 = .ok (.iload_n 2, 1) := by decide +kernel
theorem dX6_dropGone_37 : decode cX6_dropGone 37 = .ok (.invokevirtual 32, 3) := by decide +kernel
theorem dX6_dropGone_40 : decode cX6_dropGone 40 = .ok (.pop, 1) := by decide +kernel
theorem dX6_dropGone_41 : decode cX6_dropGone 41 = .ok (.iinc 2 (-1), 3) := by decide +kernel
theorem dX6_dropGone_44 : decode cX6_dropGone 44 = .ok (.goto (-34), 3) := by decide +kernel
theorem dX6_dropGone_47 : decode cX6_dropGone 47 = .ok (.return_, 1) := by decide +kernel
theorem dX6_noteUse_0 : decode cX6_noteUse 0 = .ok (.aload_n 0, 1) := by decide +kernel
theorem dX6_noteUse_1 : decode cX6_noteUse 1 = .ok (.dup, 1) := by decide +kernel
theorem dX6_noteUse_2 : decode cX6_noteUse 2 = .ok (.getfield 35, 3) := by decide +kernel
theorem dX6_noteUse_5 : decode cX6_noteUse 5 = .ok (.iconst 1, 1) := by decide +kernel
theorem dX6_noteUse_6 : decode cX6_noteUse 6 = .ok (.iadd, 1) := by decide +kernel
theorem dX6_noteUse_7 : decode cX6_noteUse 7 = .ok (.putfield 35, 3) := by decide +kernel
theorem dX6_noteUse_10 : decode cX6_noteUse 10 = .ok (.aload_n 1, 1) := by decide +kernel
theorem dX6_noteUse_11 : decode cX6_noteUse 11 = .ok (.aload_n 0, 1) := by decide +kernel
theorem dX6_noteUse_12 : decode cX6_noteUse 12 = .ok (.getfield 35, 3) := by decide +kernel
theorem dX6_noteUse_15 : decode cX6_noteUse 15 = .ok (.putfield 39, 3) := by decide +kernel
theorem dX6_noteUse_18 : decode cX6_noteUse 18 = .ok (.return_, 1) := by decide +kernel
theorem dX6_send_0 : decode cX6_send 0 = .ok (.iconst 3, 1) := by decide +kernel
theorem dX6_send_1 : decode cX6_send 1 = .ok (.istore_n 3, 1) := by decide +kernel
theorem dX6_send_2 : decode cX6_send 2 = .ok (.iload_n 3, 1) := by decide +kernel
theorem dX6_send_3 : decode cX6_send 3 = .ok (.ifCond .lt 81, 3) := by decide +kernel
theorem dX6_send_6 : decode cX6_send 6 = .ok (.iconst 0, 1) := by decide +kernel
theorem dX6_send_7 : decode cX6_send 7 = .ok (.istore 4, 2) := by decide +kernel
theorem dX6_send_9 : decode cX6_send 9 = .ok (.iload 4, 2) := by decide +kernel
theorem dX6_send_11 : decode cX6_send 11 = .ok (.aload_n 0, 1) := by decide +kernel
theorem dX6_send_12 : decode cX6_send 12 = .ok (.getfield 12, 3) := by decide +kernel
theorem dX6_send_15 : decode cX6_send 15 = .ok (.invokevirtual 18, 3) := by decide +kernel
theorem dX6_send_18 : decode cX6_send 18 = .ok (.if_icmp .ge 60, 3) := by decide +kernel
theorem dX6_send_21 : decode cX6_send 21 = .ok (.aload_n 0, 1) := by decide +kernel
theorem dX6_send_22 : decode cX6_send 22 = .ok (.getfield 12, 3) := by decide +kernel
theorem dX6_send_25 : decode cX6_send 25 = .ok (.iload 4, 2) := by decide +kernel
theorem dX6_send_27 : decode cX6_send 27 = .ok (.invokevirtual 22, 3) := by decide +kernel
theorem dX6_send_30 : decode cX6_send 30 = .ok (.checkcast 26, 3) := by decide +kernel
theorem dX6_send_33 : decode cX6_send 33 = .ok (.astore 5, 2) := by decide +kernel
theorem dX6_send_35 : decode cX6_send 35 = .ok (.aload 5, 2) := by decide +kernel
theorem dX6_send_37 : decode cX6_send 37 = .ok (.getfield 40, 3) := by decide +kernel
theorem dX6_send_40 : decode cX6_send 40 = .ok (.getfield 44, 3) := by decide +kernel
theorem dX6_send_43 : decode cX6_send 43 = .ok (.invokestatic 49, 3) := by decide +kernel
theorem dX6_send_46 : decode cX6_send 46 = .ok (.iload_n 3, 1) := by decide +kernel
theorem dX6_send_47 : decode cX6_send 47 = .ok (.if_icmp .ne 25, 3) := by decide +kernel
theorem dX6_send_50 : decode cX6_send 50 = .ok (.aload 5, 2) := by decide +kernel
theorem dX6_send_52 : decode cX6_send 52 = .ok (.aload_n 1, 1) := by decide +kernel
theorem dX6_send_53 : decode cX6_send 53 = .ok (.iload_n 2, 1) := by decide +kernel
theorem dX6_send_54 : decode cX6_send 54 = .ok (.invokestatic 53, 3) := by decide +kernel
theorem dX6_send_57 : decode cX6_send 57 = .ok (.ifCond .eq 15, 3) := by decide +kernel
theorem dX6_send_60 : decode cX6_send 60 = .ok (.aload_n 1, 1) := by decide +kernel
theorem dX6_send_61 : decode cX6_send 61 = .ok (.aload 5, 2) := by decide +kernel
theorem dX6_send_63 : decode cX6_send 63 = .ok (.invokevirtual 57, 3) := by decide +kernel
theorem dX6_send_66 : decode cX6_send 66 = .ok (.aload_n 0, 1) := by decide +kernel
theorem dX6_send_67 : decode cX6_send 67 = .ok (.aload 5, 2) := by decide +kernel
theorem dX6_send_69 : decode cX6_send 69 = .ok (.invokevirtual 63, 3) := by decide +kernel
theorem dX6_send_72 : decode cX6_send 72 = .ok (.iinc 4 1, 3) := by decide +kernel
theorem dX6_send_75 : decode cX6_send 75 = .ok (.goto (-66), 3) := by decide +kernel
theorem dX6_send_78 : decode cX6_send 78 = .ok (.iinc 3 (-1), 3) := by decide +kernel
theorem dX6_send_81 : decode cX6_send 81 = .ok (.goto (-79), 3) := by decide +kernel
theorem dX6_send_84 : decode cX6_send 84 = .ok (.return_, 1) := by decide +kernel
theorem dX6_isSent_0 : decode cX6_isSent 0 = .ok (.aload_n 1, 1) := by decide +kernel
theorem dX6_isSent_1 : decode cX6_isSent 1 = .ok (.getfield 66, 3) := by decide +kernel
theorem dX6_isSent_4 : decode cX6_isSent 4 = .ok (.astore_n 3, 1) := by decide +kernel
theorem dX6_isSent_5 : decode cX6_isSent 5 = .ok (.aload_n 0, 1) := by decide +kernel
theorem dX6_isSent_6 : decode cX6_isSent 6 = .ok (.getfield 70, 3) := by decide +kernel
theorem dX6_isSent_9 : decode cX6_isSent 9 = .ok (.aload_n 3, 1) := by decide +kernel
theorem dX6_isSent_10 : decode cX6_isSent 10 = .ok (.getfield 74, 3) := by decide +kernel
theorem dX6_isSent_13 : decode cX6_isSent 13 = .ok (.if_acmp .eq 24, 3) := by decide +kernel
theorem dX6_isSent_16 : decode cX6_isSent 16 = .ok (.aload_n 0, 1) := by decide +kernel
theorem dX6_isSent_17 : decode cX6_isSent 17 = .ok (.getfield 77, 3) := by decide +kernel
theorem dX6_isSent_20 : decode cX6_isSent 20 = .ok (.ifCond .ne 21, 3) := by decide +kernel
theorem dX6_isSent_23 : decode cX6_isSent 23 = .ok (.aload_n 3, 1) := by decide +kernel
theorem dX6_isSent_24 : decode cX6_isSent 24 = .ok (.getfield 74, 3) := by decide +kernel
theorem dX6_isSent_27 : decode cX6_isSent 27 = .ok (.aload_n 0, 1) := by decide +kernel
theorem dX6_isSent_28 : decode cX6_isSent 28 = .ok (.getfield 70, 3) := by decide +kernel
theorem dX6_isSent_31 : decode cX6_isSent 31 = .ok (.invokevirtual 81, 3) := by decide +kernel
theorem dX6_isSent_34 : decode cX6_isSent 34 = .ok (.ifCond .eq 7, 3) := by decide +kernel
theorem dX6_isSent_37 : decode cX6_isSent 37 = .ok (.iconst 1, 1) := by decide +kernel
theorem dX6_isSent_38 : decode cX6_isSent 38 = .ok (.goto 4, 3) := by decide +kernel
theorem dX6_isSent_41 : decode cX6_isSent 41 = .ok (.iconst 0, 1) := by decide +kernel
theorem dX6_isSent_42 : decode cX6_isSent 42 = .ok (.istore 4, 2) := by decide +kernel
theorem dX6_isSent_44 : decode cX6_isSent 44 = .ok (.iload 4, 2) := by decide +kernel
theorem dX6_isSent_46 : decode cX6_isSent 46 = .ok (.ifCond .eq 28, 3) := by decide +kernel
theorem dX6_isSent_49 : decode cX6_isSent 49 = .ok (.aload_n 3, 1) := by decide +kernel
theorem dX6_isSent_50 : decode cX6_isSent 50 = .ok (.getfield 87, 3) := by decide +kernel
theorem dX6_isSent_53 : decode cX6_isSent 53 = .ok (.aload_n 0, 1) := by decide +kernel
theorem dX6_isSent_54 : decode cX6_isSent 54 = .ok (.getfield 40, 3) := by decide +kernel
theorem dX6_isSent_57 : decode cX6_isSent 57 = .ok (.getfield 44, 3) := by decide +kernel
theorem dX6_isSent_60 : decode cX6_isSent 60 = .ok (.invokestatic 88, 3) := by decide +kernel
theorem dX6_isSent_63 : decode cX6_isSent 63 = .ok (.ifCond .eq 11, 3) := by decide +kernel
theorem dX6_isSent_66 : decode cX6_isSent 66 = .ok (.aload_n 0, 1) := by decide +kernel
theorem dX6_isSent_67 : decode cX6_isSent 67 = .ok (.aload_n 1, 1) := by decide +kernel
theorem dX6_isSent_68 : decode cX6_isSent 68 = .ok (.invokevirtual 92, 3) := by decide +kernel
theorem dX6_isSent_71 : decode cX6_isSent 71 = .ok (.ifCond .ne 5, 3) := by decide +kernel
theorem dX6_isSent_74 : decode cX6_isSent 74 = .ok (.iconst 0, 1) := by decide +kernel
theorem dX6_isSent_75 : decode cX6_isSent 75 = .ok (.ireturn, 1) := by decide +kernel
theorem dX6_isSent_76 : decode cX6_isSent 76 = .ok (.aload_n 0, 1) := by decide +kernel
theorem dX6_isSent_77 : decode cX6_isSent 77 = .ok (.getfield 40, 3) := by decide +kernel
theorem dX6_isSent_80 : decode cX6_isSent 80 = .ok (.iconst 1, 1) := by decide +kernel
theorem dX6_isSent_81 : decode cX6_isSent 81 = .ok (.invokevirtual 96, 3) := by decide +kernel
theorem dX6_isSent_84 : decode cX6_isSent 84 = .ok (.ifCond .eq 13, 3) := by decide +kernel
theorem dX6_isSent_87 : decode cX6_isSent 87 = .ok (.aload_n 3, 1) := by decide +kernel
theorem dX6_isSent_88 : decode cX6_isSent 88 = .ok (.getfield 99, 3) := by decide +kernel
theorem dX6_isSent_91 : decode cX6_isSent 91 = .ok (.iconst 1, 1) := by decide +kernel
theorem dX6_isSent_92 : decode cX6_isSent 92 = .ok (.if_icmp .eq 5, 3) := by decide +kernel
theorem dX6_isSent_95 : decode cX6_isSent 95 = .ok (.iconst 0, 1) := by decide +kernel
theorem dX6_isSent_96 : decode cX6_isSent 96 = .ok (.ireturn, 1) := by decide +kernel
theorem dX6_isSent_97 : decode cX6_isSent 97 = .ok (.aload_n 1, 1) := by decide +kernel
theorem dX6_isSent_98 : decode cX6_isSent 98 = .ok (.getfield 102, 3) := by decide +kernel
theorem dX6_isSent_101 : decode cX6_isSent 101 = .ok (.ifCond .eq 12, 3) := by decide +kernel
theorem dX6_isSent_104 : decode cX6_isSent 104 = .ok (.aload_n 0, 1) := by decide +kernel
theorem dX6_isSent_105 : decode cX6_isSent 105 = .ok (.aload_n 1, 1) := by decide +kernel
theorem dX6_isSent_106 : decode cX6_isSent 106 = .ok (.iload_n 2, 1) := by decide +kernel
theorem dX6_isSent_107 : decode cX6_isSent 107 = .ok (.invokestatic 105, 3) := by decide +kernel
theorem dX6_isSent_110 : decode cX6_isSent 110 = .ok (.ifCond .eq 7, 3) := by decide +kernel
theorem dX6_isSent_113 : decode cX6_isSent 113 = .ok (.iconst 1, 1) := by decide +kernel
theorem dX6_isSent_114 : decode cX6_isSent 114 = .ok (.goto 4, 3) := by decide +kernel
theorem dX6_isSent_117 : decode cX6_isSent 117 = .ok (.iconst 0, 1) := by decide +kernel
theorem dX6_isSent_118 : decode cX6_isSent 118 = .ok (.ireturn, 1) := by decide +kernel
theorem dX6_isSentFromAfar_0 : decode cX6_isSentFromAfar 0 = .ok (.iload_n 2, 1) := by decide +kernel
theorem dX6_isSentFromAfar_1 : decode cX6_isSentFromAfar 1 = .ok (.ifCond .eq 20, 3) := by decide +kernel
theorem dX6_isSentFromAfar_4 : decode cX6_isSentFromAfar 4 = .ok (.aload_n 1, 1) := by decide +kernel
theorem dX6_isSentFromAfar_5 : decode cX6_isSentFromAfar 5 = .ok (.getfield 108, 3) := by decide +kernel
theorem dX6_isSentFromAfar_8 : decode cX6_isSentFromAfar 8 = .ok (.ifCond .ne 13, 3) := by decide +kernel
theorem dX6_isSentFromAfar_11 : decode cX6_isSentFromAfar 11 = .ok (.aload_n 0, 1) := by decide +kernel
theorem dX6_isSentFromAfar_12 : decode cX6_isSentFromAfar 12 = .ok (.getfield 111, 3) := by decide +kernel
theorem dX6_isSentFromAfar_15 : decode cX6_isSentFromAfar 15 = .ok (.iconst (-1), 1) := by decide +kernel
theorem dX6_isSentFromAfar_16 : decode cX6_isSentFromAfar 16 = .ok (.if_icmp .ne 5, 3) := by decide +kernel
theorem dX6_isSentFromAfar_19 : decode cX6_isSentFromAfar 19 = .ok (.iconst 0, 1) := by decide +kernel
theorem dX6_isSentFromAfar_20 : decode cX6_isSentFromAfar 20 = .ok (.ireturn, 1) := by decide +kernel
theorem dX6_isSentFromAfar_21 : decode cX6_isSentFromAfar 21 = .ok (.aload_n 0, 1) := by decide +kernel
theorem dX6_isSentFromAfar_22 : decode cX6_isSentFromAfar 22 = .ok (.getfield 40, 3) := by decide +kernel
theorem dX6_isSentFromAfar_25 : decode cX6_isSentFromAfar 25 = .ok (.invokevirtual 114, 3) := by decide +kernel
theorem dX6_isSentFromAfar_28 : decode cX6_isSentFromAfar 28 = .ok (.ifCond .ne 5, 3) := by decide +kernel
theorem dX6_isSentFromAfar_31 : decode cX6_isSentFromAfar 31 = .ok (.iconst 1, 1) := by decide +kernel
theorem dX6_isSentFromAfar_32 : decode cX6_isSentFromAfar 32 = .ok (.ireturn, 1) := by decide +kernel
theorem dX6_isSentFromAfar_33 : decode cX6_isSentFromAfar 33 = .ok (.aload_n 0, 1) := by decide +kernel
theorem dX6_isSentFromAfar_34 : decode cX6_isSentFromAfar 34 = .ok (.getfield 40, 3) := by decide +kernel
theorem dX6_isSentFromAfar_37 : decode cX6_isSentFromAfar 37 = .ok (.bipush 8, 2) := by decide +kernel
theorem dX6_isSentFromAfar_39 : decode cX6_isSentFromAfar 39 = .ok (.invokevirtual 96, 3) := by decide +kernel
theorem dX6_isSentFromAfar_42 : decode cX6_isSentFromAfar 42 = .ok (.ifCond .ne 21, 3) := by decide +kernel
theorem dX6_isSentFromAfar_45 : decode cX6_isSentFromAfar 45 = .ok (.aload_n 1, 1) := by decide +kernel
theorem dX6_isSentFromAfar_46 : decode cX6_isSentFromAfar 46 = .ok (.getfield 108, 3) := by decide +kernel
theorem dX6_isSentFromAfar_49 : decode cX6_isSentFromAfar 49 = .ok (.ifCond .eq 14, 3) := by decide +kernel
theorem dX6_isSentFromAfar_52 : decode cX6_isSentFromAfar 52 = .ok (.aload_n 1, 1) := by decide +kernel
theorem dX6_isSentFromAfar_53 : decode cX6_isSentFromAfar 53 = .ok (.getfield 118, 3) := by decide +kernel
theorem dX6_isSentFromAfar_56 : decode cX6_isSentFromAfar 56 = .ok (.ifCond .ne 7, 3) := by decide +kernel
theorem dX6_isSentFromAfar_59 : decode cX6_isSentFromAfar 59 = .ok (.iconst 1, 1) := by decide +kernel
theorem dX6_isSentFromAfar_60 : decode cX6_isSentFromAfar 60 = .ok (.goto 4, 3) := by decide +kernel
theorem dX6_isSentFromAfar_63 : decode cX6_isSentFromAfar 63 = .ok (.iconst 0, 1) := by decide +kernel
theorem dX6_isSentFromAfar_64 : decode cX6_isSentFromAfar 64 = .ok (.ireturn, 1) := by decide +kernel
theorem dX6_take_0 : decode cX6_take 0 = .ok (.aload_n 1, 1) := by decide +kernel
theorem dX6_take_1 : decode cX6_take 1 = .ok (.getfield 66, 3) := by decide +kernel
theorem dX6_take_4 : decode cX6_take 4 = .ok (.getfield 121, 3) := by decide +kernel
theorem dX6_take_7 : decode cX6_take 7 = .ok (.astore 4, 2) := by decide +kernel
theorem dX6_take_9 : decode cX6_take 9 = .ok (.aload 4, 2) := by decide +kernel
theorem dX6_take_11 : decode cX6_take 11 = .ok (.ifnonnull 4, 3) := by decide +kernel
theorem dX6_take_14 : decode cX6_take 14 = .ok (.return_, 1) := by decide +kernel
theorem dX6_take_15 : decode cX6_take 15 = .ok (.new 26, 3) := by decide +kernel
theorem dX6_take_18 : decode cX6_take 18 = .ok (.dup, 1) := by decide +kernel
theorem dX6_take_19 : decode cX6_take 19 = .ok (.aload 4, 2) := by decide +kernel
theorem dX6_take_21 : decode cX6_take 21 = .ok (.aload_n 1, 1) := by decide +kernel
theorem dX6_take_22 : decode cX6_take 22 = .ok (.iload_n 3, 1) := by decide +kernel
theorem dX6_take_23 : decode cX6_take 23 = .ok (.invokespecial 122, 3) := by decide +kernel
theorem dX6_take_26 : decode cX6_take 26 = .ok (.astore 5, 2) := by decide +kernel
theorem dX6_take_28 : decode cX6_take 28 = .ok (.aload 5, 2) := by decide +kernel
theorem dX6_take_30 : decode cX6_take 30 = .ok (.aload_n 1, 1) := by decide +kernel
theorem dX6_take_31 : decode cX6_take 31 = .ok (.invokestatic 125, 3) := by decide +kernel
theorem dX6_take_34 : decode cX6_take 34 = .ok (.ifCond .eq 32, 3) := by decide +kernel
theorem dX6_take_37 : decode cX6_take 37 = .ok (.aload 4, 2) := by decide +kernel
theorem dX6_take_39 : decode cX6_take 39 = .ok (.aload_n 1, 1) := by decide +kernel
theorem dX6_take_40 : decode cX6_take 40 = .ok (.invokestatic 129, 3) := by decide +kernel
theorem dX6_take_43 : decode cX6_take 43 = .ok (.ifCond .ne 23, 3) := by decide +kernel
theorem dX6_take_46 : decode cX6_take 46 = .ok (.aload 4, 2) := by decide +kernel
theorem dX6_take_48 : decode cX6_take 48 = .ok (.aload_n 1, 1) := by decide +kernel
theorem dX6_take_49 : decode cX6_take 49 = .ok (.iload_n 2, 1) := by decide +kernel
theorem dX6_take_50 : decode cX6_take 50 = .ok (.invokestatic 133, 3) := by decide +kernel
theorem dX6_take_53 : decode cX6_take 53 = .ok (.ifCond .ne 13, 3) := by decide +kernel
theorem dX6_take_56 : decode cX6_take 56 = .ok (.aload_n 0, 1) := by decide +kernel
theorem dX6_take_57 : decode cX6_take 57 = .ok (.aload 5, 2) := by decide +kernel
theorem dX6_take_59 : decode cX6_take 59 = .ok (.aload_n 1, 1) := by decide +kernel
theorem dX6_take_60 : decode cX6_take 60 = .ok (.invokevirtual 137, 3) := by decide +kernel
theorem dX6_take_63 : decode cX6_take 63 = .ok (.ifCond .eq 4, 3) := by decide +kernel
theorem dX6_take_66 : decode cX6_take 66 = .ok (.return_, 1) := by decide +kernel
theorem dX6_take_67 : decode cX6_take 67 = .ok (.aload_n 0, 1) := by decide +kernel
theorem dX6_take_68 : decode cX6_take 68 = .ok (.aload 5, 2) := by decide +kernel
theorem dX6_take_70 : decode cX6_take 70 = .ok (.invokevirtual 140, 3) := by decide +kernel
theorem dX6_take_73 : decode cX6_take 73 = .ok (.istore 6, 2) := by decide +kernel
theorem dX6_take_75 : decode cX6_take 75 = .ok (.aload 4, 2) := by decide +kernel
theorem dX6_take_77 : decode cX6_take 77 = .ok (.getfield 144, 3) := by decide +kernel
theorem dX6_take_80 : decode cX6_take 80 = .ok (.iconst (-1), 1) := by decide +kernel
theorem dX6_take_81 : decode cX6_take 81 = .ok (.if_icmp .ne 10, 3) := by decide +kernel
theorem dX6_take_84 : decode cX6_take 84 = .ok (.aload_n 0, 1) := by decide +kernel
theorem dX6_take_85 : decode cX6_take 85 = .ok (.iload 6, 2) := by decide +kernel
theorem dX6_take_87 : decode cX6_take 87 = .ok (.invokevirtual 147, 3) := by decide +kernel
theorem dX6_take_90 : decode cX6_take 90 = .ok (.return_, 1) := by decide +kernel
theorem dX6_take_91 : decode cX6_take 91 = .ok (.aload_n 0, 1) := by decide +kernel
theorem dX6_take_92 : decode cX6_take 92 = .ok (.aload 5, 2) := by decide +kernel
theorem dX6_take_94 : decode cX6_take 94 = .ok (.iload 6, 2) := by decide +kernel
theorem dX6_take_96 : decode cX6_take 96 = .ok (.invokevirtual 151, 3) := by decide +kernel
theorem dX6_take_99 : decode cX6_take 99 = .ok (.aload_n 0, 1) := by decide +kernel
theorem dX6_take_100 : decode cX6_take 100 = .ok (.aload 5, 2) := by decide +kernel
theorem dX6_take_102 : decode cX6_take 102 = .ok (.iconst 4, 1) := by decide +kernel
theorem dX6_take_103 : decode cX6_take 103 = .ok (.invokevirtual 155, 3) := by decide +kernel
theorem dX6_take_106 : decode cX6_take 106 = .ok (.aload_n 0, 1) := by decide +kernel
theorem dX6_take_107 : decode cX6_take 107 = .ok (.aconst_null, 1) := by decide +kernel
theorem dX6_take_108 : decode cX6_take 108 = .ok (.bipush 10, 2) := by decide +kernel
theorem dX6_take_110 : decode cX6_take 110 = .ok (.invokevirtual 155, 3) := by decide +kernel
theorem dX6_take_113 : decode cX6_take 113 = .ok (.return_, 1) := by decide +kernel
theorem dX6_isForOwnHost_0 : decode cX6_isForOwnHost 0 = .ok (.aload_n 0, 1) := by decide +kernel
theorem dX6_isForOwnHost_1 : decode cX6_isForOwnHost 1 = .ok (.getfield 77, 3) := by decide +kernel
theorem dX6_isForOwnHost_4 : decode cX6_isForOwnHost 4 = .ok (.ifCond .ne 30, 3) := by decide +kernel
theorem dX6_isForOwnHost_7 : decode cX6_isForOwnHost 7 = .ok (.aload_n 0, 1) := by decide +kernel
theorem dX6_isForOwnHost_8 : decode cX6_isForOwnHost 8 = .ok (.getfield 70, 3) := by decide +kernel
theorem dX6_isForOwnHost_11 : decode cX6_isForOwnHost 11 = .ok (.getfield 158, 3) := by decide +kernel
theorem dX6_isForOwnHost_14 : decode cX6_isForOwnHost 14 = .ok (.ifCond .ne 24, 3) := by decide +kernel
theorem dX6_isForOwnHost_17 : decode cX6_isForOwnHost 17 = .ok (.aload_n 1, 1) := by decide +kernel
theorem dX6_isForOwnHost_18 : decode cX6_isForOwnHost 18 = .ok (.getfield 66, 3) := by decide +kernel
theorem dX6_isForOwnHost_21 : decode cX6_isForOwnHost 21 = .ok (.getfield 74, 3) := by decide +kernel
theorem dX6_isForOwnHost_24 : decode cX6_isForOwnHost 24 = .ok (.aload_n 0, 1) := by decide +kernel
theorem dX6_isForOwnHost_25 : decode cX6_isForOwnHost 25 = .ok (.getfield 70, 3) := by decide +kernel
theorem dX6_isForOwnHost_28 : decode cX6_isForOwnHost 28 = .ok (.invokevirtual 81, 3) := by decide +kernel
theorem dX6_isForOwnHost_31 : decode cX6_isForOwnHost 31 = .ok (.ifCond .eq 7, 3) := by decide +kernel
theorem dX6_isForOwnHost_34 : decode cX6_isForOwnHost 34 = .ok (.iconst 1, 1) := by decide +kernel
theorem dX6_isForOwnHost_35 : decode cX6_isForOwnHost 35 = .ok (.goto 4, 3) := by decide +kernel
theorem dX6_isForOwnHost_38 : decode cX6_isForOwnHost 38 = .ok (.iconst 0, 1) := by decide +kernel
theorem dX6_isForOwnHost_39 : decode cX6_isForOwnHost 39 = .ok (.ireturn, 1) := by decide +kernel
theorem dX6_isUnsafe_0 : decode cX6_isUnsafe 0 = .ok (.aload_n 0, 1) := by decide +kernel
theorem dX6_isUnsafe_1 : decode cX6_isUnsafe 1 = .ok (.iconst 1, 1) := by decide +kernel
theorem dX6_isUnsafe_2 : decode cX6_isUnsafe 2 = .ok (.invokevirtual 96, 3) := by decide +kernel
theorem dX6_isUnsafe_5 : decode cX6_isUnsafe 5 = .ok (.ifCond .eq 52, 3) := by decide +kernel
theorem dX6_isUnsafe_8 : decode cX6_isUnsafe 8 = .ok (.aload_n 0, 1) := by decide +kernel
theorem dX6_isUnsafe_9 : decode cX6_isUnsafe 9 = .ok (.bipush 32, 2) := by decide +kernel
theorem dX6_isUnsafe_11 : decode cX6_isUnsafe 11 = .ok (.invokevirtual 96, 3) := by decide +kernel
theorem dX6_isUnsafe_14 : decode cX6_isUnsafe 14 = .ok (.ifCond .eq 21, 3) := by decide +kernel
theorem dX6_isUnsafe_17 : decode cX6_isUnsafe 17 = .ok (.aload_n 0, 1) := by decide +kernel
theorem dX6_isUnsafe_18 : decode cX6_isUnsafe 18 = .ok (.getfield 161, 3) := by decide +kernel
theorem dX6_isUnsafe_21 : decode cX6_isUnsafe 21 = .ok (.ifnonnull 10, 3) := by decide +kernel
theorem dX6_isUnsafe_24 : decode cX6_isUnsafe 24 = .ok (.aload_n 0, 1) := by decide +kernel
theorem dX6_isUnsafe_25 : decode cX6_isUnsafe 25 = .ok (.getfield 44, 3) := by decide +kernel
theorem dX6_isUnsafe_28 : decode cX6_isUnsafe 28 = .ok (.ifCond .eq 7, 3) := by decide +kernel
theorem dX6_isUnsafe_31 : decode cX6_isUnsafe 31 = .ok (.iconst 1, 1) := by decide +kernel
theorem dX6_isUnsafe_32 : decode cX6_isUnsafe 32 = .ok (.goto 4, 3) := by decide +kernel
theorem dX6_isUnsafe_35 : decode cX6_isUnsafe 35 = .ok (.iconst 0, 1) := by decide +kernel
theorem dX6_isUnsafe_36 : decode cX6_isUnsafe 36 = .ok (.istore_n 2, 1) := by decide +kernel
theorem dX6_isUnsafe_37 : decode cX6_isUnsafe 37 = .ok (.aload_n 1, 1) := by decide +kernel
theorem dX6_isUnsafe_38 : decode cX6_isUnsafe 38 = .ok (.getfield 66, 3) := by decide +kernel
theorem dX6_isUnsafe_41 : decode cX6_isUnsafe 41 = .ok (.getfield 99, 3) := by decide +kernel
theorem dX6_isUnsafe_44 : decode cX6_isUnsafe 44 = .ok (.ifCond .eq 7, 3) := by decide +kernel
theorem dX6_isUnsafe_47 : decode cX6_isUnsafe 47 = .ok (.iload_n 2, 1) := by decide +kernel
theorem dX6_isUnsafe_48 : decode cX6_isUnsafe 48 = .ok (.ifCond .eq 7, 3) := by decide +kernel
theorem dX6_isUnsafe_51 : decode cX6_isUnsafe 51 = .ok (.iconst 1, 1) := by decide +kernel
theorem dX6_isUnsafe_52 : decode cX6_isUnsafe 52 = .ok (.goto 4, 3) := by decide +kernel
theorem dX6_isUnsafe_55 : decode cX6_isUnsafe 55 = .ok (.iconst 0, 1) := by decide +kernel
theorem dX6_isUnsafe_56 : decode cX6_isUnsafe 56 = .ok (.ireturn, 1) := by decide +kernel
theorem dX6_isUnsafe_57 : decode cX6_isUnsafe 57 = .ok (.aload_n 0, 1) := by decide +kernel
theorem dX6_isUnsafe_58 : decode cX6_isUnsafe 58 = .ok (.invokevirtual 114, 3) := by decide +kernel
theorem dX6_isUnsafe_61 : decode cX6_isUnsafe 61 = .ok (.ifCond .eq 29, 3) := by decide +kernel
theorem dX6_isUnsafe_64 : decode cX6_isUnsafe 64 = .ok (.aload_n 0, 1) := by decide +kernel
theorem dX6_isUnsafe_65 : decode cX6_isUnsafe 65 = .ok (.iconst 2, 1) := by decide +kernel
theorem dX6_isUnsafe_66 : decode cX6_isUnsafe 66 = .ok (.invokevirtual 96, 3) := by decide +kernel
theorem dX6_isUnsafe_69 : decode cX6_isUnsafe 69 = .ok (.ifCond .ne 21, 3) := by decide +kernel
theorem dX6_isUnsafe_72 : decode cX6_isUnsafe 72 = .ok (.aload_n 0, 1) := by decide +kernel
theorem dX6_isUnsafe_73 : decode cX6_isUnsafe 73 = .ok (.bipush 16, 2) := by decide +kernel
theorem dX6_isUnsafe_75 : decode cX6_isUnsafe 75 = .ok (.invokevirtual 96, 3) := by decide +kernel
theorem dX6_isUnsafe_78 : decode cX6_isUnsafe 78 = .ok (.ifCond .ne 12, 3) := by decide +kernel
theorem dX6_isUnsafe_81 : decode cX6_isUnsafe 81 = .ok (.aload_n 0, 1) := by decide +kernel
theorem dX6_isUnsafe_82 : decode cX6_isUnsafe 82 = .ok (.bipush 32, 2) := by decide +kernel
theorem dX6_isUnsafe_84 : decode cX6_isUnsafe 84 = .ok (.invokevirtual 96, 3) := by decide +kernel
theorem dX6_isUnsafe_87 : decode cX6_isUnsafe 87 = .ok (.ifCond .eq 7, 3) := by decide +kernel
theorem dX6_isUnsafe_90 : decode cX6_isUnsafe 90 = .ok (.iconst 1, 1) := by decide +kernel
theorem dX6_isUnsafe_91 : decode cX6_isUnsafe 91 = .ok (.goto 4, 3) := by decide +kernel
theorem dX6_isUnsafe_94 : decode cX6_isUnsafe 94 = .ok (.iconst 0, 1) := by decide +kernel
theorem dX6_isUnsafe_95 : decode cX6_isUnsafe 95 = .ok (.ireturn, 1) := by decide +kernel
theorem dX6_isTooFar_0 : decode cX6_isTooFar 0 = .ok (.aload_n 1, 1) := by decide +kernel
theorem dX6_isTooFar_1 : decode cX6_isTooFar 1 = .ok (.getfield 102, 3) := by decide +kernel
theorem dX6_isTooFar_4 : decode cX6_isTooFar 4 = .ok (.ifCond .eq 10, 3) := by decide +kernel
theorem dX6_isTooFar_7 : decode cX6_isTooFar 7 = .ok (.aload_n 1, 1) := by decide +kernel
theorem dX6_isTooFar_8 : decode cX6_isTooFar 8 = .ok (.getfield 108, 3) := by decide +kernel
theorem dX6_isTooFar_11 : decode cX6_isTooFar 11 = .ok (.ifCond .eq 5, 3) := by decide +kernel
theorem dX6_isTooFar_14 : decode cX6_isTooFar 14 = .ok (.iconst 0, 1) := by decide +kernel
theorem dX6_isTooFar_15 : decode cX6_isTooFar 15 = .ok (.ireturn, 1) := by decide +kernel
theorem dX6_isTooFar_16 : decode cX6_isTooFar 16 = .ok (.aload_n 0, 1) := by decide +kernel
theorem dX6_isTooFar_17 : decode cX6_isTooFar 17 = .ok (.invokevirtual 114, 3) := by decide +kernel
theorem dX6_isTooFar_20 : decode cX6_isTooFar 20 = .ok (.ifCond .ne 15, 3) := by decide +kernel
theorem dX6_isTooFar_23 : decode cX6_isTooFar 23 = .ok (.iload_n 2, 1) := by decide +kernel
theorem dX6_isTooFar_24 : decode cX6_isTooFar 24 = .ok (.ifCond .eq 15, 3) := by decide +kernel
theorem dX6_isTooFar_27 : decode cX6_isTooFar 27 = .ok (.aload_n 0, 1) := by decide +kernel
theorem dX6_isTooFar_28 : decode cX6_isTooFar 28 = .ok (.iconst 2, 1) := by decide +kernel
theorem dX6_isTooFar_29 : decode cX6_isTooFar 29 = .ok (.invokevirtual 96, 3) := by decide +kernel
theorem dX6_isTooFar_32 : decode cX6_isTooFar 32 = .ok (.ifCond .ne 7, 3) := by decide +kernel
theorem dX6_isTooFar_35 : decode cX6_isTooFar 35 = .ok (.iconst 1, 1) := by decide +kernel
theorem dX6_isTooFar_36 : decode cX6_isTooFar 36 = .ok (.goto 4, 3) := by decide +kernel
theorem dX6_isTooFar_39 : decode cX6_isTooFar 39 = .ok (.iconst 0, 1) := by decide +kernel
theorem dX6_isTooFar_40 : decode cX6_isTooFar 40 = .ok (.ireturn, 1) := by decide +kernel
theorem dX6_isUnderSecureOne_0 : decode cX6_isUnderSecureOne 0 = .ok (.aload_n 2, 1) := by decide +kernel
theorem dX6_isUnderSecureOne_1 : decode cX6_isUnderSecureOne 1 = .ok (.getfield 66, 3) := by decide +kernel
theorem dX6_isUnderSecureOne_4 : decode cX6_isUnderSecureOne 4 = .ok (.getfield 99, 3) := by decide +kernel
theorem dX6_isUnderSecureOne_7 : decode cX6_isUnderSecureOne 7 = .ok (.ifCond .eq 5, 3) := by decide +kernel
theorem dX6_isUnderSecureOne_10 : decode cX6_isUnderSecureOne 10 = .ok (.iconst 0, 1) := by decide +kernel
theorem dX6_isUnderSecureOne_11 : decode cX6_isUnderSecureOne 11 = .ok (.ireturn, 1) := by decide +kernel
theorem dX6_isUnderSecureOne_12 : decode cX6_isUnderSecureOne 12 = .ok (.iconst 0, 1) := by decide +kernel
theorem dX6_isUnderSecureOne_13 : decode cX6_isUnderSecureOne 13 = .ok (.istore_n 3, 1) := by decide +kernel
theorem dX6_isUnderSecureOne_14 : decode cX6_isUnderSecureOne 14 = .ok (.iload_n 3, 1) := by decide +kernel
theorem dX6_isUnderSecureOne_15 : decode cX6_isUnderSecureOne 15 = .ok (.aload_n 0, 1) := by decide +kernel
theorem dX6_isUnderSecureOne_16 : decode cX6_isUnderSecureOne 16 = .ok (.getfield 12, 3) := by decide +kernel
theorem dX6_isUnderSecureOne_19 : decode cX6_isUnderSecureOne 19 = .ok (.invokevirtual 18, 3) := by decide +kernel
theorem dX6_isUnderSecureOne_22 : decode cX6_isUnderSecureOne 22 = .ok (.if_icmp .ge 126, 3) := by decide +kernel
theorem dX6_isUnderSecureOne_25 : decode cX6_isUnderSecureOne 25 = .ok (.aload_n 0, 1) := by decide +kernel
theorem dX6_isUnderSecureOne_26 : decode cX6_isUnderSecureOne 26 = .ok (.getfield 12, 3) := by decide +kernel
theorem dX6_isUnderSecureOne_29 : decode cX6_isUnderSecureOne 29 = .ok (.iload_n 3, 1) := by decide +kernel
theorem dX6_isUnderSecureOne_30 : decode cX6_isUnderSecureOne 30 = .ok (.invokevirtual 22, 3) := by decide +kernel
theorem dX6_isUnderSecureOne_33 : decode cX6_isUnderSecureOne 33 = .ok (.checkcast 26, 3) := by decide +kernel
theorem dX6_isUnderSecureOne_36 : decode cX6_isUnderSecureOne 36 = .ok (.astore 4, 2) := by decide +kernel
theorem dX6_isUnderSecureOne_38 : decode cX6_isUnderSecureOne 38 = .ok (.aload 4, 2) := by decide +kernel
theorem dX6_isUnderSecureOne_40 : decode cX6_isUnderSecureOne 40 = .ok (.getfield 70, 3) := by decide +kernel
theorem dX6_isUnderSecureOne_43 : decode cX6_isUnderSecureOne 43 = .ok (.aload_n 1, 1) := by decide +kernel
theorem dX6_isUnderSecureOne_44 : decode cX6_isUnderSecureOne 44 = .ok (.getfield 70, 3) := by decide +kernel
theorem dX6_isUnderSecureOne_47 : decode cX6_isUnderSecureOne 47 = .ok (.invokevirtual 81, 3) := by decide +kernel
theorem dX6_isUnderSecureOne_50 : decode cX6_isUnderSecureOne 50 = .ok (.ifCond .ne 18, 3) := by decide +kernel
theorem dX6_isUnderSecureOne_53 : decode cX6_isUnderSecureOne 53 = .ok (.aload_n 1, 1) := by decide +kernel
theorem dX6_isUnderSecureOne_54 : decode cX6_isUnderSecureOne 54 = .ok (.getfield 70, 3) := by decide +kernel
theorem dX6_isUnderSecureOne_57 : decode cX6_isUnderSecureOne 57 = .ok (.aload 4, 2) := by decide +kernel
theorem dX6_isUnderSecureOne_59 : decode cX6_isUnderSecureOne 59 = .ok (.getfield 70, 3) := by decide +kernel
theorem dX6_isUnderSecureOne_62 : decode cX6_isUnderSecureOne 62 = .ok (.invokevirtual 81, 3) := by decide +kernel
theorem dX6_isUnderSecureOne_65 : decode cX6_isUnderSecureOne 65 = .ok (.ifCond .eq 7, 3) := by decide +kernel
theorem dX6_isUnderSecureOne_68 : decode cX6_isUnderSecureOne 68 = .ok (.iconst 1, 1) := by decide +kernel
theorem dX6_isUnderSecureOne_69 : decode cX6_isUnderSecureOne 69 = .ok (.goto 4, 3) := by decide +kernel
theorem dX6_isUnderSecureOne_72 : decode cX6_isUnderSecureOne 72 = .ok (.iconst 0, 1) := by decide +kernel
theorem dX6_isUnderSecureOne_73 : decode cX6_isUnderSecureOne 73 = .ok (.istore 5, 2) := by decide +kernel
theorem dX6_isUnderSecureOne_75 : decode cX6_isUnderSecureOne 75 = .ok (.aload 4, 2) := by decide +kernel
theorem dX6_isUnderSecureOne_77 : decode cX6_isUnderSecureOne 77 = .ok (.getfield 40, 3) := by decide +kernel
theorem dX6_isUnderSecureOne_80 : decode cX6_isUnderSecureOne 80 = .ok (.iconst 1, 1) := by decide +kernel
theorem dX6_isUnderSecureOne_81 : decode cX6_isUnderSecureOne 81 = .ok (.invokevirtual 96, 3) := by decide +kernel
theorem dX6_isUnderSecureOne_84 : decode cX6_isUnderSecureOne 84 = .ok (.ifCond .eq 58, 3) := by decide +kernel
theorem dX6_isUnderSecureOne_87 : decode cX6_isUnderSecureOne 87 = .ok (.aload 4, 2) := by decide +kernel
theorem dX6_isUnderSecureOne_89 : decode cX6_isUnderSecureOne 89 = .ok (.getfield 40, 3) := by decide +kernel
theorem dX6_isUnderSecureOne_92 : decode cX6_isUnderSecureOne 92 = .ok (.getfield 164, 3) := by decide +kernel
theorem dX6_isUnderSecureOne_95 : decode cX6_isUnderSecureOne 95 = .ok (.aload_n 1, 1) := by decide +kernel
theorem dX6_isUnderSecureOne_96 : decode cX6_isUnderSecureOne 96 = .ok (.getfield 40, 3) := by decide +kernel
theorem dX6_isUnderSecureOne_99 : decode cX6_isUnderSecureOne 99 = .ok (.getfield 164, 3) := by decide +kernel
theorem dX6_isUnderSecureOne_102 : decode cX6_isUnderSecureOne 102 = .ok (.if_icmp .ne 40, 3) := by decide +kernel
theorem dX6_isUnderSecureOne_105 : decode cX6_isUnderSecureOne 105 = .ok (.aload 4, 2) := by decide +kernel
theorem dX6_isUnderSecureOne_107 : decode cX6_isUnderSecureOne 107 = .ok (.aload_n 2, 1) := by decide +kernel
theorem dX6_isUnderSecureOne_108 : decode cX6_isUnderSecureOne 108 = .ok (.invokevirtual 92, 3) := by decide +kernel
theorem dX6_isUnderSecureOne_111 : decode cX6_isUnderSecureOne 111 = .ok (.ifCond .eq 31, 3) := by decide +kernel
theorem dX6_isUnderSecureOne_114 : decode cX6_isUnderSecureOne 114 = .ok (.iload 5, 2) := by decide +kernel
theorem dX6_isUnderSecureOne_116 : decode cX6_isUnderSecureOne 116 = .ok (.ifCond .eq 26, 3) := by decide +kernel
theorem dX6_isUnderSecureOne_119 : decode cX6_isUnderSecureOne 119 = .ok (.aload_n 1, 1) := by decide +kernel
theorem dX6_isUnderSecureOne_120 : decode cX6_isUnderSecureOne 120 = .ok (.getfield 40, 3) := by decide +kernel
theorem dX6_isUnderSecureOne_123 : decode cX6_isUnderSecureOne 123 = .ok (.getfield 44, 3) := by decide +kernel
theorem dX6_isUnderSecureOne_126 : decode cX6_isUnderSecureOne 126 = .ok (.aload 4, 2) := by decide +kernel
theorem dX6_isUnderSecureOne_128 : decode cX6_isUnderSecureOne 128 = .ok (.getfield 40, 3) := by decide +kernel
theorem dX6_isUnderSecureOne_131 : decode cX6_isUnderSecureOne 131 = .ok (.getfield 44, 3) := by decide +kernel
theorem dX6_isUnderSecureOne_134 : decode cX6_isUnderSecureOne 134 = .ok (.invokestatic 88, 3) := by decide +kernel
theorem dX6_isUnderSecureOne_137 : decode cX6_isUnderSecureOne 137 = .ok (.ifCond .eq 5, 3) := by decide +kernel
theorem dX6_isUnderSecureOne_140 : decode cX6_isUnderSecureOne 140 = .ok (.iconst 1, 1) := by decide +kernel
theorem dX6_isUnderSecureOne_141 : decode cX6_isUnderSecureOne 141 = .ok (.ireturn, 1) := by decide +kernel
theorem dX6_isUnderSecureOne_142 : decode cX6_isUnderSecureOne 142 = .ok (.iinc 3 1, 3) := by decide +kernel
theorem dX6_isUnderSecureOne_145 : decode cX6_isUnderSecureOne 145 = .ok (.goto (-131), 3) := by decide +kernel
theorem dX6_isUnderSecureOne_148 : decode cX6_isUnderSecureOne 148 = .ok (.iconst 0, 1) := by decide +kernel
theorem dX6_isUnderSecureOne_149 : decode cX6_isUnderSecureOne 149 = .ok (.ireturn, 1) := by decide +kernel
theorem dX6_placeOfSame_0 : decode cX6_placeOfSame 0 = .ok (.iconst 0, 1) := by decide +kernel
theorem dX6_placeOfSame_1 : decode cX6_placeOfSame 1 = .ok (.istore_n 2, 1) := by decide +kernel
theorem dX6_placeOfSame_2 : decode cX6_placeOfSame 2 = .ok (.iload_n 2, 1) := by decide +kernel
theorem dX6_placeOfSame_3 : decode cX6_placeOfSame 3 = .ok (.aload_n 0, 1) := by decide +kernel
theorem dX6_placeOfSame_4 : decode cX6_placeOfSame 4 = .ok (.getfield 12, 3) := by decide +kernel
theorem dX6_placeOfSame_7 : decode cX6_placeOfSame 7 = .ok (.invokevirtual 18, 3) := by decide +kernel
theorem dX6_placeOfSame_10 : decode cX6_placeOfSame 10 = .ok (.if_icmp .ge 29, 3) := by decide +kernel
theorem dX6_placeOfSame_13 : decode cX6_placeOfSame 13 = .ok (.aload_n 0, 1) := by decide +kernel
theorem dX6_placeOfSame_14 : decode cX6_placeOfSame 14 = .ok (.getfield 12, 3) := by decide +kernel
theorem dX6_placeOfSame_17 : decode cX6_placeOfSame 17 = .ok (.iload_n 2, 1) := by decide +kernel
theorem dX6_placeOfSame_18 : decode cX6_placeOfSame 18 = .ok (.invokevirtual 22, 3) := by decide +kernel
theorem dX6_placeOfSame_21 : decode cX6_placeOfSame 21 = .ok (.checkcast 26, 3) := by decide +kernel
theorem dX6_placeOfSame_24 : decode cX6_placeOfSame 24 = .ok (.aload_n 1, 1) := by decide +kernel
theorem dX6_placeOfSame_25 : decode cX6_placeOfSame 25 = .ok (.invokevirtual 167, 3) := by decide +kernel
theorem dX6_placeOfSame_28 : decode cX6_placeOfSame 28 = .ok (.ifCond .eq 5, 3) := by decide +kernel
theorem dX6_placeOfSame_31 : decode cX6_placeOfSame 31 = .ok (.iload_n 2, 1) := by decide +kernel
theorem dX6_placeOfSame_32 : decode cX6_placeOfSame 32 = .ok (.ireturn, 1) := by decide +kernel
theorem dX6_placeOfSame_33 : decode cX6_placeOfSame 33 = .ok (.iinc 2 1, 3) := by decide +kernel
theorem dX6_placeOfSame_36 : decode cX6_placeOfSame 36 = .ok (.goto (-34), 3) := by decide +kernel
theorem dX6_placeOfSame_39 : decode cX6_placeOfSame 39 = .ok (.iconst (-1), 1) := by decide +kernel
theorem dX6_placeOfSame_40 : decode cX6_placeOfSame 40 = .ok (.ireturn, 1) := by decide +kernel
theorem dX6_removeAt_0 : decode cX6_removeAt 0 = .ok (.iload_n 1, 1) := by decide +kernel
theorem dX6_removeAt_1 : decode cX6_removeAt 1 = .ok (.ifCond .lt 23, 3) := by decide +kernel
theorem dX6_removeAt_4 : decode cX6_removeAt 4 = .ok (.iload_n 1, 1) := by decide +kernel
theorem dX6_removeAt_5 : decode cX6_removeAt 5 = .ok (.aload_n 0, 1) := by decide +kernel
theorem dX6_removeAt_6 : decode cX6_removeAt 6 = .ok (.getfield 12, 3) := by decide +kernel
theorem dX6_removeAt_9 : decode cX6_removeAt 9 = .ok (.invokevirtual 18, 3) := by decide +kernel
theorem dX6_removeAt_12 : decode cX6_removeAt 12 = .ok (.if_icmp .ge 12, 3) := by decide +kernel
theorem dX6_removeAt_15 : decode cX6_removeAt 15 = .ok (.aload_n 0, 1) := by decide +kernel
theorem dX6_removeAt_16 : decode cX6_removeAt 16 = .ok (.getfield 12, 3) := by decide +kernel
theorem dX6_removeAt_19 : decode cX6_removeAt 19 = .ok (.iload_n 1, 1) := by decide +kernel
theorem dX6_removeAt_20 : decode cX6_removeAt 20 = .ok (.invokevirtual 32, 3) := by decide +kernel
theorem dX6_removeAt_23 : decode cX6_removeAt 23 = .ok (.pop, 1) := by decide +kernel
theorem dX6_removeAt_24 : decode cX6_removeAt 24 = .ok (.return_, 1) := by decide +kernel
theorem dX6_put_0 : decode cX6_put 0 = .ok (.aload_n 0, 1) := by decide +kernel
theorem dX6_put_1 : decode cX6_put 1 = .ok (.aload_n 1, 1) := by decide +kernel
theorem dX6_put_2 : decode cX6_put 2 = .ok (.invokevirtual 63, 3) := by decide +kernel
theorem dX6_put_5 : decode cX6_put 5 = .ok (.iload_n 2, 1) := by decide +kernel
theorem dX6_put_6 : decode cX6_put 6 = .ok (.ifCond .lt 27, 3) := by decide +kernel
theorem dX6_put_9 : decode cX6_put 9 = .ok (.iload_n 2, 1) := by decide +kernel
theorem dX6_put_10 : decode cX6_put 10 = .ok (.aload_n 0, 1) := by decide +kernel
theorem dX6_put_11 : decode cX6_put 11 = .ok (.getfield 12, 3) := by decide +kernel
theorem dX6_put_14 : decode cX6_put 14 = .ok (.invokevirtual 18, 3) := by decide +kernel
theorem dX6_put_17 : decode cX6_put 17 = .ok (.if_icmp .ge 16, 3) := by decide +kernel
theorem dX6_put_20 : decode cX6_put 20 = .ok (.aload_n 0, 1) := by decide +kernel
theorem dX6_put_21 : decode cX6_put 21 = .ok (.getfield 12, 3) := by decide +kernel
theorem dX6_put_24 : decode cX6_put 24 = .ok (.iload_n 2, 1) := by decide +kernel
theorem dX6_put_25 : decode cX6_put 25 = .ok (.aload_n 1, 1) := by decide +kernel
theorem dX6_put_26 : decode cX6_put 26 = .ok (.invokevirtual 171, 3) := by decide +kernel
theorem dX6_put_29 : decode cX6_put 29 = .ok (.pop, 1) := by decide +kernel
theorem dX6_put_30 : decode cX6_put 30 = .ok (.goto 12, 3) := by decide +kernel
theorem dX6_put_33 : decode cX6_put 33 = .ok (.aload_n 0, 1) := by decide +kernel
theorem dX6_put_34 : decode cX6_put 34 = .ok (.getfield 12, 3) := by decide +kernel
theorem dX6_put_37 : decode cX6_put 37 = .ok (.aload_n 1, 1) := by decide +kernel
theorem dX6_put_38 : decode cX6_put 38 = .ok (.invokevirtual 175, 3) := by decide +kernel
theorem dX6_put_41 : decode cX6_put 41 = .ok (.pop, 1) := by decide +kernel
theorem dX6_put_42 : decode cX6_put 42 = .ok (.return_, 1) := by decide +kernel
theorem dX6_trim_0 : decode cX6_trim 0 = .ok (.iconst 0, 1) := by decide +kernel
theorem dX6_trim_1 : decode cX6_trim 1 = .ok (.istore_n 3, 1) := by decide +kernel
theorem dX6_trim_2 : decode cX6_trim 2 = .ok (.iconst 0, 1) := by decide +kernel
theorem dX6_trim_3 : decode cX6_trim 3 = .ok (.istore 4, 2) := by decide +kernel
theorem dX6_trim_5 : decode cX6_trim 5 = .ok (.iload 4, 2) := by decide +kernel
theorem dX6_trim_7 : decode cX6_trim 7 = .ok (.aload_n 0, 1) := by decide +kernel
theorem dX6_trim_8 : decode cX6_trim 8 = .ok (.getfield 12, 3) := by decide +kernel
theorem dX6_trim_11 : decode cX6_trim 11 = .ok (.invokevirtual 18, 3) := by decide +kernel
theorem dX6_trim_14 : decode cX6_trim 14 = .ok (.if_icmp .ge 35, 3) := by decide +kernel
theorem dX6_trim_17 : decode cX6_trim 17 = .ok (.aload_n 1, 1) := by decide +kernel
theorem dX6_trim_18 : decode cX6_trim 18 = .ok (.ifnull 22, 3) := by decide +kernel
theorem dX6_trim_21 : decode cX6_trim 21 = .ok (.aload_n 0, 1) := by decide +kernel
theorem dX6_trim_22 : decode cX6_trim 22 = .ok (.getfield 12, 3) := by decide +kernel
theorem dX6_trim_25 : decode cX6_trim 25 = .ok (.iload 4, 2) := by decide +kernel
theorem dX6_trim_27 : decode cX6_trim 27 = .ok (.invokevirtual 22, 3) := by decide +kernel
theorem dX6_trim_30 : decode cX6_trim 30 = .ok (.checkcast 26, 3) := by decide +kernel
theorem dX6_trim_33 : decode cX6_trim 33 = .ok (.aload_n 1, 1) := by decide +kernel
theorem dX6_trim_34 : decode cX6_trim 34 = .ok (.invokevirtual 179, 3) := by decide +kernel
theorem dX6_trim_37 : decode cX6_trim 37 = .ok (.ifCond .eq 6, 3) := by decide +kernel
theorem dX6_trim_40 : decode cX6_trim 40 = .ok (.iinc 3 1, 3) := by decide +kernel
theorem dX6_trim_43 : decode cX6_trim 43 = .ok (.iinc 4 1, 3) := by decide +kernel
theorem dX6_trim_46 : decode cX6_trim 46 = .ok (.goto (-41), 3) := by decide +kernel
theorem dX6_trim_49 : decode cX6_trim 49 = .ok (.iload_n 3, 1) := by decide +kernel
theorem dX6_trim_50 : decode cX6_trim 50 = .ok (.iload_n 2, 1) := by decide +kernel
theorem dX6_trim_51 : decode cX6_trim 51 = .ok (.if_icmp .le 18, 3) := by decide +kernel
theorem dX6_trim_54 : decode cX6_trim 54 = .ok (.aload_n 0, 1) := by decide +kernel
theorem dX6_trim_55 : decode cX6_trim 55 = .ok (.aload_n 0, 1) := by decide +kernel
theorem dX6_trim_56 : decode cX6_trim 56 = .ok (.aload_n 1, 1) := by decide +kernel
theorem dX6_trim_57 : decode cX6_trim 57 = .ok (.invokevirtual 182, 3) := by decide +kernel
theorem dX6_trim_60 : decode cX6_trim 60 = .ok (.invokevirtual 147, 3) := by decide +kernel
theorem dX6_trim_63 : decode cX6_trim 63 = .ok (.iinc 3 (-1), 3) := by decide +kernel
theorem dX6_trim_66 : decode cX6_trim 66 = .ok (.goto (-17), 3) := by decide +kernel
theorem dX6_trim_69 : decode cX6_trim 69 = .ok (.return_, 1) := by decide +kernel
theorem dX6_placeToGo_0 : decode cX6_placeToGo 0 = .ok (.iconst (-1), 1) := by decide +kernel
theorem dX6_placeToGo_1 : decode cX6_placeToGo 1 = .ok (.istore_n 2, 1) := by decide +kernel
theorem dX6_placeToGo_2 : decode cX6_placeToGo 2 = .ok (.aconst_null, 1) := by decide +kernel
theorem dX6_placeToGo_3 : decode cX6_placeToGo 3 = .ok (.astore_n 3, 1) := by decide +kernel
theorem dX6_placeToGo_4 : decode cX6_placeToGo 4 = .ok (.iconst 0, 1) := by decide +kernel
theorem dX6_placeToGo_5 : decode cX6_placeToGo 5 = .ok (.istore 4, 2) := by decide +kernel
theorem dX6_placeToGo_7 : decode cX6_placeToGo 7 = .ok (.iload 4, 2) := by decide +kernel
theorem dX6_placeToGo_9 : decode cX6_placeToGo 9 = .ok (.aload_n 0, 1) := by decide +kernel
theorem dX6_placeToGo_10 : decode cX6_placeToGo 10 = .ok (.getfield 12, 3) := by decide +kernel
theorem dX6_placeToGo_13 : decode cX6_placeToGo 13 = .ok (.invokevirtual 18, 3) := by decide +kernel
theorem dX6_placeToGo_16 : decode cX6_placeToGo 16 = .ok (.if_icmp .ge 67, 3) := by decide +kernel
theorem dX6_placeToGo_19 : decode cX6_placeToGo 19 = .ok (.aload_n 0, 1) := by decide +kernel
theorem dX6_placeToGo_20 : decode cX6_placeToGo 20 = .ok (.getfield 12, 3) := by decide +kernel
theorem dX6_placeToGo_23 : decode cX6_placeToGo 23 = .ok (.iload 4, 2) := by decide +kernel
theorem dX6_placeToGo_25 : decode cX6_placeToGo 25 = .ok (.invokevirtual 22, 3) := by decide +kernel
theorem dX6_placeToGo_28 : decode cX6_placeToGo 28 = .ok (.checkcast 26, 3) := by decide +kernel
theorem dX6_placeToGo_31 : decode cX6_placeToGo 31 = .ok (.astore 5, 2) := by decide +kernel
theorem dX6_placeToGo_33 : decode cX6_placeToGo 33 = .ok (.aload_n 1, 1) := by decide +kernel
theorem dX6_placeToGo_34 : decode cX6_placeToGo 34 = .ok (.ifnull 12, 3) := by decide +kernel
theorem dX6_placeToGo_37 : decode cX6_placeToGo 37 = .ok (.aload 5, 2) := by decide +kernel
theorem dX6_placeToGo_39 : decode cX6_placeToGo 39 = .ok (.aload_n 1, 1) := by decide +kernel
theorem dX6_placeToGo_40 : decode cX6_placeToGo 40 = .ok (.invokevirtual 179, 3) := by decide +kernel
theorem dX6_placeToGo_43 : decode cX6_placeToGo 43 = .ok (.ifCond .eq 7, 3) := by decide +kernel
theorem dX6_placeToGo_46 : decode cX6_placeToGo 46 = .ok (.iconst 1, 1) := by decide +kernel
theorem dX6_placeToGo_47 : decode cX6_placeToGo 47 = .ok (.goto 4, 3) := by decide +kernel
theorem dX6_placeToGo_50 : decode cX6_placeToGo 50 = .ok (.iconst 0, 1) := by decide +kernel
theorem dX6_placeToGo_51 : decode cX6_placeToGo 51 = .ok (.istore 6, 2) := by decide +kernel
theorem dX6_placeToGo_53 : decode cX6_placeToGo 53 = .ok (.iload 6, 2) := by decide +kernel
theorem dX6_placeToGo_55 : decode cX6_placeToGo 55 = .ok (.ifCond .eq 22, 3) := by decide +kernel
theorem dX6_placeToGo_58 : decode cX6_placeToGo 58 = .ok (.aload_n 3, 1) := by decide +kernel
theorem dX6_placeToGo_59 : decode cX6_placeToGo 59 = .ok (.ifnull 12, 3) := by decide +kernel
theorem dX6_placeToGo_62 : decode cX6_placeToGo 62 = .ok (.aload 5, 2) := by decide +kernel
theorem dX6_placeToGo_64 : decode cX6_placeToGo 64 = .ok (.aload_n 3, 1) := by decide +kernel
theorem dX6_placeToGo_65 : decode cX6_placeToGo 65 = .ok (.invokevirtual 185, 3) := by decide +kernel
theorem dX6_placeToGo_68 : decode cX6_placeToGo 68 = .ok (.ifCond .eq 9, 3) := by decide +kernel
theorem dX6_placeToGo_71 : decode cX6_placeToGo 71 = .ok (.iload 4, 2) := by decide +kernel
theorem dX6_placeToGo_73 : decode cX6_placeToGo 73 = .ok (.istore_n 2, 1) := by decide +kernel
theorem dX6_placeToGo_74 : decode cX6_placeToGo 74 = .ok (.aload 5, 2) := by decide +kernel
theorem dX6_placeToGo_76 : decode cX6_placeToGo 76 = .ok (.astore_n 3, 1) := by decide +kernel
theorem dX6_placeToGo_77 : decode cX6_placeToGo 77 = .ok (.iinc 4 1, 3) := by decide +kernel
theorem dX6_placeToGo_80 : decode cX6_placeToGo 80 = .ok (.goto (-73), 3) := by decide +kernel
theorem dX6_placeToGo_83 : decode cX6_placeToGo 83 = .ok (.iload_n 2, 1) := by decide +kernel
theorem dX6_placeToGo_84 : decode cX6_placeToGo 84 = .ok (.ireturn, 1) := by decide +kernel
theorem dX7_init_0 : decode cX7_init 0 = .ok (.aload_n 0, 1) := by decide +kernel
theorem dX7_init_1 : decode cX7_init 1 = .ok (.invokespecial 3, 3) := by decide +kernel
theorem dX7_init_4 : decode cX7_init 4 = .ok (.aload_n 0, 1) := by decide +kernel
theorem dX7_init_5 : decode cX7_init 5 = .ok (.aload_n 1, 1) := by decide +kernel
theorem dX7_init_6 : decode cX7_init 6 = .ok (.putfield 9, 3) := by decide +kernel
theorem dX7_init_9 : decode cX7_init 9 = .ok (.aload_n 0, 1) := by decide +kernel
theorem dX7_init_10 : decode cX7_init 10 = .ok (.aload_n 2, 1) := by decide +kernel
theorem dX7_init_11 : decode cX7_init 11 = .ok (.putfield 15, 3) := by decide +kernel
theorem dX7_init_14 : decode cX7_init 14 = .ok (.aload_n 0, 1) := by decide +kernel
theorem dX7_init_15 : decode cX7_init 15 = .ok (.iload_n 3, 1) := by decide +kernel
theorem dX7_init_16 : decode cX7_init 16 = .ok (.putfield 19, 3) := by decide +kernel
theorem dX7_init_19 : decode cX7_init 19 = .ok (.return_, 1) := by decide +kernel
theorem dX7_top_0 : decode cX7_top 0 = .ok (.aload_n 0, 1) := by decide +kernel
theorem dX7_top_1 : decode cX7_top 1 = .ok (.astore_n 1, 1) := by decide +kernel
theorem dX7_top_2 : decode cX7_top 2 = .ok (.aload_n 1, 1) := by decide +kernel
theorem dX7_top_3 : decode cX7_top 3 = .ok (.getfield 15, 3) := by decide +kernel
theorem dX7_top_6 : decode cX7_top 6 = .ok (.ifnull 11, 3) := by decide +kernel
theorem dX7_top_9 : decode cX7_top 9 = .ok (.aload_n 1, 1) := by decide +kernel
theorem dX7_top_10 : decode cX7_top 10 = .ok (.getfield 15, 3) := by decide +kernel
theorem dX7_top_13 : decode cX7_top 13 = .ok (.astore_n 1, 1) := by decide +kernel
theorem dX7_top_14 : decode cX7_top 14 = .ok (.goto (-12), 3) := by decide +kernel
theorem dX7_top_17 : decode cX7_top 17 = .ok (.aload_n 1, 1) := by decide +kernel
theorem dX7_top_18 : decode cX7_top 18 = .ok (.areturn, 1) := by decide +kernel
theorem dX7_isForeign_0 : decode cX7_isForeign 0 = .ok (.aload_n 0, 1) := by decide +kernel
theorem dX7_isForeign_1 : decode cX7_isForeign 1 = .ok (.getfield 9, 3) := by decide +kernel
theorem dX7_isForeign_4 : decode cX7_isForeign 4 = .ok (.invokevirtual 23, 3) := by decide +kernel
theorem dX7_isForeign_7 : decode cX7_isForeign 7 = .ok (.istore_n 1, 1) := by decide +kernel
theorem dX7_isForeign_8 : decode cX7_isForeign 8 = .ok (.aload_n 0, 1) := by decide +kernel
theorem dX7_isForeign_9 : decode cX7_isForeign 9 = .ok (.getfield 15, 3) := by decide +kernel
theorem dX7_isForeign_12 : decode cX7_isForeign 12 = .ok (.astore_n 2, 1) := by decide +kernel
theorem dX7_isForeign_13 : decode cX7_isForeign 13 = .ok (.aload_n 2, 1) := by decide +kernel
theorem dX7_isForeign_14 : decode cX7_isForeign 14 = .ok (.ifnull 24, 3) := by decide +kernel
theorem dX7_isForeign_17 : decode cX7_isForeign 17 = .ok (.aload_n 2, 1) := by decide +kernel
theorem dX7_isForeign_18 : decode cX7_isForeign 18 = .ok (.getfield 9, 3) := by decide +kernel
theorem dX7_isForeign_21 : decode cX7_isForeign 21 = .ok (.invokevirtual 23, 3) := by decide +kernel
theorem dX7_isForeign_24 : decode cX7_isForeign 24 = .ok (.iload_n 1, 1) := by decide +kernel
theorem dX7_isForeign_25 : decode cX7_isForeign 25 = .ok (.if_icmp .eq 5, 3) := by decide +kernel
theorem dX7_isForeign_28 : decode cX7_isForeign 28 = .ok (.iconst 1, 1) := by decide +kernel
theorem dX7_isForeign_29 : decode cX7_isForeign 29 = .ok (.ireturn, 1) := by decide +kernel
theorem dX7_isForeign_30 : decode cX7_isForeign 30 = .ok (.aload_n 2, 1) := by decide +kernel
theorem dX7_isForeign_31 : decode cX7_isForeign 31 = .ok (.getfield 15, 3) := by decide +kernel
theorem dX7_isForeign_34 : decode cX7_isForeign 34 = .ok (.astore_n 2, 1) := by decide +kernel
theorem dX7_isForeign_35 : decode cX7_isForeign 35 = .ok (.goto (-22), 3) := by decide +kernel
theorem dX7_isForeign_38 : decode cX7_isForeign 38 = .ok (.iconst 0, 1) := by decide +kernel
theorem dX7_isForeign_39 : decode cX7_isForeign 39 = .ok (.ireturn, 1) := by decide +kernel
theorem dX7_referrerTo_0 : decode cX7_referrerTo 0 = .ok (.aload_n 0, 1) := by decide +kernel
theorem dX7_referrerTo_1 : decode cX7_referrerTo 1 = .ok (.getfield 9, 3) := by decide +kernel
theorem dX7_referrerTo_4 : decode cX7_referrerTo 4 = .ok (.invokevirtual 29, 3) := by decide +kernel
theorem dX7_referrerTo_7 : decode cX7_referrerTo 7 = .ok (.aload_n 1, 1) := by decide +kernel
theorem dX7_referrerTo_8 : decode cX7_referrerTo 8 = .ok (.invokevirtual 29, 3) := by decide +kernel
theorem dX7_referrerTo_11 : decode cX7_referrerTo 11 = .ok (.if_icmp .ne 7, 3) := by decide +kernel
theorem dX7_referrerTo_14 : decode cX7_referrerTo 14 = .ok (.iconst 1, 1) := by decide +kernel
theorem dX7_referrerTo_15 : decode cX7_referrerTo 15 = .ok (.goto 4, 3) := by decide +kernel
theorem dX7_referrerTo_18 : decode cX7_referrerTo 18 = .ok (.iconst 0, 1) := by decide +kernel
theorem dX7_referrerTo_19 : decode cX7_referrerTo 19 = .ok (.istore_n 2, 1) := by decide +kernel
theorem dX7_referrerTo_20 : decode cX7_referrerTo 20 = .ok (.aload_n 0, 1) := by decide +kernel
theorem dX7_referrerTo_21 : decode cX7_referrerTo 21 = .ok (.getfield 19, 3) := by decide +kernel
theorem dX7_referrerTo_24 : decode cX7_referrerTo 24 = .ok (.tableswitch 76 1 4 #[32, 34, 44, 74], 32) := by decide +kernel
theorem dX7_referrerTo_56 : decode cX7_referrerTo 56 = .ok (.iconst 1, 1) := by decide +kernel
theorem dX7_referrerTo_57 : decode cX7_referrerTo 57 = .ok (.ireturn, 1) := by decide +kernel
theorem dX7_referrerTo_58 : decode cX7_referrerTo 58 = .ok (.iload_n 2, 1) := by decide +kernel
theorem dX7_referrerTo_59 : decode cX7_referrerTo 59 = .ok (.ifCond .eq 7, 3) := by decide +kernel
theorem dX7_referrerTo_62 : decode cX7_referrerTo 62 = .ok (.iconst 2, 1) := by decide +kernel
theorem dX7_referrerTo_63 : decode cX7_referrerTo 63 = .ok (.goto 4, 3) := by decide +kernel
theorem dX7_referrerTo_66 : decode cX7_referrerTo 66 = .ok (.iconst 0, 1) := by decide +kernel
theorem dX7_referrerTo_67 : decode cX7_referrerTo 67 = .ok (.ireturn, 1) := by decide +kernel
theorem dX7_referrerTo_68 : decode cX7_referrerTo 68 = .ok (.iload_n 2, 1) := by decide +kernel
theorem dX7_referrerTo_69 : decode cX7_referrerTo 69 = .ok (.ifCond .eq 5, 3) := by decide +kernel
theorem dX7_referrerTo_72 : decode cX7_referrerTo 72 = .ok (.iconst 2, 1) := by decide +kernel
theorem dX7_referrerTo_73 : decode cX7_referrerTo 73 = .ok (.ireturn, 1) := by decide +kernel
theorem dX7_referrerTo_74 : decode cX7_referrerTo 74 = .ok (.aload_n 0, 1) := by decide +kernel
theorem dX7_referrerTo_75 : decode cX7_referrerTo 75 = .ok (.getfield 9, 3) := by decide +kernel
theorem dX7_referrerTo_78 : decode cX7_referrerTo 78 = .ok (.getfield 32, 3) := by decide +kernel
theorem dX7_referrerTo_81 : decode cX7_referrerTo 81 = .ok (.iconst 1, 1) := by decide +kernel
theorem dX7_referrerTo_82 : decode cX7_referrerTo 82 = .ok (.if_icmp .ne 14, 3) := by decide +kernel
theorem dX7_referrerTo_85 : decode cX7_referrerTo 85 = .ok (.aload_n 1, 1) := by decide +kernel
theorem dX7_referrerTo_86 : decode cX7_referrerTo 86 = .ok (.getfield 32, 3) := by decide +kernel
theorem dX7_referrerTo_89 : decode cX7_referrerTo 89 = .ok (.ifCond .ne 7, 3) := by decide +kernel
theorem dX7_referrerTo_92 : decode cX7_referrerTo 92 = .ok (.iconst 0, 1) := by decide +kernel
theorem dX7_referrerTo_93 : decode cX7_referrerTo 93 = .ok (.goto 4, 3) := by decide +kernel
theorem dX7_referrerTo_96 : decode cX7_referrerTo 96 = .ok (.iconst 1, 1) := by decide +kernel
theorem dX7_referrerTo_97 : decode cX7_referrerTo 97 = .ok (.ireturn, 1) := by decide +kernel
theorem dX7_referrerTo_98 : decode cX7_referrerTo 98 = .ok (.iconst 2, 1) := by decide +kernel
theorem dX7_referrerTo_99 : decode cX7_referrerTo 99 = .ok (.ireturn, 1) := by decide +kernel
theorem dX7_referrerTo_100 : decode cX7_referrerTo 100 = .ok (.iconst 0, 1) := by decide +kernel
theorem dX7_referrerTo_101 : decode cX7_referrerTo 101 = .ok (.ireturn, 1) := by decide +kernel
theorem dX8_init_0 : decode cX8_init 0 = .ok (.aload_n 0, 1) := by decide +kernel
theorem dX8_init_1 : decode cX8_init 1 = .ok (.invokespecial 3, 3) := by decide +kernel
theorem dX8_init_4 : decode cX8_init 4 = .ok (.aload_n 0, 1) := by decide +kernel
theorem dX8_init_5 : decode cX8_init 5 = .ok (.new 9, 3) := by decide +kernel
theorem dX8_init_8 : decode cX8_init 8 = .ok (.dup, 1) := by decide +kernel
theorem dX8_init_9 : decode cX8_init 9 = .ok (.invokespecial 11, 3) := by decide +kernel
theorem dX8_init_12 : decode cX8_init 12 = .ok (.putfield 12, 3) := by decide +kernel
theorem dX8_init_15 : decode cX8_init 15 = .ok (.return_, 1) := by decide +kernel
theorem dX8_use_0 : decode cX8_use 0 = .ok (.aload_n 0, 1) := by decide +kernel
theorem dX8_use_1 : decode cX8_use 1 = .ok (.aload_n 1, 1) := by decide +kernel
theorem dX8_use_2 : decode cX8_use 2 = .ok (.invokevirtual 18, 3) := by decide +kernel
theorem dX8_use_5 : decode cX8_use 5 = .ok (.iload_n 2, 1) := by decide +kernel
theorem dX8_use_6 : decode cX8_use 6 = .ok (.iload_n 3, 1) := by decide +kernel
theorem dX8_use_7 : decode cX8_use 7 = .ok (.invokevirtual 24, 3) := by decide +kernel
theorem dX8_use_10 : decode cX8_use 10 = .ok (.istore 5, 2) := by decide +kernel
theorem dX8_use_12 : decode cX8_use 12 = .ok (.aconst_null, 1) := by decide +kernel
theorem dX8_use_13 : decode cX8_use 13 = .ok (.astore 6, 2) := by decide +kernel
theorem dX8_use_15 : decode cX8_use 15 = .ok (.iload 5, 2) := by decide +kernel
theorem dX8_use_17 : decode cX8_use 17 = .ok (.ifCond .lt 29, 3) := by decide +kernel
theorem dX8_use_20 : decode cX8_use 20 = .ok (.iload 5, 2) := by decide +kernel
theorem dX8_use_22 : decode cX8_use 22 = .ok (.aload_n 0, 1) := by decide +kernel
theorem dX8_use_23 : decode cX8_use 23 = .ok (.getfield 12, 3) := by decide +kernel
theorem dX8_use_26 : decode cX8_use 26 = .ok (.invokevirtual 28, 3) := by decide +kernel
theorem dX8_use_29 : decode cX8_use 29 = .ok (.if_icmp .ge 17, 3) := by decide +kernel
theorem dX8_use_32 : decode cX8_use 32 = .ok (.aload_n 0, 1) := by decide +kernel
theorem dX8_use_33 : decode cX8_use 33 = .ok (.getfield 12, 3) := by decide +kernel
theorem dX8_use_36 : decode cX8_use 36 = .ok (.iload 5, 2) := by decide +kernel
theorem dX8_use_38 : decode cX8_use 38 = .ok (.invokevirtual 31, 3) := by decide +kernel
theorem dX8_use_41 : decode cX8_use 41 = .ok (.checkcast 35, 3) := by decide +kernel
theorem dX8_use_44 : decode cX8_use 44 = .ok (.astore 6, 2) := by decide +kernel
theorem dX8_use_46 : decode cX8_use 46 = .ok (.aload 6, 2) := by decide +kernel
theorem dX8_use_48 : decode cX8_use 48 = .ok (.ifnull 16, 3) := by decide +kernel
theorem dX8_use_51 : decode cX8_use 51 = .ok (.iload 4, 2) := by decide +kernel
theorem dX8_use_53 : decode cX8_use 53 = .ok (.aload 6, 2) := by decide +kernel
theorem dX8_use_55 : decode cX8_use 55 = .ok (.getfield 37, 3) := by decide +kernel
theorem dX8_use_58 : decode cX8_use 58 = .ok (.isub, 1) := by decide +kernel
theorem dX8_use_59 : decode cX8_use 59 = .ok (.bipush 20, 2) := by decide +kernel
theorem dX8_use_61 : decode cX8_use 61 = .ok (.if_icmp .le 28, 3) := by decide +kernel
theorem dX8_use_64 : decode cX8_use 64 = .ok (.new 35, 3) := by decide +kernel
theorem dX8_use_67 : decode cX8_use 67 = .ok (.dup, 1) := by decide +kernel
theorem dX8_use_68 : decode cX8_use 68 = .ok (.aload_n 1, 1) := by decide +kernel
theorem dX8_use_69 : decode cX8_use 69 = .ok (.invokevirtual 18, 3) := by decide +kernel
theorem dX8_use_72 : decode cX8_use 72 = .ok (.iload_n 2, 1) := by decide +kernel
theorem dX8_use_73 : decode cX8_use 73 = .ok (.iload_n 3, 1) := by decide +kernel
theorem dX8_use_74 : decode cX8_use 74 = .ok (.invokespecial 41, 3) := by decide +kernel
theorem dX8_use_77 : decode cX8_use 77 = .ok (.astore 6, 2) := by decide +kernel
theorem dX8_use_79 : decode cX8_use 79 = .ok (.aload_n 0, 1) := by decide +kernel
theorem dX8_use_80 : decode cX8_use 80 = .ok (.dup, 1) := by decide +kernel
theorem dX8_use_81 : decode cX8_use 81 = .ok (.getfield 44, 3) := by decide +kernel
theorem dX8_use_84 : decode cX8_use 84 = .ok (.iconst 1, 1) := by decide +kernel
theorem dX8_use_85 : decode cX8_use 85 = .ok (.iadd, 1) := by decide +kernel
theorem dX8_use_86 : decode cX8_use 86 = .ok (.putfield 44, 3) := by decide +kernel
theorem dX8_use_89 : decode cX8_use 89 = .ok (.aload_n 0, 1) := by decide +kernel
theorem dX8_use_90 : decode cX8_use 90 = .ok (.getfield 12, 3) := by decide +kernel
theorem dX8_use_93 : decode cX8_use 93 = .ok (.invokevirtual 28, 3) := by decide +kernel
theorem dX8_use_96 : decode cX8_use 96 = .ok (.bipush 6, 2) := by decide +kernel
theorem dX8_use_98 : decode cX8_use 98 = .ok (.if_icmp .lt 12, 3) := by decide +kernel
theorem dX8_use_101 : decode cX8_use 101 = .ok (.aload_n 0, 1) := by decide +kernel
theorem dX8_use_102 : decode cX8_use 102 = .ok (.getfield 12, 3) := by decide +kernel
theorem dX8_use_105 : decode cX8_use 105 = .ok (.iconst 0, 1) := by decide +kernel
theorem dX8_use_106 : decode cX8_use 106 = .ok (.invokevirtual 31, 3) := by decide +kernel
theorem dX8_use_109 : decode cX8_use 109 = .ok (.pop, 1) := by decide +kernel
theorem dX8_use_110 : decode cX8_use 110 = .ok (.aload 6, 2) := by decide +kernel
theorem dX8_use_112 : decode cX8_use 112 = .ok (.iload 4, 2) := by decide +kernel
theorem dX8_use_114 : decode cX8_use 114 = .ok (.putfield 37, 3) := by decide +kernel
theorem dX8_use_117 : decode cX8_use 117 = .ok (.aload_n 0, 1) := by decide +kernel
theorem dX8_use_118 : decode cX8_use 118 = .ok (.getfield 12, 3) := by decide +kernel
theorem dX8_use_121 : decode cX8_use 121 = .ok (.aload 6, 2) := by decide +kernel
theorem dX8_use_123 : decode cX8_use 123 = .ok (.invokevirtual 47, 3) := by decide +kernel
theorem dX8_use_126 : decode cX8_use 126 = .ok (.pop, 1) := by decide +kernel
theorem dX8_use_127 : decode cX8_use 127 = .ok (.return_, 1) := by decide +kernel
theorem dX8_placeOf_0 : decode cX8_placeOf 0 = .ok (.iconst 0, 1) := by decide +kernel
theorem dX8_placeOf_1 : decode cX8_placeOf 1 = .ok (.istore 4, 2) := by decide +kernel
theorem dX8_placeOf_3 : decode cX8_placeOf 3 = .ok (.iload 4, 2) := by decide +kernel
theorem dX8_placeOf_5 : decode cX8_placeOf 5 = .ok (.aload_n 0, 1) := by decide +kernel
theorem dX8_placeOf_6 : decode cX8_placeOf 6 = .ok (.getfield 12, 3) := by decide +kernel
theorem dX8_placeOf_9 : decode cX8_placeOf 9 = .ok (.invokevirtual 28, 3) := by decide +kernel
theorem dX8_placeOf_12 : decode cX8_placeOf 12 = .ok (.if_icmp .ge 53, 3) := by decide +kernel
theorem dX8_placeOf_15 : decode cX8_placeOf 15 = .ok (.aload_n 0, 1) := by decide +kernel
theorem dX8_placeOf_16 : decode cX8_placeOf 16 = .ok (.getfield 12, 3) := by decide +kernel
theorem dX8_placeOf_19 : decode cX8_placeOf 19 = .ok (.iload 4, 2) := by decide +kernel
theorem dX8_placeOf_21 : decode cX8_placeOf 21 = .ok (.invokevirtual 51, 3) := by decide +kernel
theorem dX8_placeOf_24 : decode cX8_placeOf 24 = .ok (.checkcast 35, 3) := by decide +kernel
theorem dX8_placeOf_27 : decode cX8_placeOf 27 = .ok (.astore 5, 2) := by decide +kernel
theorem dX8_placeOf_29 : decode cX8_placeOf 29 = .ok (.aload 5, 2) := by decide +kernel
theorem dX8_placeOf_31 : decode cX8_placeOf 31 = .ok (.getfield 54, 3) := by decide +kernel
theorem dX8_placeOf_34 : decode cX8_placeOf 34 = .ok (.iload_n 1, 1) := by decide +kernel
theorem dX8_placeOf_35 : decode cX8_placeOf 35 = .ok (.if_icmp .ne 24, 3) := by decide +kernel
theorem dX8_placeOf_38 : decode cX8_placeOf 38 = .ok (.aload 5, 2) := by decide +kernel
theorem dX8_placeOf_40 : decode cX8_placeOf 40 = .ok (.getfield 56, 3) := by decide +kernel
theorem dX8_placeOf_43 : decode cX8_placeOf 43 = .ok (.iload_n 2, 1) := by decide +kernel
theorem dX8_placeOf_44 : decode cX8_placeOf 44 = .ok (.if_icmp .ne 15, 3) := by decide +kernel
theorem dX8_placeOf_47 : decode cX8_placeOf 47 = .ok (.aload 5, 2) := by decide +kernel
theorem dX8_placeOf_49 : decode cX8_placeOf 49 = .ok (.getfield 60, 3) := by decide +kernel
theorem dX8_placeOf_52 : decode cX8_placeOf 52 = .ok (.iload_n 3, 1) := by decide +kernel
theorem dX8_placeOf_53 : decode cX8_placeOf 53 = .ok (.if_icmp .ne 6, 3) := by decide +kernel
theorem dX8_placeOf_56 : decode cX8_placeOf 56 = .ok (.iload 4, 2) := by decide +kernel
theorem dX8_placeOf_58 : decode cX8_placeOf 58 = .ok (.ireturn, 1) := by decide +kernel
theorem dX8_placeOf_59 : decode cX8_placeOf 59 = .ok (.iinc 4 1, 3) := by decide +kernel
theorem dX8_placeOf_62 : decode cX8_placeOf 62 = .ok (.goto (-59), 3) := by decide +kernel
theorem dX8_placeOf_65 : decode cX8_placeOf 65 = .ok (.iconst (-1), 1) := by decide +kernel
theorem dX8_placeOf_66 : decode cX8_placeOf 66 = .ok (.ireturn, 1) := by decide +kernel
theorem dX9_init_0 : decode cX9_init 0 = .ok (.aload_n 0, 1) := by decide +kernel
theorem dX9_init_1 : decode cX9_init 1 = .ok (.invokespecial 3, 3) := by decide +kernel
theorem dX9_init_4 : decode cX9_init 4 = .ok (.aload_n 0, 1) := by decide +kernel
theorem dX9_init_5 : decode cX9_init 5 = .ok (.aload_n 2, 1) := by decide +kernel
theorem dX9_init_6 : decode cX9_init 6 = .ok (.getfield 9, 3) := by decide +kernel
theorem dX9_init_9 : decode cX9_init 9 = .ok (.ifCond .eq 8, 3) := by decide +kernel
theorem dX9_init_12 : decode cX9_init 12 = .ok (.bipush (-3), 2) := by decide +kernel
theorem dX9_init_14 : decode cX9_init 14 = .ok (.goto 13, 3) := by decide +kernel
theorem dX9_init_17 : decode cX9_init 17 = .ok (.aload_n 1, 1) := by decide +kernel
theorem dX9_init_18 : decode cX9_init 18 = .ok (.getfield 15, 3) := by decide +kernel
theorem dX9_init_21 : decode cX9_init 21 = .ok (.getfield 21, 3) := by decide +kernel
theorem dX9_init_24 : decode cX9_init 24 = .ok (.invokevirtual 27, 3) := by decide +kernel
theorem dX9_init_27 : decode cX9_init 27 = .ok (.putfield 33, 3) := by decide +kernel
theorem dX9_init_30 : decode cX9_init 30 = .ok (.aload_n 0, 1) := by decide +kernel
theorem dX9_init_31 : decode cX9_init 31 = .ok (.aload_n 2, 1) := by decide +kernel
theorem dX9_init_32 : decode cX9_init 32 = .ok (.getfield 38, 3) := by decide +kernel
theorem dX9_init_35 : decode cX9_init 35 = .ok (.putfield 39, 3) := by decide +kernel
theorem dX9_init_38 : decode cX9_init 38 = .ok (.aload_n 0, 1) := by decide +kernel
theorem dX9_init_39 : decode cX9_init 39 = .ok (.aload_n 1, 1) := by decide +kernel
theorem dX9_init_40 : decode cX9_init 40 = .ok (.getfield 40, 3) := by decide +kernel
theorem dX9_init_43 : decode cX9_init 43 = .ok (.iconst 2, 1) := by decide +kernel
theorem dX9_init_44 : decode cX9_init 44 = .ok (.if_icmp .ne 7, 3) := by decide +kernel
theorem dX9_init_47 : decode cX9_init 47 = .ok (.iconst 1, 1) := by decide +kernel
theorem dX9_init_48 : decode cX9_init 48 = .ok (.goto 4, 3) := by decide +kernel
theorem dX9_init_51 : decode cX9_init 51 = .ok (.iconst 0, 1) := by decide +kernel
theorem dX9_init_52 : decode cX9_init 52 = .ok (.putfield 43, 3) := by decide +kernel
theorem dX9_init_55 : decode cX9_init 55 = .ok (.aload_n 0, 1) := by decide +kernel
theorem dX9_init_56 : decode cX9_init 56 = .ok (.aload_n 2, 1) := by decide +kernel
theorem dX9_init_57 : decode cX9_init 57 = .ok (.getfield 46, 3) := by decide +kernel
theorem dX9_init_60 : decode cX9_init 60 = .ok (.putfield 49, 3) := by decide +kernel
theorem dX9_init_63 : decode cX9_init 63 = .ok (.aload_n 0, 1) := by decide +kernel
theorem dX9_init_64 : decode cX9_init 64 = .ok (.aload_n 2, 1) := by decide +kernel
theorem dX9_init_65 : decode cX9_init 65 = .ok (.getfield 38, 3) := by decide +kernel
theorem dX9_init_68 : decode cX9_init 68 = .ok (.getfield 50, 3) := by decide +kernel
theorem dX9_init_71 : decode cX9_init 71 = .ok (.putfield 53, 3) := by decide +kernel
theorem dX9_init_74 : decode cX9_init 74 = .ok (.aload_n 0, 1) := by decide +kernel
theorem dX9_init_75 : decode cX9_init 75 = .ok (.iload_n 3, 1) := by decide +kernel
theorem dX9_init_76 : decode cX9_init 76 = .ok (.aload_n 2, 1) := by decide +kernel
theorem dX9_init_77 : decode cX9_init 77 = .ok (.getfield 38, 3) := by decide +kernel
theorem dX9_init_80 : decode cX9_init 80 = .ok (.getfield 56, 3) := by decide +kernel
theorem dX9_init_83 : decode cX9_init 83 = .ok (.iadd, 1) := by decide +kernel
theorem dX9_init_84 : decode cX9_init 84 = .ok (.putfield 59, 3) := by decide +kernel
theorem dX9_init_87 : decode cX9_init 87 = .ok (.return_, 1) := by decide +kernel
theorem dX9_isForSame_0 : decode cX9_isForSame 0 = .ok (.aload_n 0, 1) := by decide +kernel
theorem dX9_isForSame_1 : decode cX9_isForSame 1 = .ok (.getfield 33, 3) := by decide +kernel
theorem dX9_isForSame_4 : decode cX9_isForSame 4 = .ok (.aload_n 1, 1) := by decide +kernel
theorem dX9_isForSame_5 : decode cX9_isForSame 5 = .ok (.getfield 33, 3) := by decide +kernel
theorem dX9_isForSame_8 : decode cX9_isForSame 8 = .ok (.if_icmp .ne 40, 3) := by decide +kernel
theorem dX9_isForSame_11 : decode cX9_isForSame 11 = .ok (.aload_n 0, 1) := by decide +kernel
theorem dX9_isForSame_12 : decode cX9_isForSame 12 = .ok (.getfield 39, 3) := by decide +kernel
theorem dX9_isForSame_15 : decode cX9_isForSame 15 = .ok (.aload_n 1, 1) := by decide +kernel
theorem dX9_isForSame_16 : decode cX9_isForSame 16 = .ok (.getfield 39, 3) := by decide +kernel
theorem dX9_isForSame_19 : decode cX9_isForSame 19 = .ok (.if_acmp .ne 29, 3) := by decide +kernel
theorem dX9_isForSame_22 : decode cX9_isForSame 22 = .ok (.aload_n 0, 1) := by decide +kernel
theorem dX9_isForSame_23 : decode cX9_isForSame 23 = .ok (.getfield 43, 3) := by decide +kernel
theorem dX9_isForSame_26 : decode cX9_isForSame 26 = .ok (.aload_n 1, 1) := by decide +kernel
theorem dX9_isForSame_27 : decode cX9_isForSame 27 = .ok (.getfield 43, 3) := by decide +kernel
theorem dX9_isForSame_30 : decode cX9_isForSame 30 = .ok (.if_icmp .ne 18, 3) := by decide +kernel
theorem dX9_isForSame_33 : decode cX9_isForSame 33 = .ok (.aload_n 0, 1) := by decide +kernel
theorem dX9_isForSame_34 : decode cX9_isForSame 34 = .ok (.getfield 49, 3) := by decide +kernel
theorem dX9_isForSame_37 : decode cX9_isForSame 37 = .ok (.aload_n 1, 1) := by decide +kernel
theorem dX9_isForSame_38 : decode cX9_isForSame 38 = .ok (.getfield 49, 3) := by decide +kernel
theorem dX9_isForSame_41 : decode cX9_isForSame 41 = .ok (.if_icmp .ne 7, 3) := by decide +kernel
theorem dX9_isForSame_44 : decode cX9_isForSame 44 = .ok (.iconst 1, 1) := by decide +kernel
theorem dX9_isForSame_45 : decode cX9_isForSame 45 = .ok (.goto 4, 3) := by decide +kernel
theorem dX9_isForSame_48 : decode cX9_isForSame 48 = .ok (.iconst 0, 1) := by decide +kernel
theorem dX9_isForSame_49 : decode cX9_isForSame 49 = .ok (.ireturn, 1) := by decide +kernel
theorem dX10_init_0 : decode cX10_init 0 = .ok (.aload_n 0, 1) := by decide +kernel
theorem dX10_init_1 : decode cX10_init 1 = .ok (.invokespecial 3, 3) := by decide +kernel
theorem dX10_init_4 : decode cX10_init 4 = .ok (.aload_n 0, 1) := by decide +kernel
theorem dX10_init_5 : decode cX10_init 5 = .ok (.aload_n 1, 1) := by decide +kernel
theorem dX10_init_6 : decode cX10_init 6 = .ok (.putfield 9, 3) := by decide +kernel
theorem dX10_init_9 : decode cX10_init 9 = .ok (.aload_n 0, 1) := by decide +kernel
theorem dX10_init_10 : decode cX10_init 10 = .ok (.iload_n 3, 1) := by decide +kernel
theorem dX10_init_11 : decode cX10_init 11 = .ok (.putfield 15, 3) := by decide +kernel
theorem dX10_init_14 : decode cX10_init 14 = .ok (.aload_n 0, 1) := by decide +kernel
theorem dX10_init_15 : decode cX10_init 15 = .ok (.iload 4, 2) := by decide +kernel
theorem dX10_init_17 : decode cX10_init 17 = .ok (.putfield 19, 3) := by decide +kernel
theorem dX10_init_20 : decode cX10_init 20 = .ok (.aload_n 0, 1) := by decide +kernel
theorem dX10_init_21 : decode cX10_init 21 = .ok (.iload 5, 2) := by decide +kernel
theorem dX10_init_23 : decode cX10_init 23 = .ok (.putfield 22, 3) := by decide +kernel
theorem dX10_init_26 : decode cX10_init 26 = .ok (.aload_n 0, 1) := by decide +kernel
theorem dX10_init_27 : decode cX10_init 27 = .ok (.new 26, 3) := by decide +kernel
theorem dX10_init_30 : decode cX10_init 30 = .ok (.dup, 1) := by decide +kernel
theorem dX10_init_31 : decode cX10_init 31 = .ok (.invokespecial 28, 3) := by decide +kernel
theorem dX10_init_34 : decode cX10_init 34 = .ok (.putfield 29, 3) := by decide +kernel
theorem dX10_init_37 : decode cX10_init 37 = .ok (.aload_n 0, 1) := by decide +kernel
theorem dX10_init_38 : decode cX10_init 38 = .ok (.iload_n 2, 1) := by decide +kernel
theorem dX10_init_39 : decode cX10_init 39 = .ok (.putfield 33, 3) := by decide +kernel
theorem dX10_init_42 : decode cX10_init 42 = .ok (.aload_n 0, 1) := by decide +kernel
theorem dX10_init_43 : decode cX10_init 43 = .ok (.iload_n 3, 1) := by decide +kernel
theorem dX10_init_44 : decode cX10_init 44 = .ok (.iconst 2, 1) := by decide +kernel
theorem dX10_init_45 : decode cX10_init 45 = .ok (.if_icmp .eq 14, 3) := by decide +kernel
theorem dX10_init_48 : decode cX10_init 48 = .ok (.aload_n 1, 1) := by decide +kernel
theorem dX10_init_49 : decode cX10_init 49 = .ok (.invokevirtual 36, 3) := by decide +kernel
theorem dX10_init_52 : decode cX10_init 52 = .ok (.ifCond .eq 7, 3) := by decide +kernel
theorem dX10_init_55 : decode cX10_init 55 = .ok (.iconst 1, 1) := by decide +kernel
theorem dX10_init_56 : decode cX10_init 56 = .ok (.goto 4, 3) := by decide +kernel
theorem dX10_init_59 : decode cX10_init 59 = .ok (.iconst 0, 1) := by decide +kernel
theorem dX10_init_60 : decode cX10_init 60 = .ok (.putfield 42, 3) := by decide +kernel
theorem dX10_init_63 : decode cX10_init 63 = .ok (.return_, 1) := by decide +kernel
theorem dX11_init_0 : decode cX11_init 0 = .ok (.aload_n 0, 1) := by decide +kernel
theorem dX11_init_1 : decode cX11_init 1 = .ok (.invokespecial 1, 3) := by decide +kernel
theorem dX11_init_4 : decode cX11_init 4 = .ok (.aload_n 0, 1) := by decide +kernel
theorem dX11_init_5 : decode cX11_init 5 = .ok (.new 7, 3) := by decide +kernel
theorem dX11_init_8 : decode cX11_init 8 = .ok (.dup, 1) := by decide +kernel
theorem dX11_init_9 : decode cX11_init 9 = .ok (.invokespecial 9, 3) := by decide +kernel
theorem dX11_init_12 : decode cX11_init 12 = .ok (.putfield 10, 3) := by decide +kernel
theorem dX11_init_15 : decode cX11_init 15 = .ok (.aload_n 0, 1) := by decide +kernel
theorem dX11_init_16 : decode cX11_init 16 = .ok (.new 7, 3) := by decide +kernel
theorem dX11_init_19 : decode cX11_init 19 = .ok (.dup, 1) := by decide +kernel
theorem dX11_init_20 : decode cX11_init 20 = .ok (.invokespecial 9, 3) := by decide +kernel
theorem dX11_init_23 : decode cX11_init 23 = .ok (.putfield 16, 3) := by decide +kernel
theorem dX11_init_26 : decode cX11_init 26 = .ok (.aload_n 0, 1) := by decide +kernel
theorem dX11_init_27 : decode cX11_init 27 = .ok (.new 7, 3) := by decide +kernel
theorem dX11_init_30 : decode cX11_init 30 = .ok (.dup, 1) := by decide +kernel
theorem dX11_init_31 : decode cX11_init 31 = .ok (.invokespecial 9, 3) := by decide +kernel
theorem dX11_init_34 : decode cX11_init 34 = .ok (.putfield 19, 3) := by decide +kernel
theorem dX11_init_37 : decode cX11_init 37 = .ok (.aload_n 0, 1) := by decide +kernel
theorem dX11_init_38 : decode cX11_init 38 = .ok (.new 7, 3) := by decide +kernel
theorem dX11_init_41 : decode cX11_init 41 = .ok (.dup, 1) := by decide +kernel
theorem dX11_init_42 : decode cX11_init 42 = .ok (.invokespecial 9, 3) := by decide +kernel
theorem dX11_init_45 : decode cX11_init 45 = .ok (.putfield 22, 3) := by decide +kernel
theorem dX11_init_48 : decode cX11_init 48 = .ok (.aload_n 0, 1) := by decide +kernel
theorem dX11_init_49 : decode cX11_init 49 = .ok (.new 7, 3) := by decide +kernel
theorem dX11_init_52 : decode cX11_init 52 = .ok (.dup, 1) := by decide +kernel
theorem dX11_init_53 : decode cX11_init 53 = .ok (.invokespecial 9, 3) := by decide +kernel
theorem dX11_init_56 : decode cX11_init 56 = .ok (.putfield 25, 3) := by decide +kernel
theorem dX11_init_59 : decode cX11_init 59 = .ok (.aload_n 0, 1) := by decide +kernel
theorem dX11_init_60 : decode cX11_init 60 = .ok (.new 28, 3) := by decide +kernel
theorem dX11_init_63 : decode cX11_init 63 = .ok (.dup, 1) := by decide +kernel
theorem dX11_init_64 : decode cX11_init 64 = .ok (.invokespecial 30, 3) := by decide +kernel
theorem dX11_init_67 : decode cX11_init 67 = .ok (.putfield 31, 3) := by decide +kernel
theorem dX11_init_70 : decode cX11_init 70 = .ok (.aload_n 0, 1) := by decide +kernel
theorem dX11_init_71 : decode cX11_init 71 = .ok (.new 35, 3) := by decide +kernel
theorem dX11_init_74 : decode cX11_init 74 = .ok (.dup, 1) := by decide +kernel
theorem dX11_init_75 : decode cX11_init 75 = .ok (.invokespecial 37, 3) := by decide +kernel
theorem dX11_init_78 : decode cX11_init 78 = .ok (.putfield 38, 3) := by decide +kernel
theorem dX11_init_81 : decode cX11_init 81 = .ok (.return_, 1) := by decide +kernel
theorem dX11_host_0 : decode cX11_host 0 = .ok (.iload_n 1, 1) := by decide +kernel
theorem dX11_host_1 : decode cX11_host 1 = .ok (.iconst (-1), 1) := by decide +kernel
theorem dX11_host_2 : decode cX11_host 2 = .ok (.if_icmp .ne 7, 3) := by decide +kernel
theorem dX11_host_5 : decode cX11_host 5 = .ok (.aconst_null, 1) := by decide +kernel
theorem dX11_host_6 : decode cX11_host 6 = .ok (.goto 8, 3) := by decide +kernel
theorem dX11_host_9 : decode cX11_host 9 = .ok (.aload_n 0, 1) := by decide +kernel
theorem dX11_host_10 : decode cX11_host 10 = .ok (.iload_n 1, 1) := by decide +kernel
theorem dX11_host_11 : decode cX11_host 11 = .ok (.invokevirtual 42, 3) := by decide +kernel
theorem dX11_host_14 : decode cX11_host 14 = .ok (.astore 4, 2) := by decide +kernel
theorem dX11_host_16 : decode cX11_host 16 = .ok (.iload_n 2, 1) := by decide +kernel
theorem dX11_host_17 : decode cX11_host 17 = .ok (.ifCond .lt 10, 3) := by decide +kernel
theorem dX11_host_20 : decode cX11_host 20 = .ok (.iload_n 2, 1) := by decide +kernel
theorem dX11_host_21 : decode cX11_host 21 = .ok (.sipush 701, 3) := by decide +kernel
theorem dX11_host_24 : decode cX11_host 24 = .ok (.if_icmp .le 13, 3) := by decide +kernel
theorem dX11_host_27 : decode cX11_host 27 = .ok (.new 46, 3) := by decide +kernel
theorem dX11_host_30 : decode cX11_host 30 = .ok (.dup, 1) := by decide +kernel
theorem dX11_host_31 : decode cX11_host 31 = .ok (.ldc 48, 2) := by decide +kernel
theorem dX11_host_33 : decode cX11_host 33 = .ok (.invokespecial 50, 3) := by decide +kernel
theorem dX11_host_36 : decode cX11_host 36 = .ok (.athrow, 1) := by decide +kernel
theorem dX11_host_37 : decode cX11_host 37 = .ok (.aload_n 0, 1) := by decide +kernel
theorem dX11_host_38 : decode cX11_host 38 = .ok (.aload 4, 2) := by decide +kernel
theorem dX11_host_40 : decode cX11_host 40 = .ok (.iload_n 2, 1) := by decide +kernel
theorem dX11_host_41 : decode cX11_host 41 = .ok (.invokevirtual 53, 3) := by decide +kernel
theorem dX11_host_44 : decode cX11_host 44 = .ok (.astore 5, 2) := by decide +kernel
theorem dX11_host_46 : decode cX11_host 46 = .ok (.aload 5, 2) := by decide +kernel
theorem dX11_host_48 : decode cX11_host 48 = .ok (.ifnull 9, 3) := by decide +kernel
theorem dX11_host_51 : decode cX11_host 51 = .ok (.aload 5, 2) := by decide +kernel
theorem dX11_host_53 : decode cX11_host 53 = .ok (.getfield 57, 3) := by decide +kernel
theorem dX11_host_56 : decode cX11_host 56 = .ok (.ireturn, 1) := by decide +kernel
theorem dX11_host_57 : decode cX11_host 57 = .ok (.aload 4, 2) := by decide +kernel
theorem dX11_host_59 : decode cX11_host 59 = .ok (.ifnonnull 7, 3) := by decide +kernel
theorem dX11_host_62 : decode cX11_host 62 = .ok (.iconst 0, 1) := by decide +kernel
theorem dX11_host_63 : decode cX11_host 63 = .ok (.goto 10, 3) := by decide +kernel
theorem dX11_host_66 : decode cX11_host 66 = .ok (.aload 4, 2) := by decide +kernel
theorem dX11_host_68 : decode cX11_host 68 = .ok (.getfield 63, 3) := by decide +kernel
theorem dX11_host_71 : decode cX11_host 71 = .ok (.iconst 1, 1) := by decide +kernel
theorem dX11_host_72 : decode cX11_host 72 = .ok (.iadd, 1) := by decide +kernel
theorem dX11_host_73 : decode cX11_host 73 = .ok (.istore 6, 2) := by decide +kernel
theorem dX11_host_75 : decode cX11_host 75 = .ok (.aload_n 0, 1) := by decide +kernel
theorem dX11_host_76 : decode cX11_host 76 = .ok (.getfield 10, 3) := by decide +kernel
theorem dX11_host_79 : decode cX11_host 79 = .ok (.invokevirtual 66, 3) := by decide +kernel
theorem dX11_host_82 : decode cX11_host 82 = .ok (.bipush 16, 2) := by decide +kernel
theorem dX11_host_84 : decode cX11_host 84 = .ok (.if_icmp .ge 9, 3) := by decide +kernel
theorem dX11_host_87 : decode cX11_host 87 = .ok (.iload 6, 2) := by decide +kernel
theorem dX11_host_89 : decode cX11_host 89 = .ok (.iconst 3, 1) := by decide +kernel
theorem dX11_host_90 : decode cX11_host 90 = .ok (.if_icmp .le 13, 3) := by decide +kernel
theorem dX11_host_93 : decode cX11_host 93 = .ok (.new 70, 3) := by decide +kernel
theorem dX11_host_96 : decode cX11_host 96 = .ok (.dup, 1) := by decide +kernel
theorem dX11_host_97 : decode cX11_host 97 = .ok (.ldc 72, 2) := by decide +kernel
theorem dX11_host_99 : decode cX11_host 99 = .ok (.invokespecial 74, 3) := by decide +kernel
theorem dX11_host_102 : decode cX11_host 102 = .ok (.athrow, 1) := by decide +kernel
theorem dX11_host_103 : decode cX11_host 103 = .ok (.new 58, 3) := by decide +kernel
theorem dX11_host_106 : decode cX11_host 106 = .ok (.dup, 1) := by decide +kernel
theorem dX11_host_107 : decode cX11_host 107 = .ok (.aload_n 0, 1) := by decide +kernel
theorem dX11_host_108 : decode cX11_host 108 = .ok (.getfield 10, 3) := by decide +kernel
theorem dX11_host_111 : decode cX11_host 111 = .ok (.invokevirtual 66, 3) := by decide +kernel
theorem dX11_host_114 : decode cX11_host 114 = .ok (.aload 4, 2) := by decide +kernel
theorem dX11_host_116 : decode cX11_host 116 = .ok (.iload_n 2, 1) := by decide +kernel
theorem dX11_host_117 : decode cX11_host 117 = .ok (.iload 6, 2) := by decide +kernel
theorem dX11_host_119 : decode cX11_host 119 = .ok (.invokespecial 75, 3) := by decide +kernel
theorem dX11_host_122 : decode cX11_host 122 = .ok (.astore 7, 2) := by decide +kernel
theorem dX11_host_124 : decode cX11_host 124 = .ok (.aload_n 0, 1) := by decide +kernel
theorem dX11_host_125 : decode cX11_host 125 = .ok (.getfield 10, 3) := by decide +kernel
theorem dX11_host_128 : decode cX11_host 128 = .ok (.aload 7, 2) := by decide +kernel
theorem dX11_host_130 : decode cX11_host 130 = .ok (.invokevirtual 78, 3) := by decide +kernel
theorem dX11_host_133 : decode cX11_host 133 = .ok (.pop, 1) := by decide +kernel
theorem dX11_host_134 : decode cX11_host 134 = .ok (.aload 7, 2) := by decide +kernel
theorem dX11_host_136 : decode cX11_host 136 = .ok (.getfield 57, 3) := by decide +kernel
theorem dX11_host_139 : decode cX11_host 139 = .ok (.ireturn, 1) := by decide +kernel
theorem dX11_toggleSuffix_0 : decode cX11_toggleSuffix 0 = .ok (.aload_n 0, 1) := by decide +kernel
theorem dX11_toggleSuffix_1 : decode cX11_toggleSuffix 1 = .ok (.iload_n 1, 1) := by decide +kernel
theorem dX11_toggleSuffix_2 : decode cX11_toggleSuffix 2 = .ok (.invokevirtual 42, 3) := by decide +kernel
theorem dX11_toggleSuffix_5 : decode cX11_toggleSuffix 5 = .ok (.astore_n 2, 1) := by decide +kernel
theorem dX11_toggleSuffix_6 : decode cX11_toggleSuffix 6 = .ok (.aload_n 2, 1) := by decide +kernel
theorem dX11_toggleSuffix_7 : decode cX11_toggleSuffix 7 = .ok (.aload_n 2, 1) := by decide +kernel
theorem dX11_toggleSuffix_8 : decode cX11_toggleSuffix 8 = .ok (.getfield 82, 3) := by decide +kernel
theorem dX11_toggleSuffix_11 : decode cX11_toggleSuffix 11 = .ok (.ifCond .ne 7, 3) := by decide +kernel
theorem dX11_toggleSuffix_14 : decode cX11_toggleSuffix 14 = .ok (.iconst 1, 1) := by decide +kernel
theorem dX11_toggleSuffix_15 : decode cX11_toggleSuffix 15 = .ok (.goto 4, 3) := by decide +kernel
theorem dX11_toggleSuffix_18 : decode cX11_toggleSuffix 18 = .ok (.iconst 0, 1) := by decide +kernel
theorem dX11_toggleSuffix_19 : decode cX11_toggleSuffix 19 = .ok (.putfield 82, 3) := by decide +kernel
theorem dX11_toggleSuffix_22 : decode cX11_toggleSuffix 22 = .ok (.aload_n 2, 1) := by decide +kernel
theorem dX11_toggleSuffix_23 : decode cX11_toggleSuffix 23 = .ok (.getfield 82, 3) := by decide +kernel
theorem dX11_toggleSuffix_26 : decode cX11_toggleSuffix 26 = .ok (.ireturn, 1) := by decide +kernel
theorem dX11_site_0 : decode cX11_site 0 = .ok (.aload_n 0, 1) := by decide +kernel
theorem dX11_site_1 : decode cX11_site 1 = .ok (.iload_n 1, 1) := by decide +kernel
theorem dX11_site_2 : decode cX11_site 2 = .ok (.invokevirtual 42, 3) := by decide +kernel
theorem dX11_site_5 : decode cX11_site 5 = .ok (.invokevirtual 86, 3) := by decide +kernel
theorem dX11_site_8 : decode cX11_site 8 = .ok (.getfield 57, 3) := by decide +kernel
theorem dX11_site_11 : decode cX11_site 11 = .ok (.ireturn, 1) := by decide +kernel
theorem dX11_address_0 : decode cX11_address 0 = .ok (.aload_n 0, 1) := by decide +kernel
theorem dX11_address_1 : decode cX11_address 1 = .ok (.iload_n 2, 1) := by decide +kernel
theorem dX11_address_2 : decode cX11_address 2 = .ok (.invokevirtual 42, 3) := by decide +kernel
theorem dX11_address_5 : decode cX11_address 5 = .ok (.astore 5, 2) := by decide +kernel
theorem dX11_address_7 : decode cX11_address 7 = .ok (.iload_n 1, 1) := by decide +kernel
theorem dX11_address_8 : decode cX11_address 8 = .ok (.ifCond .lt 27, 3) := by decide +kernel
theorem dX11_address_11 : decode cX11_address 11 = .ok (.iload_n 1, 1) := by decide +kernel
theorem dX11_address_12 : decode cX11_address 12 = .ok (.iconst 1, 1) := by decide +kernel
theorem dX11_address_13 : decode cX11_address 13 = .ok (.if_icmp .gt 22, 3) := by decide +kernel
theorem dX11_address_16 : decode cX11_address 16 = .ok (.iload_n 3, 1) := by decide +kernel
theorem dX11_address_17 : decode cX11_address 17 = .ok (.ifCond .lt 18, 3) := by decide +kernel
theorem dX11_address_20 : decode cX11_address 20 = .ok (.iload_n 3, 1) := by decide +kernel
theorem dX11_address_21 : decode cX11_address 21 = .ok (.sipush 9999, 3) := by decide +kernel
theorem dX11_address_24 : decode cX11_address 24 = .ok (.if_icmp .gt 11, 3) := by decide +kernel
theorem dX11_address_27 : decode cX11_address 27 = .ok (.iload 4, 2) := by decide +kernel
theorem dX11_address_29 : decode cX11_address 29 = .ok (.invokestatic 90, 3) := by decide +kernel
theorem dX11_address_32 : decode cX11_address 32 = .ok (.ifCond .ne 13, 3) := by decide +kernel
theorem dX11_address_35 : decode cX11_address 35 = .ok (.new 46, 3) := by decide +kernel
theorem dX11_address_38 : decode cX11_address 38 = .ok (.dup, 1) := by decide +kernel
theorem dX11_address_39 : decode cX11_address 39 = .ok (.ldc 94, 2) := by decide +kernel
theorem dX11_address_41 : decode cX11_address 41 = .ok (.invokespecial 50, 3) := by decide +kernel
theorem dX11_address_44 : decode cX11_address 44 = .ok (.athrow, 1) := by decide +kernel
theorem dX11_address_45 : decode cX11_address 45 = .ok (.aload_n 0, 1) := by decide +kernel
theorem dX11_address_46 : decode cX11_address 46 = .ok (.iload_n 1, 1) := by decide +kernel
theorem dX11_address_47 : decode cX11_address 47 = .ok (.aload 5, 2) := by decide +kernel
theorem dX11_address_49 : decode cX11_address 49 = .ok (.iload_n 3, 1) := by decide +kernel
theorem dX11_address_50 : decode cX11_address 50 = .ok (.iload 4, 2) := by decide +kernel
theorem dX11_address_52 : decode cX11_address 52 = .ok (.invokevirtual 96, 3) := by decide +kernel
theorem dX11_address_55 : decode cX11_address 55 = .ok (.ireturn, 1) := by decide +kernel
theorem dX11_resolve_0 : decode cX11_resolve 0 = .ok (.aload_n 0, 1) := by decide +kernel
theorem dX11_resolve_1 : decode cX11_resolve 1 = .ok (.iload_n 1, 1) := by decide +kernel
theorem dX11_resolve_2 : decode cX11_resolve 2 = .ok (.invokevirtual 100, 3) := by decide +kernel
theorem dX11_resolve_5 : decode cX11_resolve 5 = .ok (.astore_n 3, 1) := by decide +kernel
theorem dX11_resolve_6 : decode cX11_resolve 6 = .ok (.iload_n 2, 1) := by decide +kernel
theorem dX11_resolve_7 : decode cX11_resolve 7 = .ok (.invokestatic 104, 3) := by decide +kernel
theorem dX11_resolve_10 : decode cX11_resolve 10 = .ok (.istore 4, 2) := by decide +kernel
theorem dX11_resolve_12 : decode cX11_resolve 12 = .ok (.iload 4, 2) := by decide +kernel
theorem dX11_resolve_14 : decode cX11_resolve 14 = .ok (.ifCond .ne 13, 3) := by decide +kernel
theorem dX11_resolve_17 : decode cX11_resolve 17 = .ok (.new 46, 3) := by decide +kernel
theorem dX11_resolve_20 : decode cX11_resolve 20 = .ok (.dup, 1) := by decide +kernel
theorem dX11_resolve_21 : decode cX11_resolve 21 = .ok (.ldc 108, 2) := by decide +kernel
theorem dX11_resolve_23 : decode cX11_resolve 23 = .ok (.invokespecial 50, 3) := by decide +kernel
theorem dX11_resolve_26 : decode cX11_resolve 26 = .ok (.athrow, 1) := by decide +kernel
theorem dX11_resolve_27 : decode cX11_resolve 27 = .ok (.aload_n 3, 1) := by decide +kernel
theorem dX11_resolve_28 : decode cX11_resolve 28 = .ok (.getfield 110, 3) := by decide +kernel
theorem dX11_resolve_31 : decode cX11_resolve 31 = .ok (.iload_n 2, 1) := by decide +kernel
theorem dX11_resolve_32 : decode cX11_resolve 32 = .ok (.iload 4, 2) := by decide +kernel
theorem dX11_resolve_34 : decode cX11_resolve 34 = .ok (.invokestatic 115, 3) := by decide +kernel
theorem dX11_resolve_37 : decode cX11_resolve 37 = .ok (.istore 5, 2) := by decide +kernel
theorem dX11_resolve_39 : decode cX11_resolve 39 = .ok (.iload 5, 2) := by decide +kernel
theorem dX11_resolve_41 : decode cX11_resolve 41 = .ok (.sipush 999, 3) := by decide +kernel
theorem dX11_resolve_44 : decode cX11_resolve 44 = .ok (.if_icmp .le 13, 3) := by decide +kernel
theorem dX11_resolve_47 : decode cX11_resolve 47 = .ok (.new 46, 3) := by decide +kernel
theorem dX11_resolve_50 : decode cX11_resolve 50 = .ok (.dup, 1) := by decide +kernel
theorem dX11_resolve_51 : decode cX11_resolve 51 = .ok (.ldc 119, 2) := by decide +kernel
theorem dX11_resolve_53 : decode cX11_resolve 53 = .ok (.invokespecial 50, 3) := by decide +kernel
theorem dX11_resolve_56 : decode cX11_resolve 56 = .ok (.athrow, 1) := by decide +kernel
theorem dX11_resolve_57 : decode cX11_resolve 57 = .ok (.aload_n 0, 1) := by decide +kernel
theorem dX11_resolve_58 : decode cX11_resolve 58 = .ok (.aload_n 3, 1) := by decide +kernel
theorem dX11_resolve_59 : decode cX11_resolve 59 = .ok (.getfield 121, 3) := by decide +kernel
theorem dX11_resolve_62 : decode cX11_resolve 62 = .ok (.aload_n 3, 1) := by decide +kernel
theorem dX11_resolve_63 : decode cX11_resolve 63 = .ok (.getfield 124, 3) := by decide +kernel
theorem dX11_resolve_66 : decode cX11_resolve 66 = .ok (.aload_n 3, 1) := by decide +kernel
theorem dX11_resolve_67 : decode cX11_resolve 67 = .ok (.getfield 128, 3) := by decide +kernel
theorem dX11_resolve_70 : decode cX11_resolve 70 = .ok (.iload 5, 2) := by decide +kernel
theorem dX11_resolve_72 : decode cX11_resolve 72 = .ok (.invokevirtual 96, 3) := by decide +kernel
theorem dX11_resolve_75 : decode cX11_resolve 75 = .ok (.ireturn, 1) := by decide +kernel
theorem dX11_text_0 : decode cX11_text 0 = .ok (.aload_n 0, 1) := by decide +kernel
theorem dX11_text_1 : decode cX11_text 1 = .ok (.iload_n 1, 1) := by decide +kernel
theorem dX11_text_2 : decode cX11_text 2 = .ok (.invokevirtual 100, 3) := by decide +kernel
theorem dX11_text_5 : decode cX11_text 5 = .ok (.getfield 131, 3) := by decide +kernel
theorem dX11_text_8 : decode cX11_text 8 = .ok (.astore_n 3, 1) := by decide +kernel
theorem dX11_text_9 : decode cX11_text 9 = .ok (.iload_n 2, 1) := by decide +kernel
theorem dX11_text_10 : decode cX11_text 10 = .ok (.ifCond .lt 11, 3) := by decide +kernel
theorem dX11_text_13 : decode cX11_text 13 = .ok (.iload_n 2, 1) := by decide +kernel
theorem dX11_text_14 : decode cX11_text 14 = .ok (.aload_n 3, 1) := by decide +kernel
theorem dX11_text_15 : decode cX11_text 15 = .ok (.invokevirtual 135, 3) := by decide +kernel
theorem dX11_text_18 : decode cX11_text 18 = .ok (.if_icmp .lt 13, 3) := by decide +kernel
theorem dX11_text_21 : decode cX11_text 21 = .ok (.new 140, 3) := by decide +kernel
theorem dX11_text_24 : decode cX11_text 24 = .ok (.dup, 1) := by decide +kernel
theorem dX11_text_25 : decode cX11_text 25 = .ok (.ldc 142, 2) := by decide +kernel
theorem dX11_text_27 : decode cX11_text 27 = .ok (.invokespecial 144, 3) := by decide +kernel
theorem dX11_text_30 : decode cX11_text 30 = .ok (.athrow, 1) := by decide +kernel
theorem dX11_text_31 : decode cX11_text 31 = .ok (.aload_n 3, 1) := by decide +kernel
theorem dX11_text_32 : decode cX11_text 32 = .ok (.iload_n 2, 1) := by decide +kernel
theorem dX11_text_33 : decode cX11_text 33 = .ok (.invokevirtual 145, 3) := by decide +kernel
theorem dX11_text_36 : decode cX11_text 36 = .ok (.ireturn, 1) := by decide +kernel
theorem dX11_hostAt_0 : decode cX11_hostAt 0 = .ok (.iload_n 1, 1) := by decide +kernel
theorem dX11_hostAt_1 : decode cX11_hostAt 1 = .ok (.ifCond .lt 14, 3) := by decide +kernel
theorem dX11_hostAt_4 : decode cX11_hostAt 4 = .ok (.iload_n 1, 1) := by decide +kernel
theorem dX11_hostAt_5 : decode cX11_hostAt 5 = .ok (.aload_n 0, 1) := by decide +kernel
theorem dX11_hostAt_6 : decode cX11_hostAt 6 = .ok (.getfield 10, 3) := by decide +kernel
theorem dX11_hostAt_9 : decode cX11_hostAt 9 = .ok (.invokevirtual 66, 3) := by decide +kernel
theorem dX11_hostAt_12 : decode cX11_hostAt 12 = .ok (.if_icmp .lt 13, 3) := by decide +kernel
theorem dX11_hostAt_15 : decode cX11_hostAt 15 = .ok (.new 140, 3) := by decide +kernel
theorem dX11_hostAt_18 : decode cX11_hostAt 18 = .ok (.dup, 1) := by decide +kernel
theorem dX11_hostAt_19 : decode cX11_hostAt 19 = .ok (.ldc 149, 2) := by decide +kernel
theorem dX11_hostAt_21 : decode cX11_hostAt 21 = .ok (.invokespecial 144, 3) := by decide +kernel
theorem dX11_hostAt_24 : decode cX11_hostAt 24 = .ok (.athrow, 1) := by decide +kernel
theorem dX11_hostAt_25 : decode cX11_hostAt 25 = .ok (.aload_n 0, 1) := by decide +kernel
theorem dX11_hostAt_26 : decode cX11_hostAt 26 = .ok (.getfield 10, 3) := by decide +kernel
theorem dX11_hostAt_29 : decode cX11_hostAt 29 = .ok (.iload_n 1, 1) := by decide +kernel
theorem dX11_hostAt_30 : decode cX11_hostAt 30 = .ok (.invokevirtual 151, 3) := by decide +kernel
theorem dX11_hostAt_33 : decode cX11_hostAt 33 = .ok (.checkcast 58, 3) := by decide +kernel
theorem dX11_hostAt_36 : decode cX11_hostAt 36 = .ok (.areturn, 1) := by decide +kernel
theorem dX11_findHost_0 : decode cX11_findHost 0 = .ok (.iconst 0, 1) := by decide +kernel
theorem dX11_findHost_1 : decode cX11_findHost 1 = .ok (.istore_n 3, 1) := by decide +kernel
theorem dX11_findHost_2 : decode cX11_findHost 2 = .ok (.iload_n 3, 1) := by decide +kernel
theorem dX11_findHost_3 : decode cX11_findHost 3 = .ok (.aload_n 0, 1) := by decide +kernel
theorem dX11_findHost_4 : decode cX11_findHost 4 = .ok (.getfield 10, 3) := by decide +kernel
theorem dX11_findHost_7 : decode cX11_findHost 7 = .ok (.invokevirtual 66, 3) := by decide +kernel
theorem dX11_findHost_10 : decode cX11_findHost 10 = .ok (.if_icmp .ge 43, 3) := by decide +kernel
theorem dX11_findHost_13 : decode cX11_findHost 13 = .ok (.aload_n 0, 1) := by decide +kernel
theorem dX11_findHost_14 : decode cX11_findHost 14 = .ok (.getfield 10, 3) := by decide +kernel
theorem dX11_findHost_17 : decode cX11_findHost 17 = .ok (.iload_n 3, 1) := by decide +kernel
theorem dX11_findHost_18 : decode cX11_findHost 18 = .ok (.invokevirtual 151, 3) := by decide +kernel
theorem dX11_findHost_21 : decode cX11_findHost 21 = .ok (.checkcast 58, 3) := by decide +kernel
theorem dX11_findHost_24 : decode cX11_findHost 24 = .ok (.astore 4, 2) := by decide +kernel
theorem dX11_findHost_26 : decode cX11_findHost 26 = .ok (.aload 4, 2) := by decide +kernel
theorem dX11_findHost_28 : decode cX11_findHost 28 = .ok (.getfield 155, 3) := by decide +kernel
theorem dX11_findHost_31 : decode cX11_findHost 31 = .ok (.aload_n 1, 1) := by decide +kernel
theorem dX11_findHost_32 : decode cX11_findHost 32 = .ok (.if_acmp .ne 15, 3) := by decide +kernel
theorem dX11_findHost_35 : decode cX11_findHost 35 = .ok (.aload 4, 2) := by decide +kernel
theorem dX11_findHost_37 : decode cX11_findHost 37 = .ok (.getfield 158, 3) := by decide +kernel
theorem dX11_findHost_40 : decode cX11_findHost 40 = .ok (.iload_n 2, 1) := by decide +kernel
theorem dX11_findHost_41 : decode cX11_findHost 41 = .ok (.if_icmp .ne 6, 3) := by decide +kernel
theorem dX11_findHost_44 : decode cX11_findHost 44 = .ok (.aload 4, 2) := by decide +kernel
theorem dX11_findHost_46 : decode cX11_findHost 46 = .ok (.areturn, 1) := by decide +kernel
theorem dX11_findHost_47 : decode cX11_findHost 47 = .ok (.iinc 3 1, 3) := by decide +kernel
theorem dX11_findHost_50 : decode cX11_findHost 50 = .ok (.goto (-48), 3) := by decide +kernel
theorem dX11_findHost_53 : decode cX11_findHost 53 = .ok (.aconst_null, 1) := by decide +kernel
theorem dX11_findHost_54 : decode cX11_findHost 54 = .ok (.areturn, 1) := by decide +kernel
theorem dX11_addressAt_0 : decode cX11_addressAt 0 = .ok (.aload_n 0, 1) := by decide +kernel
theorem dX11_addressAt_1 : decode cX11_addressAt 1 = .ok (.iload_n 1, 1) := by decide +kernel
theorem dX11_addressAt_2 : decode cX11_addressAt 2 = .ok (.invokevirtual 161, 3) := by decide +kernel
theorem dX11_addressAt_5 : decode cX11_addressAt 5 = .ok (.ifCond .ne 13, 3) := by decide +kernel
theorem dX11_addressAt_8 : decode cX11_addressAt 8 = .ok (.new 140, 3) := by decide +kernel
theorem dX11_addressAt_11 : decode cX11_addressAt 11 = .ok (.dup, 1) := by decide +kernel
theorem dX11_addressAt_12 : decode cX11_addressAt 12 = .ok (.ldc 164, 2) := by decide +kernel
theorem dX11_addressAt_14 : decode cX11_addressAt 14 = .ok (.invokespecial 144, 3) := by decide +kernel
theorem dX11_addressAt_17 : decode cX11_addressAt 17 = .ok (.athrow, 1) := by decide +kernel
theorem dX11_addressAt_18 : decode cX11_addressAt 18 = .ok (.aload_n 0, 1) := by decide +kernel
theorem dX11_addressAt_19 : decode cX11_addressAt 19 = .ok (.getfield 16, 3) := by decide +kernel
theorem dX11_addressAt_22 : decode cX11_addressAt 22 = .ok (.iload_n 1, 1) := by decide +kernel
theorem dX11_addressAt_23 : decode cX11_addressAt 23 = .ok (.invokevirtual 151, 3) := by decide +kernel
theorem dX11_addressAt_26 : decode cX11_addressAt 26 = .ok (.checkcast 111, 3) := by decide +kernel
theorem dX11_addressAt_29 : decode cX11_addressAt 29 = .ok (.areturn, 1) := by decide +kernel
theorem dX11_isAddress_0 : decode cX11_isAddress 0 = .ok (.iload_n 1, 1) := by decide +kernel
theorem dX11_isAddress_1 : decode cX11_isAddress 1 = .ok (.ifCond .lt 18, 3) := by decide +kernel
theorem dX11_isAddress_4 : decode cX11_isAddress 4 = .ok (.iload_n 1, 1) := by decide +kernel
theorem dX11_isAddress_5 : decode cX11_isAddress 5 = .ok (.aload_n 0, 1) := by decide +kernel
theorem dX11_isAddress_6 : decode cX11_isAddress 6 = .ok (.getfield 16, 3) := by decide +kernel
theorem dX11_isAddress_9 : decode cX11_isAddress 9 = .ok (.invokevirtual 66, 3) := by decide +kernel
theorem dX11_isAddress_12 : decode cX11_isAddress 12 = .ok (.if_icmp .ge 7, 3) := by decide +kernel
theorem dX11_isAddress_15 : decode cX11_isAddress 15 = .ok (.iconst 1, 1) := by decide +kernel
theorem dX11_isAddress_16 : decode cX11_isAddress 16 = .ok (.goto 4, 3) := by decide +kernel
theorem dX11_isAddress_19 : decode cX11_isAddress 19 = .ok (.iconst 0, 1) := by decide +kernel
theorem dX11_isAddress_20 : decode cX11_isAddress 20 = .ok (.ireturn, 1) := by decide +kernel
theorem dX11_findAddress_0 : decode cX11_findAddress 0 = .ok (.iconst 0, 1) := by decide +kernel
theorem dX11_findAddress_1 : decode cX11_findAddress 1 = .ok (.istore 5, 2) := by decide +kernel
theorem dX11_findAddress_3 : decode cX11_findAddress 3 = .ok (.iload 5, 2) := by decide +kernel
theorem dX11_findAddress_5 : decode cX11_findAddress 5 = .ok (.aload_n 0, 1) := by decide +kernel
theorem dX11_findAddress_6 : decode cX11_findAddress 6 = .ok (.getfield 16, 3) := by decide +kernel
theorem dX11_findAddress_9 : decode cX11_findAddress 9 = .ok (.invokevirtual 66, 3) := by decide +kernel
theorem dX11_findAddress_12 : decode cX11_findAddress 12 = .ok (.if_icmp .ge 63, 3) := by decide +kernel
theorem dX11_findAddress_15 : decode cX11_findAddress 15 = .ok (.aload_n 0, 1) := by decide +kernel
theorem dX11_findAddress_16 : decode cX11_findAddress 16 = .ok (.getfield 16, 3) := by decide +kernel
theorem dX11_findAddress_19 : decode cX11_findAddress 19 = .ok (.iload 5, 2) := by decide +kernel
theorem dX11_findAddress_21 : decode cX11_findAddress 21 = .ok (.invokevirtual 151, 3) := by decide +kernel
theorem dX11_findAddress_24 : decode cX11_findAddress 24 = .ok (.checkcast 111, 3) := by decide +kernel
theorem dX11_findAddress_27 : decode cX11_findAddress 27 = .ok (.astore 6, 2) := by decide +kernel
theorem dX11_findAddress_29 : decode cX11_findAddress 29 = .ok (.aload 6, 2) := by decide +kernel
theorem dX11_findAddress_31 : decode cX11_findAddress 31 = .ok (.getfield 121, 3) := by decide +kernel
theorem dX11_findAddress_34 : decode cX11_findAddress 34 = .ok (.iload_n 1, 1) := by decide +kernel
theorem dX11_findAddress_35 : decode cX11_findAddress 35 = .ok (.if_icmp .ne 34, 3) := by decide +kernel
theorem dX11_findAddress_38 : decode cX11_findAddress 38 = .ok (.aload 6, 2) := by decide +kernel
theorem dX11_findAddress_40 : decode cX11_findAddress 40 = .ok (.getfield 124, 3) := by decide +kernel
theorem dX11_findAddress_43 : decode cX11_findAddress 43 = .ok (.aload_n 2, 1) := by decide +kernel
theorem dX11_findAddress_44 : decode cX11_findAddress 44 = .ok (.if_acmp .ne 25, 3) := by decide +kernel
theorem dX11_findAddress_47 : decode cX11_findAddress 47 = .ok (.aload 6, 2) := by decide +kernel
theorem dX11_findAddress_49 : decode cX11_findAddress 49 = .ok (.getfield 128, 3) := by decide +kernel
theorem dX11_findAddress_52 : decode cX11_findAddress 52 = .ok (.iload_n 3, 1) := by decide +kernel
theorem dX11_findAddress_53 : decode cX11_findAddress 53 = .ok (.if_icmp .ne 16, 3) := by decide +kernel
theorem dX11_findAddress_56 : decode cX11_findAddress 56 = .ok (.aload 6, 2) := by decide +kernel
theorem dX11_findAddress_58 : decode cX11_findAddress 58 = .ok (.getfield 110, 3) := by decide +kernel
theorem dX11_findAddress_61 : decode cX11_findAddress 61 = .ok (.iload 4, 2) := by decide +kernel
theorem dX11_findAddress_63 : decode cX11_findAddress 63 = .ok (.if_icmp .ne 6, 3) := by decide +kernel
theorem dX11_findAddress_66 : decode cX11_findAddress 66 = .ok (.aload 6, 2) := by decide +kernel
theorem dX11_findAddress_68 : decode cX11_findAddress 68 = .ok (.areturn, 1) := by decide +kernel
theorem dX11_findAddress_69 : decode cX11_findAddress 69 = .ok (.iinc 5 1, 3) := by decide +kernel
theorem dX11_findAddress_72 : decode cX11_findAddress 72 = .ok (.goto (-69), 3) := by decide +kernel
theorem dX11_findAddress_75 : decode cX11_findAddress 75 = .ok (.aconst_null, 1) := by decide +kernel
theorem dX11_findAddress_76 : decode cX11_findAddress 76 = .ok (.areturn, 1) := by decide +kernel
theorem dX11_tellAddress_0 : decode cX11_tellAddress 0 = .ok (.aload_n 0, 1) := by decide +kernel
theorem dX11_tellAddress_1 : decode cX11_tellAddress 1 = .ok (.iload_n 1, 1) := by decide +kernel
theorem dX11_tellAddress_2 : decode cX11_tellAddress 2 = .ok (.aload_n 2, 1) := by decide +kernel
theorem dX11_tellAddress_3 : decode cX11_tellAddress 3 = .ok (.iload_n 3, 1) := by decide +kernel
theorem dX11_tellAddress_4 : decode cX11_tellAddress 4 = .ok (.iload 4, 2) := by decide +kernel
theorem dX11_tellAddress_6 : decode cX11_tellAddress 6 = .ok (.invokevirtual 166, 3) := by decide +kernel
theorem dX11_tellAddress_9 : decode cX11_tellAddress 9 = .ok (.astore 5, 2) := by decide +kernel
theorem dX11_tellAddress_11 : decode cX11_tellAddress 11 = .ok (.aload 5, 2) := by decide +kernel
theorem dX11_tellAddress_13 : decode cX11_tellAddress 13 = .ok (.ifnull 9, 3) := by decide +kernel
theorem dX11_tellAddress_16 : decode cX11_tellAddress 16 = .ok (.aload 5, 2) := by decide +kernel
theorem dX11_tellAddress_18 : decode cX11_tellAddress 18 = .ok (.getfield 170, 3) := by decide +kernel
theorem dX11_tellAddress_21 : decode cX11_tellAddress 21 = .ok (.ireturn, 1) := by decide +kernel
theorem dX11_tellAddress_22 : decode cX11_tellAddress 22 = .ok (.aload_n 0, 1) := by decide +kernel
theorem dX11_tellAddress_23 : decode cX11_tellAddress 23 = .ok (.getfield 16, 3) := by decide +kernel
theorem dX11_tellAddress_26 : decode cX11_tellAddress 26 = .ok (.invokevirtual 66, 3) := by decide +kernel
theorem dX11_tellAddress_29 : decode cX11_tellAddress 29 = .ok (.bipush 24, 2) := by decide +kernel
theorem dX11_tellAddress_31 : decode cX11_tellAddress 31 = .ok (.if_icmp .lt 13, 3) := by decide +kernel
theorem dX11_tellAddress_34 : decode cX11_tellAddress 34 = .ok (.new 70, 3) := by decide +kernel
theorem dX11_tellAddress_37 : decode cX11_tellAddress 37 = .ok (.dup, 1) := by decide +kernel
theorem dX11_tellAddress_38 : decode cX11_tellAddress 38 = .ok (.ldc 171, 2) := by decide +kernel
theorem dX11_tellAddress_40 : decode cX11_tellAddress 40 = .ok (.invokespecial 74, 3) := by decide +kernel
theorem dX11_tellAddress_43 : decode cX11_tellAddress 43 = .ok (.athrow, 1) := by decide +kernel
theorem dX11_tellAddress_44 : decode cX11_tellAddress 44 = .ok (.new 111, 3) := by decide +kernel
theorem dX11_tellAddress_47 : decode cX11_tellAddress 47 = .ok (.dup, 1) := by decide +kernel
theorem dX11_tellAddress_48 : decode cX11_tellAddress 48 = .ok (.aload_n 0, 1) := by decide +kernel
theorem dX11_tellAddress_49 : decode cX11_tellAddress 49 = .ok (.getfield 16, 3) := by decide +kernel
theorem dX11_tellAddress_52 : decode cX11_tellAddress 52 = .ok (.invokevirtual 66, 3) := by decide +kernel
theorem dX11_tellAddress_55 : decode cX11_tellAddress 55 = .ok (.iload_n 1, 1) := by decide +kernel
theorem dX11_tellAddress_56 : decode cX11_tellAddress 56 = .ok (.aload_n 2, 1) := by decide +kernel
theorem dX11_tellAddress_57 : decode cX11_tellAddress 57 = .ok (.iload_n 3, 1) := by decide +kernel
theorem dX11_tellAddress_58 : decode cX11_tellAddress 58 = .ok (.iload 4, 2) := by decide +kernel
theorem dX11_tellAddress_60 : decode cX11_tellAddress 60 = .ok (.invokespecial 173, 3) := by decide +kernel
theorem dX11_tellAddress_63 : decode cX11_tellAddress 63 = .ok (.astore 6, 2) := by decide +kernel
theorem dX11_tellAddress_65 : decode cX11_tellAddress 65 = .ok (.aload_n 0, 1) := by decide +kernel
theorem dX11_tellAddress_66 : decode cX11_tellAddress 66 = .ok (.getfield 16, 3) := by decide +kernel
theorem dX11_tellAddress_69 : decode cX11_tellAddress 69 = .ok (.aload 6, 2) := by decide +kernel
theorem dX11_tellAddress_71 : decode cX11_tellAddress 71 = .ok (.invokevirtual 78, 3) := by decide +kernel
theorem dX11_tellAddress_74 : decode cX11_tellAddress 74 = .ok (.pop, 1) := by decide +kernel
theorem dX11_tellAddress_75 : decode cX11_tellAddress 75 = .ok (.aload 6, 2) := by decide +kernel
theorem dX11_tellAddress_77 : decode cX11_tellAddress 77 = .ok (.getfield 170, 3) := by decide +kernel
theorem dX11_tellAddress_80 : decode cX11_tellAddress 80 = .ok (.ireturn, 1) := by decide +kernel
theorem dX11_isPath_0 : decode cX11_isPath 0 = .ok (.iload_n 0, 1) := by decide +kernel
theorem dX11_isPath_1 : decode cX11_isPath 1 = .ok (.ifCond .lt 10, 3) := by decide +kernel
theorem dX11_isPath_4 : decode cX11_isPath 4 = .ok (.iload_n 0, 1) := by decide +kernel
theorem dX11_isPath_5 : decode cX11_isPath 5 = .ok (.sipush 999, 3) := by decide +kernel
theorem dX11_isPath_8 : decode cX11_isPath 8 = .ok (.if_icmp .le 5, 3) := by decide +kernel
theorem dX11_isPath_11 : decode cX11_isPath 11 = .ok (.iconst 0, 1) := by decide +kernel
theorem dX11_isPath_12 : decode cX11_isPath 12 = .ok (.ireturn, 1) := by decide +kernel
theorem dX11_isPath_13 : decode cX11_isPath 13 = .ok (.iload_n 0, 1) := by decide +kernel
theorem dX11_isPath_14 : decode cX11_isPath 14 = .ok (.istore_n 1, 1) := by decide +kernel
theorem dX11_isPath_15 : decode cX11_isPath 15 = .ok (.iconst 0, 1) := by decide +kernel
theorem dX11_isPath_16 : decode cX11_isPath 16 = .ok (.istore_n 2, 1) := by decide +kernel
theorem dX11_isPath_17 : decode cX11_isPath 17 = .ok (.iload_n 2, 1) := by decide +kernel
theorem dX11_isPath_18 : decode cX11_isPath 18 = .ok (.iconst 3, 1) := by decide +kernel
theorem dX11_isPath_19 : decode cX11_isPath 19 = .ok (.if_icmp .ge 27, 3) := by decide +kernel
theorem dX11_isPath_22 : decode cX11_isPath 22 = .ok (.iload_n 1, 1) := by decide +kernel
theorem dX11_isPath_23 : decode cX11_isPath 23 = .ok (.ifCond .le 23, 3) := by decide +kernel
theorem dX11_isPath_26 : decode cX11_isPath 26 = .ok (.iload_n 1, 1) := by decide +kernel
theorem dX11_isPath_27 : decode cX11_isPath 27 = .ok (.bipush 10, 2) := by decide +kernel
theorem dX11_isPath_29 : decode cX11_isPath 29 = .ok (.irem, 1) := by decide +kernel
theorem dX11_isPath_30 : decode cX11_isPath 30 = .ok (.ifCond .ne 5, 3) := by decide +kernel
theorem dX11_isPath_33 : decode cX11_isPath 33 = .ok (.iconst 0, 1) := by decide +kernel
theorem dX11_isPath_34 : decode cX11_isPath 34 = .ok (.ireturn, 1) := by decide +kernel
theorem dX11_isPath_35 : decode cX11_isPath 35 = .ok (.iload_n 1, 1) := by decide +kernel
theorem dX11_isPath_36 : decode cX11_isPath 36 = .ok (.bipush 10, 2) := by decide +kernel
theorem dX11_isPath_38 : decode cX11_isPath 38 = .ok (.idiv, 1) := by decide +kernel
theorem dX11_isPath_39 : decode cX11_isPath 39 = .ok (.istore_n 1, 1) := by decide +kernel
theorem dX11_isPath_40 : decode cX11_isPath 40 = .ok (.iinc 2 1, 3) := by decide +kernel
theorem dX11_isPath_43 : decode cX11_isPath 43 = .ok (.goto (-26), 3) := by decide +kernel
theorem dX11_isPath_46 : decode cX11_isPath 46 = .ok (.iconst 1, 1) := by decide +kernel
theorem dX11_isPath_47 : decode cX11_isPath 47 = .ok (.ireturn, 1) := by decide +kernel
theorem dX11_countSegments_0 : decode cX11_countSegments 0 = .ok (.iconst 0, 1) := by decide +kernel
theorem dX11_countSegments_1 : decode cX11_countSegments 1 = .ok (.istore_n 1, 1) := by decide +kernel
theorem dX11_countSegments_2 : decode cX11_countSegments 2 = .ok (.iload_n 0, 1) := by decide +kernel
theorem dX11_countSegments_3 : decode cX11_countSegments 3 = .ok (.istore_n 2, 1) := by decide +kernel
theorem dX11_countSegments_4 : decode cX11_countSegments 4 = .ok (.iconst 0, 1) := by decide +kernel
theorem dX11_countSegments_5 : decode cX11_countSegments 5 = .ok (.istore_n 3, 1) := by decide +kernel
theorem dX11_countSegments_6 : decode cX11_countSegments 6 = .ok (.iload_n 3, 1) := by decide +kernel
theorem dX11_countSegments_7 : decode cX11_countSegments 7 = .ok (.iconst 3, 1) := by decide +kernel
theorem dX11_countSegments_8 : decode cX11_countSegments 8 = .ok (.if_icmp .ge 21, 3) := by decide +kernel
theorem dX11_countSegments_11 : decode cX11_countSegments 11 = .ok (.iload_n 2, 1) := by decide +kernel
theorem dX11_countSegments_12 : decode cX11_countSegments 12 = .ok (.ifCond .le 17, 3) := by decide +kernel
theorem dX11_countSegments_15 : decode cX11_countSegments 15 = .ok (.iinc 1 1, 3) := by decide +kernel
theorem dX11_countSegments_18 : decode cX11_countSegments 18 = .ok (.iload_n 2, 1) := by decide +kernel
theorem dX11_countSegments_19 : decode cX11_countSegments 19 = .ok (.bipush 10, 2) := by decide +kernel
theorem dX11_countSegments_21 : decode cX11_countSegments 21 = .ok (.idiv, 1) := by decide +kernel
theorem dX11_countSegments_22 : decode cX11_countSegments 22 = .ok (.istore_n 2, 1) := by decide +kernel
theorem dX11_countSegments_23 : decode cX11_countSegments 23 = .ok (.iinc 3 1, 3) := by decide +kernel
theorem dX11_countSegments_26 : decode cX11_countSegments 26 = .ok (.goto (-20), 3) := by decide +kernel
theorem dX11_countSegments_29 : decode cX11_countSegments 29 = .ok (.iload_n 1, 1) := by decide +kernel
theorem dX11_countSegments_30 : decode cX11_countSegments 30 = .ok (.ireturn, 1) := by decide +kernel
theorem dX11_beginsWith_0 : decode cX11_beginsWith 0 = .ok (.iload_n 0, 1) := by decide +kernel
theorem dX11_beginsWith_1 : decode cX11_beginsWith 1 = .ok (.istore_n 2, 1) := by decide +kernel
theorem dX11_beginsWith_2 : decode cX11_beginsWith 2 = .ok (.iconst 0, 1) := by decide +kernel
theorem dX11_beginsWith_3 : decode cX11_beginsWith 3 = .ok (.istore_n 3, 1) := by decide +kernel
theorem dX11_beginsWith_4 : decode cX11_beginsWith 4 = .ok (.iload_n 3, 1) := by decide +kernel
theorem dX11_beginsWith_5 : decode cX11_beginsWith 5 = .ok (.iconst 3, 1) := by decide +kernel
theorem dX11_beginsWith_6 : decode cX11_beginsWith 6 = .ok (.if_icmp .ge 19, 3) := by decide +kernel
theorem dX11_beginsWith_9 : decode cX11_beginsWith 9 = .ok (.iload_n 2, 1) := by decide +kernel
theorem dX11_beginsWith_10 : decode cX11_beginsWith 10 = .ok (.iload_n 1, 1) := by decide +kernel
theorem dX11_beginsWith_11 : decode cX11_beginsWith 11 = .ok (.if_icmp .le 14, 3) := by decide +kernel
theorem dX11_beginsWith_14 : decode cX11_beginsWith 14 = .ok (.iload_n 2, 1) := by decide +kernel
theorem dX11_beginsWith_15 : decode cX11_beginsWith 15 = .ok (.bipush 10, 2) := by decide +kernel
theorem dX11_beginsWith_17 : decode cX11_beginsWith 17 = .ok (.idiv, 1) := by decide +kernel
theorem dX11_beginsWith_18 : decode cX11_beginsWith 18 = .ok (.istore_n 2, 1) := by decide +kernel
theorem dX11_beginsWith_19 : decode cX11_beginsWith 19 = .ok (.iinc 3 1, 3) := by decide +kernel
theorem dX11_beginsWith_22 : decode cX11_beginsWith 22 = .ok (.goto (-18), 3) := by decide +kernel
theorem dX11_beginsWith_25 : decode cX11_beginsWith 25 = .ok (.iload_n 2, 1) := by decide +kernel
theorem dX11_beginsWith_26 : decode cX11_beginsWith 26 = .ok (.iload_n 1, 1) := by decide +kernel
theorem dX11_beginsWith_27 : decode cX11_beginsWith 27 = .ok (.if_icmp .ne 7, 3) := by decide +kernel
theorem dX11_beginsWith_30 : decode cX11_beginsWith 30 = .ok (.iconst 1, 1) := by decide +kernel
theorem dX11_beginsWith_31 : decode cX11_beginsWith 31 = .ok (.goto 4, 3) := by decide +kernel
theorem dX11_beginsWith_34 : decode cX11_beginsWith 34 = .ok (.iconst 0, 1) := by decide +kernel
theorem dX11_beginsWith_35 : decode cX11_beginsWith 35 = .ok (.ireturn, 1) := by decide +kernel
theorem dX11_powerOfReference_0 : decode cX11_powerOfReference 0 = .ok (.iconst 1, 1) := by decide +kernel
theorem dX11_powerOfReference_1 : decode cX11_powerOfReference 1 = .ok (.istore_n 1, 1) := by decide +kernel
theorem dX11_powerOfReference_2 : decode cX11_powerOfReference 2 = .ok (.iload_n 1, 1) := by decide +kernel
theorem dX11_powerOfReference_3 : decode cX11_powerOfReference 3 = .ok (.sipush 10000, 3) := by decide +kernel
theorem dX11_powerOfReference_6 : decode cX11_powerOfReference 6 = .ok (.if_icmp .gt 25, 3) := by decide +kernel
theorem dX11_powerOfReference_9 : decode cX11_powerOfReference 9 = .ok (.iload_n 0, 1) := by decide +kernel
theorem dX11_powerOfReference_10 : decode cX11_powerOfReference 10 = .ok (.iload_n 1, 1) := by decide +kernel
theorem dX11_powerOfReference_11 : decode cX11_powerOfReference 11 = .ok (.if_icmp .lt 12, 3) := by decide +kernel
theorem dX11_powerOfReference_14 : decode cX11_powerOfReference 14 = .ok (.iload_n 0, 1) := by decide +kernel
theorem dX11_powerOfReference_15 : decode cX11_powerOfReference 15 = .ok (.iconst 3, 1) := by decide +kernel
theorem dX11_powerOfReference_16 : decode cX11_powerOfReference 16 = .ok (.iload_n 1, 1) := by decide +kernel
theorem dX11_powerOfReference_17 : decode cX11_powerOfReference 17 = .ok (.imul, 1) := by decide +kernel
theorem dX11_powerOfReference_18 : decode cX11_powerOfReference 18 = .ok (.if_icmp .ge 5, 3) := by decide +kernel
theorem dX11_powerOfReference_21 : decode cX11_powerOfReference 21 = .ok (.iload_n 1, 1) := by decide +kernel
theorem dX11_powerOfReference_22 : decode cX11_powerOfReference 22 = .ok (.ireturn, 1) := by decide +kernel
theorem dX11_powerOfReference_23 : decode cX11_powerOfReference 23 = .ok (.iload_n 1, 1) := by decide +kernel
theorem dX11_powerOfReference_24 : decode cX11_powerOfReference 24 = .ok (.bipush 10, 2) := by decide +kernel
theorem dX11_powerOfReference_26 : decode cX11_powerOfReference 26 = .ok (.imul, 1) := by decide +kernel
theorem dX11_powerOfReference_27 : decode cX11_powerOfReference 27 = .ok (.istore_n 1, 1) := by decide +kernel
theorem dX11_powerOfReference_28 : decode cX11_powerOfReference 28 = .ok (.goto (-26), 3) := by decide +kernel
theorem dX11_powerOfReference_31 : decode cX11_powerOfReference 31 = .ok (.iconst 0, 1) := by decide +kernel
theorem dX11_powerOfReference_32 : decode cX11_powerOfReference 32 = .ok (.ireturn, 1) := by decide +kernel
theorem dX11_pathBehind_0 : decode cX11_pathBehind 0 = .ok (.iload_n 1, 1) := by decide +kernel
theorem dX11_pathBehind_1 : decode cX11_pathBehind 1 = .ok (.iconst 2, 1) := by decide +kernel
theorem dX11_pathBehind_2 : decode cX11_pathBehind 2 = .ok (.iload_n 2, 1) := by decide +kernel
theorem dX11_pathBehind_3 : decode cX11_pathBehind 3 = .ok (.imul, 1) := by decide +kernel
theorem dX11_pathBehind_4 : decode cX11_pathBehind 4 = .ok (.if_icmp .ge 10, 3) := by decide +kernel
theorem dX11_pathBehind_7 : decode cX11_pathBehind 7 = .ok (.iload_n 0, 1) := by decide +kernel
theorem dX11_pathBehind_8 : decode cX11_pathBehind 8 = .ok (.bipush 10, 2) := by decide +kernel
theorem dX11_pathBehind_10 : decode cX11_pathBehind 10 = .ok (.idiv, 1) := by decide +kernel
theorem dX11_pathBehind_11 : decode cX11_pathBehind 11 = .ok (.goto 4, 3) := by decide +kernel
theorem dX11_pathBehind_14 : decode cX11_pathBehind 14 = .ok (.iconst 0, 1) := by decide +kernel
theorem dX11_pathBehind_15 : decode cX11_pathBehind 15 = .ok (.istore_n 3, 1) := by decide +kernel
theorem dX11_pathBehind_16 : decode cX11_pathBehind 16 = .ok (.iload_n 2, 1) := by decide +kernel
theorem dX11_pathBehind_17 : decode cX11_pathBehind 17 = .ok (.bipush 10, 2) := by decide +kernel
theorem dX11_pathBehind_19 : decode cX11_pathBehind 19 = .ok (.idiv, 1) := by decide +kernel
theorem dX11_pathBehind_20 : decode cX11_pathBehind 20 = .ok (.istore 4, 2) := by decide +kernel
theorem dX11_pathBehind_22 : decode cX11_pathBehind 22 = .ok (.iload 4, 2) := by decide +kernel
theorem dX11_pathBehind_24 : decode cX11_pathBehind 24 = .ok (.iconst 1, 1) := by decide +kernel
theorem dX11_pathBehind_25 : decode cX11_pathBehind 25 = .ok (.if_icmp .lt 42, 3) := by decide +kernel
theorem dX11_pathBehind_28 : decode cX11_pathBehind 28 = .ok (.iload_n 1, 1) := by decide +kernel
theorem dX11_pathBehind_29 : decode cX11_pathBehind 29 = .ok (.iload 4, 2) := by decide +kernel
theorem dX11_pathBehind_31 : decode cX11_pathBehind 31 = .ok (.idiv, 1) := by decide +kernel
theorem dX11_pathBehind_32 : decode cX11_pathBehind 32 = .ok (.bipush 10, 2) := by decide +kernel
theorem dX11_pathBehind_34 : decode cX11_pathBehind 34 = .ok (.irem, 1) := by decide +kernel
theorem dX11_pathBehind_35 : decode cX11_pathBehind 35 = .ok (.istore 5, 2) := by decide +kernel
theorem dX11_pathBehind_37 : decode cX11_pathBehind 37 = .ok (.iload 5, 2) := by decide +kernel
theorem dX11_pathBehind_39 : decode cX11_pathBehind 39 = .ok (.ifCond .ne 10, 3) := by decide +kernel
theorem dX11_pathBehind_42 : decode cX11_pathBehind 42 = .ok (.iload_n 3, 1) := by decide +kernel
theorem dX11_pathBehind_43 : decode cX11_pathBehind 43 = .ok (.bipush 10, 2) := by decide +kernel
theorem dX11_pathBehind_45 : decode cX11_pathBehind 45 = .ok (.idiv, 1) := by decide +kernel
theorem dX11_pathBehind_46 : decode cX11_pathBehind 46 = .ok (.goto 10, 3) := by decide +kernel
theorem dX11_pathBehind_49 : decode cX11_pathBehind 49 = .ok (.bipush 10, 2) := by decide +kernel
theorem dX11_pathBehind_51 : decode cX11_pathBehind 51 = .ok (.iload_n 3, 1) := by decide +kernel
theorem dX11_pathBehind_52 : decode cX11_pathBehind 52 = .ok (.imul, 1) := by decide +kernel
theorem dX11_pathBehind_53 : decode cX11_pathBehind 53 = .ok (.iload 5, 2) := by decide +kernel
theorem dX11_pathBehind_55 : decode cX11_pathBehind 55 = .ok (.iadd, 1) := by decide +kernel
theorem dX11_pathBehind_56 : decode cX11_pathBehind 56 = .ok (.istore_n 3, 1) := by decide +kernel
theorem dX11_pathBehind_57 : decode cX11_pathBehind 57 = .ok (.iload 4, 2) := by decide +kernel
theorem dX11_pathBehind_59 : decode cX11_pathBehind 59 = .ok (.bipush 10, 2) := by decide +kernel
theorem dX11_pathBehind_61 : decode cX11_pathBehind 61 = .ok (.idiv, 1) := by decide +kernel
theorem dX11_pathBehind_62 : decode cX11_pathBehind 62 = .ok (.istore 4, 2) := by decide +kernel
theorem dX11_pathBehind_64 : decode cX11_pathBehind 64 = .ok (.goto (-42), 3) := by decide +kernel
theorem dX11_pathBehind_67 : decode cX11_pathBehind 67 = .ok (.iload_n 3, 1) := by decide +kernel
theorem dX11_pathBehind_68 : decode cX11_pathBehind 68 = .ok (.ireturn, 1) := by decide +kernel
theorem dX11_redirect_0 : decode cX11_redirect 0 = .ok (.aload_n 0, 1) := by decide +kernel
theorem dX11_redirect_1 : decode cX11_redirect 1 = .ok (.iload_n 1, 1) := by decide +kernel
theorem dX11_redirect_2 : decode cX11_redirect 2 = .ok (.invokevirtual 100, 3) := by decide +kernel
theorem dX11_redirect_5 : decode cX11_redirect 5 = .ok (.astore 4, 2) := by decide +kernel
theorem dX11_redirect_7 : decode cX11_redirect 7 = .ok (.iload_n 2, 1) := by decide +kernel
theorem dX11_redirect_8 : decode cX11_redirect 8 = .ok (.iconst (-1), 1) := by decide +kernel
theorem dX11_redirect_9 : decode cX11_redirect 9 = .ok (.if_icmp .ne 7, 3) := by decide +kernel
theorem dX11_redirect_12 : decode cX11_redirect 12 = .ok (.aconst_null, 1) := by decide +kernel
theorem dX11_redirect_13 : decode cX11_redirect 13 = .ok (.goto 8, 3) := by decide +kernel
theorem dX11_redirect_16 : decode cX11_redirect 16 = .ok (.aload_n 0, 1) := by decide +kernel
theorem dX11_redirect_17 : decode cX11_redirect 17 = .ok (.iload_n 2, 1) := by decide +kernel
theorem dX11_redirect_18 : decode cX11_redirect 18 = .ok (.invokevirtual 100, 3) := by decide +kernel
theorem dX11_redirect_21 : decode cX11_redirect 21 = .ok (.astore 5, 2) := by decide +kernel
theorem dX11_redirect_23 : decode cX11_redirect 23 = .ok (.iload_n 3, 1) := by decide +kernel
theorem dX11_redirect_24 : decode cX11_redirect 24 = .ok (.ifCond .lt 8, 3) := by decide +kernel
theorem dX11_redirect_27 : decode cX11_redirect 27 = .ok (.iload_n 3, 1) := by decide +kernel
theorem dX11_redirect_28 : decode cX11_redirect 28 = .ok (.iconst 4, 1) := by decide +kernel
theorem dX11_redirect_29 : decode cX11_redirect 29 = .ok (.if_icmp .le 13, 3) := by decide +kernel
theorem dX11_redirect_32 : decode cX11_redirect 32 = .ok (.new 46, 3) := by decide +kernel
theorem dX11_redirect_35 : decode cX11_redirect 35 = .ok (.dup, 1) := by decide +kernel
theorem dX11_redirect_36 : decode cX11_redirect 36 = .ok (.ldc 176, 2) := by decide +kernel
theorem dX11_redirect_38 : decode cX11_redirect 38 = .ok (.invokespecial 50, 3) := by decide +kernel
theorem dX11_redirect_41 : decode cX11_redirect 41 = .ok (.athrow, 1) := by decide +kernel
theorem dX11_redirect_42 : decode cX11_redirect 42 = .ok (.aload 4, 2) := by decide +kernel
theorem dX11_redirect_44 : decode cX11_redirect 44 = .ok (.aload 5, 2) := by decide +kernel
theorem dX11_redirect_46 : decode cX11_redirect 46 = .ok (.putfield 178, 3) := by decide +kernel
theorem dX11_redirect_49 : decode cX11_redirect 49 = .ok (.aload 4, 2) := by decide +kernel
theorem dX11_redirect_51 : decode cX11_redirect 51 = .ok (.iload_n 3, 1) := by decide +kernel
theorem dX11_redirect_52 : decode cX11_redirect 52 = .ok (.putfield 182, 3) := by decide +kernel
theorem dX11_redirect_55 : decode cX11_redirect 55 = .ok (.return_, 1) := by decide +kernel
theorem dX11_allow_0 : decode cX11_allow 0 = .ok (.aload_n 0, 1) := by decide +kernel
theorem dX11_allow_1 : decode cX11_allow 1 = .ok (.iload_n 1, 1) := by decide +kernel
theorem dX11_allow_2 : decode cX11_allow 2 = .ok (.invokevirtual 100, 3) := by decide +kernel
theorem dX11_allow_5 : decode cX11_allow 5 = .ok (.astore 6, 2) := by decide +kernel
theorem dX11_allow_7 : decode cX11_allow 7 = .ok (.iload_n 2, 1) := by decide +kernel
theorem dX11_allow_8 : decode cX11_allow 8 = .ok (.iconst (-1), 1) := by decide +kernel
theorem dX11_allow_9 : decode cX11_allow 9 = .ok (.if_icmp .eq 15, 3) := by decide +kernel
theorem dX11_allow_12 : decode cX11_allow 12 = .ok (.iload_n 2, 1) := by decide +kernel
theorem dX11_allow_13 : decode cX11_allow 13 = .ok (.bipush (-2), 2) := by decide +kernel
theorem dX11_allow_15 : decode cX11_allow 15 = .ok (.if_icmp .eq 9, 3) := by decide +kernel
theorem dX11_allow_18 : decode cX11_allow 18 = .ok (.iload_n 2, 1) := by decide +kernel
theorem dX11_allow_19 : decode cX11_allow 19 = .ok (.bipush (-3), 2) := by decide +kernel
theorem dX11_allow_21 : decode cX11_allow 21 = .ok (.if_icmp .ne 7, 3) := by decide +kernel
theorem dX11_allow_24 : decode cX11_allow 24 = .ok (.iconst 1, 1) := by decide +kernel
theorem dX11_allow_25 : decode cX11_allow 25 = .ok (.goto 4, 3) := by decide +kernel
theorem dX11_allow_28 : decode cX11_allow 28 = .ok (.iconst 0, 1) := by decide +kernel
theorem dX11_allow_29 : decode cX11_allow 29 = .ok (.istore 7, 2) := by decide +kernel
theorem dX11_allow_31 : decode cX11_allow 31 = .ok (.iload 7, 2) := by decide +kernel
theorem dX11_allow_33 : decode cX11_allow 33 = .ok (.ifCond .eq 7, 3) := by decide +kernel
theorem dX11_allow_36 : decode cX11_allow 36 = .ok (.iload_n 2, 1) := by decide +kernel
theorem dX11_allow_37 : decode cX11_allow 37 = .ok (.goto 11, 3) := by decide +kernel
theorem dX11_allow_40 : decode cX11_allow 40 = .ok (.aload_n 0, 1) := by decide +kernel
theorem dX11_allow_41 : decode cX11_allow 41 = .ok (.iload_n 2, 1) := by decide +kernel
theorem dX11_allow_42 : decode cX11_allow 42 = .ok (.invokevirtual 100, 3) := by decide +kernel
theorem dX11_allow_45 : decode cX11_allow 45 = .ok (.invokevirtual 185, 3) := by decide +kernel
theorem dX11_allow_48 : decode cX11_allow 48 = .ok (.istore 8, 2) := by decide +kernel
theorem dX11_allow_50 : decode cX11_allow 50 = .ok (.iload 4, 2) := by decide +kernel
theorem dX11_allow_52 : decode cX11_allow 52 = .ok (.ifCond .lt 22, 3) := by decide +kernel
theorem dX11_allow_55 : decode cX11_allow 55 = .ok (.iload 4, 2) := by decide +kernel
theorem dX11_allow_57 : decode cX11_allow 57 = .ok (.iconst 3, 1) := by decide +kernel
theorem dX11_allow_58 : decode cX11_allow 58 = .ok (.if_icmp .gt 16, 3) := by decide +kernel
theorem dX11_allow_61 : decode cX11_allow 61 = .ok (.iload 5, 2) := by decide +kernel
theorem dX11_allow_63 : decode cX11_allow 63 = .ok (.ifCond .lt 11, 3) := by decide +kernel
theorem dX11_allow_66 : decode cX11_allow 66 = .ok (.iload 5, 2) := by decide +kernel
theorem dX11_allow_68 : decode cX11_allow 68 = .ok (.sipush 1000, 3) := by decide +kernel
theorem dX11_allow_71 : decode cX11_allow 71 = .ok (.if_icmp .le 13, 3) := by decide +kernel
theorem dX11_allow_74 : decode cX11_allow 74 = .ok (.new 46, 3) := by decide +kernel
theorem dX11_allow_77 : decode cX11_allow 77 = .ok (.dup, 1) := by decide +kernel
theorem dX11_allow_78 : decode cX11_allow 78 = .ok (.ldc 188, 2) := by decide +kernel
theorem dX11_allow_80 : decode cX11_allow 80 = .ok (.invokespecial 50, 3) := by decide +kernel
theorem dX11_allow_83 : decode cX11_allow 83 = .ok (.athrow, 1) := by decide +kernel
theorem dX11_allow_84 : decode cX11_allow 84 = .ok (.aload 6, 2) := by decide +kernel
theorem dX11_allow_86 : decode cX11_allow 86 = .ok (.iload 8, 2) := by decide +kernel
theorem dX11_allow_88 : decode cX11_allow 88 = .ok (.putfield 190, 3) := by decide +kernel
theorem dX11_allow_91 : decode cX11_allow 91 = .ok (.aload 6, 2) := by decide +kernel
theorem dX11_allow_93 : decode cX11_allow 93 = .ok (.iload_n 3, 1) := by decide +kernel
theorem dX11_allow_94 : decode cX11_allow 94 = .ok (.putfield 193, 3) := by decide +kernel
theorem dX11_allow_97 : decode cX11_allow 97 = .ok (.aload 6, 2) := by decide +kernel
theorem dX11_allow_99 : decode cX11_allow 99 = .ok (.iload 4, 2) := by decide +kernel
theorem dX11_allow_101 : decode cX11_allow 101 = .ok (.putfield 196, 3) := by decide +kernel
theorem dX11_allow_104 : decode cX11_allow 104 = .ok (.aload 6, 2) := by decide +kernel
theorem dX11_allow_106 : decode cX11_allow 106 = .ok (.iload 5, 2) := by decide +kernel
theorem dX11_allow_108 : decode cX11_allow 108 = .ok (.putfield 199, 3) := by decide +kernel
theorem dX11_allow_111 : decode cX11_allow 111 = .ok (.return_, 1) := by decide +kernel
theorem dX11_setsCookie_0 : decode cX11_setsCookie 0 = .ok (.aload_n 0, 1) := by decide +kernel
theorem dX11_setsCookie_1 : decode cX11_setsCookie 1 = .ok (.iload_n 1, 1) := by decide +kernel
theorem dX11_setsCookie_2 : decode cX11_setsCookie 2 = .ok (.invokevirtual 100, 3) := by decide +kernel
theorem dX11_setsCookie_5 : decode cX11_setsCookie 5 = .ok (.astore 8, 2) := by decide +kernel
theorem dX11_setsCookie_7 : decode cX11_setsCookie 7 = .ok (.iload 4, 2) := by decide +kernel
theorem dX11_setsCookie_9 : decode cX11_setsCookie 9 = .ok (.iconst (-1), 1) := by decide +kernel
theorem dX11_setsCookie_10 : decode cX11_setsCookie 10 = .ok (.if_icmp .ne 7, 3) := by decide +kernel
theorem dX11_setsCookie_13 : decode cX11_setsCookie 13 = .ok (.aconst_null, 1) := by decide +kernel
theorem dX11_setsCookie_14 : decode cX11_setsCookie 14 = .ok (.goto 9, 3) := by decide +kernel
theorem dX11_setsCookie_17 : decode cX11_setsCookie 17 = .ok (.aload_n 0, 1) := by decide +kernel
theorem dX11_setsCookie_18 : decode cX11_setsCookie 18 = .ok (.iload 4, 2) := by decide +kernel
theorem dX11_setsCookie_20 : decode cX11_setsCookie 20 = .ok (.invokevirtual 42, 3) := by decide +kernel
theorem dX11_setsCookie_23 : decode cX11_setsCookie 23 = .ok (.astore 9, 2) := by decide +kernel
theorem dX11_setsCookie_25 : decode cX11_setsCookie 25 = .ok (.iload_n 2, 1) := by decide +kernel
theorem dX11_setsCookie_26 : decode cX11_setsCookie 26 = .ok (.ifCond .lt 29, 3) := by decide +kernel
theorem dX11_setsCookie_29 : decode cX11_setsCookie 29 = .ok (.iload_n 2, 1) := by decide +kernel
theorem dX11_setsCookie_30 : decode cX11_setsCookie 30 = .ok (.bipush 9, 2) := by decide +kernel
theorem dX11_setsCookie_32 : decode cX11_setsCookie 32 = .ok (.if_icmp .gt 23, 3) := by decide +kernel
theorem dX11_setsCookie_35 : decode cX11_setsCookie 35 = .ok (.iload_n 3, 1) := by decide +kernel
theorem dX11_setsCookie_36 : decode cX11_setsCookie 36 = .ok (.iconst (-1), 1) := by decide +kernel
theorem dX11_setsCookie_37 : decode cX11_setsCookie 37 = .ok (.if_icmp .lt 18, 3) := by decide +kernel
theorem dX11_setsCookie_40 : decode cX11_setsCookie 40 = .ok (.iload_n 3, 1) := by decide +kernel
theorem dX11_setsCookie_41 : decode cX11_setsCookie 41 = .ok (.sipush 999, 3) := by decide +kernel
theorem dX11_setsCookie_44 : decode cX11_setsCookie 44 = .ok (.if_icmp .gt 11, 3) := by decide +kernel
theorem dX11_setsCookie_47 : decode cX11_setsCookie 47 = .ok (.iload 5, 2) := by decide +kernel
theorem dX11_setsCookie_49 : decode cX11_setsCookie 49 = .ok (.invokestatic 90, 3) := by decide +kernel
theorem dX11_setsCookie_52 : decode cX11_setsCookie 52 = .ok (.ifCond .ne 13, 3) := by decide +kernel
theorem dX11_setsCookie_55 : decode cX11_setsCookie 55 = .ok (.new 46, 3) := by decide +kernel
theorem dX11_setsCookie_58 : decode cX11_setsCookie 58 = .ok (.dup, 1) := by decide +kernel
theorem dX11_setsCookie_59 : decode cX11_setsCookie 59 = .ok (.ldc 202, 2) := by decide +kernel
theorem dX11_setsCookie_61 : decode cX11_setsCookie 61 = .ok (.invokespecial 50, 3) := by decide +kernel
theorem dX11_setsCookie_64 : decode cX11_setsCookie 64 = .ok (.athrow, 1) := by decide +kernel
theorem dX11_setsCookie_65 : decode cX11_setsCookie 65 = .ok (.iload 6, 2) := by decide +kernel
theorem dX11_setsCookie_67 : decode cX11_setsCookie 67 = .ok (.ifCond .lt 24, 3) := by decide +kernel
theorem dX11_setsCookie_70 : decode cX11_setsCookie 70 = .ok (.iload 6, 2) := by decide +kernel
theorem dX11_setsCookie_72 : decode cX11_setsCookie 72 = .ok (.bipush 63, 2) := by decide +kernel
theorem dX11_setsCookie_74 : decode cX11_setsCookie 74 = .ok (.if_icmp .gt 17, 3) := by decide +kernel
theorem dX11_setsCookie_77 : decode cX11_setsCookie 77 = .ok (.iload 7, 2) := by decide +kernel
theorem dX11_setsCookie_79 : decode cX11_setsCookie 79 = .ok (.iconst (-1), 1) := by decide +kernel
theorem dX11_setsCookie_80 : decode cX11_setsCookie 80 = .ok (.if_icmp .lt 11, 3) := by decide +kernel
theorem dX11_setsCookie_83 : decode cX11_setsCookie 83 = .ok (.iload 7, 2) := by decide +kernel
theorem dX11_setsCookie_85 : decode cX11_setsCookie 85 = .ok (.sipush 1000, 3) := by decide +kernel
theorem dX11_setsCookie_88 : decode cX11_setsCookie 88 = .ok (.if_icmp .le 13, 3) := by decide +kernel
theorem dX11_setsCookie_91 : decode cX11_setsCookie 91 = .ok (.new 46, 3) := by decide +kernel
theorem dX11_setsCookie_94 : decode cX11_setsCookie 94 = .ok (.dup, 1) := by decide +kernel
theorem dX11_setsCookie_95 : decode cX11_setsCookie 95 = .ok (.ldc 204, 2) := by decide +kernel
theorem dX11_setsCookie_97 : decode cX11_setsCookie 97 = .ok (.invokespecial 50, 3) := by decide +kernel
theorem dX11_setsCookie_100 : decode cX11_setsCookie 100 = .ok (.athrow, 1) := by decide +kernel
theorem dX11_setsCookie_101 : decode cX11_setsCookie 101 = .ok (.aload 8, 2) := by decide +kernel
theorem dX11_setsCookie_103 : decode cX11_setsCookie 103 = .ok (.iload_n 3, 1) := by decide +kernel
theorem dX11_setsCookie_104 : decode cX11_setsCookie 104 = .ok (.iconst (-1), 1) := by decide +kernel
theorem dX11_setsCookie_105 : decode cX11_setsCookie 105 = .ok (.if_icmp .ne 7, 3) := by decide +kernel
theorem dX11_setsCookie_108 : decode cX11_setsCookie 108 = .ok (.aconst_null, 1) := by decide +kernel
theorem dX11_setsCookie_109 : decode cX11_setsCookie 109 = .ok (.goto 20, 3) := by decide +kernel
theorem dX11_setsCookie_112 : decode cX11_setsCookie 112 = .ok (.new 206, 3) := by decide +kernel
theorem dX11_setsCookie_115 : decode cX11_setsCookie 115 = .ok (.dup, 1) := by decide +kernel
theorem dX11_setsCookie_116 : decode cX11_setsCookie 116 = .ok (.iload_n 2, 1) := by decide +kernel
theorem dX11_setsCookie_117 : decode cX11_setsCookie 117 = .ok (.iload_n 3, 1) := by decide +kernel
theorem dX11_setsCookie_118 : decode cX11_setsCookie 118 = .ok (.aload 9, 2) := by decide +kernel
theorem dX11_setsCookie_120 : decode cX11_setsCookie 120 = .ok (.iload 5, 2) := by decide +kernel
theorem dX11_setsCookie_122 : decode cX11_setsCookie 122 = .ok (.iload 6, 2) := by decide +kernel
theorem dX11_setsCookie_124 : decode cX11_setsCookie 124 = .ok (.iload 7, 2) := by decide +kernel
theorem dX11_setsCookie_126 : decode cX11_setsCookie 126 = .ok (.invokespecial 208, 3) := by decide +kernel
theorem dX11_setsCookie_129 : decode cX11_setsCookie 129 = .ok (.putfield 211, 3) := by decide +kernel
theorem dX11_setsCookie_132 : decode cX11_setsCookie 132 = .ok (.return_, 1) := by decide +kernel
theorem dX11_toggleBlocking_0 : decode cX11_toggleBlocking 0 = .ok (.aload_n 0, 1) := by decide +kernel
theorem dX11_toggleBlocking_1 : decode cX11_toggleBlocking 1 = .ok (.aload_n 0, 1) := by decide +kernel
theorem dX11_toggleBlocking_2 : decode cX11_toggleBlocking 2 = .ok (.getfield 215, 3) := by decide +kernel
theorem dX11_toggleBlocking_5 : decode cX11_toggleBlocking 5 = .ok (.ifCond .ne 7, 3) := by decide +kernel
theorem dX11_toggleBlocking_8 : decode cX11_toggleBlocking 8 = .ok (.iconst 1, 1) := by decide +kernel
theorem dX11_toggleBlocking_9 : decode cX11_toggleBlocking 9 = .ok (.goto 4, 3) := by decide +kernel
theorem dX11_toggleBlocking_12 : decode cX11_toggleBlocking 12 = .ok (.iconst 0, 1) := by decide +kernel
theorem dX11_toggleBlocking_13 : decode cX11_toggleBlocking 13 = .ok (.putfield 215, 3) := by decide +kernel
theorem dX11_toggleBlocking_16 : decode cX11_toggleBlocking 16 = .ok (.aload_n 0, 1) := by decide +kernel
theorem dX11_toggleBlocking_17 : decode cX11_toggleBlocking 17 = .ok (.getfield 215, 3) := by decide +kernel
theorem dX11_toggleBlocking_20 : decode cX11_toggleBlocking 20 = .ok (.ireturn, 1) := by decide +kernel
theorem dX11_page_0 : decode cX11_page 0 = .ok (.aload_n 0, 1) := by decide +kernel
theorem dX11_page_1 : decode cX11_page 1 = .ok (.iload_n 1, 1) := by decide +kernel
theorem dX11_page_2 : decode cX11_page 2 = .ok (.invokevirtual 100, 3) := by decide +kernel
theorem dX11_page_5 : decode cX11_page 5 = .ok (.astore 4, 2) := by decide +kernel
theorem dX11_page_7 : decode cX11_page 7 = .ok (.iload_n 2, 1) := by decide +kernel
theorem dX11_page_8 : decode cX11_page 8 = .ok (.iconst (-1), 1) := by decide +kernel
theorem dX11_page_9 : decode cX11_page 9 = .ok (.if_icmp .ne 7, 3) := by decide +kernel
theorem dX11_page_12 : decode cX11_page 12 = .ok (.aconst_null, 1) := by decide +kernel
theorem dX11_page_13 : decode cX11_page 13 = .ok (.goto 8, 3) := by decide +kernel
theorem dX11_page_16 : decode cX11_page 16 = .ok (.aload_n 0, 1) := by decide +kernel
theorem dX11_page_17 : decode cX11_page 17 = .ok (.iload_n 2, 1) := by decide +kernel
theorem dX11_page_18 : decode cX11_page 18 = .ok (.invokevirtual 218, 3) := by decide +kernel
theorem dX11_page_21 : decode cX11_page 21 = .ok (.astore 5, 2) := by decide +kernel
theorem dX11_page_23 : decode cX11_page 23 = .ok (.iload_n 3, 1) := by decide +kernel
theorem dX11_page_24 : decode cX11_page 24 = .ok (.ifCond .lt 8, 3) := by decide +kernel
theorem dX11_page_27 : decode cX11_page 27 = .ok (.iload_n 3, 1) := by decide +kernel
theorem dX11_page_28 : decode cX11_page 28 = .ok (.iconst 4, 1) := by decide +kernel
theorem dX11_page_29 : decode cX11_page 29 = .ok (.if_icmp .le 13, 3) := by decide +kernel
theorem dX11_page_32 : decode cX11_page 32 = .ok (.new 46, 3) := by decide +kernel
theorem dX11_page_35 : decode cX11_page 35 = .ok (.dup, 1) := by decide +kernel
theorem dX11_page_36 : decode cX11_page 36 = .ok (.ldc 222, 2) := by decide +kernel
theorem dX11_page_38 : decode cX11_page 38 = .ok (.invokespecial 50, 3) := by decide +kernel
theorem dX11_page_41 : decode cX11_page 41 = .ok (.athrow, 1) := by decide +kernel
theorem dX11_page_42 : decode cX11_page 42 = .ok (.aload_n 0, 1) := by decide +kernel
theorem dX11_page_43 : decode cX11_page 43 = .ok (.getfield 19, 3) := by decide +kernel
theorem dX11_page_46 : decode cX11_page 46 = .ok (.invokevirtual 66, 3) := by decide +kernel
theorem dX11_page_49 : decode cX11_page 49 = .ok (.bipush 8, 2) := by decide +kernel
theorem dX11_page_51 : decode cX11_page 51 = .ok (.if_icmp .lt 13, 3) := by decide +kernel
theorem dX11_page_54 : decode cX11_page 54 = .ok (.new 70, 3) := by decide +kernel
theorem dX11_page_57 : decode cX11_page 57 = .ok (.dup, 1) := by decide +kernel
theorem dX11_page_58 : decode cX11_page 58 = .ok (.ldc 224, 2) := by decide +kernel
theorem dX11_page_60 : decode cX11_page 60 = .ok (.invokespecial 74, 3) := by decide +kernel
theorem dX11_page_63 : decode cX11_page 63 = .ok (.athrow, 1) := by decide +kernel
theorem dX11_page_64 : decode cX11_page 64 = .ok (.aload_n 0, 1) := by decide +kernel
theorem dX11_page_65 : decode cX11_page 65 = .ok (.getfield 19, 3) := by decide +kernel
theorem dX11_page_68 : decode cX11_page 68 = .ok (.new 226, 3) := by decide +kernel
theorem dX11_page_71 : decode cX11_page 71 = .ok (.dup, 1) := by decide +kernel
theorem dX11_page_72 : decode cX11_page 72 = .ok (.aload 4, 2) := by decide +kernel
theorem dX11_page_74 : decode cX11_page 74 = .ok (.aload 5, 2) := by decide +kernel
theorem dX11_page_76 : decode cX11_page 76 = .ok (.iload_n 3, 1) := by decide +kernel
theorem dX11_page_77 : decode cX11_page 77 = .ok (.invokespecial 228, 3) := by decide +kernel
theorem dX11_page_80 : decode cX11_page 80 = .ok (.invokevirtual 78, 3) := by decide +kernel
theorem dX11_page_83 : decode cX11_page 83 = .ok (.pop, 1) := by decide +kernel
theorem dX11_page_84 : decode cX11_page 84 = .ok (.aload_n 0, 1) := by decide +kernel
theorem dX11_page_85 : decode cX11_page 85 = .ok (.getfield 19, 3) := by decide +kernel
theorem dX11_page_88 : decode cX11_page 88 = .ok (.invokevirtual 66, 3) := by decide +kernel
theorem dX11_page_91 : decode cX11_page 91 = .ok (.iconst 1, 1) := by decide +kernel
theorem dX11_page_92 : decode cX11_page 92 = .ok (.isub, 1) := by decide +kernel
theorem dX11_page_93 : decode cX11_page 93 = .ok (.ireturn, 1) := by decide +kernel
theorem dX11_request_0 : decode cX11_request 0 = .ok (.aload_n 0, 1) := by decide +kernel
theorem dX11_request_1 : decode cX11_request 1 = .ok (.iload_n 1, 1) := by decide +kernel
theorem dX11_request_2 : decode cX11_request 2 = .ok (.invokevirtual 218, 3) := by decide +kernel
theorem dX11_request_5 : decode cX11_request 5 = .ok (.astore 7, 2) := by decide +kernel
theorem dX11_request_7 : decode cX11_request 7 = .ok (.aload_n 0, 1) := by decide +kernel
theorem dX11_request_8 : decode cX11_request 8 = .ok (.iload_n 2, 1) := by decide +kernel
theorem dX11_request_9 : decode cX11_request 9 = .ok (.invokevirtual 100, 3) := by decide +kernel
theorem dX11_request_12 : decode cX11_request 12 = .ok (.astore 8, 2) := by decide +kernel
theorem dX11_request_14 : decode cX11_request 14 = .ok (.iload_n 3, 1) := by decide +kernel
theorem dX11_request_15 : decode cX11_request 15 = .ok (.ifCond .lt 30, 3) := by decide +kernel
theorem dX11_request_18 : decode cX11_request 18 = .ok (.iload_n 3, 1) := by decide +kernel
theorem dX11_request_19 : decode cX11_request 19 = .ok (.iconst 2, 1) := by decide +kernel
theorem dX11_request_20 : decode cX11_request 20 = .ok (.if_icmp .gt 25, 3) := by decide +kernel
theorem dX11_request_23 : decode cX11_request 23 = .ok (.iload 4, 2) := by decide +kernel
theorem dX11_request_25 : decode cX11_request 25 = .ok (.ifCond .lt 20, 3) := by decide +kernel
theorem dX11_request_28 : decode cX11_request 28 = .ok (.iload 4, 2) := by decide +kernel
theorem dX11_request_30 : decode cX11_request 30 = .ok (.iconst 2, 1) := by decide +kernel
theorem dX11_request_31 : decode cX11_request 31 = .ok (.if_icmp .gt 14, 3) := by decide +kernel
theorem dX11_request_34 : decode cX11_request 34 = .ok (.iload 5, 2) := by decide +kernel
theorem dX11_request_36 : decode cX11_request 36 = .ok (.ifCond .lt 9, 3) := by decide +kernel
theorem dX11_request_39 : decode cX11_request 39 = .ok (.iload 5, 2) := by decide +kernel
theorem dX11_request_41 : decode cX11_request 41 = .ok (.iconst 2, 1) := by decide +kernel
theorem dX11_request_42 : decode cX11_request 42 = .ok (.if_icmp .le 13, 3) := by decide +kernel
theorem dX11_request_45 : decode cX11_request 45 = .ok (.new 46, 3) := by decide +kernel
theorem dX11_request_48 : decode cX11_request 48 = .ok (.dup, 1) := by decide +kernel
theorem dX11_request_49 : decode cX11_request 49 = .ok (.ldc 231, 2) := by decide +kernel
theorem dX11_request_51 : decode cX11_request 51 = .ok (.invokespecial 50, 3) := by decide +kernel
theorem dX11_request_54 : decode cX11_request 54 = .ok (.athrow, 1) := by decide +kernel
theorem dX11_request_55 : decode cX11_request 55 = .ok (.iload 4, 2) := by decide +kernel
theorem dX11_request_57 : decode cX11_request 57 = .ok (.iconst 1, 1) := by decide +kernel
theorem dX11_request_58 : decode cX11_request 58 = .ok (.if_icmp .eq 23, 3) := by decide +kernel
theorem dX11_request_61 : decode cX11_request 61 = .ok (.iload_n 3, 1) := by decide +kernel
theorem dX11_request_62 : decode cX11_request 62 = .ok (.iconst 2, 1) := by decide +kernel
theorem dX11_request_63 : decode cX11_request 63 = .ok (.if_icmp .eq 8, 3) := by decide +kernel
theorem dX11_request_66 : decode cX11_request 66 = .ok (.iload 6, 2) := by decide +kernel
theorem dX11_request_68 : decode cX11_request 68 = .ok (.ifCond .eq 13, 3) := by decide +kernel
theorem dX11_request_71 : decode cX11_request 71 = .ok (.new 46, 3) := by decide +kernel
theorem dX11_request_74 : decode cX11_request 74 = .ok (.dup, 1) := by decide +kernel
theorem dX11_request_75 : decode cX11_request 75 = .ok (.ldc 233, 2) := by decide +kernel
theorem dX11_request_77 : decode cX11_request 77 = .ok (.invokespecial 50, 3) := by decide +kernel
theorem dX11_request_80 : decode cX11_request 80 = .ok (.athrow, 1) := by decide +kernel
theorem dX11_request_81 : decode cX11_request 81 = .ok (.aload_n 0, 1) := by decide +kernel
theorem dX11_request_82 : decode cX11_request 82 = .ok (.getfield 22, 3) := by decide +kernel
theorem dX11_request_85 : decode cX11_request 85 = .ok (.invokevirtual 66, 3) := by decide +kernel
theorem dX11_request_88 : decode cX11_request 88 = .ok (.bipush 40, 2) := by decide +kernel
theorem dX11_request_90 : decode cX11_request 90 = .ok (.if_icmp .ge 17, 3) := by decide +kernel
theorem dX11_request_93 : decode cX11_request 93 = .ok (.iload 4, 2) := by decide +kernel
theorem dX11_request_95 : decode cX11_request 95 = .ok (.iconst 2, 1) := by decide +kernel
theorem dX11_request_96 : decode cX11_request 96 = .ok (.if_icmp .ne 21, 3) := by decide +kernel
theorem dX11_request_99 : decode cX11_request 99 = .ok (.aload 7, 2) := by decide +kernel
theorem dX11_request_101 : decode cX11_request 101 = .ok (.getfield 235, 3) := by decide +kernel
theorem dX11_request_104 : decode cX11_request 104 = .ok (.ifnull 13, 3) := by decide +kernel
theorem dX11_request_107 : decode cX11_request 107 = .ok (.new 70, 3) := by decide +kernel
theorem dX11_request_110 : decode cX11_request 110 = .ok (.dup, 1) := by decide +kernel
theorem dX11_request_111 : decode cX11_request 111 = .ok (.ldc 238, 2) := by decide +kernel
theorem dX11_request_113 : decode cX11_request 113 = .ok (.invokespecial 74, 3) := by decide +kernel
theorem dX11_request_116 : decode cX11_request 116 = .ok (.athrow, 1) := by decide +kernel
theorem dX11_request_117 : decode cX11_request 117 = .ok (.iload 4, 2) := by decide +kernel
theorem dX11_request_119 : decode cX11_request 119 = .ok (.iconst 2, 1) := by decide +kernel
theorem dX11_request_120 : decode cX11_request 120 = .ok (.if_icmp .ne 7, 3) := by decide +kernel
theorem dX11_request_123 : decode cX11_request 123 = .ok (.iconst 2, 1) := by decide +kernel
theorem dX11_request_124 : decode cX11_request 124 = .ok (.goto 5, 3) := by decide +kernel
theorem dX11_request_127 : decode cX11_request 127 = .ok (.iload 5, 2) := by decide +kernel
theorem dX11_request_129 : decode cX11_request 129 = .ok (.istore 9, 2) := by decide +kernel
theorem dX11_request_131 : decode cX11_request 131 = .ok (.new 240, 3) := by decide +kernel
theorem dX11_request_134 : decode cX11_request 134 = .ok (.dup, 1) := by decide +kernel
theorem dX11_request_135 : decode cX11_request 135 = .ok (.aload 7, 2) := by decide +kernel
theorem dX11_request_137 : decode cX11_request 137 = .ok (.iload_n 3, 1) := by decide +kernel
theorem dX11_request_138 : decode cX11_request 138 = .ok (.iload 4, 2) := by decide +kernel
theorem dX11_request_140 : decode cX11_request 140 = .ok (.iload 9, 2) := by decide +kernel
theorem dX11_request_142 : decode cX11_request 142 = .ok (.iload 6, 2) := by decide +kernel
theorem dX11_request_144 : decode cX11_request 144 = .ok (.invokespecial 242, 3) := by decide +kernel
theorem dX11_request_147 : decode cX11_request 147 = .ok (.astore 10, 2) := by decide +kernel
theorem dX11_request_149 : decode cX11_request 149 = .ok (.aload_n 0, 1) := by decide +kernel
theorem dX11_request_150 : decode cX11_request 150 = .ok (.getfield 22, 3) := by decide +kernel
theorem dX11_request_153 : decode cX11_request 153 = .ok (.aload 10, 2) := by decide +kernel
theorem dX11_request_155 : decode cX11_request 155 = .ok (.invokevirtual 78, 3) := by decide +kernel
theorem dX11_request_158 : decode cX11_request 158 = .ok (.pop, 1) := by decide +kernel
theorem dX11_request_159 : decode cX11_request 159 = .ok (.iconst 0, 1) := by decide +kernel
theorem dX11_request_160 : decode cX11_request 160 = .ok (.istore 11, 2) := by decide +kernel
theorem dX11_request_162 : decode cX11_request 162 = .ok (.iload 11, 2) := by decide +kernel
theorem dX11_request_164 : decode cX11_request 164 = .ok (.bipush 6, 2) := by decide +kernel
theorem dX11_request_166 : decode cX11_request 166 = .ok (.if_icmp .ge 24, 3) := by decide +kernel
theorem dX11_request_169 : decode cX11_request 169 = .ok (.aload 8, 2) := by decide +kernel
theorem dX11_request_171 : decode cX11_request 171 = .ok (.ifnull 19, 3) := by decide +kernel
theorem dX11_request_174 : decode cX11_request 174 = .ok (.aload_n 0, 1) := by decide +kernel
theorem dX11_request_175 : decode cX11_request 175 = .ok (.aload 10, 2) := by decide +kernel
theorem dX11_request_177 : decode cX11_request 177 = .ok (.aload 8, 2) := by decide +kernel
theorem dX11_request_179 : decode cX11_request 179 = .ok (.invokevirtual 245, 3) := by decide +kernel
theorem dX11_request_182 : decode cX11_request 182 = .ok (.astore 8, 2) := by decide +kernel
theorem dX11_request_184 : decode cX11_request 184 = .ok (.iinc 11 1, 3) := by decide +kernel
theorem dX11_request_187 : decode cX11_request 187 = .ok (.goto (-25), 3) := by decide +kernel
theorem dX11_request_190 : decode cX11_request 190 = .ok (.aload 10, 2) := by decide +kernel
theorem dX11_request_192 : decode cX11_request 192 = .ok (.invokestatic 249, 3) := by decide +kernel
theorem dX11_request_195 : decode cX11_request 195 = .ok (.ireturn, 1) := by decide +kernel
theorem dX11_pass_0 : decode cX11_pass 0 = .ok (.iload_n 1, 1) := by decide +kernel
theorem dX11_pass_1 : decode cX11_pass 1 = .ok (.iconst 1, 1) := by decide +kernel
theorem dX11_pass_2 : decode cX11_pass 2 = .ok (.if_icmp .lt 10, 3) := by decide +kernel
theorem dX11_pass_5 : decode cX11_pass 5 = .ok (.iload_n 1, 1) := by decide +kernel
theorem dX11_pass_6 : decode cX11_pass 6 = .ok (.sipush 1000, 3) := by decide +kernel
theorem dX11_pass_9 : decode cX11_pass 9 = .ok (.if_icmp .le 13, 3) := by decide +kernel
theorem dX11_pass_12 : decode cX11_pass 12 = .ok (.new 46, 3) := by decide +kernel
theorem dX11_pass_15 : decode cX11_pass 15 = .ok (.dup, 1) := by decide +kernel
theorem dX11_pass_16 : decode cX11_pass 16 = .ok (.ldc 253, 2) := by decide +kernel
theorem dX11_pass_18 : decode cX11_pass 18 = .ok (.invokespecial 50, 3) := by decide +kernel
theorem dX11_pass_21 : decode cX11_pass 21 = .ok (.athrow, 1) := by decide +kernel
theorem dX11_pass_22 : decode cX11_pass 22 = .ok (.aload_n 0, 1) := by decide +kernel
theorem dX11_pass_23 : decode cX11_pass 23 = .ok (.dup, 1) := by decide +kernel
theorem dX11_pass_24 : decode cX11_pass 24 = .ok (.getfield 255, 3) := by decide +kernel
theorem dX11_pass_27 : decode cX11_pass 27 = .ok (.iload_n 1, 1) := by decide +kernel
theorem dX11_pass_28 : decode cX11_pass 28 = .ok (.iadd, 1) := by decide +kernel
theorem dX11_pass_29 : decode cX11_pass 29 = .ok (.putfield 255, 3) := by decide +kernel
theorem dX11_pass_32 : decode cX11_pass 32 = .ok (.aload_n 0, 1) := by decide +kernel
theorem dX11_pass_33 : decode cX11_pass 33 = .ok (.getfield 31, 3) := by decide +kernel
theorem dX11_pass_36 : decode cX11_pass 36 = .ok (.aload_n 0, 1) := by decide +kernel
theorem dX11_pass_37 : decode cX11_pass 37 = .ok (.getfield 255, 3) := by decide +kernel
theorem dX11_pass_40 : decode cX11_pass 40 = .ok (.invokevirtual 258, 3) := by decide +kernel
theorem dX11_pass_43 : decode cX11_pass 43 = .ok (.aload_n 0, 1) := by decide +kernel
theorem dX11_pass_44 : decode cX11_pass 44 = .ok (.invokevirtual 262, 3) := by decide +kernel
theorem dX11_pass_47 : decode cX11_pass 47 = .ok (.aload_n 0, 1) := by decide +kernel
theorem dX11_pass_48 : decode cX11_pass 48 = .ok (.getfield 255, 3) := by decide +kernel
theorem dX11_pass_51 : decode cX11_pass 51 = .ok (.ireturn, 1) := by decide +kernel
theorem dX11_pageAt_0 : decode cX11_pageAt 0 = .ok (.iload_n 1, 1) := by decide +kernel
theorem dX11_pageAt_1 : decode cX11_pageAt 1 = .ok (.ifCond .lt 14, 3) := by decide +kernel
theorem dX11_pageAt_4 : decode cX11_pageAt 4 = .ok (.iload_n 1, 1) := by decide +kernel
theorem dX11_pageAt_5 : decode cX11_pageAt 5 = .ok (.aload_n 0, 1) := by decide +kernel
theorem dX11_pageAt_6 : decode cX11_pageAt 6 = .ok (.getfield 19, 3) := by decide +kernel
theorem dX11_pageAt_9 : decode cX11_pageAt 9 = .ok (.invokevirtual 66, 3) := by decide +kernel
theorem dX11_pageAt_12 : decode cX11_pageAt 12 = .ok (.if_icmp .lt 14, 3) := by decide +kernel
theorem dX11_pageAt_15 : decode cX11_pageAt 15 = .ok (.new 140, 3) := by decide +kernel
theorem dX11_pageAt_18 : decode cX11_pageAt 18 = .ok (.dup, 1) := by decide +kernel
theorem dX11_pageAt_19 : decode cX11_pageAt 19 = .ok (.ldc_w 265, 3) := by decide +kernel
theorem dX11_pageAt_22 : decode cX11_pageAt 22 = .ok (.invokespecial 144, 3) := by decide +kernel
theorem dX11_pageAt_25 : decode cX11_pageAt 25 = .ok (.athrow, 1) := by decide +kernel
theorem dX11_pageAt_26 : decode cX11_pageAt 26 = .ok (.aload_n 0, 1) := by decide +kernel
theorem dX11_pageAt_27 : decode cX11_pageAt 27 = .ok (.getfield 19, 3) := by decide +kernel
theorem dX11_pageAt_30 : decode cX11_pageAt 30 = .ok (.iload_n 1, 1) := by decide +kernel
theorem dX11_pageAt_31 : decode cX11_pageAt 31 = .ok (.invokevirtual 151, 3) := by decide +kernel
theorem dX11_pageAt_34 : decode cX11_pageAt 34 = .ok (.checkcast 226, 3) := by decide +kernel
theorem dX11_pageAt_37 : decode cX11_pageAt 37 = .ok (.areturn, 1) := by decide +kernel
theorem dX11_takeHop_0 : decode cX11_takeHop 0 = .ok (.aload_n 0, 1) := by decide +kernel
theorem dX11_takeHop_1 : decode cX11_takeHop 1 = .ok (.aload_n 1, 1) := by decide +kernel
theorem dX11_takeHop_2 : decode cX11_takeHop 2 = .ok (.aload_n 2, 1) := by decide +kernel
theorem dX11_takeHop_3 : decode cX11_takeHop 3 = .ok (.invokevirtual 267, 3) := by decide +kernel
theorem dX11_takeHop_6 : decode cX11_takeHop 6 = .ok (.astore_n 3, 1) := by decide +kernel
theorem dX11_takeHop_7 : decode cX11_takeHop 7 = .ok (.aload_n 1, 1) := by decide +kernel
theorem dX11_takeHop_8 : decode cX11_takeHop 8 = .ok (.aload_n 1, 1) := by decide +kernel
theorem dX11_takeHop_9 : decode cX11_takeHop 9 = .ok (.getfield 270, 3) := by decide +kernel
theorem dX11_takeHop_12 : decode cX11_takeHop 12 = .ok (.ifCond .ne 20, 3) := by decide +kernel
theorem dX11_takeHop_15 : decode cX11_takeHop 15 = .ok (.aload_n 3, 1) := by decide +kernel
theorem dX11_takeHop_16 : decode cX11_takeHop 16 = .ok (.invokevirtual 273, 3) := by decide +kernel
theorem dX11_takeHop_19 : decode cX11_takeHop 19 = .ok (.aload_n 1, 1) := by decide +kernel
theorem dX11_takeHop_20 : decode cX11_takeHop 20 = .ok (.getfield 276, 3) := by decide +kernel
theorem dX11_takeHop_23 : decode cX11_takeHop 23 = .ok (.getfield 279, 3) := by decide +kernel
theorem dX11_takeHop_26 : decode cX11_takeHop 26 = .ok (.invokevirtual 273, 3) := by decide +kernel
theorem dX11_takeHop_29 : decode cX11_takeHop 29 = .ok (.if_icmp .eq 7, 3) := by decide +kernel
theorem dX11_takeHop_32 : decode cX11_takeHop 32 = .ok (.iconst 1, 1) := by decide +kernel
theorem dX11_takeHop_33 : decode cX11_takeHop 33 = .ok (.goto 4, 3) := by decide +kernel
theorem dX11_takeHop_36 : decode cX11_takeHop 36 = .ok (.iconst 0, 1) := by decide +kernel
theorem dX11_takeHop_37 : decode cX11_takeHop 37 = .ok (.putfield 270, 3) := by decide +kernel
theorem dX11_takeHop_40 : decode cX11_takeHop 40 = .ok (.new 282, 3) := by decide +kernel
theorem dX11_takeHop_43 : decode cX11_takeHop 43 = .ok (.dup, 1) := by decide +kernel
theorem dX11_takeHop_44 : decode cX11_takeHop 44 = .ok (.aload_n 1, 1) := by decide +kernel
theorem dX11_takeHop_45 : decode cX11_takeHop 45 = .ok (.aload_n 3, 1) := by decide +kernel
theorem dX11_takeHop_46 : decode cX11_takeHop 46 = .ok (.invokespecial 284, 3) := by decide +kernel
theorem dX11_takeHop_49 : decode cX11_takeHop 49 = .ok (.astore 4, 2) := by decide +kernel
theorem dX11_takeHop_51 : decode cX11_takeHop 51 = .ok (.aload_n 1, 1) := by decide +kernel
theorem dX11_takeHop_52 : decode cX11_takeHop 52 = .ok (.getfield 287, 3) := by decide +kernel
theorem dX11_takeHop_55 : decode cX11_takeHop 55 = .ok (.aload 4, 2) := by decide +kernel
theorem dX11_takeHop_57 : decode cX11_takeHop 57 = .ok (.invokevirtual 78, 3) := by decide +kernel
theorem dX11_takeHop_60 : decode cX11_takeHop 60 = .ok (.pop, 1) := by decide +kernel
theorem dX11_takeHop_61 : decode cX11_takeHop 61 = .ok (.aload_n 1, 1) := by decide +kernel
theorem dX11_takeHop_62 : decode cX11_takeHop 62 = .ok (.aload_n 3, 1) := by decide +kernel
theorem dX11_takeHop_63 : decode cX11_takeHop 63 = .ok (.invokestatic 290, 3) := by decide +kernel
theorem dX11_takeHop_66 : decode cX11_takeHop 66 = .ok (.ifCond .eq 5, 3) := by decide +kernel
theorem dX11_takeHop_69 : decode cX11_takeHop 69 = .ok (.aconst_null, 1) := by decide +kernel
theorem dX11_takeHop_70 : decode cX11_takeHop 70 = .ok (.areturn, 1) := by decide +kernel
theorem dX11_takeHop_71 : decode cX11_takeHop 71 = .ok (.aload_n 1, 1) := by decide +kernel
theorem dX11_takeHop_72 : decode cX11_takeHop 72 = .ok (.getfield 294, 3) := by decide +kernel
theorem dX11_takeHop_75 : decode cX11_takeHop 75 = .ok (.iconst 1, 1) := by decide +kernel
theorem dX11_takeHop_76 : decode cX11_takeHop 76 = .ok (.if_icmp .ne 16, 3) := by decide +kernel
theorem dX11_takeHop_79 : decode cX11_takeHop 79 = .ok (.aload_n 1, 1) := by decide +kernel
theorem dX11_takeHop_80 : decode cX11_takeHop 80 = .ok (.aload 4, 2) := by decide +kernel
theorem dX11_takeHop_82 : decode cX11_takeHop 82 = .ok (.invokestatic 297, 3) := by decide +kernel
theorem dX11_takeHop_85 : decode cX11_takeHop 85 = .ok (.ifCond .eq 7, 3) := by decide +kernel
theorem dX11_takeHop_88 : decode cX11_takeHop 88 = .ok (.iconst 1, 1) := by decide +kernel
theorem dX11_takeHop_89 : decode cX11_takeHop 89 = .ok (.goto 4, 3) := by decide +kernel
theorem dX11_takeHop_92 : decode cX11_takeHop 92 = .ok (.iconst 0, 1) := by decide +kernel
theorem dX11_takeHop_93 : decode cX11_takeHop 93 = .ok (.istore 5, 2) := by decide +kernel
theorem dX11_takeHop_95 : decode cX11_takeHop 95 = .ok (.aload 4, 2) := by decide +kernel
theorem dX11_takeHop_97 : decode cX11_takeHop 97 = .ok (.iload 5, 2) := by decide +kernel
theorem dX11_takeHop_99 : decode cX11_takeHop 99 = .ok (.ifCond .eq 17, 3) := by decide +kernel
theorem dX11_takeHop_102 : decode cX11_takeHop 102 = .ok (.aload_n 0, 1) := by decide +kernel
theorem dX11_takeHop_103 : decode cX11_takeHop 103 = .ok (.aload_n 1, 1) := by decide +kernel
theorem dX11_takeHop_104 : decode cX11_takeHop 104 = .ok (.aload 4, 2) := by decide +kernel
theorem dX11_takeHop_106 : decode cX11_takeHop 106 = .ok (.invokevirtual 301, 3) := by decide +kernel
theorem dX11_takeHop_109 : decode cX11_takeHop 109 = .ok (.ifCond .ne 7, 3) := by decide +kernel
theorem dX11_takeHop_112 : decode cX11_takeHop 112 = .ok (.iconst 1, 1) := by decide +kernel
theorem dX11_takeHop_113 : decode cX11_takeHop 113 = .ok (.goto 4, 3) := by decide +kernel
theorem dX11_takeHop_116 : decode cX11_takeHop 116 = .ok (.iconst 0, 1) := by decide +kernel
theorem dX11_takeHop_117 : decode cX11_takeHop 117 = .ok (.putfield 304, 3) := by decide +kernel
theorem dX11_takeHop_120 : decode cX11_takeHop 120 = .ok (.aload 4, 2) := by decide +kernel
theorem dX11_takeHop_122 : decode cX11_takeHop 122 = .ok (.getfield 304, 3) := by decide +kernel
theorem dX11_takeHop_125 : decode cX11_takeHop 125 = .ok (.ifCond .eq 5, 3) := by decide +kernel
theorem dX11_takeHop_128 : decode cX11_takeHop 128 = .ok (.aconst_null, 1) := by decide +kernel
theorem dX11_takeHop_129 : decode cX11_takeHop 129 = .ok (.areturn, 1) := by decide +kernel
theorem dX11_takeHop_130 : decode cX11_takeHop 130 = .ok (.aload_n 1, 1) := by decide +kernel
theorem dX11_takeHop_131 : decode cX11_takeHop 131 = .ok (.aload 4, 2) := by decide +kernel
theorem dX11_takeHop_133 : decode cX11_takeHop 133 = .ok (.invokestatic 307, 3) := by decide +kernel
theorem dX11_takeHop_136 : decode cX11_takeHop 136 = .ok (.istore 6, 2) := by decide +kernel
theorem dX11_takeHop_138 : decode cX11_takeHop 138 = .ok (.aload_n 0, 1) := by decide +kernel
theorem dX11_takeHop_139 : decode cX11_takeHop 139 = .ok (.getfield 38, 3) := by decide +kernel
theorem dX11_takeHop_142 : decode cX11_takeHop 142 = .ok (.aload 4, 2) := by decide +kernel
theorem dX11_takeHop_144 : decode cX11_takeHop 144 = .ok (.getfield 310, 3) := by decide +kernel
theorem dX11_takeHop_147 : decode cX11_takeHop 147 = .ok (.iload 6, 2) := by decide +kernel
theorem dX11_takeHop_149 : decode cX11_takeHop 149 = .ok (.aload 4, 2) := by decide +kernel
theorem dX11_takeHop_151 : decode cX11_takeHop 151 = .ok (.getfield 311, 3) := by decide +kernel
theorem dX11_takeHop_154 : decode cX11_takeHop 154 = .ok (.aload_n 0, 1) := by decide +kernel
theorem dX11_takeHop_155 : decode cX11_takeHop 155 = .ok (.getfield 255, 3) := by decide +kernel
theorem dX11_takeHop_158 : decode cX11_takeHop 158 = .ok (.invokevirtual 314, 3) := by decide +kernel
theorem dX11_takeHop_161 : decode cX11_takeHop 161 = .ok (.iload 6, 2) := by decide +kernel
theorem dX11_takeHop_163 : decode cX11_takeHop 163 = .ok (.ifCond .eq 33, 3) := by decide +kernel
theorem dX11_takeHop_166 : decode cX11_takeHop 166 = .ok (.aload_n 0, 1) := by decide +kernel
theorem dX11_takeHop_167 : decode cX11_takeHop 167 = .ok (.getfield 31, 3) := by decide +kernel
theorem dX11_takeHop_170 : decode cX11_takeHop 170 = .ok (.aload 4, 2) := by decide +kernel
theorem dX11_takeHop_172 : decode cX11_takeHop 172 = .ok (.aload_n 0, 1) := by decide +kernel
theorem dX11_takeHop_173 : decode cX11_takeHop 173 = .ok (.getfield 215, 3) := by decide +kernel
theorem dX11_takeHop_176 : decode cX11_takeHop 176 = .ok (.invokevirtual 318, 3) := by decide +kernel
theorem dX11_takeHop_179 : decode cX11_takeHop 179 = .ok (.aload_n 0, 1) := by decide +kernel
theorem dX11_takeHop_180 : decode cX11_takeHop 180 = .ok (.getfield 31, 3) := by decide +kernel
theorem dX11_takeHop_183 : decode cX11_takeHop 183 = .ok (.aload 4, 2) := by decide +kernel
theorem dX11_takeHop_185 : decode cX11_takeHop 185 = .ok (.aload_n 0, 1) := by decide +kernel
theorem dX11_takeHop_186 : decode cX11_takeHop 186 = .ok (.getfield 215, 3) := by decide +kernel
theorem dX11_takeHop_189 : decode cX11_takeHop 189 = .ok (.aload_n 0, 1) := by decide +kernel
theorem dX11_takeHop_190 : decode cX11_takeHop 190 = .ok (.getfield 255, 3) := by decide +kernel
theorem dX11_takeHop_193 : decode cX11_takeHop 193 = .ok (.invokevirtual 322, 3) := by decide +kernel
theorem dX11_takeHop_196 : decode cX11_takeHop 196 = .ok (.aload 4, 2) := by decide +kernel
theorem dX11_takeHop_198 : decode cX11_takeHop 198 = .ok (.iload 5, 2) := by decide +kernel
theorem dX11_takeHop_200 : decode cX11_takeHop 200 = .ok (.ifCond .eq 12, 3) := by decide +kernel
theorem dX11_takeHop_203 : decode cX11_takeHop 203 = .ok (.aload_n 1, 1) := by decide +kernel
theorem dX11_takeHop_204 : decode cX11_takeHop 204 = .ok (.aload 4, 2) := by decide +kernel
theorem dX11_takeHop_206 : decode cX11_takeHop 206 = .ok (.invokestatic 326, 3) := by decide +kernel
theorem dX11_takeHop_209 : decode cX11_takeHop 209 = .ok (.ifCond .eq 7, 3) := by decide +kernel
theorem dX11_takeHop_212 : decode cX11_takeHop 212 = .ok (.iconst 1, 1) := by decide +kernel
theorem dX11_takeHop_213 : decode cX11_takeHop 213 = .ok (.goto 4, 3) := by decide +kernel
theorem dX11_takeHop_216 : decode cX11_takeHop 216 = .ok (.iconst 0, 1) := by decide +kernel
theorem dX11_takeHop_217 : decode cX11_takeHop 217 = .ok (.putfield 329, 3) := by decide +kernel
theorem dX11_takeHop_220 : decode cX11_takeHop 220 = .ok (.aload 4, 2) := by decide +kernel
theorem dX11_takeHop_222 : decode cX11_takeHop 222 = .ok (.getfield 329, 3) := by decide +kernel
theorem dX11_takeHop_225 : decode cX11_takeHop 225 = .ok (.ifCond .eq 12, 3) := by decide +kernel
theorem dX11_takeHop_228 : decode cX11_takeHop 228 = .ok (.aload_n 1, 1) := by decide +kernel
theorem dX11_takeHop_229 : decode cX11_takeHop 229 = .ok (.aload 4, 2) := by decide +kernel
theorem dX11_takeHop_231 : decode cX11_takeHop 231 = .ok (.invokestatic 332, 3) := by decide +kernel
theorem dX11_takeHop_234 : decode cX11_takeHop 234 = .ok (.goto 4, 3) := by decide +kernel
theorem dX11_takeHop_237 : decode cX11_takeHop 237 = .ok (.aconst_null, 1) := by decide +kernel
theorem dX11_takeHop_238 : decode cX11_takeHop 238 = .ok (.areturn, 1) := by decide +kernel
theorem dX11_isMixed_0 : decode cX11_isMixed 0 = .ok (.aload_n 0, 1) := by decide +kernel
theorem dX11_isMixed_1 : decode cX11_isMixed 1 = .ok (.getfield 276, 3) := by decide +kernel
theorem dX11_isMixed_4 : decode cX11_isMixed 4 = .ok (.getfield 279, 3) := by decide +kernel
theorem dX11_isMixed_7 : decode cX11_isMixed 7 = .ok (.getfield 121, 3) := by decide +kernel
theorem dX11_isMixed_10 : decode cX11_isMixed 10 = .ok (.iconst 1, 1) := by decide +kernel
theorem dX11_isMixed_11 : decode cX11_isMixed 11 = .ok (.if_icmp .ne 22, 3) := by decide +kernel
theorem dX11_isMixed_14 : decode cX11_isMixed 14 = .ok (.aload_n 1, 1) := by decide +kernel
theorem dX11_isMixed_15 : decode cX11_isMixed 15 = .ok (.getfield 121, 3) := by decide +kernel
theorem dX11_isMixed_18 : decode cX11_isMixed 18 = .ok (.ifCond .ne 15, 3) := by decide +kernel
theorem dX11_isMixed_21 : decode cX11_isMixed 21 = .ok (.aload_n 0, 1) := by decide +kernel
theorem dX11_isMixed_22 : decode cX11_isMixed 22 = .ok (.getfield 294, 3) := by decide +kernel
theorem dX11_isMixed_25 : decode cX11_isMixed 25 = .ok (.iconst 2, 1) := by decide +kernel
theorem dX11_isMixed_26 : decode cX11_isMixed 26 = .ok (.if_icmp .eq 7, 3) := by decide +kernel
theorem dX11_isMixed_29 : decode cX11_isMixed 29 = .ok (.iconst 1, 1) := by decide +kernel
theorem dX11_isMixed_30 : decode cX11_isMixed 30 = .ok (.goto 4, 3) := by decide +kernel
theorem dX11_isMixed_33 : decode cX11_isMixed 33 = .ok (.iconst 0, 1) := by decide +kernel
theorem dX11_isMixed_34 : decode cX11_isMixed 34 = .ok (.ireturn, 1) := by decide +kernel
theorem dX11_unmixed_0 : decode cX11_unmixed 0 = .ok (.aload_n 1, 1) := by decide +kernel
theorem dX11_unmixed_1 : decode cX11_unmixed 1 = .ok (.getfield 294, 3) := by decide +kernel
theorem dX11_unmixed_4 : decode cX11_unmixed 4 = .ok (.ifCond .ne 11, 3) := by decide +kernel
theorem dX11_unmixed_7 : decode cX11_unmixed 7 = .ok (.aload_n 1, 1) := by decide +kernel
theorem dX11_unmixed_8 : decode cX11_unmixed 8 = .ok (.aload_n 2, 1) := by decide +kernel
theorem dX11_unmixed_9 : decode cX11_unmixed 9 = .ok (.invokestatic 290, 3) := by decide +kernel
theorem dX11_unmixed_12 : decode cX11_unmixed 12 = .ok (.ifCond .ne 5, 3) := by decide +kernel
theorem dX11_unmixed_15 : decode cX11_unmixed 15 = .ok (.aload_n 2, 1) := by decide +kernel
theorem dX11_unmixed_16 : decode cX11_unmixed 16 = .ok (.areturn, 1) := by decide +kernel
theorem dX11_unmixed_17 : decode cX11_unmixed 17 = .ok (.aload_n 0, 1) := by decide +kernel
theorem dX11_unmixed_18 : decode cX11_unmixed 18 = .ok (.iconst 1, 1) := by decide +kernel
theorem dX11_unmixed_19 : decode cX11_unmixed 19 = .ok (.aload_n 2, 1) := by decide +kernel
theorem dX11_unmixed_20 : decode cX11_unmixed 20 = .ok (.getfield 124, 3) := by decide +kernel
theorem dX11_unmixed_23 : decode cX11_unmixed 23 = .ok (.aload_n 2, 1) := by decide +kernel
theorem dX11_unmixed_24 : decode cX11_unmixed 24 = .ok (.getfield 128, 3) := by decide +kernel
theorem dX11_unmixed_27 : decode cX11_unmixed 27 = .ok (.aload_n 2, 1) := by decide +kernel
theorem dX11_unmixed_28 : decode cX11_unmixed 28 = .ok (.getfield 110, 3) := by decide +kernel
theorem dX11_unmixed_31 : decode cX11_unmixed 31 = .ok (.invokevirtual 166, 3) := by decide +kernel
theorem dX11_unmixed_34 : decode cX11_unmixed 34 = .ok (.astore_n 3, 1) := by decide +kernel
theorem dX11_unmixed_35 : decode cX11_unmixed 35 = .ok (.aload_n 3, 1) := by decide +kernel
theorem dX11_unmixed_36 : decode cX11_unmixed 36 = .ok (.ifnonnull 7, 3) := by decide +kernel
theorem dX11_unmixed_39 : decode cX11_unmixed 39 = .ok (.aload_n 2, 1) := by decide +kernel
theorem dX11_unmixed_40 : decode cX11_unmixed 40 = .ok (.goto 4, 3) := by decide +kernel
theorem dX11_unmixed_43 : decode cX11_unmixed 43 = .ok (.aload_n 3, 1) := by decide +kernel
theorem dX11_unmixed_44 : decode cX11_unmixed 44 = .ok (.areturn, 1) := by decide +kernel
theorem dX11_isCross_0 : decode cX11_isCross 0 = .ok (.aload_n 1, 1) := by decide +kernel
theorem dX11_isCross_1 : decode cX11_isCross 1 = .ok (.getfield 336, 3) := by decide +kernel
theorem dX11_isCross_4 : decode cX11_isCross 4 = .ok (.ifCond .ne 23, 3) := by decide +kernel
theorem dX11_isCross_7 : decode cX11_isCross 7 = .ok (.aload_n 1, 1) := by decide +kernel
theorem dX11_isCross_8 : decode cX11_isCross 8 = .ok (.getfield 310, 3) := by decide +kernel
theorem dX11_isCross_11 : decode cX11_isCross 11 = .ok (.invokevirtual 185, 3) := by decide +kernel
theorem dX11_isCross_14 : decode cX11_isCross 14 = .ok (.aload_n 0, 1) := by decide +kernel
theorem dX11_isCross_15 : decode cX11_isCross 15 = .ok (.getfield 276, 3) := by decide +kernel
theorem dX11_isCross_18 : decode cX11_isCross 18 = .ok (.getfield 279, 3) := by decide +kernel
theorem dX11_isCross_21 : decode cX11_isCross 21 = .ok (.invokevirtual 185, 3) := by decide +kernel
theorem dX11_isCross_24 : decode cX11_isCross 24 = .ok (.if_icmp .eq 7, 3) := by decide +kernel
theorem dX11_isCross_27 : decode cX11_isCross 27 = .ok (.iconst 1, 1) := by decide +kernel
theorem dX11_isCross_28 : decode cX11_isCross 28 = .ok (.goto 4, 3) := by decide +kernel
theorem dX11_isCross_31 : decode cX11_isCross 31 = .ok (.iconst 0, 1) := by decide +kernel
theorem dX11_isCross_32 : decode cX11_isCross 32 = .ok (.ireturn, 1) := by decide +kernel
theorem dX11_usesCredentials_0 : decode cX11_usesCredentials 0 = .ok (.aload_n 0, 1) := by decide +kernel
theorem dX11_usesCredentials_1 : decode cX11_usesCredentials 1 = .ok (.getfield 339, 3) := by decide +kernel
theorem dX11_usesCredentials_4 : decode cX11_usesCredentials 4 = .ok (.iconst 2, 1) := by decide +kernel
theorem dX11_usesCredentials_5 : decode cX11_usesCredentials 5 = .ok (.if_icmp .eq 19, 3) := by decide +kernel
theorem dX11_usesCredentials_8 : decode cX11_usesCredentials 8 = .ok (.aload_n 0, 1) := by decide +kernel
theorem dX11_usesCredentials_9 : decode cX11_usesCredentials 9 = .ok (.getfield 339, 3) := by decide +kernel
theorem dX11_usesCredentials_12 : decode cX11_usesCredentials 12 = .ok (.iconst 1, 1) := by decide +kernel
theorem dX11_usesCredentials_13 : decode cX11_usesCredentials 13 = .ok (.if_icmp .ne 15, 3) := by decide +kernel
theorem dX11_usesCredentials_16 : decode cX11_usesCredentials 16 = .ok (.aload_n 0, 1) := by decide +kernel
theorem dX11_usesCredentials_17 : decode cX11_usesCredentials 17 = .ok (.aload_n 1, 1) := by decide +kernel
theorem dX11_usesCredentials_18 : decode cX11_usesCredentials 18 = .ok (.invokestatic 297, 3) := by decide +kernel
theorem dX11_usesCredentials_21 : decode cX11_usesCredentials 21 = .ok (.ifCond .ne 7, 3) := by decide +kernel
theorem dX11_usesCredentials_24 : decode cX11_usesCredentials 24 = .ok (.iconst 1, 1) := by decide +kernel
theorem dX11_usesCredentials_25 : decode cX11_usesCredentials 25 = .ok (.goto 4, 3) := by decide +kernel
theorem dX11_usesCredentials_28 : decode cX11_usesCredentials 28 = .ok (.iconst 0, 1) := by decide +kernel
theorem dX11_usesCredentials_29 : decode cX11_usesCredentials 29 = .ok (.ireturn, 1) := by decide +kernel
theorem dX11_isLetByAnswer_0 : decode cX11_isLetByAnswer 0 = .ok (.aload_n 1, 1) := by decide +kernel
theorem dX11_isLetByAnswer_1 : decode cX11_isLetByAnswer 1 = .ok (.getfield 310, 3) := by decide +kernel
theorem dX11_isLetByAnswer_4 : decode cX11_isLetByAnswer 4 = .ok (.astore_n 2, 1) := by decide +kernel
theorem dX11_isLetByAnswer_5 : decode cX11_isLetByAnswer 5 = .ok (.aload_n 0, 1) := by decide +kernel
theorem dX11_isLetByAnswer_6 : decode cX11_isLetByAnswer 6 = .ok (.getfield 339, 3) := by decide +kernel
theorem dX11_isLetByAnswer_9 : decode cX11_isLetByAnswer 9 = .ok (.iconst 2, 1) := by decide +kernel
theorem dX11_isLetByAnswer_10 : decode cX11_isLetByAnswer 10 = .ok (.if_icmp .ne 7, 3) := by decide +kernel
theorem dX11_isLetByAnswer_13 : decode cX11_isLetByAnswer 13 = .ok (.iconst 1, 1) := by decide +kernel
theorem dX11_isLetByAnswer_14 : decode cX11_isLetByAnswer 14 = .ok (.goto 4, 3) := by decide +kernel
theorem dX11_isLetByAnswer_17 : decode cX11_isLetByAnswer 17 = .ok (.iconst 0, 1) := by decide +kernel
theorem dX11_isLetByAnswer_18 : decode cX11_isLetByAnswer 18 = .ok (.istore_n 3, 1) := by decide +kernel
theorem dX11_isLetByAnswer_19 : decode cX11_isLetByAnswer 19 = .ok (.aload_n 2, 1) := by decide +kernel
theorem dX11_isLetByAnswer_20 : decode cX11_isLetByAnswer 20 = .ok (.getfield 190, 3) := by decide +kernel
theorem dX11_isLetByAnswer_23 : decode cX11_isLetByAnswer 23 = .ok (.bipush (-2), 2) := by decide +kernel
theorem dX11_isLetByAnswer_25 : decode cX11_isLetByAnswer 25 = .ok (.if_icmp .ne 13, 3) := by decide +kernel
theorem dX11_isLetByAnswer_28 : decode cX11_isLetByAnswer 28 = .ok (.iload_n 3, 1) := by decide +kernel
theorem dX11_isLetByAnswer_29 : decode cX11_isLetByAnswer 29 = .ok (.ifCond .ne 7, 3) := by decide +kernel
theorem dX11_isLetByAnswer_32 : decode cX11_isLetByAnswer 32 = .ok (.iconst 1, 1) := by decide +kernel
theorem dX11_isLetByAnswer_33 : decode cX11_isLetByAnswer 33 = .ok (.goto 4, 3) := by decide +kernel
theorem dX11_isLetByAnswer_36 : decode cX11_isLetByAnswer 36 = .ok (.iconst 0, 1) := by decide +kernel
theorem dX11_isLetByAnswer_37 : decode cX11_isLetByAnswer 37 = .ok (.ireturn, 1) := by decide +kernel
theorem dX11_isLetByAnswer_38 : decode cX11_isLetByAnswer 38 = .ok (.iload_n 3, 1) := by decide +kernel
theorem dX11_isLetByAnswer_39 : decode cX11_isLetByAnswer 39 = .ok (.ifCond .eq 12, 3) := by decide +kernel
theorem dX11_isLetByAnswer_42 : decode cX11_isLetByAnswer 42 = .ok (.aload_n 2, 1) := by decide +kernel
theorem dX11_isLetByAnswer_43 : decode cX11_isLetByAnswer 43 = .ok (.getfield 193, 3) := by decide +kernel
theorem dX11_isLetByAnswer_46 : decode cX11_isLetByAnswer 46 = .ok (.ifCond .ne 5, 3) := by decide +kernel
theorem dX11_isLetByAnswer_49 : decode cX11_isLetByAnswer 49 = .ok (.iconst 0, 1) := by decide +kernel
theorem dX11_isLetByAnswer_50 : decode cX11_isLetByAnswer 50 = .ok (.ireturn, 1) := by decide +kernel
theorem dX11_isLetByAnswer_51 : decode cX11_isLetByAnswer 51 = .ok (.aload_n 2, 1) := by decide +kernel
theorem dX11_isLetByAnswer_52 : decode cX11_isLetByAnswer 52 = .ok (.getfield 190, 3) := by decide +kernel
theorem dX11_isLetByAnswer_55 : decode cX11_isLetByAnswer 55 = .ok (.bipush (-3), 2) := by decide +kernel
theorem dX11_isLetByAnswer_57 : decode cX11_isLetByAnswer 57 = .ok (.if_icmp .ne 8, 3) := by decide +kernel
theorem dX11_isLetByAnswer_60 : decode cX11_isLetByAnswer 60 = .ok (.aload_n 1, 1) := by decide +kernel
theorem dX11_isLetByAnswer_61 : decode cX11_isLetByAnswer 61 = .ok (.getfield 336, 3) := by decide +kernel
theorem dX11_isLetByAnswer_64 : decode cX11_isLetByAnswer 64 = .ok (.ireturn, 1) := by decide +kernel
theorem dX11_isLetByAnswer_65 : decode cX11_isLetByAnswer 65 = .ok (.aload_n 1, 1) := by decide +kernel
theorem dX11_isLetByAnswer_66 : decode cX11_isLetByAnswer 66 = .ok (.getfield 336, 3) := by decide +kernel
theorem dX11_isLetByAnswer_69 : decode cX11_isLetByAnswer 69 = .ok (.ifCond .ne 24, 3) := by decide +kernel
theorem dX11_isLetByAnswer_72 : decode cX11_isLetByAnswer 72 = .ok (.aload_n 2, 1) := by decide +kernel
theorem dX11_isLetByAnswer_73 : decode cX11_isLetByAnswer 73 = .ok (.getfield 190, 3) := by decide +kernel
theorem dX11_isLetByAnswer_76 : decode cX11_isLetByAnswer 76 = .ok (.aload_n 0, 1) := by decide +kernel
theorem dX11_isLetByAnswer_77 : decode cX11_isLetByAnswer 77 = .ok (.getfield 276, 3) := by decide +kernel
theorem dX11_isLetByAnswer_80 : decode cX11_isLetByAnswer 80 = .ok (.getfield 279, 3) := by decide +kernel
theorem dX11_isLetByAnswer_83 : decode cX11_isLetByAnswer 83 = .ok (.invokevirtual 185, 3) := by decide +kernel
theorem dX11_isLetByAnswer_86 : decode cX11_isLetByAnswer 86 = .ok (.if_icmp .ne 7, 3) := by decide +kernel
theorem dX11_isLetByAnswer_89 : decode cX11_isLetByAnswer 89 = .ok (.iconst 1, 1) := by decide +kernel
theorem dX11_isLetByAnswer_90 : decode cX11_isLetByAnswer 90 = .ok (.goto 4, 3) := by decide +kernel
theorem dX11_isLetByAnswer_93 : decode cX11_isLetByAnswer 93 = .ok (.iconst 0, 1) := by decide +kernel
theorem dX11_isLetByAnswer_94 : decode cX11_isLetByAnswer 94 = .ok (.ireturn, 1) := by decide +kernel
theorem dX11_follow_0 : decode cX11_follow 0 = .ok (.aload_n 1, 1) := by decide +kernel
theorem dX11_follow_1 : decode cX11_follow 1 = .ok (.getfield 310, 3) := by decide +kernel
theorem dX11_follow_4 : decode cX11_follow 4 = .ok (.getfield 178, 3) := by decide +kernel
theorem dX11_follow_7 : decode cX11_follow 7 = .ok (.astore_n 2, 1) := by decide +kernel
theorem dX11_follow_8 : decode cX11_follow 8 = .ok (.aload_n 2, 1) := by decide +kernel
theorem dX11_follow_9 : decode cX11_follow 9 = .ok (.ifnonnull 5, 3) := by decide +kernel
theorem dX11_follow_12 : decode cX11_follow 12 = .ok (.aconst_null, 1) := by decide +kernel
theorem dX11_follow_13 : decode cX11_follow 13 = .ok (.areturn, 1) := by decide +kernel
theorem dX11_follow_14 : decode cX11_follow 14 = .ok (.aload_n 1, 1) := by decide +kernel
theorem dX11_follow_15 : decode cX11_follow 15 = .ok (.iconst 1, 1) := by decide +kernel
theorem dX11_follow_16 : decode cX11_follow 16 = .ok (.putfield 342, 3) := by decide +kernel
theorem dX11_follow_19 : decode cX11_follow 19 = .ok (.aload_n 0, 1) := by decide +kernel
theorem dX11_follow_20 : decode cX11_follow 20 = .ok (.getfield 294, 3) := by decide +kernel
theorem dX11_follow_23 : decode cX11_follow 23 = .ok (.iconst 1, 1) := by decide +kernel
theorem dX11_follow_24 : decode cX11_follow 24 = .ok (.if_icmp .ne 30, 3) := by decide +kernel
theorem dX11_follow_27 : decode cX11_follow 27 = .ok (.aload_n 0, 1) := by decide +kernel
theorem dX11_follow_28 : decode cX11_follow 28 = .ok (.aload_n 1, 1) := by decide +kernel
theorem dX11_follow_29 : decode cX11_follow 29 = .ok (.invokestatic 297, 3) := by decide +kernel
theorem dX11_follow_32 : decode cX11_follow 32 = .ok (.ifCond .eq 22, 3) := by decide +kernel
theorem dX11_follow_35 : decode cX11_follow 35 = .ok (.aload_n 2, 1) := by decide +kernel
theorem dX11_follow_36 : decode cX11_follow 36 = .ok (.invokevirtual 185, 3) := by decide +kernel
theorem dX11_follow_39 : decode cX11_follow 39 = .ok (.aload_n 1, 1) := by decide +kernel
theorem dX11_follow_40 : decode cX11_follow 40 = .ok (.getfield 310, 3) := by decide +kernel
theorem dX11_follow_43 : decode cX11_follow 43 = .ok (.invokevirtual 185, 3) := by decide +kernel
theorem dX11_follow_46 : decode cX11_follow 46 = .ok (.if_icmp .eq 8, 3) := by decide +kernel
theorem dX11_follow_49 : decode cX11_follow 49 = .ok (.aload_n 0, 1) := by decide +kernel
theorem dX11_follow_50 : decode cX11_follow 50 = .ok (.iconst 1, 1) := by decide +kernel
theorem dX11_follow_51 : decode cX11_follow 51 = .ok (.putfield 345, 3) := by decide +kernel
theorem dX11_follow_54 : decode cX11_follow 54 = .ok (.aload_n 0, 1) := by decide +kernel
theorem dX11_follow_55 : decode cX11_follow 55 = .ok (.getfield 346, 3) := by decide +kernel
theorem dX11_follow_58 : decode cX11_follow 58 = .ok (.aload_n 1, 1) := by decide +kernel
theorem dX11_follow_59 : decode cX11_follow 59 = .ok (.getfield 310, 3) := by decide +kernel
theorem dX11_follow_62 : decode cX11_follow 62 = .ok (.getfield 182, 3) := by decide +kernel
theorem dX11_follow_65 : decode cX11_follow 65 = .ok (.invokestatic 349, 3) := by decide +kernel
theorem dX11_follow_68 : decode cX11_follow 68 = .ok (.ifCond .eq 8, 3) := by decide +kernel
theorem dX11_follow_71 : decode cX11_follow 71 = .ok (.aload_n 0, 1) := by decide +kernel
theorem dX11_follow_72 : decode cX11_follow 72 = .ok (.iconst 0, 1) := by decide +kernel
theorem dX11_follow_73 : decode cX11_follow 73 = .ok (.putfield 346, 3) := by decide +kernel
theorem dX11_follow_76 : decode cX11_follow 76 = .ok (.aload_n 2, 1) := by decide +kernel
theorem dX11_follow_77 : decode cX11_follow 77 = .ok (.areturn, 1) := by decide +kernel
theorem dX11_becomesGet_0 : decode cX11_becomesGet 0 = .ok (.iload_n 1, 1) := by decide +kernel
theorem dX11_becomesGet_1 : decode cX11_becomesGet 1 = .ok (.iconst 2, 1) := by decide +kernel
theorem dX11_becomesGet_2 : decode cX11_becomesGet 2 = .ok (.if_icmp .ne 5, 3) := by decide +kernel
theorem dX11_becomesGet_5 : decode cX11_becomesGet 5 = .ok (.iconst 1, 1) := by decide +kernel
theorem dX11_becomesGet_6 : decode cX11_becomesGet 6 = .ok (.ireturn, 1) := by decide +kernel
theorem dX11_becomesGet_7 : decode cX11_becomesGet 7 = .ok (.iload_n 1, 1) := by decide +kernel
theorem dX11_becomesGet_8 : decode cX11_becomesGet 8 = .ok (.iconst 1, 1) := by decide +kernel
theorem dX11_becomesGet_9 : decode cX11_becomesGet 9 = .ok (.if_icmp .gt 12, 3) := by decide +kernel
theorem dX11_becomesGet_12 : decode cX11_becomesGet 12 = .ok (.iload_n 0, 1) := by decide +kernel
theorem dX11_becomesGet_13 : decode cX11_becomesGet 13 = .ok (.iconst 1, 1) := by decide +kernel
theorem dX11_becomesGet_14 : decode cX11_becomesGet 14 = .ok (.if_icmp .ne 7, 3) := by decide +kernel
theorem dX11_becomesGet_17 : decode cX11_becomesGet 17 = .ok (.iconst 1, 1) := by decide +kernel
theorem dX11_becomesGet_18 : decode cX11_becomesGet 18 = .ok (.goto 4, 3) := by decide +kernel
theorem dX11_becomesGet_21 : decode cX11_becomesGet 21 = .ok (.iconst 0, 1) := by decide +kernel
theorem dX11_becomesGet_22 : decode cX11_becomesGet 22 = .ok (.ireturn, 1) := by decide +kernel
theorem dX11_passesPreflight_0 : decode cX11_passesPreflight 0 = .ok (.aload_n 2, 1) := by decide +kernel
theorem dX11_passesPreflight_1 : decode cX11_passesPreflight 1 = .ok (.getfield 353, 3) := by decide +kernel
theorem dX11_passesPreflight_4 : decode cX11_passesPreflight 4 = .ok (.iconst 2, 1) := by decide +kernel
theorem dX11_passesPreflight_5 : decode cX11_passesPreflight 5 = .ok (.if_icmp .ne 7, 3) := by decide +kernel
theorem dX11_passesPreflight_8 : decode cX11_passesPreflight 8 = .ok (.iconst 1, 1) := by decide +kernel
theorem dX11_passesPreflight_9 : decode cX11_passesPreflight 9 = .ok (.goto 4, 3) := by decide +kernel
theorem dX11_passesPreflight_12 : decode cX11_passesPreflight 12 = .ok (.iconst 0, 1) := by decide +kernel
theorem dX11_passesPreflight_13 : decode cX11_passesPreflight 13 = .ok (.aload_n 1, 1) := by decide +kernel
theorem dX11_passesPreflight_14 : decode cX11_passesPreflight 14 = .ok (.getfield 354, 3) := by decide +kernel
theorem dX11_passesPreflight_17 : decode cX11_passesPreflight 17 = .ok (.ifCond .eq 7, 3) := by decide +kernel
theorem dX11_passesPreflight_20 : decode cX11_passesPreflight 20 = .ok (.iconst 2, 1) := by decide +kernel
theorem dX11_passesPreflight_21 : decode cX11_passesPreflight 21 = .ok (.goto 4, 3) := by decide +kernel
theorem dX11_passesPreflight_24 : decode cX11_passesPreflight 24 = .ok (.iconst 0, 1) := by decide +kernel
theorem dX11_passesPreflight_25 : decode cX11_passesPreflight 25 = .ok (.ior, 1) := by decide +kernel
theorem dX11_passesPreflight_26 : decode cX11_passesPreflight 26 = .ok (.istore_n 3, 1) := by decide +kernel
theorem dX11_passesPreflight_27 : decode cX11_passesPreflight 27 = .ok (.iload_n 3, 1) := by decide +kernel
theorem dX11_passesPreflight_28 : decode cX11_passesPreflight 28 = .ok (.ifCond .ne 5, 3) := by decide +kernel
theorem dX11_passesPreflight_31 : decode cX11_passesPreflight 31 = .ok (.iconst 1, 1) := by decide +kernel
theorem dX11_passesPreflight_32 : decode cX11_passesPreflight 32 = .ok (.ireturn, 1) := by decide +kernel
theorem dX11_passesPreflight_33 : decode cX11_passesPreflight 33 = .ok (.new 357, 3) := by decide +kernel
theorem dX11_passesPreflight_36 : decode cX11_passesPreflight 36 = .ok (.dup, 1) := by decide +kernel
theorem dX11_passesPreflight_37 : decode cX11_passesPreflight 37 = .ok (.aload_n 1, 1) := by decide +kernel
theorem dX11_passesPreflight_38 : decode cX11_passesPreflight 38 = .ok (.aload_n 2, 1) := by decide +kernel
theorem dX11_passesPreflight_39 : decode cX11_passesPreflight 39 = .ok (.aload_n 0, 1) := by decide +kernel
theorem dX11_passesPreflight_40 : decode cX11_passesPreflight 40 = .ok (.getfield 255, 3) := by decide +kernel
theorem dX11_passesPreflight_43 : decode cX11_passesPreflight 43 = .ok (.invokespecial 359, 3) := by decide +kernel
theorem dX11_passesPreflight_46 : decode cX11_passesPreflight 46 = .ok (.astore 4, 2) := by decide +kernel
theorem dX11_passesPreflight_48 : decode cX11_passesPreflight 48 = .ok (.aload_n 0, 1) := by decide +kernel
theorem dX11_passesPreflight_49 : decode cX11_passesPreflight 49 = .ok (.aload 4, 2) := by decide +kernel
theorem dX11_passesPreflight_51 : decode cX11_passesPreflight 51 = .ok (.invokevirtual 362, 3) := by decide +kernel
theorem dX11_passesPreflight_54 : decode cX11_passesPreflight 54 = .ok (.astore 5, 2) := by decide +kernel
theorem dX11_passesPreflight_56 : decode cX11_passesPreflight 56 = .ok (.aload 5, 2) := by decide +kernel
theorem dX11_passesPreflight_58 : decode cX11_passesPreflight 58 = .ok (.ifnull 16, 3) := by decide +kernel
theorem dX11_passesPreflight_61 : decode cX11_passesPreflight 61 = .ok (.aload 5, 2) := by decide +kernel
theorem dX11_passesPreflight_63 : decode cX11_passesPreflight 63 = .ok (.getfield 366, 3) := by decide +kernel
theorem dX11_passesPreflight_66 : decode cX11_passesPreflight 66 = .ok (.iload_n 3, 1) := by decide +kernel
theorem dX11_passesPreflight_67 : decode cX11_passesPreflight 67 = .ok (.iand, 1) := by decide +kernel
theorem dX11_passesPreflight_68 : decode cX11_passesPreflight 68 = .ok (.iload_n 3, 1) := by decide +kernel
theorem dX11_passesPreflight_69 : decode cX11_passesPreflight 69 = .ok (.if_icmp .ne 5, 3) := by decide +kernel
theorem dX11_passesPreflight_72 : decode cX11_passesPreflight 72 = .ok (.iconst 1, 1) := by decide +kernel
theorem dX11_passesPreflight_73 : decode cX11_passesPreflight 73 = .ok (.ireturn, 1) := by decide +kernel
theorem dX11_passesPreflight_74 : decode cX11_passesPreflight 74 = .ok (.aload_n 0, 1) := by decide +kernel
theorem dX11_passesPreflight_75 : decode cX11_passesPreflight 75 = .ok (.dup, 1) := by decide +kernel
theorem dX11_passesPreflight_76 : decode cX11_passesPreflight 76 = .ok (.getfield 369, 3) := by decide +kernel
theorem dX11_passesPreflight_79 : decode cX11_passesPreflight 79 = .ok (.iconst 1, 1) := by decide +kernel
theorem dX11_passesPreflight_80 : decode cX11_passesPreflight 80 = .ok (.iadd, 1) := by decide +kernel
theorem dX11_passesPreflight_81 : decode cX11_passesPreflight 81 = .ok (.putfield 369, 3) := by decide +kernel
theorem dX11_passesPreflight_84 : decode cX11_passesPreflight 84 = .ok (.aload_n 0, 1) := by decide +kernel
theorem dX11_passesPreflight_85 : decode cX11_passesPreflight 85 = .ok (.getfield 38, 3) := by decide +kernel
theorem dX11_passesPreflight_88 : decode cX11_passesPreflight 88 = .ok (.aload_n 2, 1) := by decide +kernel
theorem dX11_passesPreflight_89 : decode cX11_passesPreflight 89 = .ok (.getfield 310, 3) := by decide +kernel
theorem dX11_passesPreflight_92 : decode cX11_passesPreflight 92 = .ok (.iconst 0, 1) := by decide +kernel
theorem dX11_passesPreflight_93 : decode cX11_passesPreflight 93 = .ok (.aload_n 2, 1) := by decide +kernel
theorem dX11_passesPreflight_94 : decode cX11_passesPreflight 94 = .ok (.getfield 311, 3) := by decide +kernel
theorem dX11_passesPreflight_97 : decode cX11_passesPreflight 97 = .ok (.aload_n 0, 1) := by decide +kernel
theorem dX11_passesPreflight_98 : decode cX11_passesPreflight 98 = .ok (.getfield 255, 3) := by decide +kernel
theorem dX11_passesPreflight_101 : decode cX11_passesPreflight 101 = .ok (.invokevirtual 314, 3) := by decide +kernel
theorem dX11_passesPreflight_104 : decode cX11_passesPreflight 104 = .ok (.aload 4, 2) := by decide +kernel
theorem dX11_passesPreflight_106 : decode cX11_passesPreflight 106 = .ok (.getfield 366, 3) := by decide +kernel
theorem dX11_passesPreflight_109 : decode cX11_passesPreflight 109 = .ok (.iload_n 3, 1) := by decide +kernel
theorem dX11_passesPreflight_110 : decode cX11_passesPreflight 110 = .ok (.iand, 1) := by decide +kernel
theorem dX11_passesPreflight_111 : decode cX11_passesPreflight 111 = .ok (.iload_n 3, 1) := by decide +kernel
theorem dX11_passesPreflight_112 : decode cX11_passesPreflight 112 = .ok (.if_icmp .ne 11, 3) := by decide +kernel
theorem dX11_passesPreflight_115 : decode cX11_passesPreflight 115 = .ok (.aload_n 1, 1) := by decide +kernel
theorem dX11_passesPreflight_116 : decode cX11_passesPreflight 116 = .ok (.aload_n 2, 1) := by decide +kernel
theorem dX11_passesPreflight_117 : decode cX11_passesPreflight 117 = .ok (.invokestatic 326, 3) := by decide +kernel
theorem dX11_passesPreflight_120 : decode cX11_passesPreflight 120 = .ok (.ifCond .ne 5, 3) := by decide +kernel
theorem dX11_passesPreflight_123 : decode cX11_passesPreflight 123 = .ok (.iconst 0, 1) := by decide +kernel
theorem dX11_passesPreflight_124 : decode cX11_passesPreflight 124 = .ok (.ireturn, 1) := by decide +kernel
theorem dX11_passesPreflight_125 : decode cX11_passesPreflight 125 = .ok (.aload_n 2, 1) := by decide +kernel
theorem dX11_passesPreflight_126 : decode cX11_passesPreflight 126 = .ok (.getfield 310, 3) := by decide +kernel
theorem dX11_passesPreflight_129 : decode cX11_passesPreflight 129 = .ok (.getfield 199, 3) := by decide +kernel
theorem dX11_passesPreflight_132 : decode cX11_passesPreflight 132 = .ok (.ifCond .le 9, 3) := by decide +kernel
theorem dX11_passesPreflight_135 : decode cX11_passesPreflight 135 = .ok (.aload_n 0, 1) := by decide +kernel
theorem dX11_passesPreflight_136 : decode cX11_passesPreflight 136 = .ok (.aload 4, 2) := by decide +kernel
theorem dX11_passesPreflight_138 : decode cX11_passesPreflight 138 = .ok (.invokevirtual 372, 3) := by decide +kernel
theorem dX11_passesPreflight_141 : decode cX11_passesPreflight 141 = .ok (.iconst 1, 1) := by decide +kernel
theorem dX11_passesPreflight_142 : decode cX11_passesPreflight 142 = .ok (.ireturn, 1) := by decide +kernel
theorem dX11_findKept_0 : decode cX11_findKept 0 = .ok (.iconst 0, 1) := by decide +kernel
theorem dX11_findKept_1 : decode cX11_findKept 1 = .ok (.istore_n 2, 1) := by decide +kernel
theorem dX11_findKept_2 : decode cX11_findKept 2 = .ok (.iload_n 2, 1) := by decide +kernel
theorem dX11_findKept_3 : decode cX11_findKept 3 = .ok (.aload_n 0, 1) := by decide +kernel
theorem dX11_findKept_4 : decode cX11_findKept 4 = .ok (.getfield 25, 3) := by decide +kernel
theorem dX11_findKept_7 : decode cX11_findKept 7 = .ok (.invokevirtual 66, 3) := by decide +kernel
theorem dX11_findKept_10 : decode cX11_findKept 10 = .ok (.if_icmp .ge 31, 3) := by decide +kernel
theorem dX11_findKept_13 : decode cX11_findKept 13 = .ok (.aload_n 0, 1) := by decide +kernel
theorem dX11_findKept_14 : decode cX11_findKept 14 = .ok (.getfield 25, 3) := by decide +kernel
theorem dX11_findKept_17 : decode cX11_findKept 17 = .ok (.iload_n 2, 1) := by decide +kernel
theorem dX11_findKept_18 : decode cX11_findKept 18 = .ok (.invokevirtual 151, 3) := by decide +kernel
theorem dX11_findKept_21 : decode cX11_findKept 21 = .ok (.checkcast 357, 3) := by decide +kernel
theorem dX11_findKept_24 : decode cX11_findKept 24 = .ok (.astore_n 3, 1) := by decide +kernel
theorem dX11_findKept_25 : decode cX11_findKept 25 = .ok (.aload_n 3, 1) := by decide +kernel
theorem dX11_findKept_26 : decode cX11_findKept 26 = .ok (.aload_n 1, 1) := by decide +kernel
theorem dX11_findKept_27 : decode cX11_findKept 27 = .ok (.invokevirtual 376, 3) := by decide +kernel
theorem dX11_findKept_30 : decode cX11_findKept 30 = .ok (.ifCond .eq 5, 3) := by decide +kernel
theorem dX11_findKept_33 : decode cX11_findKept 33 = .ok (.aload_n 3, 1) := by decide +kernel
theorem dX11_findKept_34 : decode cX11_findKept 34 = .ok (.areturn, 1) := by decide +kernel
theorem dX11_findKept_35 : decode cX11_findKept 35 = .ok (.iinc 2 1, 3) := by decide +kernel
theorem dX11_findKept_38 : decode cX11_findKept 38 = .ok (.goto (-36), 3) := by decide +kernel
theorem dX11_findKept_41 : decode cX11_findKept 41 = .ok (.aconst_null, 1) := by decide +kernel
theorem dX11_findKept_42 : decode cX11_findKept 42 = .ok (.areturn, 1) := by decide +kernel
theorem dX11_keep_0 : decode cX11_keep 0 = .ok (.iconst 0, 1) := by decide +kernel
theorem dX11_keep_1 : decode cX11_keep 1 = .ok (.istore_n 2, 1) := by decide +kernel
theorem dX11_keep_2 : decode cX11_keep 2 = .ok (.iload_n 2, 1) := by decide +kernel
theorem dX11_keep_3 : decode cX11_keep 3 = .ok (.aload_n 0, 1) := by decide +kernel
theorem dX11_keep_4 : decode cX11_keep 4 = .ok (.getfield 25, 3) := by decide +kernel
theorem dX11_keep_7 : decode cX11_keep 7 = .ok (.invokevirtual 66, 3) := by decide +kernel
theorem dX11_keep_10 : decode cX11_keep 10 = .ok (.if_icmp .ge 38, 3) := by decide +kernel
theorem dX11_keep_13 : decode cX11_keep 13 = .ok (.aload_n 0, 1) := by decide +kernel
theorem dX11_keep_14 : decode cX11_keep 14 = .ok (.getfield 25, 3) := by decide +kernel
theorem dX11_keep_17 : decode cX11_keep 17 = .ok (.iload_n 2, 1) := by decide +kernel
theorem dX11_keep_18 : decode cX11_keep 18 = .ok (.invokevirtual 151, 3) := by decide +kernel
theorem dX11_keep_21 : decode cX11_keep 21 = .ok (.checkcast 357, 3) := by decide +kernel
theorem dX11_keep_24 : decode cX11_keep 24 = .ok (.aload_n 1, 1) := by decide +kernel
theorem dX11_keep_25 : decode cX11_keep 25 = .ok (.invokevirtual 376, 3) := by decide +kernel
theorem dX11_keep_28 : decode cX11_keep 28 = .ok (.ifCond .eq 14, 3) := by decide +kernel
theorem dX11_keep_31 : decode cX11_keep 31 = .ok (.aload_n 0, 1) := by decide +kernel
theorem dX11_keep_32 : decode cX11_keep 32 = .ok (.getfield 25, 3) := by decide +kernel
theorem dX11_keep_35 : decode cX11_keep 35 = .ok (.iload_n 2, 1) := by decide +kernel
theorem dX11_keep_36 : decode cX11_keep 36 = .ok (.aload_n 1, 1) := by decide +kernel
theorem dX11_keep_37 : decode cX11_keep 37 = .ok (.invokevirtual 380, 3) := by decide +kernel
theorem dX11_keep_40 : decode cX11_keep 40 = .ok (.pop, 1) := by decide +kernel
theorem dX11_keep_41 : decode cX11_keep 41 = .ok (.return_, 1) := by decide +kernel
theorem dX11_keep_42 : decode cX11_keep 42 = .ok (.iinc 2 1, 3) := by decide +kernel
theorem dX11_keep_45 : decode cX11_keep 45 = .ok (.goto (-43), 3) := by decide +kernel
theorem dX11_keep_48 : decode cX11_keep 48 = .ok (.aload_n 0, 1) := by decide +kernel
theorem dX11_keep_49 : decode cX11_keep 49 = .ok (.getfield 25, 3) := by decide +kernel
theorem dX11_keep_52 : decode cX11_keep 52 = .ok (.aload_n 1, 1) := by decide +kernel
theorem dX11_keep_53 : decode cX11_keep 53 = .ok (.invokevirtual 78, 3) := by decide +kernel
theorem dX11_keep_56 : decode cX11_keep 56 = .ok (.pop, 1) := by decide +kernel
theorem dX11_keep_57 : decode cX11_keep 57 = .ok (.return_, 1) := by decide +kernel
theorem dX11_dropGonePreflights_0 : decode cX11_dropGonePreflights 0 = .ok (.aload_n 0, 1) := by decide +kernel
theorem dX11_dropGonePreflights_1 : decode cX11_dropGonePreflights 1 = .ok (.getfield 25, 3) := by decide +kernel
theorem dX11_dropGonePreflights_4 : decode cX11_dropGonePreflights 4 = .ok (.invokevirtual 66, 3) := by decide +kernel
theorem dX11_dropGonePreflights_7 : decode cX11_dropGonePreflights 7 = .ok (.iconst 1, 1) := by decide +kernel
theorem dX11_dropGonePreflights_8 : decode cX11_dropGonePreflights 8 = .ok (.isub, 1) := by decide +kernel
theorem dX11_dropGonePreflights_9 : decode cX11_dropGonePreflights 9 = .ok (.istore_n 1, 1) := by decide +kernel
theorem dX11_dropGonePreflights_10 : decode cX11_dropGonePreflights 10 = .ok (.iload_n 1, 1) := by decide +kernel
theorem dX11_dropGonePreflights_11 : decode cX11_dropGonePreflights 11 = .ok (.ifCond .lt 39, 3) := by decide +kernel
theorem dX11_dropGonePreflights_14 : decode cX11_dropGonePreflights 14 = .ok (.aload_n 0, 1) := by decide +kernel
theorem dX11_dropGonePreflights_15 : decode cX11_dropGonePreflights 15 = .ok (.getfield 255, 3) := by decide +kernel
theorem dX11_dropGonePreflights_18 : decode cX11_dropGonePreflights 18 = .ok (.aload_n 0, 1) := by decide +kernel
theorem dX11_dropGonePreflights_19 : decode cX11_dropGonePreflights 19 = .ok (.getfield 25, 3) := by decide +kernel
theorem dX11_dropGonePreflights_22 : decode cX11_dropGonePreflights 22 = .ok (.iload_n 1, 1) := by decide +kernel
theorem dX11_dropGonePreflights_23 : decode cX11_dropGonePreflights 23 = .ok (.invokevirtual 151, 3) := by decide +kernel
theorem dX11_dropGonePreflights_26 : decode cX11_dropGonePreflights 26 = .ok (.checkcast 357, 3) := by decide +kernel
theorem dX11_dropGonePreflights_29 : decode cX11_dropGonePreflights 29 = .ok (.getfield 384, 3) := by decide +kernel
theorem dX11_dropGonePreflights_32 : decode cX11_dropGonePreflights 32 = .ok (.if_icmp .lt 12, 3) := by decide +kernel
theorem dX11_dropGonePreflights_35 : decode cX11_dropGonePreflights 35 = .ok (.aload_n 0, 1) := by decide +kernel
theorem dX11_dropGonePreflights_36 : decode cX11_dropGonePreflights 36 = .ok (.getfield 25, 3) := by decide +kernel
theorem dX11_dropGonePreflights_39 : decode cX11_dropGonePreflights 39 = .ok (.iload_n 1, 1) := by decide +kernel
theorem dX11_dropGonePreflights_40 : decode cX11_dropGonePreflights 40 = .ok (.invokevirtual 387, 3) := by decide +kernel
theorem dX11_dropGonePreflights_43 : decode cX11_dropGonePreflights 43 = .ok (.pop, 1) := by decide +kernel
theorem dX11_dropGonePreflights_44 : decode cX11_dropGonePreflights 44 = .ok (.iinc 1 (-1), 3) := by decide +kernel
theorem dX11_dropGonePreflights_47 : decode cX11_dropGonePreflights 47 = .ok (.goto (-37), 3) := by decide +kernel
theorem dX11_dropGonePreflights_50 : decode cX11_dropGonePreflights 50 = .ok (.return_, 1) := by decide +kernel
theorem dX11_judge_0 : decode cX11_judge 0 = .ok (.iconst 0, 1) := by decide +kernel
theorem dX11_judge_1 : decode cX11_judge 1 = .ok (.istore_n 1, 1) := by decide +kernel
theorem dX11_judge_2 : decode cX11_judge 2 = .ok (.iconst 0, 1) := by decide +kernel
theorem dX11_judge_3 : decode cX11_judge 3 = .ok (.istore_n 2, 1) := by decide +kernel
theorem dX11_judge_4 : decode cX11_judge 4 = .ok (.iload_n 2, 1) := by decide +kernel
theorem dX11_judge_5 : decode cX11_judge 5 = .ok (.aload_n 0, 1) := by decide +kernel
theorem dX11_judge_6 : decode cX11_judge 6 = .ok (.getfield 287, 3) := by decide +kernel
theorem dX11_judge_9 : decode cX11_judge 9 = .ok (.invokevirtual 66, 3) := by decide +kernel
theorem dX11_judge_12 : decode cX11_judge 12 = .ok (.if_icmp .ge 84, 3) := by decide +kernel
theorem dX11_judge_15 : decode cX11_judge 15 = .ok (.aload_n 0, 1) := by decide +kernel
theorem dX11_judge_16 : decode cX11_judge 16 = .ok (.getfield 287, 3) := by decide +kernel
theorem dX11_judge_19 : decode cX11_judge 19 = .ok (.iload_n 2, 1) := by decide +kernel
theorem dX11_judge_20 : decode cX11_judge 20 = .ok (.invokevirtual 151, 3) := by decide +kernel
theorem dX11_judge_23 : decode cX11_judge 23 = .ok (.checkcast 282, 3) := by decide +kernel
theorem dX11_judge_26 : decode cX11_judge 26 = .ok (.astore_n 3, 1) := by decide +kernel
theorem dX11_judge_27 : decode cX11_judge 27 = .ok (.aload_n 0, 1) := by decide +kernel
theorem dX11_judge_28 : decode cX11_judge 28 = .ok (.aload_n 3, 1) := by decide +kernel
theorem dX11_judge_29 : decode cX11_judge 29 = .ok (.getfield 310, 3) := by decide +kernel
theorem dX11_judge_32 : decode cX11_judge 32 = .ok (.invokestatic 290, 3) := by decide +kernel
theorem dX11_judge_35 : decode cX11_judge 35 = .ok (.ifCond .eq 5, 3) := by decide +kernel
theorem dX11_judge_38 : decode cX11_judge 38 = .ok (.iconst 2, 1) := by decide +kernel
theorem dX11_judge_39 : decode cX11_judge 39 = .ok (.ireturn, 1) := by decide +kernel
theorem dX11_judge_40 : decode cX11_judge 40 = .ok (.aload_n 3, 1) := by decide +kernel
theorem dX11_judge_41 : decode cX11_judge 41 = .ok (.getfield 304, 3) := by decide +kernel
theorem dX11_judge_44 : decode cX11_judge 44 = .ok (.ifCond .eq 5, 3) := by decide +kernel
theorem dX11_judge_47 : decode cX11_judge 47 = .ok (.iconst 5, 1) := by decide +kernel
theorem dX11_judge_48 : decode cX11_judge 48 = .ok (.ireturn, 1) := by decide +kernel
theorem dX11_judge_49 : decode cX11_judge 49 = .ok (.aload_n 3, 1) := by decide +kernel
theorem dX11_judge_50 : decode cX11_judge 50 = .ok (.getfield 329, 3) := by decide +kernel
theorem dX11_judge_53 : decode cX11_judge 53 = .ok (.ifCond .ne 5, 3) := by decide +kernel
theorem dX11_judge_56 : decode cX11_judge 56 = .ok (.iconst 3, 1) := by decide +kernel
theorem dX11_judge_57 : decode cX11_judge 57 = .ok (.ireturn, 1) := by decide +kernel
theorem dX11_judge_58 : decode cX11_judge 58 = .ok (.iload_n 2, 1) := by decide +kernel
theorem dX11_judge_59 : decode cX11_judge 59 = .ok (.iconst 5, 1) := by decide +kernel
theorem dX11_judge_60 : decode cX11_judge 60 = .ok (.if_icmp .ne 12, 3) := by decide +kernel
theorem dX11_judge_63 : decode cX11_judge 63 = .ok (.aload_n 3, 1) := by decide +kernel
theorem dX11_judge_64 : decode cX11_judge 64 = .ok (.getfield 342, 3) := by decide +kernel
theorem dX11_judge_67 : decode cX11_judge 67 = .ok (.ifCond .eq 5, 3) := by decide +kernel
theorem dX11_judge_70 : decode cX11_judge 70 = .ok (.iconst 4, 1) := by decide +kernel
theorem dX11_judge_71 : decode cX11_judge 71 = .ok (.ireturn, 1) := by decide +kernel
theorem dX11_judge_72 : decode cX11_judge 72 = .ok (.iload_n 1, 1) := by decide +kernel
theorem dX11_judge_73 : decode cX11_judge 73 = .ok (.ifCond .ne 11, 3) := by decide +kernel
theorem dX11_judge_76 : decode cX11_judge 76 = .ok (.aload_n 0, 1) := by decide +kernel
theorem dX11_judge_77 : decode cX11_judge 77 = .ok (.aload_n 3, 1) := by decide +kernel
theorem dX11_judge_78 : decode cX11_judge 78 = .ok (.invokestatic 297, 3) := by decide +kernel
theorem dX11_judge_81 : decode cX11_judge 81 = .ok (.ifCond .eq 7, 3) := by decide +kernel
theorem dX11_judge_84 : decode cX11_judge 84 = .ok (.iconst 1, 1) := by decide +kernel
theorem dX11_judge_85 : decode cX11_judge 85 = .ok (.goto 4, 3) := by decide +kernel
theorem dX11_judge_88 : decode cX11_judge 88 = .ok (.iconst 0, 1) := by decide +kernel
theorem dX11_judge_89 : decode cX11_judge 89 = .ok (.istore_n 1, 1) := by decide +kernel
theorem dX11_judge_90 : decode cX11_judge 90 = .ok (.iinc 2 1, 3) := by decide +kernel
theorem dX11_judge_93 : decode cX11_judge 93 = .ok (.goto (-89), 3) := by decide +kernel
theorem dX11_judge_96 : decode cX11_judge 96 = .ok (.aload_n 0, 1) := by decide +kernel
theorem dX11_judge_97 : decode cX11_judge 97 = .ok (.getfield 294, 3) := by decide +kernel
theorem dX11_judge_100 : decode cX11_judge 100 = .ok (.ifCond .ne 11, 3) := by decide +kernel
theorem dX11_judge_103 : decode cX11_judge 103 = .ok (.iload_n 1, 1) := by decide +kernel
theorem dX11_judge_104 : decode cX11_judge 104 = .ok (.ifCond .eq 7, 3) := by decide +kernel
theorem dX11_judge_107 : decode cX11_judge 107 = .ok (.iconst 1, 1) := by decide +kernel
theorem dX11_judge_108 : decode cX11_judge 108 = .ok (.goto 4, 3) := by decide +kernel
theorem dX11_judge_111 : decode cX11_judge 111 = .ok (.iconst 0, 1) := by decide +kernel
theorem dX11_judge_112 : decode cX11_judge 112 = .ok (.ireturn, 1) := by decide +kernel
theorem dX11_hops_0 : decode cX11_hops 0 = .ok (.aload_n 0, 1) := by decide +kernel
theorem dX11_hops_1 : decode cX11_hops 1 = .ok (.iload_n 1, 1) := by decide +kernel
theorem dX11_hops_2 : decode cX11_hops 2 = .ok (.invokevirtual 390, 3) := by decide +kernel
theorem dX11_hops_5 : decode cX11_hops 5 = .ok (.getfield 287, 3) := by decide +kernel
theorem dX11_hops_8 : decode cX11_hops 8 = .ok (.invokevirtual 66, 3) := by decide +kernel
theorem dX11_hops_11 : decode cX11_hops 11 = .ok (.ireturn, 1) := by decide +kernel
theorem dX11_hop_0 : decode cX11_hop 0 = .ok (.aload_n 0, 1) := by decide +kernel
theorem dX11_hop_1 : decode cX11_hop 1 = .ok (.iload_n 1, 1) := by decide +kernel
theorem dX11_hop_2 : decode cX11_hop 2 = .ok (.iload_n 2, 1) := by decide +kernel
theorem dX11_hop_3 : decode cX11_hop 3 = .ok (.invokevirtual 394, 3) := by decide +kernel
theorem dX11_hop_6 : decode cX11_hop 6 = .ok (.astore_n 3, 1) := by decide +kernel
theorem dX11_hop_7 : decode cX11_hop 7 = .ok (.sipush 1000, 3) := by decide +kernel
theorem dX11_hop_10 : decode cX11_hop 10 = .ok (.aload_n 3, 1) := by decide +kernel
theorem dX11_hop_11 : decode cX11_hop 11 = .ok (.getfield 310, 3) := by decide +kernel
theorem dX11_hop_14 : decode cX11_hop 14 = .ok (.getfield 170, 3) := by decide +kernel
theorem dX11_hop_17 : decode cX11_hop 17 = .ok (.imul, 1) := by decide +kernel
theorem dX11_hop_18 : decode cX11_hop 18 = .ok (.bipush 100, 2) := by decide +kernel
theorem dX11_hop_20 : decode cX11_hop 20 = .ok (.aload_n 3, 1) := by decide +kernel
theorem dX11_hop_21 : decode cX11_hop 21 = .ok (.getfield 353, 3) := by decide +kernel
theorem dX11_hop_24 : decode cX11_hop 24 = .ok (.imul, 1) := by decide +kernel
theorem dX11_hop_25 : decode cX11_hop 25 = .ok (.iadd, 1) := by decide +kernel
theorem dX11_hop_26 : decode cX11_hop 26 = .ok (.aload_n 3, 1) := by decide +kernel
theorem dX11_hop_27 : decode cX11_hop 27 = .ok (.getfield 336, 3) := by decide +kernel
theorem dX11_hop_30 : decode cX11_hop 30 = .ok (.ifCond .eq 8, 3) := by decide +kernel
theorem dX11_hop_33 : decode cX11_hop 33 = .ok (.bipush 10, 2) := by decide +kernel
theorem dX11_hop_35 : decode cX11_hop 35 = .ok (.goto 4, 3) := by decide +kernel
theorem dX11_hop_38 : decode cX11_hop 38 = .ok (.iconst 0, 1) := by decide +kernel
theorem dX11_hop_39 : decode cX11_hop 39 = .ok (.iadd, 1) := by decide +kernel
theorem dX11_hop_40 : decode cX11_hop 40 = .ok (.aload_n 3, 1) := by decide +kernel
theorem dX11_hop_41 : decode cX11_hop 41 = .ok (.getfield 398, 3) := by decide +kernel
theorem dX11_hop_44 : decode cX11_hop 44 = .ok (.iadd, 1) := by decide +kernel
theorem dX11_hop_45 : decode cX11_hop 45 = .ok (.ireturn, 1) := by decide +kernel
theorem dX11_sent_0 : decode cX11_sent 0 = .ok (.aload_n 0, 1) := by decide +kernel
theorem dX11_sent_1 : decode cX11_sent 1 = .ok (.iload_n 1, 1) := by decide +kernel
theorem dX11_sent_2 : decode cX11_sent 2 = .ok (.iload_n 2, 1) := by decide +kernel
theorem dX11_sent_3 : decode cX11_sent 3 = .ok (.invokevirtual 394, 3) := by decide +kernel
theorem dX11_sent_6 : decode cX11_sent 6 = .ok (.astore 4, 2) := by decide +kernel
theorem dX11_sent_8 : decode cX11_sent 8 = .ok (.iload_n 3, 1) := by decide +kernel
theorem dX11_sent_9 : decode cX11_sent 9 = .ok (.ifCond .ge 14, 3) := by decide +kernel
theorem dX11_sent_12 : decode cX11_sent 12 = .ok (.new 140, 3) := by decide +kernel
theorem dX11_sent_15 : decode cX11_sent 15 = .ok (.dup, 1) := by decide +kernel
theorem dX11_sent_16 : decode cX11_sent 16 = .ok (.ldc_w 401, 3) := by decide +kernel
theorem dX11_sent_19 : decode cX11_sent 19 = .ok (.invokespecial 144, 3) := by decide +kernel
theorem dX11_sent_22 : decode cX11_sent 22 = .ok (.athrow, 1) := by decide +kernel
theorem dX11_sent_23 : decode cX11_sent 23 = .ok (.iload_n 3, 1) := by decide +kernel
theorem dX11_sent_24 : decode cX11_sent 24 = .ok (.aload 4, 2) := by decide +kernel
theorem dX11_sent_26 : decode cX11_sent 26 = .ok (.getfield 403, 3) := by decide +kernel
theorem dX11_sent_29 : decode cX11_sent 29 = .ok (.if_icmp .ge 23, 3) := by decide +kernel
theorem dX11_sent_32 : decode cX11_sent 32 = .ok (.iload_n 3, 1) := by decide +kernel
theorem dX11_sent_33 : decode cX11_sent 33 = .ok (.aload 4, 2) := by decide +kernel
theorem dX11_sent_35 : decode cX11_sent 35 = .ok (.getfield 406, 3) := by decide +kernel
theorem dX11_sent_38 : decode cX11_sent 38 = .ok (.arraylength, 1) := by decide +kernel
theorem dX11_sent_39 : decode cX11_sent 39 = .ok (.if_icmp .ge 13, 3) := by decide +kernel
theorem dX11_sent_42 : decode cX11_sent 42 = .ok (.aload 4, 2) := by decide +kernel
theorem dX11_sent_44 : decode cX11_sent 44 = .ok (.getfield 406, 3) := by decide +kernel
theorem dX11_sent_47 : decode cX11_sent 47 = .ok (.iload_n 3, 1) := by decide +kernel
theorem dX11_sent_48 : decode cX11_sent 48 = .ok (.iaload, 1) := by decide +kernel
theorem dX11_sent_49 : decode cX11_sent 49 = .ok (.goto 4, 3) := by decide +kernel
theorem dX11_sent_52 : decode cX11_sent 52 = .ok (.iconst (-1), 1) := by decide +kernel
theorem dX11_sent_53 : decode cX11_sent 53 = .ok (.ireturn, 1) := by decide +kernel
theorem dX11_judged_0 : decode cX11_judged 0 = .ok (.aload_n 0, 1) := by decide +kernel
theorem dX11_judged_1 : decode cX11_judged 1 = .ok (.iload_n 1, 1) := by decide +kernel
theorem dX11_judged_2 : decode cX11_judged 2 = .ok (.invokevirtual 390, 3) := by decide +kernel
theorem dX11_judged_5 : decode cX11_judged 5 = .ok (.invokestatic 249, 3) := by decide +kernel
theorem dX11_judged_8 : decode cX11_judged 8 = .ok (.ireturn, 1) := by decide +kernel
theorem dX11_cookies_0 : decode cX11_cookies 0 = .ok (.aload_n 0, 1) := by decide +kernel
theorem dX11_cookies_1 : decode cX11_cookies 1 = .ok (.getfield 31, 3) := by decide +kernel
theorem dX11_cookies_4 : decode cX11_cookies 4 = .ok (.getfield 410, 3) := by decide +kernel
theorem dX11_cookies_7 : decode cX11_cookies 7 = .ok (.invokevirtual 66, 3) := by decide +kernel
theorem dX11_cookies_10 : decode cX11_cookies 10 = .ok (.ireturn, 1) := by decide +kernel
theorem dX11_cookie_0 : decode cX11_cookie 0 = .ok (.iload_n 1, 1) := by decide +kernel
theorem dX11_cookie_1 : decode cX11_cookie 1 = .ok (.ifCond .lt 17, 3) := by decide +kernel
theorem dX11_cookie_4 : decode cX11_cookie 4 = .ok (.iload_n 1, 1) := by decide +kernel
theorem dX11_cookie_5 : decode cX11_cookie 5 = .ok (.aload_n 0, 1) := by decide +kernel
theorem dX11_cookie_6 : decode cX11_cookie 6 = .ok (.getfield 31, 3) := by decide +kernel
theorem dX11_cookie_9 : decode cX11_cookie 9 = .ok (.getfield 410, 3) := by decide +kernel
theorem dX11_cookie_12 : decode cX11_cookie 12 = .ok (.invokevirtual 66, 3) := by decide +kernel
theorem dX11_cookie_15 : decode cX11_cookie 15 = .ok (.if_icmp .lt 14, 3) := by decide +kernel
theorem dX11_cookie_18 : decode cX11_cookie 18 = .ok (.new 140, 3) := by decide +kernel
theorem dX11_cookie_21 : decode cX11_cookie 21 = .ok (.dup, 1) := by decide +kernel
theorem dX11_cookie_22 : decode cX11_cookie 22 = .ok (.ldc_w 413, 3) := by decide +kernel
theorem dX11_cookie_25 : decode cX11_cookie 25 = .ok (.invokespecial 144, 3) := by decide +kernel
theorem dX11_cookie_28 : decode cX11_cookie 28 = .ok (.athrow, 1) := by decide +kernel
theorem dX11_cookie_29 : decode cX11_cookie 29 = .ok (.aload_n 0, 1) := by decide +kernel
theorem dX11_cookie_30 : decode cX11_cookie 30 = .ok (.getfield 31, 3) := by decide +kernel
theorem dX11_cookie_33 : decode cX11_cookie 33 = .ok (.getfield 410, 3) := by decide +kernel
theorem dX11_cookie_36 : decode cX11_cookie 36 = .ok (.iload_n 1, 1) := by decide +kernel
theorem dX11_cookie_37 : decode cX11_cookie 37 = .ok (.invokevirtual 151, 3) := by decide +kernel
theorem dX11_cookie_40 : decode cX11_cookie 40 = .ok (.checkcast 415, 3) := by decide +kernel
theorem dX11_cookie_43 : decode cX11_cookie 43 = .ok (.astore_n 2, 1) := by decide +kernel
theorem dX11_cookie_44 : decode cX11_cookie 44 = .ok (.aload_n 2, 1) := by decide +kernel
theorem dX11_cookie_45 : decode cX11_cookie 45 = .ok (.getfield 417, 3) := by decide +kernel
theorem dX11_cookie_48 : decode cX11_cookie 48 = .ok (.iconst (-1), 1) := by decide +kernel
theorem dX11_cookie_49 : decode cX11_cookie 49 = .ok (.if_icmp .ne 7, 3) := by decide +kernel
theorem dX11_cookie_52 : decode cX11_cookie 52 = .ok (.iconst 0, 1) := by decide +kernel
theorem dX11_cookie_53 : decode cX11_cookie 53 = .ok (.goto 6, 3) := by decide +kernel
theorem dX11_cookie_56 : decode cX11_cookie 56 = .ok (.ldc_w 418, 3) := by decide +kernel
theorem dX11_cookie_59 : decode cX11_cookie 59 = .ok (.istore_n 3, 1) := by decide +kernel
theorem dX11_cookie_60 : decode cX11_cookie 60 = .ok (.iload_n 3, 1) := by decide +kernel
theorem dX11_cookie_61 : decode cX11_cookie 61 = .ok (.ldc_w 419, 3) := by decide +kernel
theorem dX11_cookie_64 : decode cX11_cookie 64 = .ok (.aload_n 2, 1) := by decide +kernel
theorem dX11_cookie_65 : decode cX11_cookie 65 = .ok (.getfield 420, 3) := by decide +kernel
theorem dX11_cookie_68 : decode cX11_cookie 68 = .ok (.getfield 57, 3) := by decide +kernel
theorem dX11_cookie_71 : decode cX11_cookie 71 = .ok (.imul, 1) := by decide +kernel
theorem dX11_cookie_72 : decode cX11_cookie 72 = .ok (.iadd, 1) := by decide +kernel
theorem dX11_cookie_73 : decode cX11_cookie 73 = .ok (.aload_n 2, 1) := by decide +kernel
theorem dX11_cookie_74 : decode cX11_cookie 74 = .ok (.getfield 421, 3) := by decide +kernel
theorem dX11_cookie_77 : decode cX11_cookie 77 = .ok (.invokevirtual 422, 3) := by decide +kernel
theorem dX11_cookie_80 : decode cX11_cookie 80 = .ok (.iadd, 1) := by decide +kernel
theorem dX11_cookie_81 : decode cX11_cookie 81 = .ok (.ireturn, 1) := by decide +kernel
theorem dX11_count_0 : decode cX11_count 0 = .ok (.iload_n 1, 1) := by decide +kernel
theorem dX11_count_1 : decode cX11_count 1 = .ok (.tableswitch 51 0 2 #[27, 35, 46], 27) := by decide +kernel
theorem dX11_count_28 : decode cX11_count 28 = .ok (.aload_n 0, 1) := by decide +kernel
theorem dX11_count_29 : decode cX11_count 29 = .ok (.getfield 38, 3) := by decide +kernel
theorem dX11_count_32 : decode cX11_count 32 = .ok (.getfield 425, 3) := by decide +kernel
theorem dX11_count_35 : decode cX11_count 35 = .ok (.ireturn, 1) := by decide +kernel
theorem dX11_count_36 : decode cX11_count 36 = .ok (.aload_n 0, 1) := by decide +kernel
theorem dX11_count_37 : decode cX11_count 37 = .ok (.getfield 38, 3) := by decide +kernel
theorem dX11_count_40 : decode cX11_count 40 = .ok (.getfield 428, 3) := by decide +kernel
theorem dX11_count_43 : decode cX11_count 43 = .ok (.invokevirtual 66, 3) := by decide +kernel
theorem dX11_count_46 : decode cX11_count 46 = .ok (.ireturn, 1) := by decide +kernel
theorem dX11_count_47 : decode cX11_count 47 = .ok (.aload_n 0, 1) := by decide +kernel
theorem dX11_count_48 : decode cX11_count 48 = .ok (.getfield 369, 3) := by decide +kernel
theorem dX11_count_51 : decode cX11_count 51 = .ok (.ireturn, 1) := by decide +kernel
theorem dX11_count_52 : decode cX11_count 52 = .ok (.new 46, 3) := by decide +kernel
theorem dX11_count_55 : decode cX11_count 55 = .ok (.dup, 1) := by decide +kernel
theorem dX11_count_56 : decode cX11_count 56 = .ok (.ldc_w 431, 3) := by decide +kernel
theorem dX11_count_59 : decode cX11_count 59 = .ok (.invokespecial 50, 3) := by decide +kernel
theorem dX11_count_62 : decode cX11_count 62 = .ok (.athrow, 1) := by decide +kernel
theorem dX11_requestAt_0 : decode cX11_requestAt 0 = .ok (.iload_n 1, 1) := by decide +kernel
theorem dX11_requestAt_1 : decode cX11_requestAt 1 = .ok (.ifCond .lt 14, 3) := by decide +kernel
theorem dX11_requestAt_4 : decode cX11_requestAt 4 = .ok (.iload_n 1, 1) := by decide +kernel
theorem dX11_requestAt_5 : decode cX11_requestAt 5 = .ok (.aload_n 0, 1) := by decide +kernel
theorem dX11_requestAt_6 : decode cX11_requestAt 6 = .ok (.getfield 22, 3) := by decide +kernel
theorem dX11_requestAt_9 : decode cX11_requestAt 9 = .ok (.invokevirtual 66, 3) := by decide +kernel
theorem dX11_requestAt_12 : decode cX11_requestAt 12 = .ok (.if_icmp .lt 14, 3) := by decide +kernel
theorem dX11_requestAt_15 : decode cX11_requestAt 15 = .ok (.new 140, 3) := by decide +kernel
theorem dX11_requestAt_18 : decode cX11_requestAt 18 = .ok (.dup, 1) := by decide +kernel
theorem dX11_requestAt_19 : decode cX11_requestAt 19 = .ok (.ldc_w 433, 3) := by decide +kernel
theorem dX11_requestAt_22 : decode cX11_requestAt 22 = .ok (.invokespecial 144, 3) := by decide +kernel
theorem dX11_requestAt_25 : decode cX11_requestAt 25 = .ok (.athrow, 1) := by decide +kernel
theorem dX11_requestAt_26 : decode cX11_requestAt 26 = .ok (.aload_n 0, 1) := by decide +kernel
theorem dX11_requestAt_27 : decode cX11_requestAt 27 = .ok (.getfield 22, 3) := by decide +kernel
theorem dX11_requestAt_30 : decode cX11_requestAt 30 = .ok (.iload_n 1, 1) := by decide +kernel
theorem dX11_requestAt_31 : decode cX11_requestAt 31 = .ok (.invokevirtual 151, 3) := by decide +kernel
theorem dX11_requestAt_34 : decode cX11_requestAt 34 = .ok (.checkcast 240, 3) := by decide +kernel
theorem dX11_requestAt_37 : decode cX11_requestAt 37 = .ok (.areturn, 1) := by decide +kernel
theorem dX11_hopAt_0 : decode cX11_hopAt 0 = .ok (.aload_n 0, 1) := by decide +kernel
theorem dX11_hopAt_1 : decode cX11_hopAt 1 = .ok (.iload_n 1, 1) := by decide +kernel
theorem dX11_hopAt_2 : decode cX11_hopAt 2 = .ok (.invokevirtual 390, 3) := by decide +kernel
theorem dX11_hopAt_5 : decode cX11_hopAt 5 = .ok (.astore_n 3, 1) := by decide +kernel
theorem dX11_hopAt_6 : decode cX11_hopAt 6 = .ok (.iload_n 2, 1) := by decide +kernel
theorem dX11_hopAt_7 : decode cX11_hopAt 7 = .ok (.ifCond .lt 14, 3) := by decide +kernel
theorem dX11_hopAt_10 : decode cX11_hopAt 10 = .ok (.iload_n 2, 1) := by decide +kernel
theorem dX11_hopAt_11 : decode cX11_hopAt 11 = .ok (.aload_n 3, 1) := by decide +kernel
theorem dX11_hopAt_12 : decode cX11_hopAt 12 = .ok (.getfield 287, 3) := by decide +kernel
theorem dX11_hopAt_15 : decode cX11_hopAt 15 = .ok (.invokevirtual 66, 3) := by decide +kernel
theorem dX11_hopAt_18 : decode cX11_hopAt 18 = .ok (.if_icmp .lt 14, 3) := by decide +kernel
theorem dX11_hopAt_21 : decode cX11_hopAt 21 = .ok (.new 140, 3) := by decide +kernel
theorem dX11_hopAt_24 : decode cX11_hopAt 24 = .ok (.dup, 1) := by decide +kernel
theorem dX11_hopAt_25 : decode cX11_hopAt 25 = .ok (.ldc_w 435, 3) := by decide +kernel
theorem dX11_hopAt_28 : decode cX11_hopAt 28 = .ok (.invokespecial 144, 3) := by decide +kernel
theorem dX11_hopAt_31 : decode cX11_hopAt 31 = .ok (.athrow, 1) := by decide +kernel
theorem dX11_hopAt_32 : decode cX11_hopAt 32 = .ok (.aload_n 3, 1) := by decide +kernel
theorem dX11_hopAt_33 : decode cX11_hopAt 33 = .ok (.getfield 287, 3) := by decide +kernel
theorem dX11_hopAt_36 : decode cX11_hopAt 36 = .ok (.iload_n 2, 1) := by decide +kernel
theorem dX11_hopAt_37 : decode cX11_hopAt 37 = .ok (.invokevirtual 151, 3) := by decide +kernel
theorem dX11_hopAt_40 : decode cX11_hopAt 40 = .ok (.checkcast 282, 3) := by decide +kernel
theorem dX11_hopAt_43 : decode cX11_hopAt 43 = .ok (.areturn, 1) := by decide +kernel
theorem dX12_init_0 : decode cX12_init 0 = .ok (.aload_n 0, 1) := by decide +kernel
theorem dX12_init_1 : decode cX12_init 1 = .ok (.invokespecial 1, 3) := by decide +kernel
theorem dX12_init_4 : decode cX12_init 4 = .ok (.aload_n 0, 1) := by decide +kernel
theorem dX12_init_5 : decode cX12_init 5 = .ok (.bipush 16, 2) := by decide +kernel
theorem dX12_init_7 : decode cX12_init 7 = .ok (.newarray .int, 2) := by decide +kernel
theorem dX12_init_9 : decode cX12_init 9 = .ok (.putfield 7, 3) := by decide +kernel
theorem dX12_init_12 : decode cX12_init 12 = .ok (.aload_n 0, 1) := by decide +kernel
theorem dX12_init_13 : decode cX12_init 13 = .ok (.bipush 16, 2) := by decide +kernel
theorem dX12_init_15 : decode cX12_init 15 = .ok (.newarray .int, 2) := by decide +kernel
theorem dX12_init_17 : decode cX12_init 17 = .ok (.putfield 13, 3) := by decide +kernel
theorem dX12_init_20 : decode cX12_init 20 = .ok (.aload_n 0, 1) := by decide +kernel
theorem dX12_init_21 : decode cX12_init 21 = .ok (.bipush 16, 2) := by decide +kernel
theorem dX12_init_23 : decode cX12_init 23 = .ok (.newarray .boolean, 2) := by decide +kernel
theorem dX12_init_25 : decode cX12_init 25 = .ok (.putfield 16, 3) := by decide +kernel
theorem dX12_init_28 : decode cX12_init 28 = .ok (.aload_n 0, 1) := by decide +kernel
theorem dX12_init_29 : decode cX12_init 29 = .ok (.bipush 24, 2) := by decide +kernel
theorem dX12_init_31 : decode cX12_init 31 = .ok (.newarray .int, 2) := by decide +kernel
theorem dX12_init_33 : decode cX12_init 33 = .ok (.putfield 20, 3) := by decide +kernel
theorem dX12_init_36 : decode cX12_init 36 = .ok (.aload_n 0, 1) := by decide +kernel
theorem dX12_init_37 : decode cX12_init 37 = .ok (.bipush 24, 2) := by decide +kernel
theorem dX12_init_39 : decode cX12_init 39 = .ok (.newarray .int, 2) := by decide +kernel
theorem dX12_init_41 : decode cX12_init 41 = .ok (.putfield 23, 3) := by decide +kernel
theorem dX12_init_44 : decode cX12_init 44 = .ok (.aload_n 0, 1) := by decide +kernel
theorem dX12_init_45 : decode cX12_init 45 = .ok (.bipush 24, 2) := by decide +kernel
theorem dX12_init_47 : decode cX12_init 47 = .ok (.newarray .int, 2) := by decide +kernel
theorem dX12_init_49 : decode cX12_init 49 = .ok (.putfield 26, 3) := by decide +kernel
theorem dX12_init_52 : decode cX12_init 52 = .ok (.aload_n 0, 1) := by decide +kernel
theorem dX12_init_53 : decode cX12_init 53 = .ok (.bipush 24, 2) := by decide +kernel
theorem dX12_init_55 : decode cX12_init 55 = .ok (.newarray .int, 2) := by decide +kernel
theorem dX12_init_57 : decode cX12_init 57 = .ok (.putfield 29, 3) := by decide +kernel
theorem dX12_init_60 : decode cX12_init 60 = .ok (.aload_n 0, 1) := by decide +kernel
theorem dX12_init_61 : decode cX12_init 61 = .ok (.bipush 24, 2) := by decide +kernel
theorem dX12_init_63 : decode cX12_init 63 = .ok (.newarray .int, 2) := by decide +kernel
theorem dX12_init_65 : decode cX12_init 65 = .ok (.putfield 32, 3) := by decide +kernel
theorem dX12_init_68 : decode cX12_init 68 = .ok (.aload_n 0, 1) := by decide +kernel
theorem dX12_init_69 : decode cX12_init 69 = .ok (.bipush 24, 2) := by decide +kernel
theorem dX12_init_71 : decode cX12_init 71 = .ok (.newarray .int, 2) := by decide +kernel
theorem dX12_init_73 : decode cX12_init 73 = .ok (.putfield 35, 3) := by decide +kernel
theorem dX12_init_76 : decode cX12_init 76 = .ok (.aload_n 0, 1) := by decide +kernel
theorem dX12_init_77 : decode cX12_init 77 = .ok (.bipush 24, 2) := by decide +kernel
theorem dX12_init_79 : decode cX12_init 79 = .ok (.newarray .int, 2) := by decide +kernel
theorem dX12_init_81 : decode cX12_init 81 = .ok (.putfield 38, 3) := by decide +kernel
theorem dX12_init_84 : decode cX12_init 84 = .ok (.aload_n 0, 1) := by decide +kernel
theorem dX12_init_85 : decode cX12_init 85 = .ok (.bipush 24, 2) := by decide +kernel
theorem dX12_init_87 : decode cX12_init 87 = .ok (.newarray .boolean, 2) := by decide +kernel
theorem dX12_init_89 : decode cX12_init 89 = .ok (.putfield 41, 3) := by decide +kernel
theorem dX12_init_92 : decode cX12_init 92 = .ok (.aload_n 0, 1) := by decide +kernel
theorem dX12_init_93 : decode cX12_init 93 = .ok (.bipush 24, 2) := by decide +kernel
theorem dX12_init_95 : decode cX12_init 95 = .ok (.newarray .int, 2) := by decide +kernel
theorem dX12_init_97 : decode cX12_init 97 = .ok (.putfield 44, 3) := by decide +kernel
theorem dX12_init_100 : decode cX12_init 100 = .ok (.aload_n 0, 1) := by decide +kernel
theorem dX12_init_101 : decode cX12_init 101 = .ok (.bipush 24, 2) := by decide +kernel
theorem dX12_init_103 : decode cX12_init 103 = .ok (.newarray .int, 2) := by decide +kernel
theorem dX12_init_105 : decode cX12_init 105 = .ok (.putfield 47, 3) := by decide +kernel
theorem dX12_init_108 : decode cX12_init 108 = .ok (.aload_n 0, 1) := by decide +kernel
theorem dX12_init_109 : decode cX12_init 109 = .ok (.bipush 24, 2) := by decide +kernel
theorem dX12_init_111 : decode cX12_init 111 = .ok (.newarray .int, 2) := by decide +kernel
theorem dX12_init_113 : decode cX12_init 113 = .ok (.putfield 50, 3) := by decide +kernel
theorem dX12_init_116 : decode cX12_init 116 = .ok (.aload_n 0, 1) := by decide +kernel
theorem dX12_init_117 : decode cX12_init 117 = .ok (.bipush 24, 2) := by decide +kernel
theorem dX12_init_119 : decode cX12_init 119 = .ok (.newarray .int, 2) := by decide +kernel
theorem dX12_init_121 : decode cX12_init 121 = .ok (.putfield 53, 3) := by decide +kernel
theorem dX12_init_124 : decode cX12_init 124 = .ok (.aload_n 0, 1) := by decide +kernel
theorem dX12_init_125 : decode cX12_init 125 = .ok (.bipush 24, 2) := by decide +kernel
theorem dX12_init_127 : decode cX12_init 127 = .ok (.newarray .int, 2) := by decide +kernel
theorem dX12_init_129 : decode cX12_init 129 = .ok (.putfield 56, 3) := by decide +kernel
theorem dX12_init_132 : decode cX12_init 132 = .ok (.aload_n 0, 1) := by decide +kernel
theorem dX12_init_133 : decode cX12_init 133 = .ok (.bipush 24, 2) := by decide +kernel
theorem dX12_init_135 : decode cX12_init 135 = .ok (.newarray .int, 2) := by decide +kernel
theorem dX12_init_137 : decode cX12_init 137 = .ok (.putfield 59, 3) := by decide +kernel
theorem dX12_init_140 : decode cX12_init 140 = .ok (.aload_n 0, 1) := by decide +kernel
theorem dX12_init_141 : decode cX12_init 141 = .ok (.bipush 24, 2) := by decide +kernel
theorem dX12_init_143 : decode cX12_init 143 = .ok (.newarray .int, 2) := by decide +kernel
theorem dX12_init_145 : decode cX12_init 145 = .ok (.putfield 62, 3) := by decide +kernel
theorem dX12_init_148 : decode cX12_init 148 = .ok (.aload_n 0, 1) := by decide +kernel
theorem dX12_init_149 : decode cX12_init 149 = .ok (.bipush 24, 2) := by decide +kernel
theorem dX12_init_151 : decode cX12_init 151 = .ok (.newarray .int, 2) := by decide +kernel
theorem dX12_init_153 : decode cX12_init 153 = .ok (.putfield 65, 3) := by decide +kernel
theorem dX12_init_156 : decode cX12_init 156 = .ok (.aload_n 0, 1) := by decide +kernel
theorem dX12_init_157 : decode cX12_init 157 = .ok (.bipush 8, 2) := by decide +kernel
theorem dX12_init_159 : decode cX12_init 159 = .ok (.newarray .int, 2) := by decide +kernel
theorem dX12_init_161 : decode cX12_init 161 = .ok (.putfield 68, 3) := by decide +kernel
theorem dX12_init_164 : decode cX12_init 164 = .ok (.aload_n 0, 1) := by decide +kernel
theorem dX12_init_165 : decode cX12_init 165 = .ok (.bipush 8, 2) := by decide +kernel
theorem dX12_init_167 : decode cX12_init 167 = .ok (.newarray .int, 2) := by decide +kernel
theorem dX12_init_169 : decode cX12_init 169 = .ok (.putfield 71, 3) := by decide +kernel
theorem dX12_init_172 : decode cX12_init 172 = .ok (.aload_n 0, 1) := by decide +kernel
theorem dX12_init_173 : decode cX12_init 173 = .ok (.bipush 8, 2) := by decide +kernel
theorem dX12_init_175 : decode cX12_init 175 = .ok (.newarray .int, 2) := by decide +kernel
theorem dX12_init_177 : decode cX12_init 177 = .ok (.putfield 74, 3) := by decide +kernel
theorem dX12_init_180 : decode cX12_init 180 = .ok (.aload_n 0, 1) := by decide +kernel
theorem dX12_init_181 : decode cX12_init 181 = .ok (.bipush 40, 2) := by decide +kernel
theorem dX12_init_183 : decode cX12_init 183 = .ok (.newarray .int, 2) := by decide +kernel
theorem dX12_init_185 : decode cX12_init 185 = .ok (.putfield 77, 3) := by decide +kernel
theorem dX12_init_188 : decode cX12_init 188 = .ok (.aload_n 0, 1) := by decide +kernel
theorem dX12_init_189 : decode cX12_init 189 = .ok (.bipush 40, 2) := by decide +kernel
theorem dX12_init_191 : decode cX12_init 191 = .ok (.newarray .int, 2) := by decide +kernel
theorem dX12_init_193 : decode cX12_init 193 = .ok (.putfield 80, 3) := by decide +kernel
theorem dX12_init_196 : decode cX12_init 196 = .ok (.aload_n 0, 1) := by decide +kernel
theorem dX12_init_197 : decode cX12_init 197 = .ok (.sipush 240, 3) := by decide +kernel
theorem dX12_init_200 : decode cX12_init 200 = .ok (.newarray .int, 2) := by decide +kernel
theorem dX12_init_202 : decode cX12_init 202 = .ok (.putfield 83, 3) := by decide +kernel
theorem dX12_init_205 : decode cX12_init 205 = .ok (.aload_n 0, 1) := by decide +kernel
theorem dX12_init_206 : decode cX12_init 206 = .ok (.sipush 240, 3) := by decide +kernel
theorem dX12_init_209 : decode cX12_init 209 = .ok (.newarray .int, 2) := by decide +kernel
theorem dX12_init_211 : decode cX12_init 211 = .ok (.putfield 86, 3) := by decide +kernel
theorem dX12_init_214 : decode cX12_init 214 = .ok (.aload_n 0, 1) := by decide +kernel
theorem dX12_init_215 : decode cX12_init 215 = .ok (.sipush 2880, 3) := by decide +kernel
theorem dX12_init_218 : decode cX12_init 218 = .ok (.newarray .int, 2) := by decide +kernel
theorem dX12_init_220 : decode cX12_init 220 = .ok (.putfield 89, 3) := by decide +kernel
theorem dX12_init_223 : decode cX12_init 223 = .ok (.aload_n 0, 1) := by decide +kernel
theorem dX12_init_224 : decode cX12_init 224 = .ok (.bipush 12, 2) := by decide +kernel
theorem dX12_init_226 : decode cX12_init 226 = .ok (.newarray .int, 2) := by decide +kernel
theorem dX12_init_228 : decode cX12_init 228 = .ok (.putfield 92, 3) := by decide +kernel
theorem dX12_init_231 : decode cX12_init 231 = .ok (.aload_n 0, 1) := by decide +kernel
theorem dX12_init_232 : decode cX12_init 232 = .ok (.bipush 12, 2) := by decide +kernel
theorem dX12_init_234 : decode cX12_init 234 = .ok (.newarray .int, 2) := by decide +kernel
theorem dX12_init_236 : decode cX12_init 236 = .ok (.putfield 95, 3) := by decide +kernel
theorem dX12_init_239 : decode cX12_init 239 = .ok (.aload_n 0, 1) := by decide +kernel
theorem dX12_init_240 : decode cX12_init 240 = .ok (.bipush 12, 2) := by decide +kernel
theorem dX12_init_242 : decode cX12_init 242 = .ok (.newarray .int, 2) := by decide +kernel
theorem dX12_init_244 : decode cX12_init 244 = .ok (.putfield 98, 3) := by decide +kernel
theorem dX12_init_247 : decode cX12_init 247 = .ok (.aload_n 0, 1) := by decide +kernel
theorem dX12_init_248 : decode cX12_init 248 = .ok (.bipush 12, 2) := by decide +kernel
theorem dX12_init_250 : decode cX12_init 250 = .ok (.newarray .boolean, 2) := by decide +kernel
theorem dX12_init_252 : decode cX12_init 252 = .ok (.putfield 101, 3) := by decide +kernel
theorem dX12_init_255 : decode cX12_init 255 = .ok (.aload_n 0, 1) := by decide +kernel
theorem dX12_init_256 : decode cX12_init 256 = .ok (.bipush 12, 2) := by decide +kernel
theorem dX12_init_258 : decode cX12_init 258 = .ok (.newarray .int, 2) := by decide +kernel
theorem dX12_init_260 : decode cX12_init 260 = .ok (.putfield 104, 3) := by decide +kernel
theorem dX12_init_263 : decode cX12_init 263 = .ok (.aload_n 0, 1) := by decide +kernel
theorem dX12_init_264 : decode cX12_init 264 = .ok (.bipush 12, 2) := by decide +kernel
theorem dX12_init_266 : decode cX12_init 266 = .ok (.newarray .int, 2) := by decide +kernel
theorem dX12_init_268 : decode cX12_init 268 = .ok (.putfield 107, 3) := by decide +kernel
theorem dX12_init_271 : decode cX12_init 271 = .ok (.aload_n 0, 1) := by decide +kernel
theorem dX12_init_272 : decode cX12_init 272 = .ok (.bipush 12, 2) := by decide +kernel
theorem dX12_init_274 : decode cX12_init 274 = .ok (.newarray .int, 2) := by decide +kernel
theorem dX12_init_276 : decode cX12_init 276 = .ok (.putfield 110, 3) := by decide +kernel
theorem dX12_init_279 : decode cX12_init 279 = .ok (.aload_n 0, 1) := by decide +kernel
theorem dX12_init_280 : decode cX12_init 280 = .ok (.bipush 12, 2) := by decide +kernel
theorem dX12_init_282 : decode cX12_init 282 = .ok (.newarray .int, 2) := by decide +kernel
theorem dX12_init_284 : decode cX12_init 284 = .ok (.putfield 113, 3) := by decide +kernel
theorem dX12_init_287 : decode cX12_init 287 = .ok (.aload_n 0, 1) := by decide +kernel
theorem dX12_init_288 : decode cX12_init 288 = .ok (.bipush 12, 2) := by decide +kernel
theorem dX12_init_290 : decode cX12_init 290 = .ok (.newarray .int, 2) := by decide +kernel
theorem dX12_init_292 : decode cX12_init 292 = .ok (.putfield 116, 3) := by decide +kernel
theorem dX12_init_295 : decode cX12_init 295 = .ok (.aload_n 0, 1) := by decide +kernel
theorem dX12_init_296 : decode cX12_init 296 = .ok (.bipush 6, 2) := by decide +kernel
theorem dX12_init_298 : decode cX12_init 298 = .ok (.newarray .int, 2) := by decide +kernel
theorem dX12_init_300 : decode cX12_init 300 = .ok (.putfield 119, 3) := by decide +kernel
theorem dX12_init_303 : decode cX12_init 303 = .ok (.aload_n 0, 1) := by decide +kernel
theorem dX12_init_304 : decode cX12_init 304 = .ok (.bipush 6, 2) := by decide +kernel
theorem dX12_init_306 : decode cX12_init 306 = .ok (.newarray .int, 2) := by decide +kernel
theorem dX12_init_308 : decode cX12_init 308 = .ok (.putfield 122, 3) := by decide +kernel
theorem dX12_init_311 : decode cX12_init 311 = .ok (.aload_n 0, 1) := by decide +kernel
theorem dX12_init_312 : decode cX12_init 312 = .ok (.bipush 6, 2) := by decide +kernel
theorem dX12_init_314 : decode cX12_init 314 = .ok (.newarray .int, 2) := by decide +kernel
theorem dX12_init_316 : decode cX12_init 316 = .ok (.putfield 125, 3) := by decide +kernel
theorem dX12_init_319 : decode cX12_init 319 = .ok (.aload_n 0, 1) := by decide +kernel
theorem dX12_init_320 : decode cX12_init 320 = .ok (.bipush 6, 2) := by decide +kernel
theorem dX12_init_322 : decode cX12_init 322 = .ok (.newarray .boolean, 2) := by decide +kernel
theorem dX12_init_324 : decode cX12_init 324 = .ok (.putfield 128, 3) := by decide +kernel
theorem dX12_init_327 : decode cX12_init 327 = .ok (.aload_n 0, 1) := by decide +kernel
theorem dX12_init_328 : decode cX12_init 328 = .ok (.bipush 6, 2) := by decide +kernel
theorem dX12_init_330 : decode cX12_init 330 = .ok (.newarray .int, 2) := by decide +kernel
theorem dX12_init_332 : decode cX12_init 332 = .ok (.putfield 131, 3) := by decide +kernel
theorem dX12_init_335 : decode cX12_init 335 = .ok (.aload_n 0, 1) := by decide +kernel
theorem dX12_init_336 : decode cX12_init 336 = .ok (.bipush 6, 2) := by decide +kernel
theorem dX12_init_338 : decode cX12_init 338 = .ok (.newarray .int, 2) := by decide +kernel
theorem dX12_init_340 : decode cX12_init 340 = .ok (.putfield 134, 3) := by decide +kernel
theorem dX12_init_343 : decode cX12_init 343 = .ok (.aload_n 0, 1) := by decide +kernel
theorem dX12_init_344 : decode cX12_init 344 = .ok (.bipush 6, 2) := by decide +kernel
theorem dX12_init_346 : decode cX12_init 346 = .ok (.newarray .int, 2) := by decide +kernel
theorem dX12_init_348 : decode cX12_init 348 = .ok (.putfield 137, 3) := by decide +kernel
theorem dX12_init_351 : decode cX12_init 351 = .ok (.aload_n 0, 1) := by decide +kernel
theorem dX12_init_352 : decode cX12_init 352 = .ok (.sipush 256, 3) := by decide +kernel
theorem dX12_init_355 : decode cX12_init 355 = .ok (.newarray .int, 2) := by decide +kernel
theorem dX12_init_357 : decode cX12_init 357 = .ok (.putfield 140, 3) := by decide +kernel
theorem dX12_init_360 : decode cX12_init 360 = .ok (.aload_n 0, 1) := by decide +kernel
theorem dX12_init_361 : decode cX12_init 361 = .ok (.sipush 256, 3) := by decide +kernel
theorem dX12_init_364 : decode cX12_init 364 = .ok (.newarray .int, 2) := by decide +kernel
theorem dX12_init_366 : decode cX12_init 366 = .ok (.putfield 143, 3) := by decide +kernel
theorem dX12_init_369 : decode cX12_init 369 = .ok (.aload_n 0, 1) := by decide +kernel
theorem dX12_init_370 : decode cX12_init 370 = .ok (.sipush 256, 3) := by decide +kernel
theorem dX12_init_373 : decode cX12_init 373 = .ok (.newarray .boolean, 2) := by decide +kernel
theorem dX12_init_375 : decode cX12_init 375 = .ok (.putfield 146, 3) := by decide +kernel
theorem dX12_init_378 : decode cX12_init 378 = .ok (.aload_n 0, 1) := by decide +kernel
theorem dX12_init_379 : decode cX12_init 379 = .ok (.sipush 256, 3) := by decide +kernel
theorem dX12_init_382 : decode cX12_init 382 = .ok (.newarray .int, 2) := by decide +kernel
theorem dX12_init_384 : decode cX12_init 384 = .ok (.putfield 149, 3) := by decide +kernel
theorem dX12_init_387 : decode cX12_init 387 = .ok (.aload_n 0, 1) := by decide +kernel
theorem dX12_init_388 : decode cX12_init 388 = .ok (.sipush 256, 3) := by decide +kernel
theorem dX12_init_391 : decode cX12_init 391 = .ok (.newarray .int, 2) := by decide +kernel
theorem dX12_init_393 : decode cX12_init 393 = .ok (.putfield 152, 3) := by decide +kernel
theorem dX12_init_396 : decode cX12_init 396 = .ok (.aload_n 0, 1) := by decide +kernel
theorem dX12_init_397 : decode cX12_init 397 = .ok (.sipush 256, 3) := by decide +kernel
theorem dX12_init_400 : decode cX12_init 400 = .ok (.newarray .int, 2) := by decide +kernel
theorem dX12_init_402 : decode cX12_init 402 = .ok (.putfield 155, 3) := by decide +kernel
theorem dX12_init_405 : decode cX12_init 405 = .ok (.aload_n 0, 1) := by decide +kernel
theorem dX12_init_406 : decode cX12_init 406 = .ok (.bipush 8, 2) := by decide +kernel
theorem dX12_init_408 : decode cX12_init 408 = .ok (.newarray .int, 2) := by decide +kernel
theorem dX12_init_410 : decode cX12_init 410 = .ok (.putfield 158, 3) := by decide +kernel
theorem dX12_init_413 : decode cX12_init 413 = .ok (.return_, 1) := by decide +kernel
theorem dX12_thrown_0 : decode cX12_thrown 0 = .ok (.aload_n 0, 1) := by decide +kernel
theorem dX12_thrown_1 : decode cX12_thrown 1 = .ok (.getfield 161, 3) := by decide +kernel
theorem dX12_thrown_4 : decode cX12_thrown 4 = .ok (.ireturn, 1) := by decide +kernel
theorem dX12_fails_0 : decode cX12_fails 0 = .ok (.aload_n 0, 1) := by decide +kernel
theorem dX12_fails_1 : decode cX12_fails 1 = .ok (.iload_n 1, 1) := by decide +kernel
theorem dX12_fails_2 : decode cX12_fails 2 = .ok (.putfield 161, 3) := by decide +kernel
theorem dX12_fails_5 : decode cX12_fails 5 = .ok (.iload_n 1, 1) := by decide +kernel
theorem dX12_fails_6 : decode cX12_fails 6 = .ok (.ifCond .le 7, 3) := by decide +kernel
theorem dX12_fails_9 : decode cX12_fails 9 = .ok (.iconst 1, 1) := by decide +kernel
theorem dX12_fails_10 : decode cX12_fails 10 = .ok (.goto 4, 3) := by decide +kernel
theorem dX12_fails_13 : decode cX12_fails 13 = .ok (.iconst 0, 1) := by decide +kernel
theorem dX12_fails_14 : decode cX12_fails 14 = .ok (.ireturn, 1) := by decide +kernel
theorem dX12_lies_0 : decode cX12_lies 0 = .ok (.iload_n 0, 1) := by decide +kernel
theorem dX12_lies_1 : decode cX12_lies 1 = .ok (.iload_n 1, 1) := by decide +kernel
theorem dX12_lies_2 : decode cX12_lies 2 = .ok (.if_icmp .lt 12, 3) := by decide +kernel
theorem dX12_lies_5 : decode cX12_lies 5 = .ok (.iload_n 0, 1) := by decide +kernel
theorem dX12_lies_6 : decode cX12_lies 6 = .ok (.iload_n 2, 1) := by decide +kernel
theorem dX12_lies_7 : decode cX12_lies 7 = .ok (.if_icmp .gt 7, 3) := by decide +kernel
theorem dX12_lies_10 : decode cX12_lies 10 = .ok (.iconst 1, 1) := by decide +kernel
theorem dX12_lies_11 : decode cX12_lies 11 = .ok (.goto 4, 3) := by decide +kernel
theorem dX12_lies_14 : decode cX12_lies 14 = .ok (.iconst 0, 1) := by decide +kernel
theorem dX12_lies_15 : decode cX12_lies 15 = .ok (.ireturn, 1) := by decide +kernel
theorem dX12_isHost_0 : decode cX12_isHost 0 = .ok (.iload_n 1, 1) := by decide +kernel
theorem dX12_isHost_1 : decode cX12_isHost 1 = .ok (.iconst 0, 1) := by decide +kernel
theorem dX12_isHost_2 : decode cX12_isHost 2 = .ok (.aload_n 0, 1) := by decide +kernel
theorem dX12_isHost_3 : decode cX12_isHost 3 = .ok (.getfield 165, 3) := by decide +kernel
theorem dX12_isHost_6 : decode cX12_isHost 6 = .ok (.iconst 1, 1) := by decide +kernel
theorem dX12_isHost_7 : decode cX12_isHost 7 = .ok (.isub, 1) := by decide +kernel
theorem dX12_isHost_8 : decode cX12_isHost 8 = .ok (.invokestatic 168, 3) := by decide +kernel
theorem dX12_isHost_11 : decode cX12_isHost 11 = .ok (.ireturn, 1) := by decide +kernel
theorem dX12_isAddress_0 : decode cX12_isAddress 0 = .ok (.iload_n 1, 1) := by decide +kernel
