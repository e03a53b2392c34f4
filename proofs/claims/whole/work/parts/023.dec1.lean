-- decode rows, cut out of the printed text of the task
theorem dX12_isAddress_1 : decode cX12_isAddress 1 = .ok (.iconst 0, 1) := by decide +kernel
theorem dX12_isAddress_2 : decode cX12_isAddress 2 = .ok (.aload_n 0, 1) := by decide +kernel
theorem dX12_isAddress_3 : decode cX12_isAddress 3 = .ok (.getfield 172, 3) := by decide +kernel
theorem dX12_isAddress_6 : decode cX12_isAddress 6 = .ok (.iconst 1, 1) := by decide +kernel
theorem dX12_isAddress_7 : decode cX12_isAddress 7 = .ok (.isub, 1) := by decide +kernel
theorem dX12_isAddress_8 : decode cX12_isAddress 8 = .ok (.invokestatic 168, 3) := by decide +kernel
theorem dX12_isAddress_11 : decode cX12_isAddress 11 = .ok (.ireturn, 1) := by decide +kernel
theorem dX12_depth_0 : decode cX12_depth 0 = .ok (.iconst 0, 1) := by decide +kernel
theorem dX12_depth_1 : decode cX12_depth 1 = .ok (.istore_n 2, 1) := by decide +kernel
theorem dX12_depth_2 : decode cX12_depth 2 = .ok (.iload_n 1, 1) := by decide +kernel
theorem dX12_depth_3 : decode cX12_depth 3 = .ok (.istore_n 3, 1) := by decide +kernel
theorem dX12_depth_4 : decode cX12_depth 4 = .ok (.iload_n 3, 1) := by decide +kernel
theorem dX12_depth_5 : decode cX12_depth 5 = .ok (.iconst (-1), 1) := by decide +kernel
theorem dX12_depth_6 : decode cX12_depth 6 = .ok (.if_icmp .eq 16, 3) := by decide +kernel
theorem dX12_depth_9 : decode cX12_depth 9 = .ok (.iinc 2 1, 3) := by decide +kernel
theorem dX12_depth_12 : decode cX12_depth 12 = .ok (.aload_n 0, 1) := by decide +kernel
theorem dX12_depth_13 : decode cX12_depth 13 = .ok (.getfield 7, 3) := by decide +kernel
theorem dX12_depth_16 : decode cX12_depth 16 = .ok (.iload_n 3, 1) := by decide +kernel
theorem dX12_depth_17 : decode cX12_depth 17 = .ok (.iaload, 1) := by decide +kernel
theorem dX12_depth_18 : decode cX12_depth 18 = .ok (.istore_n 3, 1) := by decide +kernel
theorem dX12_depth_19 : decode cX12_depth 19 = .ok (.goto (-15), 3) := by decide +kernel
theorem dX12_depth_22 : decode cX12_depth 22 = .ok (.iload_n 2, 1) := by decide +kernel
theorem dX12_depth_23 : decode cX12_depth 23 = .ok (.ireturn, 1) := by decide +kernel
theorem dX12_hostOf_0 : decode cX12_hostOf 0 = .ok (.iconst (-1), 1) := by decide +kernel
theorem dX12_hostOf_1 : decode cX12_hostOf 1 = .ok (.istore_n 3, 1) := by decide +kernel
theorem dX12_hostOf_2 : decode cX12_hostOf 2 = .ok (.iconst 0, 1) := by decide +kernel
theorem dX12_hostOf_3 : decode cX12_hostOf 3 = .ok (.istore 4, 2) := by decide +kernel
theorem dX12_hostOf_5 : decode cX12_hostOf 5 = .ok (.iload 4, 2) := by decide +kernel
theorem dX12_hostOf_7 : decode cX12_hostOf 7 = .ok (.aload_n 0, 1) := by decide +kernel
theorem dX12_hostOf_8 : decode cX12_hostOf 8 = .ok (.getfield 165, 3) := by decide +kernel
theorem dX12_hostOf_11 : decode cX12_hostOf 11 = .ok (.if_icmp .ge 38, 3) := by decide +kernel
theorem dX12_hostOf_14 : decode cX12_hostOf 14 = .ok (.aload_n 0, 1) := by decide +kernel
theorem dX12_hostOf_15 : decode cX12_hostOf 15 = .ok (.getfield 7, 3) := by decide +kernel
theorem dX12_hostOf_18 : decode cX12_hostOf 18 = .ok (.iload 4, 2) := by decide +kernel
theorem dX12_hostOf_20 : decode cX12_hostOf 20 = .ok (.iaload, 1) := by decide +kernel
theorem dX12_hostOf_21 : decode cX12_hostOf 21 = .ok (.iload_n 1, 1) := by decide +kernel
theorem dX12_hostOf_22 : decode cX12_hostOf 22 = .ok (.if_icmp .ne 19, 3) := by decide +kernel
theorem dX12_hostOf_25 : decode cX12_hostOf 25 = .ok (.aload_n 0, 1) := by decide +kernel
theorem dX12_hostOf_26 : decode cX12_hostOf 26 = .ok (.getfield 13, 3) := by decide +kernel
theorem dX12_hostOf_29 : decode cX12_hostOf 29 = .ok (.iload 4, 2) := by decide +kernel
theorem dX12_hostOf_31 : decode cX12_hostOf 31 = .ok (.iaload, 1) := by decide +kernel
theorem dX12_hostOf_32 : decode cX12_hostOf 32 = .ok (.iload_n 2, 1) := by decide +kernel
theorem dX12_hostOf_33 : decode cX12_hostOf 33 = .ok (.if_icmp .ne 8, 3) := by decide +kernel
theorem dX12_hostOf_36 : decode cX12_hostOf 36 = .ok (.iload 4, 2) := by decide +kernel
theorem dX12_hostOf_38 : decode cX12_hostOf 38 = .ok (.goto 4, 3) := by decide +kernel
theorem dX12_hostOf_41 : decode cX12_hostOf 41 = .ok (.iload_n 3, 1) := by decide +kernel
theorem dX12_hostOf_42 : decode cX12_hostOf 42 = .ok (.istore_n 3, 1) := by decide +kernel
theorem dX12_hostOf_43 : decode cX12_hostOf 43 = .ok (.iinc 4 1, 3) := by decide +kernel
theorem dX12_hostOf_46 : decode cX12_hostOf 46 = .ok (.goto (-41), 3) := by decide +kernel
theorem dX12_hostOf_49 : decode cX12_hostOf 49 = .ok (.iload_n 3, 1) := by decide +kernel
theorem dX12_hostOf_50 : decode cX12_hostOf 50 = .ok (.ireturn, 1) := by decide +kernel
theorem dX12_host_0 : decode cX12_host 0 = .ok (.iload_n 1, 1) := by decide +kernel
theorem dX12_host_1 : decode cX12_host 1 = .ok (.iconst (-1), 1) := by decide +kernel
theorem dX12_host_2 : decode cX12_host 2 = .ok (.if_icmp .eq 11, 3) := by decide +kernel
theorem dX12_host_5 : decode cX12_host 5 = .ok (.aload_n 0, 1) := by decide +kernel
theorem dX12_host_6 : decode cX12_host 6 = .ok (.iload_n 1, 1) := by decide +kernel
theorem dX12_host_7 : decode cX12_host 7 = .ok (.invokevirtual 175, 3) := by decide +kernel
theorem dX12_host_10 : decode cX12_host 10 = .ok (.ifCond .eq 7, 3) := by decide +kernel
theorem dX12_host_13 : decode cX12_host 13 = .ok (.iconst 1, 1) := by decide +kernel
theorem dX12_host_14 : decode cX12_host 14 = .ok (.goto 4, 3) := by decide +kernel
theorem dX12_host_17 : decode cX12_host 17 = .ok (.iconst 0, 1) := by decide +kernel
theorem dX12_host_18 : decode cX12_host 18 = .ok (.istore 4, 2) := by decide +kernel
theorem dX12_host_20 : decode cX12_host 20 = .ok (.iload_n 2, 1) := by decide +kernel
theorem dX12_host_21 : decode cX12_host 21 = .ok (.iconst 0, 1) := by decide +kernel
theorem dX12_host_22 : decode cX12_host 22 = .ok (.sipush 701, 3) := by decide +kernel
theorem dX12_host_25 : decode cX12_host 25 = .ok (.invokestatic 168, 3) := by decide +kernel
theorem dX12_host_28 : decode cX12_host 28 = .ok (.istore 5, 2) := by decide +kernel
theorem dX12_host_30 : decode cX12_host 30 = .ok (.iload 4, 2) := by decide +kernel
theorem dX12_host_32 : decode cX12_host 32 = .ok (.ifCond .eq 17, 3) := by decide +kernel
theorem dX12_host_35 : decode cX12_host 35 = .ok (.iload 5, 2) := by decide +kernel
theorem dX12_host_37 : decode cX12_host 37 = .ok (.ifCond .eq 12, 3) := by decide +kernel
theorem dX12_host_40 : decode cX12_host 40 = .ok (.aload_n 0, 1) := by decide +kernel
theorem dX12_host_41 : decode cX12_host 41 = .ok (.iload_n 1, 1) := by decide +kernel
theorem dX12_host_42 : decode cX12_host 42 = .ok (.iload_n 2, 1) := by decide +kernel
theorem dX12_host_43 : decode cX12_host 43 = .ok (.invokevirtual 179, 3) := by decide +kernel
theorem dX12_host_46 : decode cX12_host 46 = .ok (.goto 4, 3) := by decide +kernel
theorem dX12_host_49 : decode cX12_host 49 = .ok (.iconst (-1), 1) := by decide +kernel
theorem dX12_host_50 : decode cX12_host 50 = .ok (.istore 6, 2) := by decide +kernel
theorem dX12_host_52 : decode cX12_host 52 = .ok (.aload_n 0, 1) := by decide +kernel
theorem dX12_host_53 : decode cX12_host 53 = .ok (.iload 4, 2) := by decide +kernel
theorem dX12_host_55 : decode cX12_host 55 = .ok (.ifCond .ne 7, 3) := by decide +kernel
theorem dX12_host_58 : decode cX12_host 58 = .ok (.iconst 1, 1) := by decide +kernel
theorem dX12_host_59 : decode cX12_host 59 = .ok (.goto 41, 3) := by decide +kernel
theorem dX12_host_62 : decode cX12_host 62 = .ok (.iload 5, 2) := by decide +kernel
theorem dX12_host_64 : decode cX12_host 64 = .ok (.ifCond .ne 7, 3) := by decide +kernel
theorem dX12_host_67 : decode cX12_host 67 = .ok (.iconst 2, 1) := by decide +kernel
theorem dX12_host_68 : decode cX12_host 68 = .ok (.goto 32, 3) := by decide +kernel
theorem dX12_host_71 : decode cX12_host 71 = .ok (.iload 6, 2) := by decide +kernel
theorem dX12_host_73 : decode cX12_host 73 = .ok (.iconst (-1), 1) := by decide +kernel
theorem dX12_host_74 : decode cX12_host 74 = .ok (.if_icmp .ne 25, 3) := by decide +kernel
theorem dX12_host_77 : decode cX12_host 77 = .ok (.aload_n 0, 1) := by decide +kernel
theorem dX12_host_78 : decode cX12_host 78 = .ok (.getfield 165, 3) := by decide +kernel
theorem dX12_host_81 : decode cX12_host 81 = .ok (.bipush 16, 2) := by decide +kernel
theorem dX12_host_83 : decode cX12_host 83 = .ok (.if_icmp .eq 12, 3) := by decide +kernel
theorem dX12_host_86 : decode cX12_host 86 = .ok (.aload_n 0, 1) := by decide +kernel
theorem dX12_host_87 : decode cX12_host 87 = .ok (.iload_n 1, 1) := by decide +kernel
theorem dX12_host_88 : decode cX12_host 88 = .ok (.invokevirtual 183, 3) := by decide +kernel
theorem dX12_host_91 : decode cX12_host 91 = .ok (.iconst 3, 1) := by decide +kernel
theorem dX12_host_92 : decode cX12_host 92 = .ok (.if_icmp .le 7, 3) := by decide +kernel
theorem dX12_host_95 : decode cX12_host 95 = .ok (.iconst 3, 1) := by decide +kernel
theorem dX12_host_96 : decode cX12_host 96 = .ok (.goto 4, 3) := by decide +kernel
theorem dX12_host_99 : decode cX12_host 99 = .ok (.iconst 0, 1) := by decide +kernel
theorem dX12_host_100 : decode cX12_host 100 = .ok (.invokevirtual 187, 3) := by decide +kernel
theorem dX12_host_103 : decode cX12_host 103 = .ok (.ifCond .eq 5, 3) := by decide +kernel
theorem dX12_host_106 : decode cX12_host 106 = .ok (.iconst 0, 1) := by decide +kernel
theorem dX12_host_107 : decode cX12_host 107 = .ok (.ireturn, 1) := by decide +kernel
theorem dX12_host_108 : decode cX12_host 108 = .ok (.iload 6, 2) := by decide +kernel
theorem dX12_host_110 : decode cX12_host 110 = .ok (.iconst (-1), 1) := by decide +kernel
theorem dX12_host_111 : decode cX12_host 111 = .ok (.if_icmp .ne 39, 3) := by decide +kernel
theorem dX12_host_114 : decode cX12_host 114 = .ok (.aload_n 0, 1) := by decide +kernel
theorem dX12_host_115 : decode cX12_host 115 = .ok (.getfield 165, 3) := by decide +kernel
theorem dX12_host_118 : decode cX12_host 118 = .ok (.istore 6, 2) := by decide +kernel
theorem dX12_host_120 : decode cX12_host 120 = .ok (.aload_n 0, 1) := by decide +kernel
theorem dX12_host_121 : decode cX12_host 121 = .ok (.getfield 7, 3) := by decide +kernel
theorem dX12_host_124 : decode cX12_host 124 = .ok (.aload_n 0, 1) := by decide +kernel
theorem dX12_host_125 : decode cX12_host 125 = .ok (.getfield 165, 3) := by decide +kernel
theorem dX12_host_128 : decode cX12_host 128 = .ok (.iload_n 1, 1) := by decide +kernel
theorem dX12_host_129 : decode cX12_host 129 = .ok (.iastore, 1) := by decide +kernel
theorem dX12_host_130 : decode cX12_host 130 = .ok (.aload_n 0, 1) := by decide +kernel
theorem dX12_host_131 : decode cX12_host 131 = .ok (.getfield 13, 3) := by decide +kernel
theorem dX12_host_134 : decode cX12_host 134 = .ok (.aload_n 0, 1) := by decide +kernel
theorem dX12_host_135 : decode cX12_host 135 = .ok (.getfield 165, 3) := by decide +kernel
theorem dX12_host_138 : decode cX12_host 138 = .ok (.iload_n 2, 1) := by decide +kernel
theorem dX12_host_139 : decode cX12_host 139 = .ok (.iastore, 1) := by decide +kernel
theorem dX12_host_140 : decode cX12_host 140 = .ok (.aload_n 0, 1) := by decide +kernel
theorem dX12_host_141 : decode cX12_host 141 = .ok (.dup, 1) := by decide +kernel
theorem dX12_host_142 : decode cX12_host 142 = .ok (.getfield 165, 3) := by decide +kernel
theorem dX12_host_145 : decode cX12_host 145 = .ok (.iconst 1, 1) := by decide +kernel
theorem dX12_host_146 : decode cX12_host 146 = .ok (.iadd, 1) := by decide +kernel
theorem dX12_host_147 : decode cX12_host 147 = .ok (.putfield 165, 3) := by decide +kernel
theorem dX12_host_150 : decode cX12_host 150 = .ok (.iload 6, 2) := by decide +kernel
theorem dX12_host_152 : decode cX12_host 152 = .ok (.ireturn, 1) := by decide +kernel
theorem dX12_toggleSuffix_0 : decode cX12_toggleSuffix 0 = .ok (.aload_n 0, 1) := by decide +kernel
theorem dX12_toggleSuffix_1 : decode cX12_toggleSuffix 1 = .ok (.aload_n 0, 1) := by decide +kernel
theorem dX12_toggleSuffix_2 : decode cX12_toggleSuffix 2 = .ok (.iload_n 1, 1) := by decide +kernel
theorem dX12_toggleSuffix_3 : decode cX12_toggleSuffix 3 = .ok (.invokevirtual 175, 3) := by decide +kernel
theorem dX12_toggleSuffix_6 : decode cX12_toggleSuffix 6 = .ok (.ifCond .eq 7, 3) := by decide +kernel
theorem dX12_toggleSuffix_9 : decode cX12_toggleSuffix 9 = .ok (.iconst 0, 1) := by decide +kernel
theorem dX12_toggleSuffix_10 : decode cX12_toggleSuffix 10 = .ok (.goto 4, 3) := by decide +kernel
theorem dX12_toggleSuffix_13 : decode cX12_toggleSuffix 13 = .ok (.iconst 1, 1) := by decide +kernel
theorem dX12_toggleSuffix_14 : decode cX12_toggleSuffix 14 = .ok (.invokevirtual 187, 3) := by decide +kernel
theorem dX12_toggleSuffix_17 : decode cX12_toggleSuffix 17 = .ok (.ifCond .eq 5, 3) := by decide +kernel
theorem dX12_toggleSuffix_20 : decode cX12_toggleSuffix 20 = .ok (.iconst 0, 1) := by decide +kernel
theorem dX12_toggleSuffix_21 : decode cX12_toggleSuffix 21 = .ok (.ireturn, 1) := by decide +kernel
theorem dX12_toggleSuffix_22 : decode cX12_toggleSuffix 22 = .ok (.aload_n 0, 1) := by decide +kernel
theorem dX12_toggleSuffix_23 : decode cX12_toggleSuffix 23 = .ok (.getfield 16, 3) := by decide +kernel
theorem dX12_toggleSuffix_26 : decode cX12_toggleSuffix 26 = .ok (.iload_n 1, 1) := by decide +kernel
theorem dX12_toggleSuffix_27 : decode cX12_toggleSuffix 27 = .ok (.aload_n 0, 1) := by decide +kernel
theorem dX12_toggleSuffix_28 : decode cX12_toggleSuffix 28 = .ok (.getfield 16, 3) := by decide +kernel
theorem dX12_toggleSuffix_31 : decode cX12_toggleSuffix 31 = .ok (.iload_n 1, 1) := by decide +kernel
theorem dX12_toggleSuffix_32 : decode cX12_toggleSuffix 32 = .ok (.baload, 1) := by decide +kernel
theorem dX12_toggleSuffix_33 : decode cX12_toggleSuffix 33 = .ok (.ifCond .ne 7, 3) := by decide +kernel
theorem dX12_toggleSuffix_36 : decode cX12_toggleSuffix 36 = .ok (.iconst 1, 1) := by decide +kernel
theorem dX12_toggleSuffix_37 : decode cX12_toggleSuffix 37 = .ok (.goto 4, 3) := by decide +kernel
theorem dX12_toggleSuffix_40 : decode cX12_toggleSuffix 40 = .ok (.iconst 0, 1) := by decide +kernel
theorem dX12_toggleSuffix_41 : decode cX12_toggleSuffix 41 = .ok (.bastore, 1) := by decide +kernel
theorem dX12_toggleSuffix_42 : decode cX12_toggleSuffix 42 = .ok (.aload_n 0, 1) := by decide +kernel
theorem dX12_toggleSuffix_43 : decode cX12_toggleSuffix 43 = .ok (.getfield 16, 3) := by decide +kernel
theorem dX12_toggleSuffix_46 : decode cX12_toggleSuffix 46 = .ok (.iload_n 1, 1) := by decide +kernel
theorem dX12_toggleSuffix_47 : decode cX12_toggleSuffix 47 = .ok (.baload, 1) := by decide +kernel
theorem dX12_toggleSuffix_48 : decode cX12_toggleSuffix 48 = .ok (.ireturn, 1) := by decide +kernel
theorem dX12_siteOf_0 : decode cX12_siteOf 0 = .ok (.aload_n 0, 1) := by decide +kernel
theorem dX12_siteOf_1 : decode cX12_siteOf 1 = .ok (.getfield 16, 3) := by decide +kernel
theorem dX12_siteOf_4 : decode cX12_siteOf 4 = .ok (.iload_n 1, 1) := by decide +kernel
theorem dX12_siteOf_5 : decode cX12_siteOf 5 = .ok (.baload, 1) := by decide +kernel
theorem dX12_siteOf_6 : decode cX12_siteOf 6 = .ok (.ifCond .eq 5, 3) := by decide +kernel
theorem dX12_siteOf_9 : decode cX12_siteOf 9 = .ok (.iload_n 1, 1) := by decide +kernel
theorem dX12_siteOf_10 : decode cX12_siteOf 10 = .ok (.ireturn, 1) := by decide +kernel
theorem dX12_siteOf_11 : decode cX12_siteOf 11 = .ok (.iload_n 1, 1) := by decide +kernel
theorem dX12_siteOf_12 : decode cX12_siteOf 12 = .ok (.istore_n 2, 1) := by decide +kernel
theorem dX12_siteOf_13 : decode cX12_siteOf 13 = .ok (.aload_n 0, 1) := by decide +kernel
theorem dX12_siteOf_14 : decode cX12_siteOf 14 = .ok (.getfield 7, 3) := by decide +kernel
theorem dX12_siteOf_17 : decode cX12_siteOf 17 = .ok (.iload_n 2, 1) := by decide +kernel
theorem dX12_siteOf_18 : decode cX12_siteOf 18 = .ok (.iaload, 1) := by decide +kernel
theorem dX12_siteOf_19 : decode cX12_siteOf 19 = .ok (.iconst (-1), 1) := by decide +kernel
theorem dX12_siteOf_20 : decode cX12_siteOf 20 = .ok (.if_icmp .eq 27, 3) := by decide +kernel
theorem dX12_siteOf_23 : decode cX12_siteOf 23 = .ok (.aload_n 0, 1) := by decide +kernel
theorem dX12_siteOf_24 : decode cX12_siteOf 24 = .ok (.getfield 16, 3) := by decide +kernel
theorem dX12_siteOf_27 : decode cX12_siteOf 27 = .ok (.aload_n 0, 1) := by decide +kernel
theorem dX12_siteOf_28 : decode cX12_siteOf 28 = .ok (.getfield 7, 3) := by decide +kernel
theorem dX12_siteOf_31 : decode cX12_siteOf 31 = .ok (.iload_n 2, 1) := by decide +kernel
theorem dX12_siteOf_32 : decode cX12_siteOf 32 = .ok (.iaload, 1) := by decide +kernel
theorem dX12_siteOf_33 : decode cX12_siteOf 33 = .ok (.baload, 1) := by decide +kernel
theorem dX12_siteOf_34 : decode cX12_siteOf 34 = .ok (.ifCond .ne 13, 3) := by decide +kernel
theorem dX12_siteOf_37 : decode cX12_siteOf 37 = .ok (.aload_n 0, 1) := by decide +kernel
theorem dX12_siteOf_38 : decode cX12_siteOf 38 = .ok (.getfield 7, 3) := by decide +kernel
theorem dX12_siteOf_41 : decode cX12_siteOf 41 = .ok (.iload_n 2, 1) := by decide +kernel
theorem dX12_siteOf_42 : decode cX12_siteOf 42 = .ok (.iaload, 1) := by decide +kernel
theorem dX12_siteOf_43 : decode cX12_siteOf 43 = .ok (.istore_n 2, 1) := by decide +kernel
theorem dX12_siteOf_44 : decode cX12_siteOf 44 = .ok (.goto (-31), 3) := by decide +kernel
theorem dX12_siteOf_47 : decode cX12_siteOf 47 = .ok (.iload_n 2, 1) := by decide +kernel
theorem dX12_siteOf_48 : decode cX12_siteOf 48 = .ok (.ireturn, 1) := by decide +kernel
theorem dX12_site_0 : decode cX12_site 0 = .ok (.aload_n 0, 1) := by decide +kernel
theorem dX12_site_1 : decode cX12_site 1 = .ok (.aload_n 0, 1) := by decide +kernel
theorem dX12_site_2 : decode cX12_site 2 = .ok (.iload_n 1, 1) := by decide +kernel
theorem dX12_site_3 : decode cX12_site 3 = .ok (.invokevirtual 175, 3) := by decide +kernel
theorem dX12_site_6 : decode cX12_site 6 = .ok (.ifCond .eq 7, 3) := by decide +kernel
theorem dX12_site_9 : decode cX12_site 9 = .ok (.iconst 0, 1) := by decide +kernel
theorem dX12_site_10 : decode cX12_site 10 = .ok (.goto 4, 3) := by decide +kernel
theorem dX12_site_13 : decode cX12_site 13 = .ok (.iconst 1, 1) := by decide +kernel
theorem dX12_site_14 : decode cX12_site 14 = .ok (.invokevirtual 187, 3) := by decide +kernel
theorem dX12_site_17 : decode cX12_site 17 = .ok (.ifCond .eq 7, 3) := by decide +kernel
theorem dX12_site_20 : decode cX12_site 20 = .ok (.iconst 0, 1) := by decide +kernel
theorem dX12_site_21 : decode cX12_site 21 = .ok (.goto 8, 3) := by decide +kernel
theorem dX12_site_24 : decode cX12_site 24 = .ok (.aload_n 0, 1) := by decide +kernel
theorem dX12_site_25 : decode cX12_site 25 = .ok (.iload_n 1, 1) := by decide +kernel
theorem dX12_site_26 : decode cX12_site 26 = .ok (.invokevirtual 190, 3) := by decide +kernel
theorem dX12_site_29 : decode cX12_site 29 = .ok (.ireturn, 1) := by decide +kernel
theorem dX12_isIn_0 : decode cX12_isIn 0 = .ok (.iload_n 1, 1) := by decide +kernel
theorem dX12_isIn_1 : decode cX12_isIn 1 = .ok (.istore_n 3, 1) := by decide +kernel
theorem dX12_isIn_2 : decode cX12_isIn 2 = .ok (.iload_n 3, 1) := by decide +kernel
theorem dX12_isIn_3 : decode cX12_isIn 3 = .ok (.iconst (-1), 1) := by decide +kernel
theorem dX12_isIn_4 : decode cX12_isIn 4 = .ok (.if_icmp .eq 18, 3) := by decide +kernel
theorem dX12_isIn_7 : decode cX12_isIn 7 = .ok (.iload_n 3, 1) := by decide +kernel
theorem dX12_isIn_8 : decode cX12_isIn 8 = .ok (.iload_n 2, 1) := by decide +kernel
theorem dX12_isIn_9 : decode cX12_isIn 9 = .ok (.if_icmp .eq 13, 3) := by decide +kernel
theorem dX12_isIn_12 : decode cX12_isIn 12 = .ok (.aload_n 0, 1) := by decide +kernel
theorem dX12_isIn_13 : decode cX12_isIn 13 = .ok (.getfield 7, 3) := by decide +kernel
theorem dX12_isIn_16 : decode cX12_isIn 16 = .ok (.iload_n 3, 1) := by decide +kernel
theorem dX12_isIn_17 : decode cX12_isIn 17 = .ok (.iaload, 1) := by decide +kernel
theorem dX12_isIn_18 : decode cX12_isIn 18 = .ok (.istore_n 3, 1) := by decide +kernel
theorem dX12_isIn_19 : decode cX12_isIn 19 = .ok (.goto (-17), 3) := by decide +kernel
theorem dX12_isIn_22 : decode cX12_isIn 22 = .ok (.iload_n 3, 1) := by decide +kernel
theorem dX12_isIn_23 : decode cX12_isIn 23 = .ok (.iload_n 2, 1) := by decide +kernel
theorem dX12_isIn_24 : decode cX12_isIn 24 = .ok (.if_icmp .ne 7, 3) := by decide +kernel
theorem dX12_isIn_27 : decode cX12_isIn 27 = .ok (.iconst 1, 1) := by decide +kernel
theorem dX12_isIn_28 : decode cX12_isIn 28 = .ok (.goto 4, 3) := by decide +kernel
theorem dX12_isIn_31 : decode cX12_isIn 31 = .ok (.iconst 0, 1) := by decide +kernel
theorem dX12_isIn_32 : decode cX12_isIn 32 = .ok (.ireturn, 1) := by decide +kernel
theorem dX12_isPath_0 : decode cX12_isPath 0 = .ok (.iload_n 0, 1) := by decide +kernel
theorem dX12_isPath_1 : decode cX12_isPath 1 = .ok (.ifCond .eq 37, 3) := by decide +kernel
theorem dX12_isPath_4 : decode cX12_isPath 4 = .ok (.iload_n 0, 1) := by decide +kernel
theorem dX12_isPath_5 : decode cX12_isPath 5 = .ok (.iconst 1, 1) := by decide +kernel
theorem dX12_isPath_6 : decode cX12_isPath 6 = .ok (.sipush 999, 3) := by decide +kernel
theorem dX12_isPath_9 : decode cX12_isPath 9 = .ok (.invokestatic 168, 3) := by decide +kernel
theorem dX12_isPath_12 : decode cX12_isPath 12 = .ok (.ifCond .eq 30, 3) := by decide +kernel
theorem dX12_isPath_15 : decode cX12_isPath 15 = .ok (.iload_n 0, 1) := by decide +kernel
theorem dX12_isPath_16 : decode cX12_isPath 16 = .ok (.bipush 10, 2) := by decide +kernel
theorem dX12_isPath_18 : decode cX12_isPath 18 = .ok (.irem, 1) := by decide +kernel
theorem dX12_isPath_19 : decode cX12_isPath 19 = .ok (.ifCond .le 23, 3) := by decide +kernel
theorem dX12_isPath_22 : decode cX12_isPath 22 = .ok (.iload_n 0, 1) := by decide +kernel
theorem dX12_isPath_23 : decode cX12_isPath 23 = .ok (.bipush 10, 2) := by decide +kernel
theorem dX12_isPath_25 : decode cX12_isPath 25 = .ok (.if_icmp .lt 13, 3) := by decide +kernel
theorem dX12_isPath_28 : decode cX12_isPath 28 = .ok (.iload_n 0, 1) := by decide +kernel
theorem dX12_isPath_29 : decode cX12_isPath 29 = .ok (.bipush 10, 2) := by decide +kernel
theorem dX12_isPath_31 : decode cX12_isPath 31 = .ok (.idiv, 1) := by decide +kernel
theorem dX12_isPath_32 : decode cX12_isPath 32 = .ok (.bipush 10, 2) := by decide +kernel
theorem dX12_isPath_34 : decode cX12_isPath 34 = .ok (.irem, 1) := by decide +kernel
theorem dX12_isPath_35 : decode cX12_isPath 35 = .ok (.ifCond .le 7, 3) := by decide +kernel
theorem dX12_isPath_38 : decode cX12_isPath 38 = .ok (.iconst 1, 1) := by decide +kernel
theorem dX12_isPath_39 : decode cX12_isPath 39 = .ok (.goto 4, 3) := by decide +kernel
theorem dX12_isPath_42 : decode cX12_isPath 42 = .ok (.iconst 0, 1) := by decide +kernel
theorem dX12_isPath_43 : decode cX12_isPath 43 = .ok (.ireturn, 1) := by decide +kernel
theorem dX12_find_0 : decode cX12_find 0 = .ok (.iconst (-1), 1) := by decide +kernel
theorem dX12_find_1 : decode cX12_find 1 = .ok (.istore 5, 2) := by decide +kernel
theorem dX12_find_3 : decode cX12_find 3 = .ok (.iconst 0, 1) := by decide +kernel
theorem dX12_find_4 : decode cX12_find 4 = .ok (.istore 6, 2) := by decide +kernel
theorem dX12_find_6 : decode cX12_find 6 = .ok (.iload 6, 2) := by decide +kernel
theorem dX12_find_8 : decode cX12_find 8 = .ok (.aload_n 0, 1) := by decide +kernel
theorem dX12_find_9 : decode cX12_find 9 = .ok (.getfield 172, 3) := by decide +kernel
theorem dX12_find_12 : decode cX12_find 12 = .ok (.if_icmp .ge 63, 3) := by decide +kernel
theorem dX12_find_15 : decode cX12_find 15 = .ok (.aload_n 0, 1) := by decide +kernel
theorem dX12_find_16 : decode cX12_find 16 = .ok (.getfield 20, 3) := by decide +kernel
theorem dX12_find_19 : decode cX12_find 19 = .ok (.iload 6, 2) := by decide +kernel
theorem dX12_find_21 : decode cX12_find 21 = .ok (.iaload, 1) := by decide +kernel
theorem dX12_find_22 : decode cX12_find 22 = .ok (.iload_n 1, 1) := by decide +kernel
theorem dX12_find_23 : decode cX12_find 23 = .ok (.if_icmp .ne 42, 3) := by decide +kernel
theorem dX12_find_26 : decode cX12_find 26 = .ok (.aload_n 0, 1) := by decide +kernel
theorem dX12_find_27 : decode cX12_find 27 = .ok (.getfield 23, 3) := by decide +kernel
theorem dX12_find_30 : decode cX12_find 30 = .ok (.iload 6, 2) := by decide +kernel
theorem dX12_find_32 : decode cX12_find 32 = .ok (.iaload, 1) := by decide +kernel
theorem dX12_find_33 : decode cX12_find 33 = .ok (.iload_n 2, 1) := by decide +kernel
theorem dX12_find_34 : decode cX12_find 34 = .ok (.if_icmp .ne 31, 3) := by decide +kernel
theorem dX12_find_37 : decode cX12_find 37 = .ok (.aload_n 0, 1) := by decide +kernel
theorem dX12_find_38 : decode cX12_find 38 = .ok (.getfield 26, 3) := by decide +kernel
theorem dX12_find_41 : decode cX12_find 41 = .ok (.iload 6, 2) := by decide +kernel
theorem dX12_find_43 : decode cX12_find 43 = .ok (.iaload, 1) := by decide +kernel
theorem dX12_find_44 : decode cX12_find 44 = .ok (.iload_n 3, 1) := by decide +kernel
theorem dX12_find_45 : decode cX12_find 45 = .ok (.if_icmp .ne 20, 3) := by decide +kernel
theorem dX12_find_48 : decode cX12_find 48 = .ok (.aload_n 0, 1) := by decide +kernel
theorem dX12_find_49 : decode cX12_find 49 = .ok (.getfield 29, 3) := by decide +kernel
theorem dX12_find_52 : decode cX12_find 52 = .ok (.iload 6, 2) := by decide +kernel
theorem dX12_find_54 : decode cX12_find 54 = .ok (.iaload, 1) := by decide +kernel
theorem dX12_find_55 : decode cX12_find 55 = .ok (.iload 4, 2) := by decide +kernel
theorem dX12_find_57 : decode cX12_find 57 = .ok (.if_icmp .ne 8, 3) := by decide +kernel
theorem dX12_find_60 : decode cX12_find 60 = .ok (.iload 6, 2) := by decide +kernel
theorem dX12_find_62 : decode cX12_find 62 = .ok (.goto 5, 3) := by decide +kernel
theorem dX12_find_65 : decode cX12_find 65 = .ok (.iload 5, 2) := by decide +kernel
theorem dX12_find_67 : decode cX12_find 67 = .ok (.istore 5, 2) := by decide +kernel
theorem dX12_find_69 : decode cX12_find 69 = .ok (.iinc 6 1, 3) := by decide +kernel
theorem dX12_find_72 : decode cX12_find 72 = .ok (.goto (-66), 3) := by decide +kernel
theorem dX12_find_75 : decode cX12_find 75 = .ok (.iload 5, 2) := by decide +kernel
theorem dX12_find_77 : decode cX12_find 77 = .ok (.ireturn, 1) := by decide +kernel
theorem dX12_tells_0 : decode cX12_tells 0 = .ok (.aload_n 0, 1) := by decide +kernel
theorem dX12_tells_1 : decode cX12_tells 1 = .ok (.iload_n 1, 1) := by decide +kernel
theorem dX12_tells_2 : decode cX12_tells 2 = .ok (.iload_n 2, 1) := by decide +kernel
theorem dX12_tells_3 : decode cX12_tells 3 = .ok (.iload_n 3, 1) := by decide +kernel
theorem dX12_tells_4 : decode cX12_tells 4 = .ok (.iload 4, 2) := by decide +kernel
theorem dX12_tells_6 : decode cX12_tells 6 = .ok (.invokevirtual 193, 3) := by decide +kernel
theorem dX12_tells_9 : decode cX12_tells 9 = .ok (.istore 5, 2) := by decide +kernel
theorem dX12_tells_11 : decode cX12_tells 11 = .ok (.iload 5, 2) := by decide +kernel
theorem dX12_tells_13 : decode cX12_tells 13 = .ok (.iconst (-1), 1) := by decide +kernel
theorem dX12_tells_14 : decode cX12_tells 14 = .ok (.if_icmp .ne 85, 3) := by decide +kernel
theorem dX12_tells_17 : decode cX12_tells 17 = .ok (.aload_n 0, 1) := by decide +kernel
theorem dX12_tells_18 : decode cX12_tells 18 = .ok (.getfield 172, 3) := by decide +kernel
theorem dX12_tells_21 : decode cX12_tells 21 = .ok (.bipush 24, 2) := by decide +kernel
theorem dX12_tells_23 : decode cX12_tells 23 = .ok (.if_icmp .ge 76, 3) := by decide +kernel
theorem dX12_tells_26 : decode cX12_tells 26 = .ok (.aload_n 0, 1) := by decide +kernel
theorem dX12_tells_27 : decode cX12_tells 27 = .ok (.getfield 172, 3) := by decide +kernel
theorem dX12_tells_30 : decode cX12_tells 30 = .ok (.istore 5, 2) := by decide +kernel
theorem dX12_tells_32 : decode cX12_tells 32 = .ok (.aload_n 0, 1) := by decide +kernel
theorem dX12_tells_33 : decode cX12_tells 33 = .ok (.getfield 20, 3) := by decide +kernel
theorem dX12_tells_36 : decode cX12_tells 36 = .ok (.iload 5, 2) := by decide +kernel
theorem dX12_tells_38 : decode cX12_tells 38 = .ok (.iload_n 1, 1) := by decide +kernel
theorem dX12_tells_39 : decode cX12_tells 39 = .ok (.iastore, 1) := by decide +kernel
theorem dX12_tells_40 : decode cX12_tells 40 = .ok (.aload_n 0, 1) := by decide +kernel
theorem dX12_tells_41 : decode cX12_tells 41 = .ok (.getfield 23, 3) := by decide +kernel
theorem dX12_tells_44 : decode cX12_tells 44 = .ok (.iload 5, 2) := by decide +kernel
theorem dX12_tells_46 : decode cX12_tells 46 = .ok (.iload_n 2, 1) := by decide +kernel
theorem dX12_tells_47 : decode cX12_tells 47 = .ok (.iastore, 1) := by decide +kernel
theorem dX12_tells_48 : decode cX12_tells 48 = .ok (.aload_n 0, 1) := by decide +kernel
theorem dX12_tells_49 : decode cX12_tells 49 = .ok (.getfield 26, 3) := by decide +kernel
theorem dX12_tells_52 : decode cX12_tells 52 = .ok (.iload 5, 2) := by decide +kernel
theorem dX12_tells_54 : decode cX12_tells 54 = .ok (.iload_n 3, 1) := by decide +kernel
theorem dX12_tells_55 : decode cX12_tells 55 = .ok (.iastore, 1) := by decide +kernel
theorem dX12_tells_56 : decode cX12_tells 56 = .ok (.aload_n 0, 1) := by decide +kernel
theorem dX12_tells_57 : decode cX12_tells 57 = .ok (.getfield 29, 3) := by decide +kernel
theorem dX12_tells_60 : decode cX12_tells 60 = .ok (.iload 5, 2) := by decide +kernel
theorem dX12_tells_62 : decode cX12_tells 62 = .ok (.iload 4, 2) := by decide +kernel
theorem dX12_tells_64 : decode cX12_tells 64 = .ok (.iastore, 1) := by decide +kernel
theorem dX12_tells_65 : decode cX12_tells 65 = .ok (.aload_n 0, 1) := by decide +kernel
theorem dX12_tells_66 : decode cX12_tells 66 = .ok (.getfield 32, 3) := by decide +kernel
theorem dX12_tells_69 : decode cX12_tells 69 = .ok (.iload 5, 2) := by decide +kernel
theorem dX12_tells_71 : decode cX12_tells 71 = .ok (.iconst (-1), 1) := by decide +kernel
theorem dX12_tells_72 : decode cX12_tells 72 = .ok (.iastore, 1) := by decide +kernel
theorem dX12_tells_73 : decode cX12_tells 73 = .ok (.aload_n 0, 1) := by decide +kernel
theorem dX12_tells_74 : decode cX12_tells 74 = .ok (.getfield 38, 3) := by decide +kernel
theorem dX12_tells_77 : decode cX12_tells 77 = .ok (.iload 5, 2) := by decide +kernel
theorem dX12_tells_79 : decode cX12_tells 79 = .ok (.iconst (-1), 1) := by decide +kernel
theorem dX12_tells_80 : decode cX12_tells 80 = .ok (.iastore, 1) := by decide +kernel
theorem dX12_tells_81 : decode cX12_tells 81 = .ok (.aload_n 0, 1) := by decide +kernel
theorem dX12_tells_82 : decode cX12_tells 82 = .ok (.getfield 53, 3) := by decide +kernel
theorem dX12_tells_85 : decode cX12_tells 85 = .ok (.iload 5, 2) := by decide +kernel
theorem dX12_tells_87 : decode cX12_tells 87 = .ok (.iconst (-1), 1) := by decide +kernel
theorem dX12_tells_88 : decode cX12_tells 88 = .ok (.iastore, 1) := by decide +kernel
theorem dX12_tells_89 : decode cX12_tells 89 = .ok (.aload_n 0, 1) := by decide +kernel
theorem dX12_tells_90 : decode cX12_tells 90 = .ok (.dup, 1) := by decide +kernel
theorem dX12_tells_91 : decode cX12_tells 91 = .ok (.getfield 172, 3) := by decide +kernel
theorem dX12_tells_94 : decode cX12_tells 94 = .ok (.iconst 1, 1) := by decide +kernel
theorem dX12_tells_95 : decode cX12_tells 95 = .ok (.iadd, 1) := by decide +kernel
theorem dX12_tells_96 : decode cX12_tells 96 = .ok (.putfield 172, 3) := by decide +kernel
theorem dX12_tells_99 : decode cX12_tells 99 = .ok (.iload 5, 2) := by decide +kernel
theorem dX12_tells_101 : decode cX12_tells 101 = .ok (.ireturn, 1) := by decide +kernel
theorem dX12_address_0 : decode cX12_address 0 = .ok (.aload_n 0, 1) := by decide +kernel
theorem dX12_address_1 : decode cX12_address 1 = .ok (.iload_n 2, 1) := by decide +kernel
theorem dX12_address_2 : decode cX12_address 2 = .ok (.invokevirtual 175, 3) := by decide +kernel
theorem dX12_address_5 : decode cX12_address 5 = .ok (.istore 5, 2) := by decide +kernel
theorem dX12_address_7 : decode cX12_address 7 = .ok (.iload_n 1, 1) := by decide +kernel
theorem dX12_address_8 : decode cX12_address 8 = .ok (.iconst 0, 1) := by decide +kernel
theorem dX12_address_9 : decode cX12_address 9 = .ok (.iconst 1, 1) := by decide +kernel
theorem dX12_address_10 : decode cX12_address 10 = .ok (.invokestatic 168, 3) := by decide +kernel
theorem dX12_address_13 : decode cX12_address 13 = .ok (.ifCond .eq 26, 3) := by decide +kernel
theorem dX12_address_16 : decode cX12_address 16 = .ok (.iload_n 3, 1) := by decide +kernel
theorem dX12_address_17 : decode cX12_address 17 = .ok (.iconst 0, 1) := by decide +kernel
theorem dX12_address_18 : decode cX12_address 18 = .ok (.sipush 9999, 3) := by decide +kernel
theorem dX12_address_21 : decode cX12_address 21 = .ok (.invokestatic 168, 3) := by decide +kernel
theorem dX12_address_24 : decode cX12_address 24 = .ok (.ifCond .eq 15, 3) := by decide +kernel
theorem dX12_address_27 : decode cX12_address 27 = .ok (.iload 4, 2) := by decide +kernel
theorem dX12_address_29 : decode cX12_address 29 = .ok (.invokestatic 197, 3) := by decide +kernel
theorem dX12_address_32 : decode cX12_address 32 = .ok (.ifCond .eq 7, 3) := by decide +kernel
theorem dX12_address_35 : decode cX12_address 35 = .ok (.iconst 1, 1) := by decide +kernel
theorem dX12_address_36 : decode cX12_address 36 = .ok (.goto 4, 3) := by decide +kernel
theorem dX12_address_39 : decode cX12_address 39 = .ok (.iconst 0, 1) := by decide +kernel
theorem dX12_address_40 : decode cX12_address 40 = .ok (.istore 6, 2) := by decide +kernel
theorem dX12_address_42 : decode cX12_address 42 = .ok (.iload 5, 2) := by decide +kernel
theorem dX12_address_44 : decode cX12_address 44 = .ok (.ifCond .eq 20, 3) := by decide +kernel
theorem dX12_address_47 : decode cX12_address 47 = .ok (.iload 6, 2) := by decide +kernel
theorem dX12_address_49 : decode cX12_address 49 = .ok (.ifCond .eq 15, 3) := by decide +kernel
theorem dX12_address_52 : decode cX12_address 52 = .ok (.aload_n 0, 1) := by decide +kernel
theorem dX12_address_53 : decode cX12_address 53 = .ok (.iload_n 1, 1) := by decide +kernel
theorem dX12_address_54 : decode cX12_address 54 = .ok (.iload_n 2, 1) := by decide +kernel
theorem dX12_address_55 : decode cX12_address 55 = .ok (.iload_n 3, 1) := by decide +kernel
theorem dX12_address_56 : decode cX12_address 56 = .ok (.iload 4, 2) := by decide +kernel
theorem dX12_address_58 : decode cX12_address 58 = .ok (.invokevirtual 200, 3) := by decide +kernel
theorem dX12_address_61 : decode cX12_address 61 = .ok (.goto 4, 3) := by decide +kernel
theorem dX12_address_64 : decode cX12_address 64 = .ok (.iconst (-1), 1) := by decide +kernel
theorem dX12_address_65 : decode cX12_address 65 = .ok (.istore 7, 2) := by decide +kernel
theorem dX12_address_67 : decode cX12_address 67 = .ok (.aload_n 0, 1) := by decide +kernel
theorem dX12_address_68 : decode cX12_address 68 = .ok (.iload 5, 2) := by decide +kernel
theorem dX12_address_70 : decode cX12_address 70 = .ok (.ifCond .ne 7, 3) := by decide +kernel
theorem dX12_address_73 : decode cX12_address 73 = .ok (.iconst 1, 1) := by decide +kernel
theorem dX12_address_74 : decode cX12_address 74 = .ok (.goto 23, 3) := by decide +kernel
theorem dX12_address_77 : decode cX12_address 77 = .ok (.iload 6, 2) := by decide +kernel
theorem dX12_address_79 : decode cX12_address 79 = .ok (.ifCond .ne 7, 3) := by decide +kernel
theorem dX12_address_82 : decode cX12_address 82 = .ok (.iconst 2, 1) := by decide +kernel
theorem dX12_address_83 : decode cX12_address 83 = .ok (.goto 14, 3) := by decide +kernel
theorem dX12_address_86 : decode cX12_address 86 = .ok (.iload 7, 2) := by decide +kernel
theorem dX12_address_88 : decode cX12_address 88 = .ok (.iconst (-1), 1) := by decide +kernel
theorem dX12_address_89 : decode cX12_address 89 = .ok (.if_icmp .ne 7, 3) := by decide +kernel
theorem dX12_address_92 : decode cX12_address 92 = .ok (.iconst 3, 1) := by decide +kernel
theorem dX12_address_93 : decode cX12_address 93 = .ok (.goto 4, 3) := by decide +kernel
theorem dX12_address_96 : decode cX12_address 96 = .ok (.iconst 0, 1) := by decide +kernel
theorem dX12_address_97 : decode cX12_address 97 = .ok (.invokevirtual 187, 3) := by decide +kernel
theorem dX12_address_100 : decode cX12_address 100 = .ok (.ifCond .eq 7, 3) := by decide +kernel
theorem dX12_address_103 : decode cX12_address 103 = .ok (.iconst 0, 1) := by decide +kernel
theorem dX12_address_104 : decode cX12_address 104 = .ok (.goto 5, 3) := by decide +kernel
theorem dX12_address_107 : decode cX12_address 107 = .ok (.iload 7, 2) := by decide +kernel
theorem dX12_address_109 : decode cX12_address 109 = .ok (.ireturn, 1) := by decide +kernel
theorem dX12_isReference_0 : decode cX12_isReference 0 = .ok (.iload_n 0, 1) := by decide +kernel
theorem dX12_isReference_1 : decode cX12_isReference 1 = .ok (.iconst 1, 1) := by decide +kernel
theorem dX12_isReference_2 : decode cX12_isReference 2 = .ok (.iconst 2, 1) := by decide +kernel
theorem dX12_isReference_3 : decode cX12_isReference 3 = .ok (.invokestatic 168, 3) := by decide +kernel
theorem dX12_isReference_6 : decode cX12_isReference 6 = .ok (.ifCond .ne 52, 3) := by decide +kernel
theorem dX12_isReference_9 : decode cX12_isReference 9 = .ok (.iload_n 0, 1) := by decide +kernel
theorem dX12_isReference_10 : decode cX12_isReference 10 = .ok (.bipush 10, 2) := by decide +kernel
theorem dX12_isReference_12 : decode cX12_isReference 12 = .ok (.bipush 29, 2) := by decide +kernel
theorem dX12_isReference_14 : decode cX12_isReference 14 = .ok (.invokestatic 168, 3) := by decide +kernel
theorem dX12_isReference_17 : decode cX12_isReference 17 = .ok (.ifCond .ne 41, 3) := by decide +kernel
theorem dX12_isReference_20 : decode cX12_isReference 20 = .ok (.iload_n 0, 1) := by decide +kernel
theorem dX12_isReference_21 : decode cX12_isReference 21 = .ok (.bipush 100, 2) := by decide +kernel
theorem dX12_isReference_23 : decode cX12_isReference 23 = .ok (.sipush 299, 3) := by decide +kernel
theorem dX12_isReference_26 : decode cX12_isReference 26 = .ok (.invokestatic 168, 3) := by decide +kernel
theorem dX12_isReference_29 : decode cX12_isReference 29 = .ok (.ifCond .ne 29, 3) := by decide +kernel
theorem dX12_isReference_32 : decode cX12_isReference 32 = .ok (.iload_n 0, 1) := by decide +kernel
theorem dX12_isReference_33 : decode cX12_isReference 33 = .ok (.sipush 1000, 3) := by decide +kernel
theorem dX12_isReference_36 : decode cX12_isReference 36 = .ok (.sipush 2999, 3) := by decide +kernel
theorem dX12_isReference_39 : decode cX12_isReference 39 = .ok (.invokestatic 168, 3) := by decide +kernel
theorem dX12_isReference_42 : decode cX12_isReference 42 = .ok (.ifCond .ne 16, 3) := by decide +kernel
theorem dX12_isReference_45 : decode cX12_isReference 45 = .ok (.iload_n 0, 1) := by decide +kernel
theorem dX12_isReference_46 : decode cX12_isReference 46 = .ok (.sipush 10000, 3) := by decide +kernel
theorem dX12_isReference_49 : decode cX12_isReference 49 = .ok (.sipush 29999, 3) := by decide +kernel
theorem dX12_isReference_52 : decode cX12_isReference 52 = .ok (.invokestatic 168, 3) := by decide +kernel
theorem dX12_isReference_55 : decode cX12_isReference 55 = .ok (.ifCond .eq 7, 3) := by decide +kernel
theorem dX12_isReference_58 : decode cX12_isReference 58 = .ok (.iconst 1, 1) := by decide +kernel
theorem dX12_isReference_59 : decode cX12_isReference 59 = .ok (.goto 4, 3) := by decide +kernel
theorem dX12_isReference_62 : decode cX12_isReference 62 = .ok (.iconst 0, 1) := by decide +kernel
theorem dX12_isReference_63 : decode cX12_isReference 63 = .ok (.ireturn, 1) := by decide +kernel
theorem dX12_resolved_0 : decode cX12_resolved 0 = .ok (.iconst 1, 1) := by decide +kernel
theorem dX12_resolved_1 : decode cX12_resolved 1 = .ok (.istore_n 3, 1) := by decide +kernel
theorem dX12_resolved_2 : decode cX12_resolved 2 = .ok (.iload_n 2, 1) := by decide +kernel
theorem dX12_resolved_3 : decode cX12_resolved 3 = .ok (.iload_n 3, 1) := by decide +kernel
theorem dX12_resolved_4 : decode cX12_resolved 4 = .ok (.idiv, 1) := by decide +kernel
theorem dX12_resolved_5 : decode cX12_resolved 5 = .ok (.bipush 9, 2) := by decide +kernel
theorem dX12_resolved_7 : decode cX12_resolved 7 = .ok (.if_icmp .le 11, 3) := by decide +kernel
theorem dX12_resolved_10 : decode cX12_resolved 10 = .ok (.iload_n 3, 1) := by decide +kernel
theorem dX12_resolved_11 : decode cX12_resolved 11 = .ok (.bipush 10, 2) := by decide +kernel
theorem dX12_resolved_13 : decode cX12_resolved 13 = .ok (.imul, 1) := by decide +kernel
theorem dX12_resolved_14 : decode cX12_resolved 14 = .ok (.istore_n 3, 1) := by decide +kernel
theorem dX12_resolved_15 : decode cX12_resolved 15 = .ok (.goto (-13), 3) := by decide +kernel
theorem dX12_resolved_18 : decode cX12_resolved 18 = .ok (.iconst 0, 1) := by decide +kernel
theorem dX12_resolved_19 : decode cX12_resolved 19 = .ok (.istore 4, 2) := by decide +kernel
theorem dX12_resolved_21 : decode cX12_resolved 21 = .ok (.iload_n 2, 1) := by decide +kernel
theorem dX12_resolved_22 : decode cX12_resolved 22 = .ok (.iload_n 3, 1) := by decide +kernel
theorem dX12_resolved_23 : decode cX12_resolved 23 = .ok (.idiv, 1) := by decide +kernel
theorem dX12_resolved_24 : decode cX12_resolved 24 = .ok (.iconst 1, 1) := by decide +kernel
theorem dX12_resolved_25 : decode cX12_resolved 25 = .ok (.if_icmp .ne 76, 3) := by decide +kernel
theorem dX12_resolved_28 : decode cX12_resolved 28 = .ok (.aload_n 0, 1) := by decide +kernel
theorem dX12_resolved_29 : decode cX12_resolved 29 = .ok (.getfield 29, 3) := by decide +kernel
theorem dX12_resolved_32 : decode cX12_resolved 32 = .ok (.iload_n 1, 1) := by decide +kernel
theorem dX12_resolved_33 : decode cX12_resolved 33 = .ok (.iaload, 1) := by decide +kernel
theorem dX12_resolved_34 : decode cX12_resolved 34 = .ok (.istore 5, 2) := by decide +kernel
theorem dX12_resolved_36 : decode cX12_resolved 36 = .ok (.iload 5, 2) := by decide +kernel
theorem dX12_resolved_38 : decode cX12_resolved 38 = .ok (.bipush 99, 2) := by decide +kernel
theorem dX12_resolved_40 : decode cX12_resolved 40 = .ok (.if_icmp .le 8, 3) := by decide +kernel
theorem dX12_resolved_43 : decode cX12_resolved 43 = .ok (.bipush 100, 2) := by decide +kernel
theorem dX12_resolved_45 : decode cX12_resolved 45 = .ok (.goto 16, 3) := by decide +kernel
theorem dX12_resolved_48 : decode cX12_resolved 48 = .ok (.iload 5, 2) := by decide +kernel
theorem dX12_resolved_50 : decode cX12_resolved 50 = .ok (.bipush 9, 2) := by decide +kernel
theorem dX12_resolved_52 : decode cX12_resolved 52 = .ok (.if_icmp .le 8, 3) := by decide +kernel
theorem dX12_resolved_55 : decode cX12_resolved 55 = .ok (.bipush 10, 2) := by decide +kernel
theorem dX12_resolved_57 : decode cX12_resolved 57 = .ok (.goto 4, 3) := by decide +kernel
theorem dX12_resolved_60 : decode cX12_resolved 60 = .ok (.iconst 1, 1) := by decide +kernel
theorem dX12_resolved_61 : decode cX12_resolved 61 = .ok (.istore 6, 2) := by decide +kernel
theorem dX12_resolved_63 : decode cX12_resolved 63 = .ok (.iload 6, 2) := by decide +kernel
theorem dX12_resolved_65 : decode cX12_resolved 65 = .ok (.istore 7, 2) := by decide +kernel
theorem dX12_resolved_67 : decode cX12_resolved 67 = .ok (.iload 7, 2) := by decide +kernel
theorem dX12_resolved_69 : decode cX12_resolved 69 = .ok (.iconst 1, 1) := by decide +kernel
theorem dX12_resolved_70 : decode cX12_resolved 70 = .ok (.if_icmp .le 31, 3) := by decide +kernel
theorem dX12_resolved_73 : decode cX12_resolved 73 = .ok (.aload_n 0, 1) := by decide +kernel
theorem dX12_resolved_74 : decode cX12_resolved 74 = .ok (.getfield 158, 3) := by decide +kernel
theorem dX12_resolved_77 : decode cX12_resolved 77 = .ok (.iload 4, 2) := by decide +kernel
theorem dX12_resolved_79 : decode cX12_resolved 79 = .ok (.iload 5, 2) := by decide +kernel
theorem dX12_resolved_81 : decode cX12_resolved 81 = .ok (.iload 7, 2) := by decide +kernel
theorem dX12_resolved_83 : decode cX12_resolved 83 = .ok (.idiv, 1) := by decide +kernel
theorem dX12_resolved_84 : decode cX12_resolved 84 = .ok (.bipush 10, 2) := by decide +kernel
theorem dX12_resolved_86 : decode cX12_resolved 86 = .ok (.irem, 1) := by decide +kernel
theorem dX12_resolved_87 : decode cX12_resolved 87 = .ok (.iastore, 1) := by decide +kernel
theorem dX12_resolved_88 : decode cX12_resolved 88 = .ok (.iinc 4 1, 3) := by decide +kernel
theorem dX12_resolved_91 : decode cX12_resolved 91 = .ok (.iload 7, 2) := by decide +kernel
theorem dX12_resolved_93 : decode cX12_resolved 93 = .ok (.bipush 10, 2) := by decide +kernel
theorem dX12_resolved_95 : decode cX12_resolved 95 = .ok (.idiv, 1) := by decide +kernel
theorem dX12_resolved_96 : decode cX12_resolved 96 = .ok (.istore 7, 2) := by decide +kernel
theorem dX12_resolved_98 : decode cX12_resolved 98 = .ok (.goto (-31), 3) := by decide +kernel
theorem dX12_resolved_101 : decode cX12_resolved 101 = .ok (.iload_n 3, 1) := by decide +kernel
theorem dX12_resolved_102 : decode cX12_resolved 102 = .ok (.bipush 10, 2) := by decide +kernel
theorem dX12_resolved_104 : decode cX12_resolved 104 = .ok (.idiv, 1) := by decide +kernel
theorem dX12_resolved_105 : decode cX12_resolved 105 = .ok (.istore 5, 2) := by decide +kernel
theorem dX12_resolved_107 : decode cX12_resolved 107 = .ok (.iload 5, 2) := by decide +kernel
theorem dX12_resolved_109 : decode cX12_resolved 109 = .ok (.ifCond .le 50, 3) := by decide +kernel
theorem dX12_resolved_112 : decode cX12_resolved 112 = .ok (.iload_n 2, 1) := by decide +kernel
theorem dX12_resolved_113 : decode cX12_resolved 113 = .ok (.iload 5, 2) := by decide +kernel
theorem dX12_resolved_115 : decode cX12_resolved 115 = .ok (.idiv, 1) := by decide +kernel
theorem dX12_resolved_116 : decode cX12_resolved 116 = .ok (.bipush 10, 2) := by decide +kernel
theorem dX12_resolved_118 : decode cX12_resolved 118 = .ok (.irem, 1) := by decide +kernel
theorem dX12_resolved_119 : decode cX12_resolved 119 = .ok (.istore 6, 2) := by decide +kernel
theorem dX12_resolved_121 : decode cX12_resolved 121 = .ok (.iload 6, 2) := by decide +kernel
theorem dX12_resolved_123 : decode cX12_resolved 123 = .ok (.ifCond .le 18, 3) := by decide +kernel
theorem dX12_resolved_126 : decode cX12_resolved 126 = .ok (.aload_n 0, 1) := by decide +kernel
theorem dX12_resolved_127 : decode cX12_resolved 127 = .ok (.getfield 158, 3) := by decide +kernel
theorem dX12_resolved_130 : decode cX12_resolved 130 = .ok (.iload 4, 2) := by decide +kernel
theorem dX12_resolved_132 : decode cX12_resolved 132 = .ok (.iload 6, 2) := by decide +kernel
theorem dX12_resolved_134 : decode cX12_resolved 134 = .ok (.iastore, 1) := by decide +kernel
theorem dX12_resolved_135 : decode cX12_resolved 135 = .ok (.iinc 4 1, 3) := by decide +kernel
theorem dX12_resolved_138 : decode cX12_resolved 138 = .ok (.goto 11, 3) := by decide +kernel
theorem dX12_resolved_141 : decode cX12_resolved 141 = .ok (.iload 4, 2) := by decide +kernel
theorem dX12_resolved_143 : decode cX12_resolved 143 = .ok (.ifCond .le 6, 3) := by decide +kernel
theorem dX12_resolved_146 : decode cX12_resolved 146 = .ok (.iinc 4 (-1), 3) := by decide +kernel
theorem dX12_resolved_149 : decode cX12_resolved 149 = .ok (.iload 5, 2) := by decide +kernel
theorem dX12_resolved_151 : decode cX12_resolved 151 = .ok (.bipush 10, 2) := by decide +kernel
theorem dX12_resolved_153 : decode cX12_resolved 153 = .ok (.idiv, 1) := by decide +kernel
theorem dX12_resolved_154 : decode cX12_resolved 154 = .ok (.istore 5, 2) := by decide +kernel
theorem dX12_resolved_156 : decode cX12_resolved 156 = .ok (.goto (-49), 3) := by decide +kernel
theorem dX12_resolved_159 : decode cX12_resolved 159 = .ok (.iconst 0, 1) := by decide +kernel
theorem dX12_resolved_160 : decode cX12_resolved 160 = .ok (.istore 5, 2) := by decide +kernel
theorem dX12_resolved_162 : decode cX12_resolved 162 = .ok (.iconst 0, 1) := by decide +kernel
theorem dX12_resolved_163 : decode cX12_resolved 163 = .ok (.istore 6, 2) := by decide +kernel
theorem dX12_resolved_165 : decode cX12_resolved 165 = .ok (.iload 6, 2) := by decide +kernel
theorem dX12_resolved_167 : decode cX12_resolved 167 = .ok (.iload 4, 2) := by decide +kernel
theorem dX12_resolved_169 : decode cX12_resolved 169 = .ok (.if_icmp .ge 30, 3) := by decide +kernel
theorem dX12_resolved_172 : decode cX12_resolved 172 = .ok (.iload 4, 2) := by decide +kernel
theorem dX12_resolved_174 : decode cX12_resolved 174 = .ok (.iconst 4, 1) := by decide +kernel
theorem dX12_resolved_175 : decode cX12_resolved 175 = .ok (.if_icmp .ge 24, 3) := by decide +kernel
theorem dX12_resolved_178 : decode cX12_resolved 178 = .ok (.bipush 10, 2) := by decide +kernel
theorem dX12_resolved_180 : decode cX12_resolved 180 = .ok (.iload 5, 2) := by decide +kernel
theorem dX12_resolved_182 : decode cX12_resolved 182 = .ok (.imul, 1) := by decide +kernel
theorem dX12_resolved_183 : decode cX12_resolved 183 = .ok (.aload_n 0, 1) := by decide +kernel
theorem dX12_resolved_184 : decode cX12_resolved 184 = .ok (.getfield 158, 3) := by decide +kernel
theorem dX12_resolved_187 : decode cX12_resolved 187 = .ok (.iload 6, 2) := by decide +kernel
theorem dX12_resolved_189 : decode cX12_resolved 189 = .ok (.iaload, 1) := by decide +kernel
theorem dX12_resolved_190 : decode cX12_resolved 190 = .ok (.iadd, 1) := by decide +kernel
theorem dX12_resolved_191 : decode cX12_resolved 191 = .ok (.istore 5, 2) := by decide +kernel
theorem dX12_resolved_193 : decode cX12_resolved 193 = .ok (.iinc 6 1, 3) := by decide +kernel
theorem dX12_resolved_196 : decode cX12_resolved 196 = .ok (.goto (-31), 3) := by decide +kernel
theorem dX12_resolved_199 : decode cX12_resolved 199 = .ok (.iload 4, 2) := by decide +kernel
theorem dX12_resolved_201 : decode cX12_resolved 201 = .ok (.iconst 3, 1) := by decide +kernel
theorem dX12_resolved_202 : decode cX12_resolved 202 = .ok (.if_icmp .le 7, 3) := by decide +kernel
theorem dX12_resolved_205 : decode cX12_resolved 205 = .ok (.iconst (-1), 1) := by decide +kernel
theorem dX12_resolved_206 : decode cX12_resolved 206 = .ok (.goto 5, 3) := by decide +kernel
theorem dX12_resolved_209 : decode cX12_resolved 209 = .ok (.iload 5, 2) := by decide +kernel
theorem dX12_resolved_211 : decode cX12_resolved 211 = .ok (.ireturn, 1) := by decide +kernel
theorem dX12_resolve_0 : decode cX12_resolve 0 = .ok (.aload_n 0, 1) := by decide +kernel
theorem dX12_resolve_1 : decode cX12_resolve 1 = .ok (.iload_n 1, 1) := by decide +kernel
theorem dX12_resolve_2 : decode cX12_resolve 2 = .ok (.invokevirtual 203, 3) := by decide +kernel
theorem dX12_resolve_5 : decode cX12_resolve 5 = .ok (.istore_n 3, 1) := by decide +kernel
theorem dX12_resolve_6 : decode cX12_resolve 6 = .ok (.iload_n 3, 1) := by decide +kernel
theorem dX12_resolve_7 : decode cX12_resolve 7 = .ok (.ifCond .eq 19, 3) := by decide +kernel
theorem dX12_resolve_10 : decode cX12_resolve 10 = .ok (.iload_n 2, 1) := by decide +kernel
theorem dX12_resolve_11 : decode cX12_resolve 11 = .ok (.invokestatic 206, 3) := by decide +kernel
theorem dX12_resolve_14 : decode cX12_resolve 14 = .ok (.ifCond .eq 12, 3) := by decide +kernel
theorem dX12_resolve_17 : decode cX12_resolve 17 = .ok (.aload_n 0, 1) := by decide +kernel
theorem dX12_resolve_18 : decode cX12_resolve 18 = .ok (.iload_n 1, 1) := by decide +kernel
theorem dX12_resolve_19 : decode cX12_resolve 19 = .ok (.iload_n 2, 1) := by decide +kernel
theorem dX12_resolve_20 : decode cX12_resolve 20 = .ok (.invokevirtual 209, 3) := by decide +kernel
theorem dX12_resolve_23 : decode cX12_resolve 23 = .ok (.goto 4, 3) := by decide +kernel
theorem dX12_resolve_26 : decode cX12_resolve 26 = .ok (.iconst (-1), 1) := by decide +kernel
theorem dX12_resolve_27 : decode cX12_resolve 27 = .ok (.istore 4, 2) := by decide +kernel
theorem dX12_resolve_29 : decode cX12_resolve 29 = .ok (.iload 4, 2) := by decide +kernel
theorem dX12_resolve_31 : decode cX12_resolve 31 = .ok (.iconst (-1), 1) := by decide +kernel
theorem dX12_resolve_32 : decode cX12_resolve 32 = .ok (.if_icmp .eq 30, 3) := by decide +kernel
theorem dX12_resolve_35 : decode cX12_resolve 35 = .ok (.aload_n 0, 1) := by decide +kernel
theorem dX12_resolve_36 : decode cX12_resolve 36 = .ok (.aload_n 0, 1) := by decide +kernel
theorem dX12_resolve_37 : decode cX12_resolve 37 = .ok (.getfield 20, 3) := by decide +kernel
theorem dX12_resolve_40 : decode cX12_resolve 40 = .ok (.iload_n 1, 1) := by decide +kernel
theorem dX12_resolve_41 : decode cX12_resolve 41 = .ok (.iaload, 1) := by decide +kernel
theorem dX12_resolve_42 : decode cX12_resolve 42 = .ok (.aload_n 0, 1) := by decide +kernel
theorem dX12_resolve_43 : decode cX12_resolve 43 = .ok (.getfield 23, 3) := by decide +kernel
theorem dX12_resolve_46 : decode cX12_resolve 46 = .ok (.iload_n 1, 1) := by decide +kernel
theorem dX12_resolve_47 : decode cX12_resolve 47 = .ok (.iaload, 1) := by decide +kernel
theorem dX12_resolve_48 : decode cX12_resolve 48 = .ok (.aload_n 0, 1) := by decide +kernel
theorem dX12_resolve_49 : decode cX12_resolve 49 = .ok (.getfield 26, 3) := by decide +kernel
theorem dX12_resolve_52 : decode cX12_resolve 52 = .ok (.iload_n 1, 1) := by decide +kernel
theorem dX12_resolve_53 : decode cX12_resolve 53 = .ok (.iaload, 1) := by decide +kernel
theorem dX12_resolve_54 : decode cX12_resolve 54 = .ok (.iload 4, 2) := by decide +kernel
theorem dX12_resolve_56 : decode cX12_resolve 56 = .ok (.invokevirtual 200, 3) := by decide +kernel
theorem dX12_resolve_59 : decode cX12_resolve 59 = .ok (.goto 4, 3) := by decide +kernel
theorem dX12_resolve_62 : decode cX12_resolve 62 = .ok (.iconst (-1), 1) := by decide +kernel
theorem dX12_resolve_63 : decode cX12_resolve 63 = .ok (.istore 5, 2) := by decide +kernel
theorem dX12_resolve_65 : decode cX12_resolve 65 = .ok (.aload_n 0, 1) := by decide +kernel
theorem dX12_resolve_66 : decode cX12_resolve 66 = .ok (.iload_n 3, 1) := by decide +kernel
theorem dX12_resolve_67 : decode cX12_resolve 67 = .ok (.ifCond .ne 7, 3) := by decide +kernel
theorem dX12_resolve_70 : decode cX12_resolve 70 = .ok (.iconst 1, 1) := by decide +kernel
theorem dX12_resolve_71 : decode cX12_resolve 71 = .ok (.goto 24, 3) := by decide +kernel
theorem dX12_resolve_74 : decode cX12_resolve 74 = .ok (.iload 4, 2) := by decide +kernel
theorem dX12_resolve_76 : decode cX12_resolve 76 = .ok (.iconst (-1), 1) := by decide +kernel
theorem dX12_resolve_77 : decode cX12_resolve 77 = .ok (.if_icmp .ne 7, 3) := by decide +kernel
theorem dX12_resolve_80 : decode cX12_resolve 80 = .ok (.iconst 2, 1) := by decide +kernel
theorem dX12_resolve_81 : decode cX12_resolve 81 = .ok (.goto 14, 3) := by decide +kernel
theorem dX12_resolve_84 : decode cX12_resolve 84 = .ok (.iload 5, 2) := by decide +kernel
theorem dX12_resolve_86 : decode cX12_resolve 86 = .ok (.iconst (-1), 1) := by decide +kernel
theorem dX12_resolve_87 : decode cX12_resolve 87 = .ok (.if_icmp .ne 7, 3) := by decide +kernel
theorem dX12_resolve_90 : decode cX12_resolve 90 = .ok (.iconst 3, 1) := by decide +kernel
theorem dX12_resolve_91 : decode cX12_resolve 91 = .ok (.goto 4, 3) := by decide +kernel
theorem dX12_resolve_94 : decode cX12_resolve 94 = .ok (.iconst 0, 1) := by decide +kernel
theorem dX12_resolve_95 : decode cX12_resolve 95 = .ok (.invokevirtual 187, 3) := by decide +kernel
theorem dX12_resolve_98 : decode cX12_resolve 98 = .ok (.ifCond .eq 7, 3) := by decide +kernel
theorem dX12_resolve_101 : decode cX12_resolve 101 = .ok (.iconst 0, 1) := by decide +kernel
theorem dX12_resolve_102 : decode cX12_resolve 102 = .ok (.goto 5, 3) := by decide +kernel
theorem dX12_resolve_105 : decode cX12_resolve 105 = .ok (.iload 5, 2) := by decide +kernel
theorem dX12_resolve_107 : decode cX12_resolve 107 = .ok (.ireturn, 1) := by decide +kernel
theorem dX12_letter_0 : decode cX12_letter 0 = .ok (.iload_n 0, 1) := by decide +kernel
theorem dX12_letter_1 : decode cX12_letter 1 = .ok (.bipush 26, 2) := by decide +kernel
theorem dX12_letter_3 : decode cX12_letter 3 = .ok (.if_icmp .ge 18, 3) := by decide +kernel
theorem dX12_letter_6 : decode cX12_letter 6 = .ok (.iload_n 1, 1) := by decide +kernel
theorem dX12_letter_7 : decode cX12_letter 7 = .ok (.ifCond .ne 11, 3) := by decide +kernel
theorem dX12_letter_10 : decode cX12_letter 10 = .ok (.bipush 97, 2) := by decide +kernel
theorem dX12_letter_12 : decode cX12_letter 12 = .ok (.iload_n 0, 1) := by decide +kernel
theorem dX12_letter_13 : decode cX12_letter 13 = .ok (.iadd, 1) := by decide +kernel
theorem dX12_letter_14 : decode cX12_letter 14 = .ok (.i2c, 1) := by decide +kernel
theorem dX12_letter_15 : decode cX12_letter 15 = .ok (.goto 5, 3) := by decide +kernel
theorem dX12_letter_18 : decode cX12_letter 18 = .ok (.bipush 32, 2) := by decide +kernel
theorem dX12_letter_20 : decode cX12_letter 20 = .ok (.ireturn, 1) := by decide +kernel
theorem dX12_letter_21 : decode cX12_letter 21 = .ok (.iload_n 1, 1) := by decide +kernel
theorem dX12_letter_22 : decode cX12_letter 22 = .ok (.ifCond .ne 17, 3) := by decide +kernel
theorem dX12_letter_25 : decode cX12_letter 25 = .ok (.bipush 97, 2) := by decide +kernel
theorem dX12_letter_27 : decode cX12_letter 27 = .ok (.iload_n 0, 1) := by decide +kernel
theorem dX12_letter_28 : decode cX12_letter 28 = .ok (.bipush 26, 2) := by decide +kernel
theorem dX12_letter_30 : decode cX12_letter 30 = .ok (.isub, 1) := by decide +kernel
theorem dX12_letter_31 : decode cX12_letter 31 = .ok (.bipush 26, 2) := by decide +kernel
theorem dX12_letter_33 : decode cX12_letter 33 = .ok (.idiv, 1) := by decide +kernel
theorem dX12_letter_34 : decode cX12_letter 34 = .ok (.iadd, 1) := by decide +kernel
theorem dX12_letter_35 : decode cX12_letter 35 = .ok (.i2c, 1) := by decide +kernel
theorem dX12_letter_36 : decode cX12_letter 36 = .ok (.goto 24, 3) := by decide +kernel
theorem dX12_letter_39 : decode cX12_letter 39 = .ok (.iload_n 1, 1) := by decide +kernel
theorem dX12_letter_40 : decode cX12_letter 40 = .ok (.iconst 1, 1) := by decide +kernel
theorem dX12_letter_41 : decode cX12_letter 41 = .ok (.if_icmp .ne 17, 3) := by decide +kernel
theorem dX12_letter_44 : decode cX12_letter 44 = .ok (.bipush 97, 2) := by decide +kernel
theorem dX12_letter_46 : decode cX12_letter 46 = .ok (.iload_n 0, 1) := by decide +kernel
theorem dX12_letter_47 : decode cX12_letter 47 = .ok (.bipush 26, 2) := by decide +kernel
theorem dX12_letter_49 : decode cX12_letter 49 = .ok (.isub, 1) := by decide +kernel
theorem dX12_letter_50 : decode cX12_letter 50 = .ok (.bipush 26, 2) := by decide +kernel
theorem dX12_letter_52 : decode cX12_letter 52 = .ok (.irem, 1) := by decide +kernel
theorem dX12_letter_53 : decode cX12_letter 53 = .ok (.iadd, 1) := by decide +kernel
theorem dX12_letter_54 : decode cX12_letter 54 = .ok (.i2c, 1) := by decide +kernel
theorem dX12_letter_55 : decode cX12_letter 55 = .ok (.goto 5, 3) := by decide +kernel
theorem dX12_letter_58 : decode cX12_letter 58 = .ok (.bipush 32, 2) := by decide +kernel
theorem dX12_letter_60 : decode cX12_letter 60 = .ok (.ireturn, 1) := by decide +kernel
theorem dX12_letters_0 : decode cX12_letters 0 = .ok (.iload_n 0, 1) := by decide +kernel
theorem dX12_letters_1 : decode cX12_letters 1 = .ok (.bipush 26, 2) := by decide +kernel
theorem dX12_letters_3 : decode cX12_letters 3 = .ok (.if_icmp .ge 7, 3) := by decide +kernel
theorem dX12_letters_6 : decode cX12_letters 6 = .ok (.iconst 1, 1) := by decide +kernel
theorem dX12_letters_7 : decode cX12_letters 7 = .ok (.goto 4, 3) := by decide +kernel
theorem dX12_letters_10 : decode cX12_letters 10 = .ok (.iconst 2, 1) := by decide +kernel
theorem dX12_letters_11 : decode cX12_letters 11 = .ok (.ireturn, 1) := by decide +kernel
theorem dX12_behind_0 : decode cX12_behind 0 = .ok (.iload_n 2, 1) := by decide +kernel
theorem dX12_behind_1 : decode cX12_behind 1 = .ok (.istore_n 3, 1) := by decide +kernel
theorem dX12_behind_2 : decode cX12_behind 2 = .ok (.aload_n 0, 1) := by decide +kernel
theorem dX12_behind_3 : decode cX12_behind 3 = .ok (.getfield 26, 3) := by decide +kernel
theorem dX12_behind_6 : decode cX12_behind 6 = .ok (.iload_n 1, 1) := by decide +kernel
theorem dX12_behind_7 : decode cX12_behind 7 = .ok (.iaload, 1) := by decide +kernel
theorem dX12_behind_8 : decode cX12_behind 8 = .ok (.ifCond .le 113, 3) := by decide +kernel
theorem dX12_behind_11 : decode cX12_behind 11 = .ok (.aload_n 0, 1) := by decide +kernel
theorem dX12_behind_12 : decode cX12_behind 12 = .ok (.getfield 26, 3) := by decide +kernel
theorem dX12_behind_15 : decode cX12_behind 15 = .ok (.iload_n 1, 1) := by decide +kernel
theorem dX12_behind_16 : decode cX12_behind 16 = .ok (.iaload, 1) := by decide +kernel
theorem dX12_behind_17 : decode cX12_behind 17 = .ok (.sipush 999, 3) := by decide +kernel
theorem dX12_behind_20 : decode cX12_behind 20 = .ok (.if_icmp .le 7, 3) := by decide +kernel
theorem dX12_behind_23 : decode cX12_behind 23 = .ok (.iconst 4, 1) := by decide +kernel
theorem dX12_behind_24 : decode cX12_behind 24 = .ok (.goto 34, 3) := by decide +kernel
theorem dX12_behind_27 : decode cX12_behind 27 = .ok (.aload_n 0, 1) := by decide +kernel
theorem dX12_behind_28 : decode cX12_behind 28 = .ok (.getfield 26, 3) := by decide +kernel
theorem dX12_behind_31 : decode cX12_behind 31 = .ok (.iload_n 1, 1) := by decide +kernel
theorem dX12_behind_32 : decode cX12_behind 32 = .ok (.iaload, 1) := by decide +kernel
theorem dX12_behind_33 : decode cX12_behind 33 = .ok (.bipush 99, 2) := by decide +kernel
theorem dX12_behind_35 : decode cX12_behind 35 = .ok (.if_icmp .le 7, 3) := by decide +kernel
theorem dX12_behind_38 : decode cX12_behind 38 = .ok (.iconst 3, 1) := by decide +kernel
theorem dX12_behind_39 : decode cX12_behind 39 = .ok (.goto 19, 3) := by decide +kernel
theorem dX12_behind_42 : decode cX12_behind 42 = .ok (.aload_n 0, 1) := by decide +kernel
theorem dX12_behind_43 : decode cX12_behind 43 = .ok (.getfield 26, 3) := by decide +kernel
theorem dX12_behind_46 : decode cX12_behind 46 = .ok (.iload_n 1, 1) := by decide +kernel
theorem dX12_behind_47 : decode cX12_behind 47 = .ok (.iaload, 1) := by decide +kernel
theorem dX12_behind_48 : decode cX12_behind 48 = .ok (.bipush 9, 2) := by decide +kernel
theorem dX12_behind_50 : decode cX12_behind 50 = .ok (.if_icmp .le 7, 3) := by decide +kernel
theorem dX12_behind_53 : decode cX12_behind 53 = .ok (.iconst 2, 1) := by decide +kernel
theorem dX12_behind_54 : decode cX12_behind 54 = .ok (.goto 4, 3) := by decide +kernel
theorem dX12_behind_57 : decode cX12_behind 57 = .ok (.iconst 1, 1) := by decide +kernel
theorem dX12_behind_58 : decode cX12_behind 58 = .ok (.istore 4, 2) := by decide +kernel
theorem dX12_behind_60 : decode cX12_behind 60 = .ok (.iload_n 3, 1) := by decide +kernel
theorem dX12_behind_61 : decode cX12_behind 61 = .ok (.ifCond .ne 6, 3) := by decide +kernel
theorem dX12_behind_64 : decode cX12_behind 64 = .ok (.bipush 58, 2) := by decide +kernel
theorem dX12_behind_66 : decode cX12_behind 66 = .ok (.ireturn, 1) := by decide +kernel
theorem dX12_behind_67 : decode cX12_behind 67 = .ok (.iload_n 3, 1) := by decide +kernel
theorem dX12_behind_68 : decode cX12_behind 68 = .ok (.iload 4, 2) := by decide +kernel
theorem dX12_behind_70 : decode cX12_behind 70 = .ok (.if_icmp .gt 44, 3) := by decide +kernel
theorem dX12_behind_73 : decode cX12_behind 73 = .ok (.aload_n 0, 1) := by decide +kernel
theorem dX12_behind_74 : decode cX12_behind 74 = .ok (.getfield 26, 3) := by decide +kernel
theorem dX12_behind_77 : decode cX12_behind 77 = .ok (.iload_n 1, 1) := by decide +kernel
theorem dX12_behind_78 : decode cX12_behind 78 = .ok (.iaload, 1) := by decide +kernel
theorem dX12_behind_79 : decode cX12_behind 79 = .ok (.istore 5, 2) := by decide +kernel
theorem dX12_behind_81 : decode cX12_behind 81 = .ok (.iload_n 3, 1) := by decide +kernel
theorem dX12_behind_82 : decode cX12_behind 82 = .ok (.istore 6, 2) := by decide +kernel
theorem dX12_behind_84 : decode cX12_behind 84 = .ok (.iload 6, 2) := by decide +kernel
theorem dX12_behind_86 : decode cX12_behind 86 = .ok (.iload 4, 2) := by decide +kernel
theorem dX12_behind_88 : decode cX12_behind 88 = .ok (.if_icmp .ge 16, 3) := by decide +kernel
theorem dX12_behind_91 : decode cX12_behind 91 = .ok (.iload 5, 2) := by decide +kernel
theorem dX12_behind_93 : decode cX12_behind 93 = .ok (.bipush 10, 2) := by decide +kernel
theorem dX12_behind_95 : decode cX12_behind 95 = .ok (.idiv, 1) := by decide +kernel
theorem dX12_behind_96 : decode cX12_behind 96 = .ok (.istore 5, 2) := by decide +kernel
theorem dX12_behind_98 : decode cX12_behind 98 = .ok (.iinc 6 1, 3) := by decide +kernel
theorem dX12_behind_101 : decode cX12_behind 101 = .ok (.goto (-17), 3) := by decide +kernel
theorem dX12_behind_104 : decode cX12_behind 104 = .ok (.bipush 48, 2) := by decide +kernel
theorem dX12_behind_106 : decode cX12_behind 106 = .ok (.iload 5, 2) := by decide +kernel
theorem dX12_behind_108 : decode cX12_behind 108 = .ok (.bipush 10, 2) := by decide +kernel
theorem dX12_behind_110 : decode cX12_behind 110 = .ok (.irem, 1) := by decide +kernel
theorem dX12_behind_111 : decode cX12_behind 111 = .ok (.iadd, 1) := by decide +kernel
theorem dX12_behind_112 : decode cX12_behind 112 = .ok (.i2c, 1) := by decide +kernel
theorem dX12_behind_113 : decode cX12_behind 113 = .ok (.ireturn, 1) := by decide +kernel
theorem dX12_behind_114 : decode cX12_behind 114 = .ok (.iload_n 3, 1) := by decide +kernel
theorem dX12_behind_115 : decode cX12_behind 115 = .ok (.iload 4, 2) := by decide +kernel
theorem dX12_behind_117 : decode cX12_behind 117 = .ok (.iconst 1, 1) := by decide +kernel
theorem dX12_behind_118 : decode cX12_behind 118 = .ok (.iadd, 1) := by decide +kernel
theorem dX12_behind_119 : decode cX12_behind 119 = .ok (.isub, 1) := by decide +kernel
theorem dX12_behind_120 : decode cX12_behind 120 = .ok (.istore_n 3, 1) := by decide +kernel
theorem dX12_behind_121 : decode cX12_behind 121 = .ok (.aload_n 0, 1) := by decide +kernel
theorem dX12_behind_122 : decode cX12_behind 122 = .ok (.getfield 29, 3) := by decide +kernel
theorem dX12_behind_125 : decode cX12_behind 125 = .ok (.iload_n 1, 1) := by decide +kernel
theorem dX12_behind_126 : decode cX12_behind 126 = .ok (.iaload, 1) := by decide +kernel
theorem dX12_behind_127 : decode cX12_behind 127 = .ok (.bipush 99, 2) := by decide +kernel
theorem dX12_behind_129 : decode cX12_behind 129 = .ok (.if_icmp .le 7, 3) := by decide +kernel
theorem dX12_behind_132 : decode cX12_behind 132 = .ok (.iconst 3, 1) := by decide +kernel
theorem dX12_behind_133 : decode cX12_behind 133 = .ok (.goto 32, 3) := by decide +kernel
theorem dX12_behind_136 : decode cX12_behind 136 = .ok (.aload_n 0, 1) := by decide +kernel
theorem dX12_behind_137 : decode cX12_behind 137 = .ok (.getfield 29, 3) := by decide +kernel
theorem dX12_behind_140 : decode cX12_behind 140 = .ok (.iload_n 1, 1) := by decide +kernel
theorem dX12_behind_141 : decode cX12_behind 141 = .ok (.iaload, 1) := by decide +kernel
theorem dX12_behind_142 : decode cX12_behind 142 = .ok (.bipush 9, 2) := by decide +kernel
theorem dX12_behind_144 : decode cX12_behind 144 = .ok (.if_icmp .le 7, 3) := by decide +kernel
theorem dX12_behind_147 : decode cX12_behind 147 = .ok (.iconst 2, 1) := by decide +kernel
theorem dX12_behind_148 : decode cX12_behind 148 = .ok (.goto 17, 3) := by decide +kernel
theorem dX12_behind_151 : decode cX12_behind 151 = .ok (.aload_n 0, 1) := by decide +kernel
theorem dX12_behind_152 : decode cX12_behind 152 = .ok (.getfield 29, 3) := by decide +kernel
theorem dX12_behind_155 : decode cX12_behind 155 = .ok (.iload_n 1, 1) := by decide +kernel
theorem dX12_behind_156 : decode cX12_behind 156 = .ok (.iaload, 1) := by decide +kernel
theorem dX12_behind_157 : decode cX12_behind 157 = .ok (.ifCond .le 7, 3) := by decide +kernel
theorem dX12_behind_160 : decode cX12_behind 160 = .ok (.iconst 1, 1) := by decide +kernel
theorem dX12_behind_161 : decode cX12_behind 161 = .ok (.goto 4, 3) := by decide +kernel
theorem dX12_behind_164 : decode cX12_behind 164 = .ok (.iconst 0, 1) := by decide +kernel
theorem dX12_behind_165 : decode cX12_behind 165 = .ok (.istore 4, 2) := by decide +kernel
theorem dX12_behind_167 : decode cX12_behind 167 = .ok (.iload 4, 2) := by decide +kernel
theorem dX12_behind_169 : decode cX12_behind 169 = .ok (.ifCond .ne 15, 3) := by decide +kernel
theorem dX12_behind_172 : decode cX12_behind 172 = .ok (.iload_n 3, 1) := by decide +kernel
theorem dX12_behind_173 : decode cX12_behind 173 = .ok (.ifCond .ne 8, 3) := by decide +kernel
theorem dX12_behind_176 : decode cX12_behind 176 = .ok (.bipush 47, 2) := by decide +kernel
theorem dX12_behind_178 : decode cX12_behind 178 = .ok (.goto 5, 3) := by decide +kernel
theorem dX12_behind_181 : decode cX12_behind 181 = .ok (.bipush 32, 2) := by decide +kernel
theorem dX12_behind_183 : decode cX12_behind 183 = .ok (.ireturn, 1) := by decide +kernel
theorem dX12_behind_184 : decode cX12_behind 184 = .ok (.iload_n 3, 1) := by decide +kernel
theorem dX12_behind_185 : decode cX12_behind 185 = .ok (.iconst 2, 1) := by decide +kernel
theorem dX12_behind_186 : decode cX12_behind 186 = .ok (.iload 4, 2) := by decide +kernel
theorem dX12_behind_188 : decode cX12_behind 188 = .ok (.imul, 1) := by decide +kernel
theorem dX12_behind_189 : decode cX12_behind 189 = .ok (.if_icmp .lt 6, 3) := by decide +kernel
theorem dX12_behind_192 : decode cX12_behind 192 = .ok (.bipush 32, 2) := by decide +kernel
theorem dX12_behind_194 : decode cX12_behind 194 = .ok (.ireturn, 1) := by decide +kernel
theorem dX12_behind_195 : decode cX12_behind 195 = .ok (.aload_n 0, 1) := by decide +kernel
theorem dX12_behind_196 : decode cX12_behind 196 = .ok (.getfield 29, 3) := by decide +kernel
theorem dX12_behind_199 : decode cX12_behind 199 = .ok (.iload_n 1, 1) := by decide +kernel
theorem dX12_behind_200 : decode cX12_behind 200 = .ok (.iaload, 1) := by decide +kernel
theorem dX12_behind_201 : decode cX12_behind 201 = .ok (.istore 5, 2) := by decide +kernel
theorem dX12_behind_203 : decode cX12_behind 203 = .ok (.iload_n 3, 1) := by decide +kernel
theorem dX12_behind_204 : decode cX12_behind 204 = .ok (.iconst 2, 1) := by decide +kernel
theorem dX12_behind_205 : decode cX12_behind 205 = .ok (.idiv, 1) := by decide +kernel
theorem dX12_behind_206 : decode cX12_behind 206 = .ok (.iconst 1, 1) := by decide +kernel
theorem dX12_behind_207 : decode cX12_behind 207 = .ok (.iadd, 1) := by decide +kernel
theorem dX12_behind_208 : decode cX12_behind 208 = .ok (.istore 6, 2) := by decide +kernel
theorem dX12_behind_210 : decode cX12_behind 210 = .ok (.iload 6, 2) := by decide +kernel
theorem dX12_behind_212 : decode cX12_behind 212 = .ok (.iload 4, 2) := by decide +kernel
theorem dX12_behind_214 : decode cX12_behind 214 = .ok (.if_icmp .ge 16, 3) := by decide +kernel
theorem dX12_behind_217 : decode cX12_behind 217 = .ok (.iload 5, 2) := by decide +kernel
theorem dX12_behind_219 : decode cX12_behind 219 = .ok (.bipush 10, 2) := by decide +kernel
theorem dX12_behind_221 : decode cX12_behind 221 = .ok (.idiv, 1) := by decide +kernel
theorem dX12_behind_222 : decode cX12_behind 222 = .ok (.istore 5, 2) := by decide +kernel
theorem dX12_behind_224 : decode cX12_behind 224 = .ok (.iinc 6 1, 3) := by decide +kernel
theorem dX12_behind_227 : decode cX12_behind 227 = .ok (.goto (-17), 3) := by decide +kernel
theorem dX12_behind_230 : decode cX12_behind 230 = .ok (.iload_n 3, 1) := by decide +kernel
theorem dX12_behind_231 : decode cX12_behind 231 = .ok (.iconst 2, 1) := by decide +kernel
theorem dX12_behind_232 : decode cX12_behind 232 = .ok (.irem, 1) := by decide +kernel
theorem dX12_behind_233 : decode cX12_behind 233 = .ok (.ifCond .ne 8, 3) := by decide +kernel
theorem dX12_behind_236 : decode cX12_behind 236 = .ok (.bipush 47, 2) := by decide +kernel
theorem dX12_behind_238 : decode cX12_behind 238 = .ok (.goto 12, 3) := by decide +kernel
theorem dX12_behind_241 : decode cX12_behind 241 = .ok (.bipush 48, 2) := by decide +kernel
theorem dX12_behind_243 : decode cX12_behind 243 = .ok (.iload 5, 2) := by decide +kernel
theorem dX12_behind_245 : decode cX12_behind 245 = .ok (.bipush 10, 2) := by decide +kernel
theorem dX12_behind_247 : decode cX12_behind 247 = .ok (.irem, 1) := by decide +kernel
theorem dX12_behind_248 : decode cX12_behind 248 = .ok (.iadd, 1) := by decide +kernel
theorem dX12_behind_249 : decode cX12_behind 249 = .ok (.i2c, 1) := by decide +kernel
theorem dX12_behind_250 : decode cX12_behind 250 = .ok (.ireturn, 1) := by decide +kernel
theorem dX12_sign_0 : decode cX12_sign 0 = .ok (.iload_n 2, 1) := by decide +kernel
theorem dX12_sign_1 : decode cX12_sign 1 = .ok (.ifCond .ge 6, 3) := by decide +kernel
theorem dX12_sign_4 : decode cX12_sign 4 = .ok (.bipush 32, 2) := by decide +kernel
theorem dX12_sign_6 : decode cX12_sign 6 = .ok (.ireturn, 1) := by decide +kernel
theorem dX12_sign_7 : decode cX12_sign 7 = .ok (.aload_n 0, 1) := by decide +kernel
theorem dX12_sign_8 : decode cX12_sign 8 = .ok (.getfield 20, 3) := by decide +kernel
theorem dX12_sign_11 : decode cX12_sign 11 = .ok (.iload_n 1, 1) := by decide +kernel
theorem dX12_sign_12 : decode cX12_sign 12 = .ok (.iaload, 1) := by decide +kernel
theorem dX12_sign_13 : decode cX12_sign 13 = .ok (.iconst 1, 1) := by decide +kernel
theorem dX12_sign_14 : decode cX12_sign 14 = .ok (.if_icmp .ne 7, 3) := by decide +kernel
theorem dX12_sign_17 : decode cX12_sign 17 = .ok (.iconst 5, 1) := by decide +kernel
theorem dX12_sign_18 : decode cX12_sign 18 = .ok (.goto 4, 3) := by decide +kernel
theorem dX12_sign_21 : decode cX12_sign 21 = .ok (.iconst 4, 1) := by decide +kernel
theorem dX12_sign_22 : decode cX12_sign 22 = .ok (.istore_n 3, 1) := by decide +kernel
theorem dX12_sign_23 : decode cX12_sign 23 = .ok (.iload_n 2, 1) := by decide +kernel
theorem dX12_sign_24 : decode cX12_sign 24 = .ok (.iconst 4, 1) := by decide +kernel
theorem dX12_sign_25 : decode cX12_sign 25 = .ok (.if_icmp .ge 25, 3) := by decide +kernel
theorem dX12_sign_28 : decode cX12_sign 28 = .ok (.iload_n 2, 1) := by decide +kernel
theorem dX12_sign_29 : decode cX12_sign 29 = .ok (.ifCond .ne 8, 3) := by decide +kernel
theorem dX12_sign_32 : decode cX12_sign 32 = .ok (.bipush 104, 2) := by decide +kernel
theorem dX12_sign_34 : decode cX12_sign 34 = .ok (.goto 15, 3) := by decide +kernel
theorem dX12_sign_37 : decode cX12_sign 37 = .ok (.iload_n 2, 1) := by decide +kernel
theorem dX12_sign_38 : decode cX12_sign 38 = .ok (.iconst 3, 1) := by decide +kernel
theorem dX12_sign_39 : decode cX12_sign 39 = .ok (.if_icmp .ne 8, 3) := by decide +kernel
theorem dX12_sign_42 : decode cX12_sign 42 = .ok (.bipush 112, 2) := by decide +kernel
theorem dX12_sign_44 : decode cX12_sign 44 = .ok (.goto 5, 3) := by decide +kernel
theorem dX12_sign_47 : decode cX12_sign 47 = .ok (.bipush 116, 2) := by decide +kernel
theorem dX12_sign_49 : decode cX12_sign 49 = .ok (.ireturn, 1) := by decide +kernel
theorem dX12_sign_50 : decode cX12_sign 50 = .ok (.iload_n 2, 1) := by decide +kernel
theorem dX12_sign_51 : decode cX12_sign 51 = .ok (.iload_n 3, 1) := by decide +kernel
theorem dX12_sign_52 : decode cX12_sign 52 = .ok (.if_icmp .ge 6, 3) := by decide +kernel
theorem dX12_sign_55 : decode cX12_sign 55 = .ok (.bipush 115, 2) := by decide +kernel
theorem dX12_sign_57 : decode cX12_sign 57 = .ok (.ireturn, 1) := by decide +kernel
theorem dX12_sign_58 : decode cX12_sign 58 = .ok (.iload_n 2, 1) := by decide +kernel
theorem dX12_sign_59 : decode cX12_sign 59 = .ok (.iload_n 3, 1) := by decide +kernel
theorem dX12_sign_60 : decode cX12_sign 60 = .ok (.iconst 3, 1) := by decide +kernel
theorem dX12_sign_61 : decode cX12_sign 61 = .ok (.iadd, 1) := by decide +kernel
theorem dX12_sign_62 : decode cX12_sign 62 = .ok (.if_icmp .ge 16, 3) := by decide +kernel
theorem dX12_sign_65 : decode cX12_sign 65 = .ok (.iload_n 2, 1) := by decide +kernel
theorem dX12_sign_66 : decode cX12_sign 66 = .ok (.iload_n 3, 1) := by decide +kernel
theorem dX12_sign_67 : decode cX12_sign 67 = .ok (.if_icmp .ne 8, 3) := by decide +kernel
theorem dX12_sign_70 : decode cX12_sign 70 = .ok (.bipush 58, 2) := by decide +kernel
theorem dX12_sign_72 : decode cX12_sign 72 = .ok (.goto 5, 3) := by decide +kernel
theorem dX12_sign_75 : decode cX12_sign 75 = .ok (.bipush 47, 2) := by decide +kernel
theorem dX12_sign_77 : decode cX12_sign 77 = .ok (.ireturn, 1) := by decide +kernel
theorem dX12_sign_78 : decode cX12_sign 78 = .ok (.iload_n 2, 1) := by decide +kernel
theorem dX12_sign_79 : decode cX12_sign 79 = .ok (.iload_n 3, 1) := by decide +kernel
theorem dX12_sign_80 : decode cX12_sign 80 = .ok (.isub, 1) := by decide +kernel
theorem dX12_sign_81 : decode cX12_sign 81 = .ok (.iconst 3, 1) := by decide +kernel
theorem dX12_sign_82 : decode cX12_sign 82 = .ok (.isub, 1) := by decide +kernel
theorem dX12_sign_83 : decode cX12_sign 83 = .ok (.istore 4, 2) := by decide +kernel
theorem dX12_sign_85 : decode cX12_sign 85 = .ok (.aload_n 0, 1) := by decide +kernel
theorem dX12_sign_86 : decode cX12_sign 86 = .ok (.getfield 23, 3) := by decide +kernel
theorem dX12_sign_89 : decode cX12_sign 89 = .ok (.iload_n 1, 1) := by decide +kernel
theorem dX12_sign_90 : decode cX12_sign 90 = .ok (.iaload, 1) := by decide +kernel
theorem dX12_sign_91 : decode cX12_sign 91 = .ok (.istore 5, 2) := by decide +kernel
theorem dX12_sign_93 : decode cX12_sign 93 = .ok (.iload 5, 2) := by decide +kernel
theorem dX12_sign_95 : decode cX12_sign 95 = .ok (.iconst (-1), 1) := by decide +kernel
theorem dX12_sign_96 : decode cX12_sign 96 = .ok (.if_icmp .eq 62, 3) := by decide +kernel
theorem dX12_sign_99 : decode cX12_sign 99 = .ok (.iload 4, 2) := by decide +kernel
theorem dX12_sign_101 : decode cX12_sign 101 = .ok (.aload_n 0, 1) := by decide +kernel
theorem dX12_sign_102 : decode cX12_sign 102 = .ok (.getfield 13, 3) := by decide +kernel
theorem dX12_sign_105 : decode cX12_sign 105 = .ok (.iload 5, 2) := by decide +kernel
theorem dX12_sign_107 : decode cX12_sign 107 = .ok (.iaload, 1) := by decide +kernel
theorem dX12_sign_108 : decode cX12_sign 108 = .ok (.invokestatic 212, 3) := by decide +kernel
theorem dX12_sign_111 : decode cX12_sign 111 = .ok (.if_icmp .lt 47, 3) := by decide +kernel
theorem dX12_sign_114 : decode cX12_sign 114 = .ok (.iload 4, 2) := by decide +kernel
theorem dX12_sign_116 : decode cX12_sign 116 = .ok (.aload_n 0, 1) := by decide +kernel
theorem dX12_sign_117 : decode cX12_sign 117 = .ok (.getfield 13, 3) := by decide +kernel
theorem dX12_sign_120 : decode cX12_sign 120 = .ok (.iload 5, 2) := by decide +kernel
theorem dX12_sign_122 : decode cX12_sign 122 = .ok (.iaload, 1) := by decide +kernel
theorem dX12_sign_123 : decode cX12_sign 123 = .ok (.invokestatic 212, 3) := by decide +kernel
theorem dX12_sign_126 : decode cX12_sign 126 = .ok (.isub, 1) := by decide +kernel
theorem dX12_sign_127 : decode cX12_sign 127 = .ok (.istore 4, 2) := by decide +kernel
theorem dX12_sign_129 : decode cX12_sign 129 = .ok (.aload_n 0, 1) := by decide +kernel
theorem dX12_sign_130 : decode cX12_sign 130 = .ok (.getfield 7, 3) := by decide +kernel
theorem dX12_sign_133 : decode cX12_sign 133 = .ok (.iload 5, 2) := by decide +kernel
theorem dX12_sign_135 : decode cX12_sign 135 = .ok (.iaload, 1) := by decide +kernel
theorem dX12_sign_136 : decode cX12_sign 136 = .ok (.istore 5, 2) := by decide +kernel
theorem dX12_sign_138 : decode cX12_sign 138 = .ok (.iload 5, 2) := by decide +kernel
theorem dX12_sign_140 : decode cX12_sign 140 = .ok (.iconst (-1), 1) := by decide +kernel
theorem dX12_sign_141 : decode cX12_sign 141 = .ok (.if_icmp .eq (-48), 3) := by decide +kernel
theorem dX12_sign_144 : decode cX12_sign 144 = .ok (.iload 4, 2) := by decide +kernel
theorem dX12_sign_146 : decode cX12_sign 146 = .ok (.ifCond .ne 6, 3) := by decide +kernel
theorem dX12_sign_149 : decode cX12_sign 149 = .ok (.bipush 46, 2) := by decide +kernel
theorem dX12_sign_151 : decode cX12_sign 151 = .ok (.ireturn, 1) := by decide +kernel
theorem dX12_sign_152 : decode cX12_sign 152 = .ok (.iinc 4 (-1), 3) := by decide +kernel
theorem dX12_sign_155 : decode cX12_sign 155 = .ok (.goto (-62), 3) := by decide +kernel
theorem dX12_sign_158 : decode cX12_sign 158 = .ok (.iload 5, 2) := by decide +kernel
theorem dX12_sign_160 : decode cX12_sign 160 = .ok (.iconst (-1), 1) := by decide +kernel
theorem dX12_sign_161 : decode cX12_sign 161 = .ok (.if_icmp .eq 18, 3) := by decide +kernel
theorem dX12_sign_164 : decode cX12_sign 164 = .ok (.aload_n 0, 1) := by decide +kernel
theorem dX12_sign_165 : decode cX12_sign 165 = .ok (.getfield 13, 3) := by decide +kernel
theorem dX12_sign_168 : decode cX12_sign 168 = .ok (.iload 5, 2) := by decide +kernel
theorem dX12_sign_170 : decode cX12_sign 170 = .ok (.iaload, 1) := by decide +kernel
theorem dX12_sign_171 : decode cX12_sign 171 = .ok (.iload 4, 2) := by decide +kernel
theorem dX12_sign_173 : decode cX12_sign 173 = .ok (.invokestatic 215, 3) := by decide +kernel
theorem dX12_sign_176 : decode cX12_sign 176 = .ok (.goto 10, 3) := by decide +kernel
theorem dX12_sign_179 : decode cX12_sign 179 = .ok (.aload_n 0, 1) := by decide +kernel
theorem dX12_sign_180 : decode cX12_sign 180 = .ok (.iload_n 1, 1) := by decide +kernel
theorem dX12_sign_181 : decode cX12_sign 181 = .ok (.iload 4, 2) := by decide +kernel
theorem dX12_sign_183 : decode cX12_sign 183 = .ok (.invokevirtual 219, 3) := by decide +kernel
theorem dX12_sign_186 : decode cX12_sign 186 = .ok (.ireturn, 1) := by decide +kernel
theorem dX12_text_0 : decode cX12_text 0 = .ok (.aload_n 0, 1) := by decide +kernel
theorem dX12_text_1 : decode cX12_text 1 = .ok (.iload_n 1, 1) := by decide +kernel
theorem dX12_text_2 : decode cX12_text 2 = .ok (.invokevirtual 203, 3) := by decide +kernel
theorem dX12_text_5 : decode cX12_text 5 = .ok (.ifCond .eq 18, 3) := by decide +kernel
theorem dX12_text_8 : decode cX12_text 8 = .ok (.aload_n 0, 1) := by decide +kernel
theorem dX12_text_9 : decode cX12_text 9 = .ok (.iload_n 1, 1) := by decide +kernel
theorem dX12_text_10 : decode cX12_text 10 = .ok (.iload_n 2, 1) := by decide +kernel
theorem dX12_text_11 : decode cX12_text 11 = .ok (.invokevirtual 222, 3) := by decide +kernel
theorem dX12_text_14 : decode cX12_text 14 = .ok (.bipush 32, 2) := by decide +kernel
theorem dX12_text_16 : decode cX12_text 16 = .ok (.if_icmp .eq 7, 3) := by decide +kernel
theorem dX12_text_19 : decode cX12_text 19 = .ok (.iconst 1, 1) := by decide +kernel
theorem dX12_text_20 : decode cX12_text 20 = .ok (.goto 4, 3) := by decide +kernel
theorem dX12_text_23 : decode cX12_text 23 = .ok (.iconst 0, 1) := by decide +kernel
theorem dX12_text_24 : decode cX12_text 24 = .ok (.istore_n 3, 1) := by decide +kernel
theorem dX12_text_25 : decode cX12_text 25 = .ok (.aload_n 0, 1) := by decide +kernel
theorem dX12_text_26 : decode cX12_text 26 = .ok (.iload_n 3, 1) := by decide +kernel
theorem dX12_text_27 : decode cX12_text 27 = .ok (.ifCond .eq 7, 3) := by decide +kernel
theorem dX12_text_30 : decode cX12_text 30 = .ok (.iconst 0, 1) := by decide +kernel
theorem dX12_text_31 : decode cX12_text 31 = .ok (.goto 4, 3) := by decide +kernel
theorem dX12_text_34 : decode cX12_text 34 = .ok (.iconst 1, 1) := by decide +kernel
theorem dX12_text_35 : decode cX12_text 35 = .ok (.invokevirtual 187, 3) := by decide +kernel
theorem dX12_text_38 : decode cX12_text 38 = .ok (.ifCond .eq 8, 3) := by decide +kernel
theorem dX12_text_41 : decode cX12_text 41 = .ok (.bipush 32, 2) := by decide +kernel
theorem dX12_text_43 : decode cX12_text 43 = .ok (.goto 9, 3) := by decide +kernel
theorem dX12_text_46 : decode cX12_text 46 = .ok (.aload_n 0, 1) := by decide +kernel
theorem dX12_text_47 : decode cX12_text 47 = .ok (.iload_n 1, 1) := by decide +kernel
theorem dX12_text_48 : decode cX12_text 48 = .ok (.iload_n 2, 1) := by decide +kernel
theorem dX12_text_49 : decode cX12_text 49 = .ok (.invokevirtual 222, 3) := by decide +kernel
theorem dX12_text_52 : decode cX12_text 52 = .ok (.ireturn, 1) := by decide +kernel
theorem dX12_redirect_0 : decode cX12_redirect 0 = .ok (.aload_n 0, 1) := by decide +kernel
theorem dX12_redirect_1 : decode cX12_redirect 1 = .ok (.iload_n 1, 1) := by decide +kernel
theorem dX12_redirect_2 : decode cX12_redirect 2 = .ok (.invokevirtual 203, 3) := by decide +kernel
theorem dX12_redirect_5 : decode cX12_redirect 5 = .ok (.ifCond .eq 20, 3) := by decide +kernel
theorem dX12_redirect_8 : decode cX12_redirect 8 = .ok (.iload_n 2, 1) := by decide +kernel
theorem dX12_redirect_9 : decode cX12_redirect 9 = .ok (.iconst (-1), 1) := by decide +kernel
theorem dX12_redirect_10 : decode cX12_redirect 10 = .ok (.if_icmp .eq 11, 3) := by decide +kernel
theorem dX12_redirect_13 : decode cX12_redirect 13 = .ok (.aload_n 0, 1) := by decide +kernel
theorem dX12_redirect_14 : decode cX12_redirect 14 = .ok (.iload_n 2, 1) := by decide +kernel
theorem dX12_redirect_15 : decode cX12_redirect 15 = .ok (.invokevirtual 203, 3) := by decide +kernel
theorem dX12_redirect_18 : decode cX12_redirect 18 = .ok (.ifCond .eq 7, 3) := by decide +kernel
theorem dX12_redirect_21 : decode cX12_redirect 21 = .ok (.iconst 1, 1) := by decide +kernel
theorem dX12_redirect_22 : decode cX12_redirect 22 = .ok (.goto 4, 3) := by decide +kernel
theorem dX12_redirect_25 : decode cX12_redirect 25 = .ok (.iconst 0, 1) := by decide +kernel
theorem dX12_redirect_26 : decode cX12_redirect 26 = .ok (.istore 4, 2) := by decide +kernel
theorem dX12_redirect_28 : decode cX12_redirect 28 = .ok (.aload_n 0, 1) := by decide +kernel
theorem dX12_redirect_29 : decode cX12_redirect 29 = .ok (.iload 4, 2) := by decide +kernel
theorem dX12_redirect_31 : decode cX12_redirect 31 = .ok (.ifCond .ne 7, 3) := by decide +kernel
theorem dX12_redirect_34 : decode cX12_redirect 34 = .ok (.iconst 1, 1) := by decide +kernel
theorem dX12_redirect_35 : decode cX12_redirect 35 = .ok (.goto 17, 3) := by decide +kernel
theorem dX12_redirect_38 : decode cX12_redirect 38 = .ok (.iload_n 3, 1) := by decide +kernel
theorem dX12_redirect_39 : decode cX12_redirect 39 = .ok (.iconst 0, 1) := by decide +kernel
theorem dX12_redirect_40 : decode cX12_redirect 40 = .ok (.iconst 4, 1) := by decide +kernel
theorem dX12_redirect_41 : decode cX12_redirect 41 = .ok (.invokestatic 168, 3) := by decide +kernel
theorem dX12_redirect_44 : decode cX12_redirect 44 = .ok (.ifCond .eq 7, 3) := by decide +kernel
theorem dX12_redirect_47 : decode cX12_redirect 47 = .ok (.iconst 0, 1) := by decide +kernel
theorem dX12_redirect_48 : decode cX12_redirect 48 = .ok (.goto 4, 3) := by decide +kernel
theorem dX12_redirect_51 : decode cX12_redirect 51 = .ok (.iconst 2, 1) := by decide +kernel
theorem dX12_redirect_52 : decode cX12_redirect 52 = .ok (.invokevirtual 187, 3) := by decide +kernel
theorem dX12_redirect_55 : decode cX12_redirect 55 = .ok (.ifCond .ne 17, 3) := by decide +kernel
theorem dX12_redirect_58 : decode cX12_redirect 58 = .ok (.aload_n 0, 1) := by decide +kernel
theorem dX12_redirect_59 : decode cX12_redirect 59 = .ok (.getfield 32, 3) := by decide +kernel
theorem dX12_redirect_62 : decode cX12_redirect 62 = .ok (.iload_n 1, 1) := by decide +kernel
theorem dX12_redirect_63 : decode cX12_redirect 63 = .ok (.iload_n 2, 1) := by decide +kernel
theorem dX12_redirect_64 : decode cX12_redirect 64 = .ok (.iastore, 1) := by decide +kernel
theorem dX12_redirect_65 : decode cX12_redirect 65 = .ok (.aload_n 0, 1) := by decide +kernel
theorem dX12_redirect_66 : decode cX12_redirect 66 = .ok (.getfield 35, 3) := by decide +kernel
theorem dX12_redirect_69 : decode cX12_redirect 69 = .ok (.iload_n 1, 1) := by decide +kernel
theorem dX12_redirect_70 : decode cX12_redirect 70 = .ok (.iload_n 3, 1) := by decide +kernel
theorem dX12_redirect_71 : decode cX12_redirect 71 = .ok (.iastore, 1) := by decide +kernel
theorem dX12_redirect_72 : decode cX12_redirect 72 = .ok (.return_, 1) := by decide +kernel
theorem dX12_allow_0 : decode cX12_allow 0 = .ok (.aload_n 0, 1) := by decide +kernel
theorem dX12_allow_1 : decode cX12_allow 1 = .ok (.iload_n 1, 1) := by decide +kernel
theorem dX12_allow_2 : decode cX12_allow 2 = .ok (.invokevirtual 203, 3) := by decide +kernel
theorem dX12_allow_5 : decode cX12_allow 5 = .ok (.ifCond .eq 25, 3) := by decide +kernel
theorem dX12_allow_8 : decode cX12_allow 8 = .ok (.iload_n 2, 1) := by decide +kernel
theorem dX12_allow_9 : decode cX12_allow 9 = .ok (.bipush (-3), 2) := by decide +kernel
theorem dX12_allow_11 : decode cX12_allow 11 = .ok (.iconst (-1), 1) := by decide +kernel
theorem dX12_allow_12 : decode cX12_allow 12 = .ok (.invokestatic 168, 3) := by decide +kernel
theorem dX12_allow_15 : decode cX12_allow 15 = .ok (.ifCond .ne 11, 3) := by decide +kernel
theorem dX12_allow_18 : decode cX12_allow 18 = .ok (.aload_n 0, 1) := by decide +kernel
theorem dX12_allow_19 : decode cX12_allow 19 = .ok (.iload_n 2, 1) := by decide +kernel
theorem dX12_allow_20 : decode cX12_allow 20 = .ok (.invokevirtual 203, 3) := by decide +kernel
theorem dX12_allow_23 : decode cX12_allow 23 = .ok (.ifCond .eq 7, 3) := by decide +kernel
theorem dX12_allow_26 : decode cX12_allow 26 = .ok (.iconst 1, 1) := by decide +kernel
theorem dX12_allow_27 : decode cX12_allow 27 = .ok (.goto 4, 3) := by decide +kernel
theorem dX12_allow_30 : decode cX12_allow 30 = .ok (.iconst 0, 1) := by decide +kernel
theorem dX12_allow_31 : decode cX12_allow 31 = .ok (.istore 6, 2) := by decide +kernel
theorem dX12_allow_33 : decode cX12_allow 33 = .ok (.aload_n 0, 1) := by decide +kernel
theorem dX12_allow_34 : decode cX12_allow 34 = .ok (.iload 6, 2) := by decide +kernel
theorem dX12_allow_36 : decode cX12_allow 36 = .ok (.ifCond .ne 7, 3) := by decide +kernel
theorem dX12_allow_39 : decode cX12_allow 39 = .ok (.iconst 1, 1) := by decide +kernel
theorem dX12_allow_40 : decode cX12_allow 40 = .ok (.goto 30, 3) := by decide +kernel
theorem dX12_allow_43 : decode cX12_allow 43 = .ok (.iload 4, 2) := by decide +kernel
theorem dX12_allow_45 : decode cX12_allow 45 = .ok (.iconst 0, 1) := by decide +kernel
theorem dX12_allow_46 : decode cX12_allow 46 = .ok (.iconst 3, 1) := by decide +kernel
theorem dX12_allow_47 : decode cX12_allow 47 = .ok (.invokestatic 168, 3) := by decide +kernel
theorem dX12_allow_50 : decode cX12_allow 50 = .ok (.ifCond .eq 19, 3) := by decide +kernel
theorem dX12_allow_53 : decode cX12_allow 53 = .ok (.iload 5, 2) := by decide +kernel
theorem dX12_allow_55 : decode cX12_allow 55 = .ok (.iconst 0, 1) := by decide +kernel
theorem dX12_allow_56 : decode cX12_allow 56 = .ok (.sipush 1000, 3) := by decide +kernel
theorem dX12_allow_59 : decode cX12_allow 59 = .ok (.invokestatic 168, 3) := by decide +kernel
theorem dX12_allow_62 : decode cX12_allow 62 = .ok (.ifCond .eq 7, 3) := by decide +kernel
theorem dX12_allow_65 : decode cX12_allow 65 = .ok (.iconst 0, 1) := by decide +kernel
theorem dX12_allow_66 : decode cX12_allow 66 = .ok (.goto 4, 3) := by decide +kernel
theorem dX12_allow_69 : decode cX12_allow 69 = .ok (.iconst 2, 1) := by decide +kernel
theorem dX12_allow_70 : decode cX12_allow 70 = .ok (.invokevirtual 187, 3) := by decide +kernel
theorem dX12_allow_73 : decode cX12_allow 73 = .ok (.ifCond .ne 33, 3) := by decide +kernel
theorem dX12_allow_76 : decode cX12_allow 76 = .ok (.aload_n 0, 1) := by decide +kernel
theorem dX12_allow_77 : decode cX12_allow 77 = .ok (.getfield 38, 3) := by decide +kernel
theorem dX12_allow_80 : decode cX12_allow 80 = .ok (.iload_n 1, 1) := by decide +kernel
theorem dX12_allow_81 : decode cX12_allow 81 = .ok (.iload_n 2, 1) := by decide +kernel
theorem dX12_allow_82 : decode cX12_allow 82 = .ok (.iastore, 1) := by decide +kernel
theorem dX12_allow_83 : decode cX12_allow 83 = .ok (.aload_n 0, 1) := by decide +kernel
theorem dX12_allow_84 : decode cX12_allow 84 = .ok (.getfield 41, 3) := by decide +kernel
theorem dX12_allow_87 : decode cX12_allow 87 = .ok (.iload_n 1, 1) := by decide +kernel
theorem dX12_allow_88 : decode cX12_allow 88 = .ok (.iload_n 3, 1) := by decide +kernel
theorem dX12_allow_89 : decode cX12_allow 89 = .ok (.bastore, 1) := by decide +kernel
theorem dX12_allow_90 : decode cX12_allow 90 = .ok (.aload_n 0, 1) := by decide +kernel
theorem dX12_allow_91 : decode cX12_allow 91 = .ok (.getfield 44, 3) := by decide +kernel
theorem dX12_allow_94 : decode cX12_allow 94 = .ok (.iload_n 1, 1) := by decide +kernel
theorem dX12_allow_95 : decode cX12_allow 95 = .ok (.iload 4, 2) := by decide +kernel
theorem dX12_allow_97 : decode cX12_allow 97 = .ok (.iastore, 1) := by decide +kernel
theorem dX12_allow_98 : decode cX12_allow 98 = .ok (.aload_n 0, 1) := by decide +kernel
theorem dX12_allow_99 : decode cX12_allow 99 = .ok (.getfield 47, 3) := by decide +kernel
theorem dX12_allow_102 : decode cX12_allow 102 = .ok (.iload_n 1, 1) := by decide +kernel
theorem dX12_allow_103 : decode cX12_allow 103 = .ok (.iload 5, 2) := by decide +kernel
theorem dX12_allow_105 : decode cX12_allow 105 = .ok (.iastore, 1) := by decide +kernel
theorem dX12_allow_106 : decode cX12_allow 106 = .ok (.return_, 1) := by decide +kernel
theorem dX12_setsCookie_0 : decode cX12_setsCookie 0 = .ok (.aload_n 0, 1) := by decide +kernel
theorem dX12_setsCookie_1 : decode cX12_setsCookie 1 = .ok (.iload_n 1, 1) := by decide +kernel
theorem dX12_setsCookie_2 : decode cX12_setsCookie 2 = .ok (.invokevirtual 203, 3) := by decide +kernel
theorem dX12_setsCookie_5 : decode cX12_setsCookie 5 = .ok (.ifCond .eq 22, 3) := by decide +kernel
theorem dX12_setsCookie_8 : decode cX12_setsCookie 8 = .ok (.iload 4, 2) := by decide +kernel
theorem dX12_setsCookie_10 : decode cX12_setsCookie 10 = .ok (.iconst (-1), 1) := by decide +kernel
theorem dX12_setsCookie_11 : decode cX12_setsCookie 11 = .ok (.if_icmp .eq 12, 3) := by decide +kernel
theorem dX12_setsCookie_14 : decode cX12_setsCookie 14 = .ok (.aload_n 0, 1) := by decide +kernel
theorem dX12_setsCookie_15 : decode cX12_setsCookie 15 = .ok (.iload 4, 2) := by decide +kernel
theorem dX12_setsCookie_17 : decode cX12_setsCookie 17 = .ok (.invokevirtual 175, 3) := by decide +kernel
theorem dX12_setsCookie_20 : decode cX12_setsCookie 20 = .ok (.ifCond .eq 7, 3) := by decide +kernel
theorem dX12_setsCookie_23 : decode cX12_setsCookie 23 = .ok (.iconst 1, 1) := by decide +kernel
theorem dX12_setsCookie_24 : decode cX12_setsCookie 24 = .ok (.goto 4, 3) := by decide +kernel
theorem dX12_setsCookie_27 : decode cX12_setsCookie 27 = .ok (.iconst 0, 1) := by decide +kernel
theorem dX12_setsCookie_28 : decode cX12_setsCookie 28 = .ok (.istore 8, 2) := by decide +kernel
theorem dX12_setsCookie_30 : decode cX12_setsCookie 30 = .ok (.iload_n 2, 1) := by decide +kernel
theorem dX12_setsCookie_31 : decode cX12_setsCookie 31 = .ok (.iconst 0, 1) := by decide +kernel
theorem dX12_setsCookie_32 : decode cX12_setsCookie 32 = .ok (.bipush 9, 2) := by decide +kernel
theorem dX12_setsCookie_34 : decode cX12_setsCookie 34 = .ok (.invokestatic 168, 3) := by decide +kernel
theorem dX12_setsCookie_37 : decode cX12_setsCookie 37 = .ok (.ifCond .eq 49, 3) := by decide +kernel
theorem dX12_setsCookie_40 : decode cX12_setsCookie 40 = .ok (.iload_n 3, 1) := by decide +kernel
theorem dX12_setsCookie_41 : decode cX12_setsCookie 41 = .ok (.iconst (-1), 1) := by decide +kernel
theorem dX12_setsCookie_42 : decode cX12_setsCookie 42 = .ok (.sipush 999, 3) := by decide +kernel
theorem dX12_setsCookie_45 : decode cX12_setsCookie 45 = .ok (.invokestatic 168, 3) := by decide +kernel
theorem dX12_setsCookie_48 : decode cX12_setsCookie 48 = .ok (.ifCond .eq 38, 3) := by decide +kernel
theorem dX12_setsCookie_51 : decode cX12_setsCookie 51 = .ok (.iload 5, 2) := by decide +kernel
theorem dX12_setsCookie_53 : decode cX12_setsCookie 53 = .ok (.invokestatic 197, 3) := by decide +kernel
theorem dX12_setsCookie_56 : decode cX12_setsCookie 56 = .ok (.ifCond .eq 30, 3) := by decide +kernel
theorem dX12_setsCookie_59 : decode cX12_setsCookie 59 = .ok (.iload 6, 2) := by decide +kernel
theorem dX12_setsCookie_61 : decode cX12_setsCookie 61 = .ok (.iconst 0, 1) := by decide +kernel
theorem dX12_setsCookie_62 : decode cX12_setsCookie 62 = .ok (.bipush 63, 2) := by decide +kernel
theorem dX12_setsCookie_64 : decode cX12_setsCookie 64 = .ok (.invokestatic 168, 3) := by decide +kernel
theorem dX12_setsCookie_67 : decode cX12_setsCookie 67 = .ok (.ifCond .eq 19, 3) := by decide +kernel
theorem dX12_setsCookie_70 : decode cX12_setsCookie 70 = .ok (.iload 7, 2) := by decide +kernel
theorem dX12_setsCookie_72 : decode cX12_setsCookie 72 = .ok (.iconst (-1), 1) := by decide +kernel
theorem dX12_setsCookie_73 : decode cX12_setsCookie 73 = .ok (.sipush 1000, 3) := by decide +kernel
theorem dX12_setsCookie_76 : decode cX12_setsCookie 76 = .ok (.invokestatic 168, 3) := by decide +kernel
theorem dX12_setsCookie_79 : decode cX12_setsCookie 79 = .ok (.ifCond .eq 7, 3) := by decide +kernel
theorem dX12_setsCookie_82 : decode cX12_setsCookie 82 = .ok (.iconst 1, 1) := by decide +kernel
theorem dX12_setsCookie_83 : decode cX12_setsCookie 83 = .ok (.goto 4, 3) := by decide +kernel
theorem dX12_setsCookie_86 : decode cX12_setsCookie 86 = .ok (.iconst 0, 1) := by decide +kernel
theorem dX12_setsCookie_87 : decode cX12_setsCookie 87 = .ok (.istore 9, 2) := by decide +kernel
theorem dX12_setsCookie_89 : decode cX12_setsCookie 89 = .ok (.aload_n 0, 1) := by decide +kernel
theorem dX12_setsCookie_90 : decode cX12_setsCookie 90 = .ok (.iload 8, 2) := by decide +kernel
theorem dX12_setsCookie_92 : decode cX12_setsCookie 92 = .ok (.ifCond .ne 7, 3) := by decide +kernel
theorem dX12_setsCookie_95 : decode cX12_setsCookie 95 = .ok (.iconst 1, 1) := by decide +kernel
theorem dX12_setsCookie_96 : decode cX12_setsCookie 96 = .ok (.goto 13, 3) := by decide +kernel
theorem dX12_setsCookie_99 : decode cX12_setsCookie 99 = .ok (.iload 9, 2) := by decide +kernel
theorem dX12_setsCookie_101 : decode cX12_setsCookie 101 = .ok (.ifCond .eq 7, 3) := by decide +kernel
theorem dX12_setsCookie_104 : decode cX12_setsCookie 104 = .ok (.iconst 0, 1) := by decide +kernel
theorem dX12_setsCookie_105 : decode cX12_setsCookie 105 = .ok (.goto 4, 3) := by decide +kernel
theorem dX12_setsCookie_108 : decode cX12_setsCookie 108 = .ok (.iconst 2, 1) := by decide +kernel
theorem dX12_setsCookie_109 : decode cX12_setsCookie 109 = .ok (.invokevirtual 187, 3) := by decide +kernel
theorem dX12_setsCookie_112 : decode cX12_setsCookie 112 = .ok (.ifCond .ne 49, 3) := by decide +kernel
theorem dX12_setsCookie_115 : decode cX12_setsCookie 115 = .ok (.aload_n 0, 1) := by decide +kernel
theorem dX12_setsCookie_116 : decode cX12_setsCookie 116 = .ok (.getfield 50, 3) := by decide +kernel
theorem dX12_setsCookie_119 : decode cX12_setsCookie 119 = .ok (.iload_n 1, 1) := by decide +kernel
theorem dX12_setsCookie_120 : decode cX12_setsCookie 120 = .ok (.iload_n 2, 1) := by decide +kernel
theorem dX12_setsCookie_121 : decode cX12_setsCookie 121 = .ok (.iastore, 1) := by decide +kernel
theorem dX12_setsCookie_122 : decode cX12_setsCookie 122 = .ok (.aload_n 0, 1) := by decide +kernel
theorem dX12_setsCookie_123 : decode cX12_setsCookie 123 = .ok (.getfield 53, 3) := by decide +kernel
theorem dX12_setsCookie_126 : decode cX12_setsCookie 126 = .ok (.iload_n 1, 1) := by decide +kernel
theorem dX12_setsCookie_127 : decode cX12_setsCookie 127 = .ok (.iload_n 3, 1) := by decide +kernel
theorem dX12_setsCookie_128 : decode cX12_setsCookie 128 = .ok (.iastore, 1) := by decide +kernel
theorem dX12_setsCookie_129 : decode cX12_setsCookie 129 = .ok (.aload_n 0, 1) := by decide +kernel
theorem dX12_setsCookie_130 : decode cX12_setsCookie 130 = .ok (.getfield 56, 3) := by decide +kernel
theorem dX12_setsCookie_133 : decode cX12_setsCookie 133 = .ok (.iload_n 1, 1) := by decide +kernel
theorem dX12_setsCookie_134 : decode cX12_setsCookie 134 = .ok (.iload 4, 2) := by decide +kernel
theorem dX12_setsCookie_136 : decode cX12_setsCookie 136 = .ok (.iastore, 1) := by decide +kernel
theorem dX12_setsCookie_137 : decode cX12_setsCookie 137 = .ok (.aload_n 0, 1) := by decide +kernel
theorem dX12_setsCookie_138 : decode cX12_setsCookie 138 = .ok (.getfield 59, 3) := by decide +kernel
theorem dX12_setsCookie_141 : decode cX12_setsCookie 141 = .ok (.iload_n 1, 1) := by decide +kernel
theorem dX12_setsCookie_142 : decode cX12_setsCookie 142 = .ok (.iload 5, 2) := by decide +kernel
theorem dX12_setsCookie_144 : decode cX12_setsCookie 144 = .ok (.iastore, 1) := by decide +kernel
theorem dX12_setsCookie_145 : decode cX12_setsCookie 145 = .ok (.aload_n 0, 1) := by decide +kernel
theorem dX12_setsCookie_146 : decode cX12_setsCookie 146 = .ok (.getfield 62, 3) := by decide +kernel
theorem dX12_setsCookie_149 : decode cX12_setsCookie 149 = .ok (.iload_n 1, 1) := by decide +kernel
theorem dX12_setsCookie_150 : decode cX12_setsCookie 150 = .ok (.iload 6, 2) := by decide +kernel
theorem dX12_setsCookie_152 : decode cX12_setsCookie 152 = .ok (.iastore, 1) := by decide +kernel
theorem dX12_setsCookie_153 : decode cX12_setsCookie 153 = .ok (.aload_n 0, 1) := by decide +kernel
theorem dX12_setsCookie_154 : decode cX12_setsCookie 154 = .ok (.getfield 65, 3) := by decide +kernel
theorem dX12_setsCookie_157 : decode cX12_setsCookie 157 = .ok (.iload_n 1, 1) := by decide +kernel
theorem dX12_setsCookie_158 : decode cX12_setsCookie 158 = .ok (.iload 7, 2) := by decide +kernel
theorem dX12_setsCookie_160 : decode cX12_setsCookie 160 = .ok (.iastore, 1) := by decide +kernel
theorem dX12_setsCookie_161 : decode cX12_setsCookie 161 = .ok (.return_, 1) := by decide +kernel
theorem dX12_toggleBlocking_0 : decode cX12_toggleBlocking 0 = .ok (.aload_n 0, 1) := by decide +kernel
theorem dX12_toggleBlocking_1 : decode cX12_toggleBlocking 1 = .ok (.iconst 0, 1) := by decide +kernel
theorem dX12_toggleBlocking_2 : decode cX12_toggleBlocking 2 = .ok (.putfield 161, 3) := by decide +kernel
theorem dX12_toggleBlocking_5 : decode cX12_toggleBlocking 5 = .ok (.aload_n 0, 1) := by decide +kernel
theorem dX12_toggleBlocking_6 : decode cX12_toggleBlocking 6 = .ok (.aload_n 0, 1) := by decide +kernel
theorem dX12_toggleBlocking_7 : decode cX12_toggleBlocking 7 = .ok (.getfield 225, 3) := by decide +kernel
theorem dX12_toggleBlocking_10 : decode cX12_toggleBlocking 10 = .ok (.ifCond .ne 7, 3) := by decide +kernel
theorem dX12_toggleBlocking_13 : decode cX12_toggleBlocking 13 = .ok (.iconst 1, 1) := by decide +kernel
theorem dX12_toggleBlocking_14 : decode cX12_toggleBlocking 14 = .ok (.goto 4, 3) := by decide +kernel
theorem dX12_toggleBlocking_17 : decode cX12_toggleBlocking 17 = .ok (.iconst 0, 1) := by decide +kernel
theorem dX12_toggleBlocking_18 : decode cX12_toggleBlocking 18 = .ok (.putfield 225, 3) := by decide +kernel
theorem dX12_toggleBlocking_21 : decode cX12_toggleBlocking 21 = .ok (.aload_n 0, 1) := by decide +kernel
theorem dX12_toggleBlocking_22 : decode cX12_toggleBlocking 22 = .ok (.getfield 225, 3) := by decide +kernel
theorem dX12_toggleBlocking_25 : decode cX12_toggleBlocking 25 = .ok (.ireturn, 1) := by decide +kernel
theorem dX12_isPage_0 : decode cX12_isPage 0 = .ok (.iload_n 1, 1) := by decide +kernel
theorem dX12_isPage_1 : decode cX12_isPage 1 = .ok (.iconst 0, 1) := by decide +kernel
theorem dX12_isPage_2 : decode cX12_isPage 2 = .ok (.aload_n 0, 1) := by decide +kernel
theorem dX12_isPage_3 : decode cX12_isPage 3 = .ok (.getfield 229, 3) := by decide +kernel
theorem dX12_isPage_6 : decode cX12_isPage 6 = .ok (.iconst 1, 1) := by decide +kernel
theorem dX12_isPage_7 : decode cX12_isPage 7 = .ok (.isub, 1) := by decide +kernel
theorem dX12_isPage_8 : decode cX12_isPage 8 = .ok (.invokestatic 168, 3) := by decide +kernel
theorem dX12_isPage_11 : decode cX12_isPage 11 = .ok (.ireturn, 1) := by decide +kernel
theorem dX12_page_0 : decode cX12_page 0 = .ok (.aload_n 0, 1) := by decide +kernel
theorem dX12_page_1 : decode cX12_page 1 = .ok (.iload_n 1, 1) := by decide +kernel
theorem dX12_page_2 : decode cX12_page 2 = .ok (.invokevirtual 203, 3) := by decide +kernel
theorem dX12_page_5 : decode cX12_page 5 = .ok (.ifCond .eq 20, 3) := by decide +kernel
theorem dX12_page_8 : decode cX12_page 8 = .ok (.iload_n 2, 1) := by decide +kernel
theorem dX12_page_9 : decode cX12_page 9 = .ok (.iconst (-1), 1) := by decide +kernel
theorem dX12_page_10 : decode cX12_page 10 = .ok (.if_icmp .eq 11, 3) := by decide +kernel
theorem dX12_page_13 : decode cX12_page 13 = .ok (.aload_n 0, 1) := by decide +kernel
theorem dX12_page_14 : decode cX12_page 14 = .ok (.iload_n 2, 1) := by decide +kernel
theorem dX12_page_15 : decode cX12_page 15 = .ok (.invokevirtual 232, 3) := by decide +kernel
theorem dX12_page_18 : decode cX12_page 18 = .ok (.ifCond .eq 7, 3) := by decide +kernel
theorem dX12_page_21 : decode cX12_page 21 = .ok (.iconst 1, 1) := by decide +kernel
theorem dX12_page_22 : decode cX12_page 22 = .ok (.goto 4, 3) := by decide +kernel
theorem dX12_page_25 : decode cX12_page 25 = .ok (.iconst 0, 1) := by decide +kernel
theorem dX12_page_26 : decode cX12_page 26 = .ok (.istore 4, 2) := by decide +kernel
theorem dX12_page_28 : decode cX12_page 28 = .ok (.aload_n 0, 1) := by decide +kernel
theorem dX12_page_29 : decode cX12_page 29 = .ok (.iload 4, 2) := by decide +kernel
theorem dX12_page_31 : decode cX12_page 31 = .ok (.ifCond .ne 7, 3) := by decide +kernel
theorem dX12_page_34 : decode cX12_page 34 = .ok (.iconst 1, 1) := by decide +kernel
theorem dX12_page_35 : decode cX12_page 35 = .ok (.goto 30, 3) := by decide +kernel
theorem dX12_page_38 : decode cX12_page 38 = .ok (.iload_n 3, 1) := by decide +kernel
theorem dX12_page_39 : decode cX12_page 39 = .ok (.iconst 0, 1) := by decide +kernel
theorem dX12_page_40 : decode cX12_page 40 = .ok (.iconst 4, 1) := by decide +kernel
theorem dX12_page_41 : decode cX12_page 41 = .ok (.invokestatic 168, 3) := by decide +kernel
theorem dX12_page_44 : decode cX12_page 44 = .ok (.ifCond .ne 7, 3) := by decide +kernel
theorem dX12_page_47 : decode cX12_page 47 = .ok (.iconst 2, 1) := by decide +kernel
theorem dX12_page_48 : decode cX12_page 48 = .ok (.goto 17, 3) := by decide +kernel
theorem dX12_page_51 : decode cX12_page 51 = .ok (.aload_n 0, 1) := by decide +kernel
theorem dX12_page_52 : decode cX12_page 52 = .ok (.getfield 229, 3) := by decide +kernel
theorem dX12_page_55 : decode cX12_page 55 = .ok (.bipush 8, 2) := by decide +kernel
theorem dX12_page_57 : decode cX12_page 57 = .ok (.if_icmp .ne 7, 3) := by decide +kernel
theorem dX12_page_60 : decode cX12_page 60 = .ok (.iconst 3, 1) := by decide +kernel
theorem dX12_page_61 : decode cX12_page 61 = .ok (.goto 4, 3) := by decide +kernel
theorem dX12_page_64 : decode cX12_page 64 = .ok (.iconst 0, 1) := by decide +kernel
theorem dX12_page_65 : decode cX12_page 65 = .ok (.invokevirtual 187, 3) := by decide +kernel
theorem dX12_page_68 : decode cX12_page 68 = .ok (.ifCond .eq 5, 3) := by decide +kernel
theorem dX12_page_71 : decode cX12_page 71 = .ok (.iconst 0, 1) := by decide +kernel
theorem dX12_page_72 : decode cX12_page 72 = .ok (.ireturn, 1) := by decide +kernel
theorem dX12_page_73 : decode cX12_page 73 = .ok (.aload_n 0, 1) := by decide +kernel
theorem dX12_page_74 : decode cX12_page 74 = .ok (.getfield 68, 3) := by decide +kernel
theorem dX12_page_77 : decode cX12_page 77 = .ok (.aload_n 0, 1) := by decide +kernel
theorem dX12_page_78 : decode cX12_page 78 = .ok (.getfield 229, 3) := by decide +kernel
theorem dX12_page_81 : decode cX12_page 81 = .ok (.iload_n 1, 1) := by decide +kernel
theorem dX12_page_82 : decode cX12_page 82 = .ok (.iastore, 1) := by decide +kernel
theorem dX12_page_83 : decode cX12_page 83 = .ok (.aload_n 0, 1) := by decide +kernel
theorem dX12_page_84 : decode cX12_page 84 = .ok (.getfield 71, 3) := by decide +kernel
theorem dX12_page_87 : decode cX12_page 87 = .ok (.aload_n 0, 1) := by decide +kernel
theorem dX12_page_88 : decode cX12_page 88 = .ok (.getfield 229, 3) := by decide +kernel
theorem dX12_page_91 : decode cX12_page 91 = .ok (.iload_n 2, 1) := by decide +kernel
theorem dX12_page_92 : decode cX12_page 92 = .ok (.iastore, 1) := by decide +kernel
theorem dX12_page_93 : decode cX12_page 93 = .ok (.aload_n 0, 1) := by decide +kernel
theorem dX12_page_94 : decode cX12_page 94 = .ok (.getfield 74, 3) := by decide +kernel
theorem dX12_page_97 : decode cX12_page 97 = .ok (.aload_n 0, 1) := by decide +kernel
theorem dX12_page_98 : decode cX12_page 98 = .ok (.getfield 229, 3) := by decide +kernel
theorem dX12_page_101 : decode cX12_page 101 = .ok (.iload_n 3, 1) := by decide +kernel
theorem dX12_page_102 : decode cX12_page 102 = .ok (.iastore, 1) := by decide +kernel
theorem dX12_page_103 : decode cX12_page 103 = .ok (.aload_n 0, 1) := by decide +kernel
theorem dX12_page_104 : decode cX12_page 104 = .ok (.dup, 1) := by decide +kernel
theorem dX12_page_105 : decode cX12_page 105 = .ok (.getfield 229, 3) := by decide +kernel
theorem dX12_page_108 : decode cX12_page 108 = .ok (.iconst 1, 1) := by decide +kernel
theorem dX12_page_109 : decode cX12_page 109 = .ok (.iadd, 1) := by decide +kernel
theorem dX12_page_110 : decode cX12_page 110 = .ok (.putfield 229, 3) := by decide +kernel
theorem dX12_page_113 : decode cX12_page 113 = .ok (.aload_n 0, 1) := by decide +kernel
theorem dX12_page_114 : decode cX12_page 114 = .ok (.getfield 229, 3) := by decide +kernel
theorem dX12_page_117 : decode cX12_page 117 = .ok (.iconst 1, 1) := by decide +kernel
theorem dX12_page_118 : decode cX12_page 118 = .ok (.isub, 1) := by decide +kernel
theorem dX12_page_119 : decode cX12_page 119 = .ok (.ireturn, 1) := by decide +kernel
theorem dX12_place_0 : decode cX12_place 0 = .ok (.bipush 16, 2) := by decide +kernel
theorem dX12_place_2 : decode cX12_place 2 = .ok (.aload_n 0, 1) := by decide +kernel
theorem dX12_place_3 : decode cX12_place 3 = .ok (.getfield 20, 3) := by decide +kernel
theorem dX12_place_6 : decode cX12_place 6 = .ok (.iload_n 1, 1) := by decide +kernel
theorem dX12_place_7 : decode cX12_place 7 = .ok (.iaload, 1) := by decide +kernel
theorem dX12_place_8 : decode cX12_place 8 = .ok (.imul, 1) := by decide +kernel
theorem dX12_place_9 : decode cX12_place 9 = .ok (.aload_n 0, 1) := by decide +kernel
theorem dX12_place_10 : decode cX12_place 10 = .ok (.aload_n 0, 1) := by decide +kernel
theorem dX12_place_11 : decode cX12_place 11 = .ok (.getfield 23, 3) := by decide +kernel
theorem dX12_place_14 : decode cX12_place 14 = .ok (.iload_n 1, 1) := by decide +kernel
theorem dX12_place_15 : decode cX12_place 15 = .ok (.iaload, 1) := by decide +kernel
theorem dX12_place_16 : decode cX12_place 16 = .ok (.invokevirtual 190, 3) := by decide +kernel
theorem dX12_place_19 : decode cX12_place 19 = .ok (.iadd, 1) := by decide +kernel
theorem dX12_place_20 : decode cX12_place 20 = .ok (.ireturn, 1) := by decide +kernel
theorem dX12_gate_0 : decode cX12_gate 0 = .ok (.aload_n 0, 1) := by decide +kernel
theorem dX12_gate_1 : decode cX12_gate 1 = .ok (.getfield 26, 3) := by decide +kernel
theorem dX12_gate_4 : decode cX12_gate 4 = .ok (.iload_n 1, 1) := by decide +kernel
theorem dX12_gate_5 : decode cX12_gate 5 = .ok (.iaload, 1) := by decide +kernel
theorem dX12_gate_6 : decode cX12_gate 6 = .ok (.ifCond .le 12, 3) := by decide +kernel
theorem dX12_gate_9 : decode cX12_gate 9 = .ok (.aload_n 0, 1) := by decide +kernel
theorem dX12_gate_10 : decode cX12_gate 10 = .ok (.getfield 26, 3) := by decide +kernel
theorem dX12_gate_13 : decode cX12_gate 13 = .ok (.iload_n 1, 1) := by decide +kernel
theorem dX12_gate_14 : decode cX12_gate 14 = .ok (.iaload, 1) := by decide +kernel
theorem dX12_gate_15 : decode cX12_gate 15 = .ok (.goto 21, 3) := by decide +kernel
theorem dX12_gate_18 : decode cX12_gate 18 = .ok (.aload_n 0, 1) := by decide +kernel
theorem dX12_gate_19 : decode cX12_gate 19 = .ok (.getfield 20, 3) := by decide +kernel
theorem dX12_gate_22 : decode cX12_gate 22 = .ok (.iload_n 1, 1) := by decide +kernel
theorem dX12_gate_23 : decode cX12_gate 23 = .ok (.iaload, 1) := by decide +kernel
theorem dX12_gate_24 : decode cX12_gate 24 = .ok (.iconst 1, 1) := by decide +kernel
theorem dX12_gate_25 : decode cX12_gate 25 = .ok (.if_icmp .ne 9, 3) := by decide +kernel
theorem dX12_gate_28 : decode cX12_gate 28 = .ok (.sipush 443, 3) := by decide +kernel
theorem dX12_gate_31 : decode cX12_gate 31 = .ok (.goto 5, 3) := by decide +kernel
theorem dX12_gate_34 : decode cX12_gate 34 = .ok (.bipush 80, 2) := by decide +kernel
theorem dX12_gate_36 : decode cX12_gate 36 = .ok (.ireturn, 1) := by decide +kernel
theorem dX12_isSame_0 : decode cX12_isSame 0 = .ok (.aload_n 0, 1) := by decide +kernel
theorem dX12_isSame_1 : decode cX12_isSame 1 = .ok (.getfield 20, 3) := by decide +kernel
theorem dX12_isSame_4 : decode cX12_isSame 4 = .ok (.iload_n 1, 1) := by decide +kernel
theorem dX12_isSame_5 : decode cX12_isSame 5 = .ok (.iaload, 1) := by decide +kernel
theorem dX12_isSame_6 : decode cX12_isSame 6 = .ok (.aload_n 0, 1) := by decide +kernel
theorem dX12_isSame_7 : decode cX12_isSame 7 = .ok (.getfield 20, 3) := by decide +kernel
theorem dX12_isSame_10 : decode cX12_isSame 10 = .ok (.iload_n 2, 1) := by decide +kernel
theorem dX12_isSame_11 : decode cX12_isSame 11 = .ok (.iaload, 1) := by decide +kernel
theorem dX12_isSame_12 : decode cX12_isSame 12 = .ok (.if_icmp .ne 35, 3) := by decide +kernel
theorem dX12_isSame_15 : decode cX12_isSame 15 = .ok (.aload_n 0, 1) := by decide +kernel
theorem dX12_isSame_16 : decode cX12_isSame 16 = .ok (.getfield 23, 3) := by decide +kernel
theorem dX12_isSame_19 : decode cX12_isSame 19 = .ok (.iload_n 1, 1) := by decide +kernel
theorem dX12_isSame_20 : decode cX12_isSame 20 = .ok (.iaload, 1) := by decide +kernel
theorem dX12_isSame_21 : decode cX12_isSame 21 = .ok (.aload_n 0, 1) := by decide +kernel
theorem dX12_isSame_22 : decode cX12_isSame 22 = .ok (.getfield 23, 3) := by decide +kernel
theorem dX12_isSame_25 : decode cX12_isSame 25 = .ok (.iload_n 2, 1) := by decide +kernel
theorem dX12_isSame_26 : decode cX12_isSame 26 = .ok (.iaload, 1) := by decide +kernel
theorem dX12_isSame_27 : decode cX12_isSame 27 = .ok (.if_icmp .ne 20, 3) := by decide +kernel
theorem dX12_isSame_30 : decode cX12_isSame 30 = .ok (.aload_n 0, 1) := by decide +kernel
theorem dX12_isSame_31 : decode cX12_isSame 31 = .ok (.iload_n 1, 1) := by decide +kernel
theorem dX12_isSame_32 : decode cX12_isSame 32 = .ok (.invokevirtual 235, 3) := by decide +kernel
theorem dX12_isSame_35 : decode cX12_isSame 35 = .ok (.aload_n 0, 1) := by decide +kernel
theorem dX12_isSame_36 : decode cX12_isSame 36 = .ok (.iload_n 2, 1) := by decide +kernel
theorem dX12_isSame_37 : decode cX12_isSame 37 = .ok (.invokevirtual 235, 3) := by decide +kernel
theorem dX12_isSame_40 : decode cX12_isSame 40 = .ok (.if_icmp .ne 7, 3) := by decide +kernel
theorem dX12_isSame_43 : decode cX12_isSame 43 = .ok (.iconst 1, 1) := by decide +kernel
theorem dX12_isSame_44 : decode cX12_isSame 44 = .ok (.goto 4, 3) := by decide +kernel
theorem dX12_isSame_47 : decode cX12_isSame 47 = .ok (.iconst 0, 1) := by decide +kernel
theorem dX12_isSame_48 : decode cX12_isSame 48 = .ok (.ireturn, 1) := by decide +kernel
theorem dX12_top_0 : decode cX12_top 0 = .ok (.iload_n 1, 1) := by decide +kernel
theorem dX12_top_1 : decode cX12_top 1 = .ok (.istore_n 2, 1) := by decide +kernel
theorem dX12_top_2 : decode cX12_top 2 = .ok (.aload_n 0, 1) := by decide +kernel
theorem dX12_top_3 : decode cX12_top 3 = .ok (.getfield 71, 3) := by decide +kernel
theorem dX12_top_6 : decode cX12_top 6 = .ok (.iload_n 2, 1) := by decide +kernel
theorem dX12_top_7 : decode cX12_top 7 = .ok (.iaload, 1) := by decide +kernel
theorem dX12_top_8 : decode cX12_top 8 = .ok (.iconst (-1), 1) := by decide +kernel
theorem dX12_top_9 : decode cX12_top 9 = .ok (.if_icmp .eq 13, 3) := by decide +kernel
theorem dX12_top_12 : decode cX12_top 12 = .ok (.aload_n 0, 1) := by decide +kernel
theorem dX12_top_13 : decode cX12_top 13 = .ok (.getfield 71, 3) := by decide +kernel
theorem dX12_top_16 : decode cX12_top 16 = .ok (.iload_n 2, 1) := by decide +kernel
theorem dX12_top_17 : decode cX12_top 17 = .ok (.iaload, 1) := by decide +kernel
theorem dX12_top_18 : decode cX12_top 18 = .ok (.istore_n 2, 1) := by decide +kernel
theorem dX12_top_19 : decode cX12_top 19 = .ok (.goto (-17), 3) := by decide +kernel
theorem dX12_top_22 : decode cX12_top 22 = .ok (.iload_n 2, 1) := by decide +kernel
theorem dX12_top_23 : decode cX12_top 23 = .ok (.ireturn, 1) := by decide +kernel
theorem dX12_isForeign_0 : decode cX12_isForeign 0 = .ok (.iconst 0, 1) := by decide +kernel
theorem dX12_isForeign_1 : decode cX12_isForeign 1 = .ok (.istore_n 2, 1) := by decide +kernel
theorem dX12_isForeign_2 : decode cX12_isForeign 2 = .ok (.aload_n 0, 1) := by decide +kernel
theorem dX12_isForeign_3 : decode cX12_isForeign 3 = .ok (.getfield 71, 3) := by decide +kernel
theorem dX12_isForeign_6 : decode cX12_isForeign 6 = .ok (.iload_n 1, 1) := by decide +kernel
theorem dX12_isForeign_7 : decode cX12_isForeign 7 = .ok (.iaload, 1) := by decide +kernel
theorem dX12_isForeign_8 : decode cX12_isForeign 8 = .ok (.istore_n 3, 1) := by decide +kernel
theorem dX12_isForeign_9 : decode cX12_isForeign 9 = .ok (.iload_n 3, 1) := by decide +kernel
theorem dX12_isForeign_10 : decode cX12_isForeign 10 = .ok (.iconst (-1), 1) := by decide +kernel
theorem dX12_isForeign_11 : decode cX12_isForeign 11 = .ok (.if_icmp .eq 46, 3) := by decide +kernel
theorem dX12_isForeign_14 : decode cX12_isForeign 14 = .ok (.iload_n 2, 1) := by decide +kernel
theorem dX12_isForeign_15 : decode cX12_isForeign 15 = .ok (.ifCond .ne 26, 3) := by decide +kernel
theorem dX12_isForeign_18 : decode cX12_isForeign 18 = .ok (.aload_n 0, 1) := by decide +kernel
theorem dX12_isForeign_19 : decode cX12_isForeign 19 = .ok (.aload_n 0, 1) := by decide +kernel
theorem dX12_isForeign_20 : decode cX12_isForeign 20 = .ok (.getfield 68, 3) := by decide +kernel
theorem dX12_isForeign_23 : decode cX12_isForeign 23 = .ok (.iload_n 3, 1) := by decide +kernel
theorem dX12_isForeign_24 : decode cX12_isForeign 24 = .ok (.iaload, 1) := by decide +kernel
theorem dX12_isForeign_25 : decode cX12_isForeign 25 = .ok (.invokevirtual 238, 3) := by decide +kernel
theorem dX12_isForeign_28 : decode cX12_isForeign 28 = .ok (.aload_n 0, 1) := by decide +kernel
theorem dX12_isForeign_29 : decode cX12_isForeign 29 = .ok (.aload_n 0, 1) := by decide +kernel
theorem dX12_isForeign_30 : decode cX12_isForeign 30 = .ok (.getfield 68, 3) := by decide +kernel
theorem dX12_isForeign_33 : decode cX12_isForeign 33 = .ok (.iload_n 1, 1) := by decide +kernel
theorem dX12_isForeign_34 : decode cX12_isForeign 34 = .ok (.iaload, 1) := by decide +kernel
theorem dX12_isForeign_35 : decode cX12_isForeign 35 = .ok (.invokevirtual 238, 3) := by decide +kernel
theorem dX12_isForeign_38 : decode cX12_isForeign 38 = .ok (.if_icmp .eq 7, 3) := by decide +kernel
theorem dX12_isForeign_41 : decode cX12_isForeign 41 = .ok (.iconst 1, 1) := by decide +kernel
theorem dX12_isForeign_42 : decode cX12_isForeign 42 = .ok (.goto 4, 3) := by decide +kernel
theorem dX12_isForeign_45 : decode cX12_isForeign 45 = .ok (.iconst 0, 1) := by decide +kernel
theorem dX12_isForeign_46 : decode cX12_isForeign 46 = .ok (.istore_n 2, 1) := by decide +kernel
theorem dX12_isForeign_47 : decode cX12_isForeign 47 = .ok (.aload_n 0, 1) := by decide +kernel
theorem dX12_isForeign_48 : decode cX12_isForeign 48 = .ok (.getfield 71, 3) := by decide +kernel
theorem dX12_isForeign_51 : decode cX12_isForeign 51 = .ok (.iload_n 3, 1) := by decide +kernel
theorem dX12_isForeign_52 : decode cX12_isForeign 52 = .ok (.iaload, 1) := by decide +kernel
theorem dX12_isForeign_53 : decode cX12_isForeign 53 = .ok (.istore_n 3, 1) := by decide +kernel
theorem dX12_isForeign_54 : decode cX12_isForeign 54 = .ok (.goto (-45), 3) := by decide +kernel
theorem dX12_isForeign_57 : decode cX12_isForeign 57 = .ok (.iload_n 2, 1) := by decide +kernel
theorem dX12_isForeign_58 : decode cX12_isForeign 58 = .ok (.ireturn, 1) := by decide +kernel
theorem dX12_closes_0 : decode cX12_closes 0 = .ok (.aload_n 0, 1) := by decide +kernel
theorem dX12_closes_1 : decode cX12_closes 1 = .ok (.dup, 1) := by decide +kernel
theorem dX12_closes_2 : decode cX12_closes 2 = .ok (.getfield 241, 3) := by decide +kernel
theorem dX12_closes_5 : decode cX12_closes 5 = .ok (.iconst 1, 1) := by decide +kernel
theorem dX12_closes_6 : decode cX12_closes 6 = .ok (.isub, 1) := by decide +kernel
theorem dX12_closes_7 : decode cX12_closes 7 = .ok (.putfield 241, 3) := by decide +kernel
theorem dX12_closes_10 : decode cX12_closes 10 = .ok (.iload_n 1, 1) := by decide +kernel
theorem dX12_closes_11 : decode cX12_closes 11 = .ok (.istore_n 2, 1) := by decide +kernel
theorem dX12_closes_12 : decode cX12_closes 12 = .ok (.iload_n 2, 1) := by decide +kernel
theorem dX12_closes_13 : decode cX12_closes 13 = .ok (.aload_n 0, 1) := by decide +kernel
theorem dX12_closes_14 : decode cX12_closes 14 = .ok (.getfield 241, 3) := by decide +kernel
theorem dX12_closes_17 : decode cX12_closes 17 = .ok (.if_icmp .ge 107, 3) := by decide +kernel
theorem dX12_closes_20 : decode cX12_closes 20 = .ok (.aload_n 0, 1) := by decide +kernel
theorem dX12_closes_21 : decode cX12_closes 21 = .ok (.getfield 119, 3) := by decide +kernel
theorem dX12_closes_24 : decode cX12_closes 24 = .ok (.iload_n 2, 1) := by decide +kernel
theorem dX12_closes_25 : decode cX12_closes 25 = .ok (.aload_n 0, 1) := by decide +kernel
theorem dX12_closes_26 : decode cX12_closes 26 = .ok (.getfield 119, 3) := by decide +kernel
theorem dX12_closes_29 : decode cX12_closes 29 = .ok (.iload_n 2, 1) := by decide +kernel
theorem dX12_closes_30 : decode cX12_closes 30 = .ok (.iconst 1, 1) := by decide +kernel
theorem dX12_closes_31 : decode cX12_closes 31 = .ok (.iadd, 1) := by decide +kernel
theorem dX12_closes_32 : decode cX12_closes 32 = .ok (.iaload, 1) := by decide +kernel
theorem dX12_closes_33 : decode cX12_closes 33 = .ok (.iastore, 1) := by decide +kernel
theorem dX12_closes_34 : decode cX12_closes 34 = .ok (.aload_n 0, 1) := by decide +kernel
theorem dX12_closes_35 : decode cX12_closes 35 = .ok (.getfield 122, 3) := by decide +kernel
theorem dX12_closes_38 : decode cX12_closes 38 = .ok (.iload_n 2, 1) := by decide +kernel
theorem dX12_closes_39 : decode cX12_closes 39 = .ok (.aload_n 0, 1) := by decide +kernel
theorem dX12_closes_40 : decode cX12_closes 40 = .ok (.getfield 122, 3) := by decide +kernel
theorem dX12_closes_43 : decode cX12_closes 43 = .ok (.iload_n 2, 1) := by decide +kernel
theorem dX12_closes_44 : decode cX12_closes 44 = .ok (.iconst 1, 1) := by decide +kernel
theorem dX12_closes_45 : decode cX12_closes 45 = .ok (.iadd, 1) := by decide +kernel
theorem dX12_closes_46 : decode cX12_closes 46 = .ok (.iaload, 1) := by decide +kernel
theorem dX12_closes_47 : decode cX12_closes 47 = .ok (.iastore, 1) := by decide +kernel
theorem dX12_closes_48 : decode cX12_closes 48 = .ok (.aload_n 0, 1) := by decide +kernel
theorem dX12_closes_49 : decode cX12_closes 49 = .ok (.getfield 125, 3) := by decide +kernel
theorem dX12_closes_52 : decode cX12_closes 52 = .ok (.iload_n 2, 1) := by decide +kernel
theorem dX12_closes_53 : decode cX12_closes 53 = .ok (.aload_n 0, 1) := by decide +kernel
theorem dX12_closes_54 : decode cX12_closes 54 = .ok (.getfield 125, 3) := by decide +kernel
theorem dX12_closes_57 : decode cX12_closes 57 = .ok (.iload_n 2, 1) := by decide +kernel
theorem dX12_closes_58 : decode cX12_closes 58 = .ok (.iconst 1, 1) := by decide +kernel
theorem dX12_closes_59 : decode cX12_closes 59 = .ok (.iadd, 1) := by decide +kernel
theorem dX12_closes_60 : decode cX12_closes 60 = .ok (.iaload, 1) := by decide +kernel
theorem dX12_closes_61 : decode cX12_closes 61 = .ok (.iastore, 1) := by decide +kernel
theorem dX12_closes_62 : decode cX12_closes 62 = .ok (.aload_n 0, 1) := by decide +kernel
theorem dX12_closes_63 : decode cX12_closes 63 = .ok (.getfield 128, 3) := by decide +kernel
theorem dX12_closes_66 : decode cX12_closes 66 = .ok (.iload_n 2, 1) := by decide +kernel
theorem dX12_closes_67 : decode cX12_closes 67 = .ok (.aload_n 0, 1) := by decide +kernel
theorem dX12_closes_68 : decode cX12_closes 68 = .ok (.getfield 128, 3) := by decide +kernel
theorem dX12_closes_71 : decode cX12_closes 71 = .ok (.iload_n 2, 1) := by decide +kernel
theorem dX12_closes_72 : decode cX12_closes 72 = .ok (.iconst 1, 1) := by decide +kernel
theorem dX12_closes_73 : decode cX12_closes 73 = .ok (.iadd, 1) := by decide +kernel
theorem dX12_closes_74 : decode cX12_closes 74 = .ok (.baload, 1) := by decide +kernel
theorem dX12_closes_75 : decode cX12_closes 75 = .ok (.bastore, 1) := by decide +kernel
theorem dX12_closes_76 : decode cX12_closes 76 = .ok (.aload_n 0, 1) := by decide +kernel
theorem dX12_closes_77 : decode cX12_closes 77 = .ok (.getfield 131, 3) := by decide +kernel
theorem dX12_closes_80 : decode cX12_closes 80 = .ok (.iload_n 2, 1) := by decide +kernel
theorem dX12_closes_81 : decode cX12_closes 81 = .ok (.aload_n 0, 1) := by decide +kernel
theorem dX12_closes_82 : decode cX12_closes 82 = .ok (.getfield 131, 3) := by decide +kernel
theorem dX12_closes_85 : decode cX12_closes 85 = .ok (.iload_n 2, 1) := by decide +kernel
theorem dX12_closes_86 : decode cX12_closes 86 = .ok (.iconst 1, 1) := by decide +kernel
theorem dX12_closes_87 : decode cX12_closes 87 = .ok (.iadd, 1) := by decide +kernel
theorem dX12_closes_88 : decode cX12_closes 88 = .ok (.iaload, 1) := by decide +kernel
theorem dX12_closes_89 : decode cX12_closes 89 = .ok (.iastore, 1) := by decide +kernel
theorem dX12_closes_90 : decode cX12_closes 90 = .ok (.aload_n 0, 1) := by decide +kernel
theorem dX12_closes_91 : decode cX12_closes 91 = .ok (.getfield 134, 3) := by decide +kernel
theorem dX12_closes_94 : decode cX12_closes 94 = .ok (.iload_n 2, 1) := by decide +kernel
theorem dX12_closes_95 : decode cX12_closes 95 = .ok (.aload_n 0, 1) := by decide +kernel
theorem dX12_closes_96 : decode cX12_closes 96 = .ok (.getfield 134, 3) := by decide +kernel
theorem dX12_closes_99 : decode cX12_closes 99 = .ok (.iload_n 2, 1) := by decide +kernel
theorem dX12_closes_100 : decode cX12_closes 100 = .ok (.iconst 1, 1) := by decide +kernel
theorem dX12_closes_101 : decode cX12_closes 101 = .ok (.iadd, 1) := by decide +kernel
theorem dX12_closes_102 : decode cX12_closes 102 = .ok (.iaload, 1) := by decide +kernel
theorem dX12_closes_103 : decode cX12_closes 103 = .ok (.iastore, 1) := by decide +kernel
theorem dX12_closes_104 : decode cX12_closes 104 = .ok (.aload_n 0, 1) := by decide +kernel
theorem dX12_closes_105 : decode cX12_closes 105 = .ok (.getfield 137, 3) := by decide +kernel
theorem dX12_closes_108 : decode cX12_closes 108 = .ok (.iload_n 2, 1) := by decide +kernel
theorem dX12_closes_109 : decode cX12_closes 109 = .ok (.aload_n 0, 1) := by decide +kernel
theorem dX12_closes_110 : decode cX12_closes 110 = .ok (.getfield 137, 3) := by decide +kernel
theorem dX12_closes_113 : decode cX12_closes 113 = .ok (.iload_n 2, 1) := by decide +kernel
theorem dX12_closes_114 : decode cX12_closes 114 = .ok (.iconst 1, 1) := by decide +kernel
theorem dX12_closes_115 : decode cX12_closes 115 = .ok (.iadd, 1) := by decide +kernel
theorem dX12_closes_116 : decode cX12_closes 116 = .ok (.iaload, 1) := by decide +kernel
theorem dX12_closes_117 : decode cX12_closes 117 = .ok (.iastore, 1) := by decide +kernel
theorem dX12_closes_118 : decode cX12_closes 118 = .ok (.iinc 2 1, 3) := by decide +kernel
theorem dX12_closes_121 : decode cX12_closes 121 = .ok (.goto (-109), 3) := by decide +kernel
theorem dX12_closes_124 : decode cX12_closes 124 = .ok (.return_, 1) := by decide +kernel
theorem dX12_connects_0 : decode cX12_connects 0 = .ok (.iconst (-1), 1) := by decide +kernel
theorem dX12_connects_1 : decode cX12_connects 1 = .ok (.istore 4, 2) := by decide +kernel
theorem dX12_connects_3 : decode cX12_connects 3 = .ok (.iconst 0, 1) := by decide +kernel
theorem dX12_connects_4 : decode cX12_connects 4 = .ok (.istore 5, 2) := by decide +kernel
theorem dX12_connects_6 : decode cX12_connects 6 = .ok (.iconst 0, 1) := by decide +kernel
theorem dX12_connects_7 : decode cX12_connects 7 = .ok (.istore 6, 2) := by decide +kernel
theorem dX12_connects_9 : decode cX12_connects 9 = .ok (.iload 6, 2) := by decide +kernel
theorem dX12_connects_11 : decode cX12_connects 11 = .ok (.aload_n 0, 1) := by decide +kernel
theorem dX12_connects_12 : decode cX12_connects 12 = .ok (.getfield 241, 3) := by decide +kernel
theorem dX12_connects_15 : decode cX12_connects 15 = .ok (.if_icmp .ge 125, 3) := by decide +kernel
theorem dX12_connects_18 : decode cX12_connects 18 = .ok (.aload_n 0, 1) := by decide +kernel
theorem dX12_connects_19 : decode cX12_connects 19 = .ok (.getfield 119, 3) := by decide +kernel
theorem dX12_connects_22 : decode cX12_connects 22 = .ok (.iload 6, 2) := by decide +kernel
theorem dX12_connects_24 : decode cX12_connects 24 = .ok (.iaload, 1) := by decide +kernel
theorem dX12_connects_25 : decode cX12_connects 25 = .ok (.aload_n 0, 1) := by decide +kernel
theorem dX12_connects_26 : decode cX12_connects 26 = .ok (.getfield 20, 3) := by decide +kernel
theorem dX12_connects_29 : decode cX12_connects 29 = .ok (.iload_n 1, 1) := by decide +kernel
theorem dX12_connects_30 : decode cX12_connects 30 = .ok (.iaload, 1) := by decide +kernel
theorem dX12_connects_31 : decode cX12_connects 31 = .ok (.if_icmp .ne 60, 3) := by decide +kernel
theorem dX12_connects_34 : decode cX12_connects 34 = .ok (.aload_n 0, 1) := by decide +kernel
theorem dX12_connects_35 : decode cX12_connects 35 = .ok (.getfield 122, 3) := by decide +kernel
theorem dX12_connects_38 : decode cX12_connects 38 = .ok (.iload 6, 2) := by decide +kernel
theorem dX12_connects_40 : decode cX12_connects 40 = .ok (.iaload, 1) := by decide +kernel
theorem dX12_connects_41 : decode cX12_connects 41 = .ok (.aload_n 0, 1) := by decide +kernel
theorem dX12_connects_42 : decode cX12_connects 42 = .ok (.getfield 23, 3) := by decide +kernel
theorem dX12_connects_45 : decode cX12_connects 45 = .ok (.iload_n 1, 1) := by decide +kernel
theorem dX12_connects_46 : decode cX12_connects 46 = .ok (.iaload, 1) := by decide +kernel
theorem dX12_connects_47 : decode cX12_connects 47 = .ok (.if_icmp .ne 44, 3) := by decide +kernel
theorem dX12_connects_50 : decode cX12_connects 50 = .ok (.aload_n 0, 1) := by decide +kernel
theorem dX12_connects_51 : decode cX12_connects 51 = .ok (.getfield 125, 3) := by decide +kernel
theorem dX12_connects_54 : decode cX12_connects 54 = .ok (.iload 6, 2) := by decide +kernel
theorem dX12_connects_56 : decode cX12_connects 56 = .ok (.iaload, 1) := by decide +kernel
theorem dX12_connects_57 : decode cX12_connects 57 = .ok (.aload_n 0, 1) := by decide +kernel
theorem dX12_connects_58 : decode cX12_connects 58 = .ok (.iload_n 1, 1) := by decide +kernel
theorem dX12_connects_59 : decode cX12_connects 59 = .ok (.invokevirtual 235, 3) := by decide +kernel
theorem dX12_connects_62 : decode cX12_connects 62 = .ok (.if_icmp .ne 29, 3) := by decide +kernel
theorem dX12_connects_65 : decode cX12_connects 65 = .ok (.aload_n 0, 1) := by decide +kernel
theorem dX12_connects_66 : decode cX12_connects 66 = .ok (.getfield 128, 3) := by decide +kernel
theorem dX12_connects_69 : decode cX12_connects 69 = .ok (.iload 6, 2) := by decide +kernel
theorem dX12_connects_71 : decode cX12_connects 71 = .ok (.baload, 1) := by decide +kernel
theorem dX12_connects_72 : decode cX12_connects 72 = .ok (.iload_n 2, 1) := by decide +kernel
theorem dX12_connects_73 : decode cX12_connects 73 = .ok (.if_icmp .ne 18, 3) := by decide +kernel
theorem dX12_connects_76 : decode cX12_connects 76 = .ok (.aload_n 0, 1) := by decide +kernel
theorem dX12_connects_77 : decode cX12_connects 77 = .ok (.getfield 131, 3) := by decide +kernel
theorem dX12_connects_80 : decode cX12_connects 80 = .ok (.iload 6, 2) := by decide +kernel
theorem dX12_connects_82 : decode cX12_connects 82 = .ok (.iaload, 1) := by decide +kernel
theorem dX12_connects_83 : decode cX12_connects 83 = .ok (.iload_n 3, 1) := by decide +kernel
theorem dX12_connects_84 : decode cX12_connects 84 = .ok (.if_icmp .ne 7, 3) := by decide +kernel
theorem dX12_connects_87 : decode cX12_connects 87 = .ok (.iconst 1, 1) := by decide +kernel
theorem dX12_connects_88 : decode cX12_connects 88 = .ok (.goto 4, 3) := by decide +kernel
theorem dX12_connects_91 : decode cX12_connects 91 = .ok (.iconst 0, 1) := by decide +kernel
theorem dX12_connects_92 : decode cX12_connects 92 = .ok (.istore 7, 2) := by decide +kernel
theorem dX12_connects_94 : decode cX12_connects 94 = .ok (.iload 7, 2) := by decide +kernel
theorem dX12_connects_96 : decode cX12_connects 96 = .ok (.ifCond .eq 8, 3) := by decide +kernel
theorem dX12_connects_99 : decode cX12_connects 99 = .ok (.iload 6, 2) := by decide +kernel
theorem dX12_connects_101 : decode cX12_connects 101 = .ok (.goto 5, 3) := by decide +kernel
theorem dX12_connects_104 : decode cX12_connects 104 = .ok (.iload 4, 2) := by decide +kernel
theorem dX12_connects_106 : decode cX12_connects 106 = .ok (.istore 4, 2) := by decide +kernel
theorem dX12_connects_108 : decode cX12_connects 108 = .ok (.aload_n 0, 1) := by decide +kernel
theorem dX12_connects_109 : decode cX12_connects 109 = .ok (.getfield 137, 3) := by decide +kernel
theorem dX12_connects_112 : decode cX12_connects 112 = .ok (.iload 6, 2) := by decide +kernel
theorem dX12_connects_114 : decode cX12_connects 114 = .ok (.iaload, 1) := by decide +kernel
theorem dX12_connects_115 : decode cX12_connects 115 = .ok (.aload_n 0, 1) := by decide +kernel
theorem dX12_connects_116 : decode cX12_connects 116 = .ok (.getfield 137, 3) := by decide +kernel
theorem dX12_connects_119 : decode cX12_connects 119 = .ok (.iload 5, 2) := by decide +kernel
theorem dX12_connects_121 : decode cX12_connects 121 = .ok (.iaload, 1) := by decide +kernel
theorem dX12_connects_122 : decode cX12_connects 122 = .ok (.if_icmp .ge 8, 3) := by decide +kernel
theorem dX12_connects_125 : decode cX12_connects 125 = .ok (.iload 6, 2) := by decide +kernel
theorem dX12_connects_127 : decode cX12_connects 127 = .ok (.goto 5, 3) := by decide +kernel
theorem dX12_connects_130 : decode cX12_connects 130 = .ok (.iload 5, 2) := by decide +kernel
theorem dX12_connects_132 : decode cX12_connects 132 = .ok (.istore 5, 2) := by decide +kernel
theorem dX12_connects_134 : decode cX12_connects 134 = .ok (.iinc 6 1, 3) := by decide +kernel
theorem dX12_connects_137 : decode cX12_connects 137 = .ok (.goto (-128), 3) := by decide +kernel
theorem dX12_connects_140 : decode cX12_connects 140 = .ok (.iload 4, 2) := by decide +kernel
theorem dX12_connects_142 : decode cX12_connects 142 = .ok (.iconst (-1), 1) := by decide +kernel
theorem dX12_connects_143 : decode cX12_connects 143 = .ok (.if_icmp .eq 32, 3) := by decide +kernel
theorem dX12_connects_146 : decode cX12_connects 146 = .ok (.aload_n 0, 1) := by decide +kernel
theorem dX12_connects_147 : decode cX12_connects 147 = .ok (.getfield 244, 3) := by decide +kernel
theorem dX12_connects_150 : decode cX12_connects 150 = .ok (.aload_n 0, 1) := by decide +kernel
theorem dX12_connects_151 : decode cX12_connects 151 = .ok (.getfield 134, 3) := by decide +kernel
theorem dX12_connects_154 : decode cX12_connects 154 = .ok (.iload 4, 2) := by decide +kernel
theorem dX12_connects_156 : decode cX12_connects 156 = .ok (.iaload, 1) := by decide +kernel
theorem dX12_connects_157 : decode cX12_connects 157 = .ok (.isub, 1) := by decide +kernel
theorem dX12_connects_158 : decode cX12_connects 158 = .ok (.bipush 20, 2) := by decide +kernel
theorem dX12_connects_160 : decode cX12_connects 160 = .ok (.if_icmp .le 15, 3) := by decide +kernel
theorem dX12_connects_163 : decode cX12_connects 163 = .ok (.aload_n 0, 1) := by decide +kernel
theorem dX12_connects_164 : decode cX12_connects 164 = .ok (.iload 4, 2) := by decide +kernel
theorem dX12_connects_166 : decode cX12_connects 166 = .ok (.invokevirtual 247, 3) := by decide +kernel
theorem dX12_connects_169 : decode cX12_connects 169 = .ok (.iconst (-1), 1) := by decide +kernel
theorem dX12_connects_170 : decode cX12_connects 170 = .ok (.istore 4, 2) := by decide +kernel
theorem dX12_connects_172 : decode cX12_connects 172 = .ok (.goto 24, 3) := by decide +kernel
theorem dX12_connects_175 : decode cX12_connects 175 = .ok (.iload 4, 2) := by decide +kernel
theorem dX12_connects_177 : decode cX12_connects 177 = .ok (.iconst (-1), 1) := by decide +kernel
theorem dX12_connects_178 : decode cX12_connects 178 = .ok (.if_icmp .ne 18, 3) := by decide +kernel
theorem dX12_connects_181 : decode cX12_connects 181 = .ok (.aload_n 0, 1) := by decide +kernel
theorem dX12_connects_182 : decode cX12_connects 182 = .ok (.getfield 241, 3) := by decide +kernel
theorem dX12_connects_185 : decode cX12_connects 185 = .ok (.bipush 6, 2) := by decide +kernel
theorem dX12_connects_187 : decode cX12_connects 187 = .ok (.if_icmp .ne 9, 3) := by decide +kernel
theorem dX12_connects_190 : decode cX12_connects 190 = .ok (.aload_n 0, 1) := by decide +kernel
theorem dX12_connects_191 : decode cX12_connects 191 = .ok (.iload 5, 2) := by decide +kernel
theorem dX12_connects_193 : decode cX12_connects 193 = .ok (.invokevirtual 247, 3) := by decide +kernel
theorem dX12_connects_196 : decode cX12_connects 196 = .ok (.iload 4, 2) := by decide +kernel
theorem dX12_connects_198 : decode cX12_connects 198 = .ok (.iconst (-1), 1) := by decide +kernel
theorem dX12_connects_199 : decode cX12_connects 199 = .ok (.if_icmp .ne 83, 3) := by decide +kernel
theorem dX12_connects_202 : decode cX12_connects 202 = .ok (.aload_n 0, 1) := by decide +kernel
theorem dX12_connects_203 : decode cX12_connects 203 = .ok (.getfield 241, 3) := by decide +kernel
theorem dX12_connects_206 : decode cX12_connects 206 = .ok (.istore 4, 2) := by decide +kernel
theorem dX12_connects_208 : decode cX12_connects 208 = .ok (.aload_n 0, 1) := by decide +kernel
theorem dX12_connects_209 : decode cX12_connects 209 = .ok (.getfield 119, 3) := by decide +kernel
theorem dX12_connects_212 : decode cX12_connects 212 = .ok (.iload 4, 2) := by decide +kernel
theorem dX12_connects_214 : decode cX12_connects 214 = .ok (.aload_n 0, 1) := by decide +kernel
theorem dX12_connects_215 : decode cX12_connects 215 = .ok (.getfield 20, 3) := by decide +kernel
theorem dX12_connects_218 : decode cX12_connects 218 = .ok (.iload_n 1, 1) := by decide +kernel
theorem dX12_connects_219 : decode cX12_connects 219 = .ok (.iaload, 1) := by decide +kernel
theorem dX12_connects_220 : decode cX12_connects 220 = .ok (.iastore, 1) := by decide +kernel
theorem dX12_connects_221 : decode cX12_connects 221 = .ok (.aload_n 0, 1) := by decide +kernel
theorem dX12_connects_222 : decode cX12_connects 222 = .ok (.getfield 122, 3) := by decide +kernel
theorem dX12_connects_225 : decode cX12_connects 225 = .ok (.iload 4, 2) := by decide +kernel
theorem dX12_connects_227 : decode cX12_connects 227 = .ok (.aload_n 0, 1) := by decide +kernel
theorem dX12_connects_228 : decode cX12_connects 228 = .ok (.getfield 23, 3) := by decide +kernel
theorem dX12_connects_231 : decode cX12_connects 231 = .ok (.iload_n 1, 1) := by decide +kernel
theorem dX12_connects_232 : decode cX12_connects 232 = .ok (.iaload, 1) := by decide +kernel
theorem dX12_connects_233 : decode cX12_connects 233 = .ok (.iastore, 1) := by decide +kernel
theorem dX12_connects_234 : decode cX12_connects 234 = .ok (.aload_n 0, 1) := by decide +kernel
theorem dX12_connects_235 : decode cX12_connects 235 = .ok (.getfield 125, 3) := by decide +kernel
theorem dX12_connects_238 : decode cX12_connects 238 = .ok (.iload 4, 2) := by decide +kernel
theorem dX12_connects_240 : decode cX12_connects 240 = .ok (.aload_n 0, 1) := by decide +kernel
theorem dX12_connects_241 : decode cX12_connects 241 = .ok (.iload_n 1, 1) := by decide +kernel
theorem dX12_connects_242 : decode cX12_connects 242 = .ok (.invokevirtual 235, 3) := by decide +kernel
theorem dX12_connects_245 : decode cX12_connects 245 = .ok (.iastore, 1) := by decide +kernel
theorem dX12_connects_246 : decode cX12_connects 246 = .ok (.aload_n 0, 1) := by decide +kernel
theorem dX12_connects_247 : decode cX12_connects 247 = .ok (.getfield 128, 3) := by decide +kernel
theorem dX12_connects_250 : decode cX12_connects 250 = .ok (.iload 4, 2) := by decide +kernel
theorem dX12_connects_252 : decode cX12_connects 252 = .ok (.iload_n 2, 1) := by decide +kernel
theorem dX12_connects_253 : decode cX12_connects 253 = .ok (.bastore, 1) := by decide +kernel
theorem dX12_connects_254 : decode cX12_connects 254 = .ok (.aload_n 0, 1) := by decide +kernel
theorem dX12_connects_255 : decode cX12_connects 255 = .ok (.getfield 131, 3) := by decide +kernel
theorem dX12_connects_258 : decode cX12_connects 258 = .ok (.iload 4, 2) := by decide +kernel
theorem dX12_connects_260 : decode cX12_connects 260 = .ok (.iload_n 3, 1) := by decide +kernel
theorem dX12_connects_261 : decode cX12_connects 261 = .ok (.iastore, 1) := by decide +kernel
theorem dX12_connects_262 : decode cX12_connects 262 = .ok (.aload_n 0, 1) := by decide +kernel
theorem dX12_connects_263 : decode cX12_connects 263 = .ok (.dup, 1) := by decide +kernel
theorem dX12_connects_264 : decode cX12_connects 264 = .ok (.getfield 241, 3) := by decide +kernel
theorem dX12_connects_267 : decode cX12_connects 267 = .ok (.iconst 1, 1) := by decide +kernel
theorem dX12_connects_268 : decode cX12_connects 268 = .ok (.iadd, 1) := by decide +kernel
theorem dX12_connects_269 : decode cX12_connects 269 = .ok (.putfield 241, 3) := by decide +kernel
theorem dX12_connects_272 : decode cX12_connects 272 = .ok (.aload_n 0, 1) := by decide +kernel
theorem dX12_connects_273 : decode cX12_connects 273 = .ok (.dup, 1) := by decide +kernel
theorem dX12_connects_274 : decode cX12_connects 274 = .ok (.getfield 251, 3) := by decide +kernel
theorem dX12_connects_277 : decode cX12_connects 277 = .ok (.iconst 1, 1) := by decide +kernel
theorem dX12_connects_278 : decode cX12_connects 278 = .ok (.iadd, 1) := by decide +kernel
theorem dX12_connects_279 : decode cX12_connects 279 = .ok (.putfield 251, 3) := by decide +kernel
theorem dX12_connects_282 : decode cX12_connects 282 = .ok (.aload_n 0, 1) := by decide +kernel
theorem dX12_connects_283 : decode cX12_connects 283 = .ok (.getfield 134, 3) := by decide +kernel
theorem dX12_connects_286 : decode cX12_connects 286 = .ok (.iload 4, 2) := by decide +kernel
theorem dX12_connects_288 : decode cX12_connects 288 = .ok (.aload_n 0, 1) := by decide +kernel
theorem dX12_connects_289 : decode cX12_connects 289 = .ok (.getfield 244, 3) := by decide +kernel
theorem dX12_connects_292 : decode cX12_connects 292 = .ok (.iastore, 1) := by decide +kernel
theorem dX12_connects_293 : decode cX12_connects 293 = .ok (.aload_n 0, 1) := by decide +kernel
theorem dX12_connects_294 : decode cX12_connects 294 = .ok (.getfield 137, 3) := by decide +kernel
theorem dX12_connects_297 : decode cX12_connects 297 = .ok (.iload 4, 2) := by decide +kernel
theorem dX12_connects_299 : decode cX12_connects 299 = .ok (.aload_n 0, 1) := by decide +kernel
theorem dX12_connects_300 : decode cX12_connects 300 = .ok (.getfield 254, 3) := by decide +kernel
theorem dX12_connects_303 : decode cX12_connects 303 = .ok (.iastore, 1) := by decide +kernel
theorem dX12_connects_304 : decode cX12_connects 304 = .ok (.aload_n 0, 1) := by decide +kernel
theorem dX12_connects_305 : decode cX12_connects 305 = .ok (.dup, 1) := by decide +kernel
theorem dX12_connects_306 : decode cX12_connects 306 = .ok (.getfield 254, 3) := by decide +kernel
theorem dX12_connects_309 : decode cX12_connects 309 = .ok (.iconst 1, 1) := by decide +kernel
theorem dX12_connects_310 : decode cX12_connects 310 = .ok (.iadd, 1) := by decide +kernel
theorem dX12_connects_311 : decode cX12_connects 311 = .ok (.putfield 254, 3) := by decide +kernel
theorem dX12_connects_314 : decode cX12_connects 314 = .ok (.return_, 1) := by decide +kernel
theorem dX12_many_0 : decode cX12_many 0 = .ok (.iload_n 0, 1) := by decide +kernel
theorem dX12_many_1 : decode cX12_many 1 = .ok (.bipush 99, 2) := by decide +kernel
theorem dX12_many_3 : decode cX12_many 3 = .ok (.if_icmp .le 7, 3) := by decide +kernel
theorem dX12_many_6 : decode cX12_many 6 = .ok (.iconst 3, 1) := by decide +kernel
theorem dX12_many_7 : decode cX12_many 7 = .ok (.goto 22, 3) := by decide +kernel
theorem dX12_many_10 : decode cX12_many 10 = .ok (.iload_n 0, 1) := by decide +kernel
theorem dX12_many_11 : decode cX12_many 11 = .ok (.bipush 9, 2) := by decide +kernel
theorem dX12_many_13 : decode cX12_many 13 = .ok (.if_icmp .le 7, 3) := by decide +kernel
theorem dX12_many_16 : decode cX12_many 16 = .ok (.iconst 2, 1) := by decide +kernel
theorem dX12_many_17 : decode cX12_many 17 = .ok (.goto 12, 3) := by decide +kernel
theorem dX12_many_20 : decode cX12_many 20 = .ok (.iload_n 0, 1) := by decide +kernel
theorem dX12_many_21 : decode cX12_many 21 = .ok (.ifCond .le 7, 3) := by decide +kernel
theorem dX12_many_24 : decode cX12_many 24 = .ok (.iconst 1, 1) := by decide +kernel
theorem dX12_many_25 : decode cX12_many 25 = .ok (.goto 4, 3) := by decide +kernel
theorem dX12_many_28 : decode cX12_many 28 = .ok (.iconst 0, 1) := by decide +kernel
theorem dX12_many_29 : decode cX12_many 29 = .ok (.ireturn, 1) := by decide +kernel
theorem dX12_begins_0 : decode cX12_begins 0 = .ok (.iload_n 1, 1) := by decide +kernel
theorem dX12_begins_1 : decode cX12_begins 1 = .ok (.istore_n 2, 1) := by decide +kernel
theorem dX12_begins_2 : decode cX12_begins 2 = .ok (.iload_n 0, 1) := by decide +kernel
theorem dX12_begins_3 : decode cX12_begins 3 = .ok (.invokestatic 257, 3) := by decide +kernel
theorem dX12_begins_6 : decode cX12_begins 6 = .ok (.istore_n 3, 1) := by decide +kernel
theorem dX12_begins_7 : decode cX12_begins 7 = .ok (.iload_n 3, 1) := by decide +kernel
theorem dX12_begins_8 : decode cX12_begins 8 = .ok (.iload_n 1, 1) := by decide +kernel
theorem dX12_begins_9 : decode cX12_begins 9 = .ok (.invokestatic 257, 3) := by decide +kernel
theorem dX12_begins_12 : decode cX12_begins 12 = .ok (.if_icmp .ge 14, 3) := by decide +kernel
theorem dX12_begins_15 : decode cX12_begins 15 = .ok (.iload_n 2, 1) := by decide +kernel
theorem dX12_begins_16 : decode cX12_begins 16 = .ok (.bipush 10, 2) := by decide +kernel
theorem dX12_begins_18 : decode cX12_begins 18 = .ok (.idiv, 1) := by decide +kernel
theorem dX12_begins_19 : decode cX12_begins 19 = .ok (.istore_n 2, 1) := by decide +kernel
theorem dX12_begins_20 : decode cX12_begins 20 = .ok (.iinc 3 1, 3) := by decide +kernel
theorem dX12_begins_23 : decode cX12_begins 23 = .ok (.goto (-16), 3) := by decide +kernel
theorem dX12_begins_26 : decode cX12_begins 26 = .ok (.iload_n 2, 1) := by decide +kernel
theorem dX12_begins_27 : decode cX12_begins 27 = .ok (.iload_n 0, 1) := by decide +kernel
theorem dX12_begins_28 : decode cX12_begins 28 = .ok (.if_icmp .ne 7, 3) := by decide +kernel
theorem dX12_begins_31 : decode cX12_begins 31 = .ok (.iconst 1, 1) := by decide +kernel
theorem dX12_begins_32 : decode cX12_begins 32 = .ok (.goto 4, 3) := by decide +kernel
theorem dX12_begins_35 : decode cX12_begins 35 = .ok (.iconst 0, 1) := by decide +kernel
theorem dX12_begins_36 : decode cX12_begins 36 = .ok (.ireturn, 1) := by decide +kernel
theorem dX12_drops_0 : decode cX12_drops 0 = .ok (.aload_n 0, 1) := by decide +kernel
theorem dX12_drops_1 : decode cX12_drops 1 = .ok (.dup, 1) := by decide +kernel
theorem dX12_drops_2 : decode cX12_drops 2 = .ok (.getfield 260, 3) := by decide +kernel
theorem dX12_drops_5 : decode cX12_drops 5 = .ok (.iconst 1, 1) := by decide +kernel
theorem dX12_drops_6 : decode cX12_drops 6 = .ok (.isub, 1) := by decide +kernel
theorem dX12_drops_7 : decode cX12_drops 7 = .ok (.putfield 260, 3) := by decide +kernel
theorem dX12_drops_10 : decode cX12_drops 10 = .ok (.iload_n 1, 1) := by decide +kernel
theorem dX12_drops_11 : decode cX12_drops 11 = .ok (.istore_n 2, 1) := by decide +kernel
theorem dX12_drops_12 : decode cX12_drops 12 = .ok (.iload_n 2, 1) := by decide +kernel
theorem dX12_drops_13 : decode cX12_drops 13 = .ok (.aload_n 0, 1) := by decide +kernel
theorem dX12_drops_14 : decode cX12_drops 14 = .ok (.getfield 260, 3) := by decide +kernel
theorem dX12_drops_17 : decode cX12_drops 17 = .ok (.if_icmp .ge 135, 3) := by decide +kernel
theorem dX12_drops_20 : decode cX12_drops 20 = .ok (.aload_n 0, 1) := by decide +kernel
theorem dX12_drops_21 : decode cX12_drops 21 = .ok (.getfield 92, 3) := by decide +kernel
theorem dX12_drops_24 : decode cX12_drops 24 = .ok (.iload_n 2, 1) := by decide +kernel
theorem dX12_drops_25 : decode cX12_drops 25 = .ok (.aload_n 0, 1) := by decide +kernel
theorem dX12_drops_26 : decode cX12_drops 26 = .ok (.getfield 92, 3) := by decide +kernel
theorem dX12_drops_29 : decode cX12_drops 29 = .ok (.iload_n 2, 1) := by decide +kernel
theorem dX12_drops_30 : decode cX12_drops 30 = .ok (.iconst 1, 1) := by decide +kernel
theorem dX12_drops_31 : decode cX12_drops 31 = .ok (.iadd, 1) := by decide +kernel
theorem dX12_drops_32 : decode cX12_drops 32 = .ok (.iaload, 1) := by decide +kernel
theorem dX12_drops_33 : decode cX12_drops 33 = .ok (.iastore, 1) := by decide +kernel
theorem dX12_drops_34 : decode cX12_drops 34 = .ok (.aload_n 0, 1) := by decide +kernel
theorem dX12_drops_35 : decode cX12_drops 35 = .ok (.getfield 95, 3) := by decide +kernel
theorem dX12_drops_38 : decode cX12_drops 38 = .ok (.iload_n 2, 1) := by decide +kernel
theorem dX12_drops_39 : decode cX12_drops 39 = .ok (.aload_n 0, 1) := by decide +kernel
theorem dX12_drops_40 : decode cX12_drops 40 = .ok (.getfield 95, 3) := by decide +kernel
theorem dX12_drops_43 : decode cX12_drops 43 = .ok (.iload_n 2, 1) := by decide +kernel
theorem dX12_drops_44 : decode cX12_drops 44 = .ok (.iconst 1, 1) := by decide +kernel
theorem dX12_drops_45 : decode cX12_drops 45 = .ok (.iadd, 1) := by decide +kernel
theorem dX12_drops_46 : decode cX12_drops 46 = .ok (.iaload, 1) := by decide +kernel
theorem dX12_drops_47 : decode cX12_drops 47 = .ok (.iastore, 1) := by decide +kernel
theorem dX12_drops_48 : decode cX12_drops 48 = .ok (.aload_n 0, 1) := by decide +kernel
theorem dX12_drops_49 : decode cX12_drops 49 = .ok (.getfield 98, 3) := by decide +kernel
theorem dX12_drops_52 : decode cX12_drops 52 = .ok (.iload_n 2, 1) := by decide +kernel
theorem dX12_drops_53 : decode cX12_drops 53 = .ok (.aload_n 0, 1) := by decide +kernel
theorem dX12_drops_54 : decode cX12_drops 54 = .ok (.getfield 98, 3) := by decide +kernel
theorem dX12_drops_57 : decode cX12_drops 57 = .ok (.iload_n 2, 1) := by decide +kernel
theorem dX12_drops_58 : decode cX12_drops 58 = .ok (.iconst 1, 1) := by decide +kernel
theorem dX12_drops_59 : decode cX12_drops 59 = .ok (.iadd, 1) := by decide +kernel
theorem dX12_drops_60 : decode cX12_drops 60 = .ok (.iaload, 1) := by decide +kernel
theorem dX12_drops_61 : decode cX12_drops 61 = .ok (.iastore, 1) := by decide +kernel
theorem dX12_drops_62 : decode cX12_drops 62 = .ok (.aload_n 0, 1) := by decide +kernel
theorem dX12_drops_63 : decode cX12_drops 63 = .ok (.getfield 101, 3) := by decide +kernel
theorem dX12_drops_66 : decode cX12_drops 66 = .ok (.iload_n 2, 1) := by decide +kernel
theorem dX12_drops_67 : decode cX12_drops 67 = .ok (.aload_n 0, 1) := by decide +kernel
theorem dX12_drops_68 : decode cX12_drops 68 = .ok (.getfield 101, 3) := by decide +kernel
theorem dX12_drops_71 : decode cX12_drops 71 = .ok (.iload_n 2, 1) := by decide +kernel
theorem dX12_drops_72 : decode cX12_drops 72 = .ok (.iconst 1, 1) := by decide +kernel
theorem dX12_drops_73 : decode cX12_drops 73 = .ok (.iadd, 1) := by decide +kernel
theorem dX12_drops_74 : decode cX12_drops 74 = .ok (.baload, 1) := by decide +kernel
theorem dX12_drops_75 : decode cX12_drops 75 = .ok (.bastore, 1) := by decide +kernel
theorem dX12_drops_76 : decode cX12_drops 76 = .ok (.aload_n 0, 1) := by decide +kernel
theorem dX12_drops_77 : decode cX12_drops 77 = .ok (.getfield 104, 3) := by decide +kernel
theorem dX12_drops_80 : decode cX12_drops 80 = .ok (.iload_n 2, 1) := by decide +kernel
theorem dX12_drops_81 : decode cX12_drops 81 = .ok (.aload_n 0, 1) := by decide +kernel
theorem dX12_drops_82 : decode cX12_drops 82 = .ok (.getfield 104, 3) := by decide +kernel
theorem dX12_drops_85 : decode cX12_drops 85 = .ok (.iload_n 2, 1) := by decide +kernel
theorem dX12_drops_86 : decode cX12_drops 86 = .ok (.iconst 1, 1) := by decide +kernel
theorem dX12_drops_87 : decode cX12_drops 87 = .ok (.iadd, 1) := by decide +kernel
theorem dX12_drops_88 : decode cX12_drops 88 = .ok (.iaload, 1) := by decide +kernel
theorem dX12_drops_89 : decode cX12_drops 89 = .ok (.iastore, 1) := by decide +kernel
theorem dX12_drops_90 : decode cX12_drops 90 = .ok (.aload_n 0, 1) := by decide +kernel
theorem dX12_drops_91 : decode cX12_drops 91 = .ok (.getfield 107, 3) := by decide +kernel
theorem dX12_drops_94 : decode cX12_drops 94 = .ok (.iload_n 2, 1) := by decide +kernel
theorem dX12_drops_95 : decode cX12_drops 95 = .ok (.aload_n 0, 1) := by decide +kernel
theorem dX12_drops_96 : decode cX12_drops 96 = .ok (.getfield 107, 3) := by decide +kernel
theorem dX12_drops_99 : decode cX12_drops 99 = .ok (.iload_n 2, 1) := by decide +kernel
theorem dX12_drops_100 : decode cX12_drops 100 = .ok (.iconst 1, 1) := by decide +kernel
theorem dX12_drops_101 : decode cX12_drops 101 = .ok (.iadd, 1) := by decide +kernel
theorem dX12_drops_102 : decode cX12_drops 102 = .ok (.iaload, 1) := by decide +kernel
theorem dX12_drops_103 : decode cX12_drops 103 = .ok (.iastore, 1) := by decide +kernel
theorem dX12_drops_104 : decode cX12_drops 104 = .ok (.aload_n 0, 1) := by decide +kernel
theorem dX12_drops_105 : decode cX12_drops 105 = .ok (.getfield 110, 3) := by decide +kernel
theorem dX12_drops_108 : decode cX12_drops 108 = .ok (.iload_n 2, 1) := by decide +kernel
theorem dX12_drops_109 : decode cX12_drops 109 = .ok (.aload_n 0, 1) := by decide +kernel
theorem dX12_drops_110 : decode cX12_drops 110 = .ok (.getfield 110, 3) := by decide +kernel
theorem dX12_drops_113 : decode cX12_drops 113 = .ok (.iload_n 2, 1) := by decide +kernel
theorem dX12_drops_114 : decode cX12_drops 114 = .ok (.iconst 1, 1) := by decide +kernel
theorem dX12_drops_115 : decode cX12_drops 115 = .ok (.iadd, 1) := by decide +kernel
theorem dX12_drops_116 : decode cX12_drops 116 = .ok (.iaload, 1) := by decide +kernel
theorem dX12_drops_117 : decode cX12_drops 117 = .ok (.iastore, 1) := by decide +kernel
theorem dX12_drops_118 : decode cX12_drops 118 = .ok (.aload_n 0, 1) := by decide +kernel
theorem dX12_drops_119 : decode cX12_drops 119 = .ok (.getfield 113, 3) := by decide +kernel
theorem dX12_drops_122 : decode cX12_drops 122 = .ok (.iload_n 2, 1) := by decide +kernel
theorem dX12_drops_123 : decode cX12_drops 123 = .ok (.aload_n 0, 1) := by decide +kernel
theorem dX12_drops_124 : decode cX12_drops 124 = .ok (.getfield 113, 3) := by decide +kernel
theorem dX12_drops_127 : decode cX12_drops 127 = .ok (.iload_n 2, 1) := by decide +kernel
theorem dX12_drops_128 : decode cX12_drops 128 = .ok (.iconst 1, 1) := by decide +kernel
theorem dX12_drops_129 : decode cX12_drops 129 = .ok (.iadd, 1) := by decide +kernel
theorem dX12_drops_130 : decode cX12_drops 130 = .ok (.iaload, 1) := by decide +kernel
theorem dX12_drops_131 : decode cX12_drops 131 = .ok (.iastore, 1) := by decide +kernel
theorem dX12_drops_132 : decode cX12_drops 132 = .ok (.aload_n 0, 1) := by decide +kernel
theorem dX12_drops_133 : decode cX12_drops 133 = .ok (.getfield 116, 3) := by decide +kernel
theorem dX12_drops_136 : decode cX12_drops 136 = .ok (.iload_n 2, 1) := by decide +kernel
theorem dX12_drops_137 : decode cX12_drops 137 = .ok (.aload_n 0, 1) := by decide +kernel
theorem dX12_drops_138 : decode cX12_drops 138 = .ok (.getfield 116, 3) := by decide +kernel
theorem dX12_drops_141 : decode cX12_drops 141 = .ok (.iload_n 2, 1) := by decide +kernel
theorem dX12_drops_142 : decode cX12_drops 142 = .ok (.iconst 1, 1) := by decide +kernel
theorem dX12_drops_143 : decode cX12_drops 143 = .ok (.iadd, 1) := by decide +kernel
theorem dX12_drops_144 : decode cX12_drops 144 = .ok (.iaload, 1) := by decide +kernel
theorem dX12_drops_145 : decode cX12_drops 145 = .ok (.iastore, 1) := by decide +kernel
theorem dX12_drops_146 : decode cX12_drops 146 = .ok (.iinc 2 1, 3) := by decide +kernel
theorem dX12_drops_149 : decode cX12_drops 149 = .ok (.goto (-137), 3) := by decide +kernel
theorem dX12_drops_152 : decode cX12_drops 152 = .ok (.return_, 1) := by decide +kernel
theorem dX12_has_0 : decode cX12_has 0 = .ok (.iload_n 0, 1) := by decide +kernel
theorem dX12_has_1 : decode cX12_has 1 = .ok (.iload_n 1, 1) := by decide +kernel
theorem dX12_has_2 : decode cX12_has 2 = .ok (.iand, 1) := by decide +kernel
theorem dX12_has_3 : decode cX12_has 3 = .ok (.ifCond .eq 7, 3) := by decide +kernel
theorem dX12_has_6 : decode cX12_has 6 = .ok (.iconst 1, 1) := by decide +kernel
theorem dX12_has_7 : decode cX12_has 7 = .ok (.goto 4, 3) := by decide +kernel
theorem dX12_has_10 : decode cX12_has 10 = .ok (.iconst 0, 1) := by decide +kernel
theorem dX12_has_11 : decode cX12_has 11 = .ok (.ireturn, 1) := by decide +kernel
theorem dX12_isStrict_0 : decode cX12_isStrict 0 = .ok (.iload_n 0, 1) := by decide +kernel
theorem dX12_isStrict_1 : decode cX12_isStrict 1 = .ok (.bipush 8, 2) := by decide +kernel
theorem dX12_isStrict_3 : decode cX12_isStrict 3 = .ok (.invokestatic 263, 3) := by decide +kernel
theorem dX12_isStrict_6 : decode cX12_isStrict 6 = .ok (.ireturn, 1) := by decide +kernel
theorem dX12_isLax_0 : decode cX12_isLax 0 = .ok (.iload_n 0, 1) := by decide +kernel
theorem dX12_isLax_1 : decode cX12_isLax 1 = .ok (.iconst 4, 1) := by decide +kernel
theorem dX12_isLax_2 : decode cX12_isLax 2 = .ok (.invokestatic 263, 3) := by decide +kernel
theorem dX12_isLax_5 : decode cX12_isLax 5 = .ok (.ifCond .eq 16, 3) := by decide +kernel
theorem dX12_isLax_8 : decode cX12_isLax 8 = .ok (.iload_n 0, 1) := by decide +kernel
theorem dX12_isLax_9 : decode cX12_isLax 9 = .ok (.bipush 8, 2) := by decide +kernel
theorem dX12_isLax_11 : decode cX12_isLax 11 = .ok (.invokestatic 263, 3) := by decide +kernel
theorem dX12_isLax_14 : decode cX12_isLax 14 = .ok (.ifCond .ne 7, 3) := by decide +kernel
theorem dX12_isLax_17 : decode cX12_isLax 17 = .ok (.iconst 1, 1) := by decide +kernel
theorem dX12_isLax_18 : decode cX12_isLax 18 = .ok (.goto 4, 3) := by decide +kernel
theorem dX12_isLax_21 : decode cX12_isLax 21 = .ok (.iconst 0, 1) := by decide +kernel
theorem dX12_isLax_22 : decode cX12_isLax 22 = .ok (.ireturn, 1) := by decide +kernel
theorem dX12_refuses_0 : decode cX12_refuses 0 = .ok (.aload_n 0, 1) := by decide +kernel
theorem dX12_refuses_1 : decode cX12_refuses 1 = .ok (.getfield 62, 3) := by decide +kernel
theorem dX12_refuses_4 : decode cX12_refuses 4 = .ok (.iload_n 1, 1) := by decide +kernel
theorem dX12_refuses_5 : decode cX12_refuses 5 = .ok (.iaload, 1) := by decide +kernel
theorem dX12_refuses_6 : decode cX12_refuses 6 = .ok (.istore_n 3, 1) := by decide +kernel
theorem dX12_refuses_7 : decode cX12_refuses 7 = .ok (.aload_n 0, 1) := by decide +kernel
theorem dX12_refuses_8 : decode cX12_refuses 8 = .ok (.getfield 56, 3) := by decide +kernel
theorem dX12_refuses_11 : decode cX12_refuses 11 = .ok (.iload_n 1, 1) := by decide +kernel
theorem dX12_refuses_12 : decode cX12_refuses 12 = .ok (.iaload, 1) := by decide +kernel
theorem dX12_refuses_13 : decode cX12_refuses 13 = .ok (.istore 4, 2) := by decide +kernel
theorem dX12_refuses_15 : decode cX12_refuses 15 = .ok (.iload 4, 2) := by decide +kernel
theorem dX12_refuses_17 : decode cX12_refuses 17 = .ok (.iconst (-1), 1) := by decide +kernel
theorem dX12_refuses_18 : decode cX12_refuses 18 = .ok (.if_icmp .eq 24, 3) := by decide +kernel
theorem dX12_refuses_21 : decode cX12_refuses 21 = .ok (.aload_n 0, 1) := by decide +kernel
theorem dX12_refuses_22 : decode cX12_refuses 22 = .ok (.getfield 16, 3) := by decide +kernel
theorem dX12_refuses_25 : decode cX12_refuses 25 = .ok (.iload 4, 2) := by decide +kernel
theorem dX12_refuses_27 : decode cX12_refuses 27 = .ok (.baload, 1) := by decide +kernel
theorem dX12_refuses_28 : decode cX12_refuses 28 = .ok (.ifCond .eq 18, 3) := by decide +kernel
theorem dX12_refuses_31 : decode cX12_refuses 31 = .ok (.iload 4, 2) := by decide +kernel
theorem dX12_refuses_33 : decode cX12_refuses 33 = .ok (.aload_n 0, 1) := by decide +kernel
theorem dX12_refuses_34 : decode cX12_refuses 34 = .ok (.getfield 23, 3) := by decide +kernel
theorem dX12_refuses_37 : decode cX12_refuses 37 = .ok (.iload_n 1, 1) := by decide +kernel
theorem dX12_refuses_38 : decode cX12_refuses 38 = .ok (.iaload, 1) := by decide +kernel
theorem dX12_refuses_39 : decode cX12_refuses 39 = .ok (.if_icmp .ne 7, 3) := by decide +kernel
theorem dX12_refuses_42 : decode cX12_refuses 42 = .ok (.iconst 1, 1) := by decide +kernel
theorem dX12_refuses_43 : decode cX12_refuses 43 = .ok (.goto 4, 3) := by decide +kernel
theorem dX12_refuses_46 : decode cX12_refuses 46 = .ok (.iconst 0, 1) := by decide +kernel
theorem dX12_refuses_47 : decode cX12_refuses 47 = .ok (.istore 5, 2) := by decide +kernel
theorem dX12_refuses_49 : decode cX12_refuses 49 = .ok (.iload_n 3, 1) := by decide +kernel
theorem dX12_refuses_50 : decode cX12_refuses 50 = .ok (.invokestatic 267, 3) := by decide +kernel
theorem dX12_refuses_53 : decode cX12_refuses 53 = .ok (.ifCond .ne 10, 3) := by decide +kernel
theorem dX12_refuses_56 : decode cX12_refuses 56 = .ok (.iload_n 3, 1) := by decide +kernel
theorem dX12_refuses_57 : decode cX12_refuses 57 = .ok (.invokestatic 270, 3) := by decide +kernel
theorem dX12_refuses_60 : decode cX12_refuses 60 = .ok (.ifCond .eq 7, 3) := by decide +kernel
theorem dX12_refuses_63 : decode cX12_refuses 63 = .ok (.iconst 1, 1) := by decide +kernel
theorem dX12_refuses_64 : decode cX12_refuses 64 = .ok (.goto 4, 3) := by decide +kernel
theorem dX12_refuses_67 : decode cX12_refuses 67 = .ok (.iconst 0, 1) := by decide +kernel
theorem dX12_refuses_68 : decode cX12_refuses 68 = .ok (.istore 6, 2) := by decide +kernel
theorem dX12_refuses_70 : decode cX12_refuses 70 = .ok (.aload_n 0, 1) := by decide +kernel
theorem dX12_refuses_71 : decode cX12_refuses 71 = .ok (.getfield 273, 3) := by decide +kernel
theorem dX12_refuses_74 : decode cX12_refuses 74 = .ok (.ifCond .eq 15, 3) := by decide +kernel
theorem dX12_refuses_77 : decode cX12_refuses 77 = .ok (.aload_n 0, 1) := by decide +kernel
theorem dX12_refuses_78 : decode cX12_refuses 78 = .ok (.getfield 276, 3) := by decide +kernel
theorem dX12_refuses_81 : decode cX12_refuses 81 = .ok (.iconst 2, 1) := by decide +kernel
theorem dX12_refuses_82 : decode cX12_refuses 82 = .ok (.if_icmp .eq 7, 3) := by decide +kernel
theorem dX12_refuses_85 : decode cX12_refuses 85 = .ok (.iconst 1, 1) := by decide +kernel
theorem dX12_refuses_86 : decode cX12_refuses 86 = .ok (.goto 4, 3) := by decide +kernel
theorem dX12_refuses_89 : decode cX12_refuses 89 = .ok (.iconst 0, 1) := by decide +kernel
theorem dX12_refuses_90 : decode cX12_refuses 90 = .ok (.istore 7, 2) := by decide +kernel
theorem dX12_refuses_92 : decode cX12_refuses 92 = .ok (.iload 5, 2) := by decide +kernel
theorem dX12_refuses_94 : decode cX12_refuses 94 = .ok (.ifCond .ne 30, 3) := by decide +kernel
theorem dX12_refuses_97 : decode cX12_refuses 97 = .ok (.aload_n 0, 1) := by decide +kernel
theorem dX12_refuses_98 : decode cX12_refuses 98 = .ok (.aload_n 0, 1) := by decide +kernel
theorem dX12_refuses_99 : decode cX12_refuses 99 = .ok (.getfield 23, 3) := by decide +kernel
theorem dX12_refuses_102 : decode cX12_refuses 102 = .ok (.iload_n 1, 1) := by decide +kernel
theorem dX12_refuses_103 : decode cX12_refuses 103 = .ok (.iaload, 1) := by decide +kernel
theorem dX12_refuses_104 : decode cX12_refuses 104 = .ok (.iload 4, 2) := by decide +kernel
theorem dX12_refuses_106 : decode cX12_refuses 106 = .ok (.invokevirtual 279, 3) := by decide +kernel
theorem dX12_refuses_109 : decode cX12_refuses 109 = .ok (.ifCond .eq 13, 3) := by decide +kernel
theorem dX12_refuses_112 : decode cX12_refuses 112 = .ok (.aload_n 0, 1) := by decide +kernel
theorem dX12_refuses_113 : decode cX12_refuses 113 = .ok (.getfield 16, 3) := by decide +kernel
theorem dX12_refuses_116 : decode cX12_refuses 116 = .ok (.iload 4, 2) := by decide +kernel
theorem dX12_refuses_118 : decode cX12_refuses 118 = .ok (.baload, 1) := by decide +kernel
theorem dX12_refuses_119 : decode cX12_refuses 119 = .ok (.ifCond .eq 5, 3) := by decide +kernel
theorem dX12_refuses_122 : decode cX12_refuses 122 = .ok (.iconst 1, 1) := by decide +kernel
theorem dX12_refuses_123 : decode cX12_refuses 123 = .ok (.ireturn, 1) := by decide +kernel
theorem dX12_refuses_124 : decode cX12_refuses 124 = .ok (.iload_n 3, 1) := by decide +kernel
theorem dX12_refuses_125 : decode cX12_refuses 125 = .ok (.iconst 1, 1) := by decide +kernel
theorem dX12_refuses_126 : decode cX12_refuses 126 = .ok (.invokestatic 263, 3) := by decide +kernel
theorem dX12_refuses_129 : decode cX12_refuses 129 = .ok (.ifCond .eq 15, 3) := by decide +kernel
theorem dX12_refuses_132 : decode cX12_refuses 132 = .ok (.aload_n 0, 1) := by decide +kernel
theorem dX12_refuses_133 : decode cX12_refuses 133 = .ok (.getfield 20, 3) := by decide +kernel
theorem dX12_refuses_136 : decode cX12_refuses 136 = .ok (.iload_n 1, 1) := by decide +kernel
theorem dX12_refuses_137 : decode cX12_refuses 137 = .ok (.iaload, 1) := by decide +kernel
theorem dX12_refuses_138 : decode cX12_refuses 138 = .ok (.ifCond .ne 39, 3) := by decide +kernel
theorem dX12_refuses_141 : decode cX12_refuses 141 = .ok (.goto 34, 3) := by decide +kernel
theorem dX12_refuses_144 : decode cX12_refuses 144 = .ok (.iload 6, 2) := by decide +kernel
theorem dX12_refuses_146 : decode cX12_refuses 146 = .ok (.ifCond .eq 29, 3) := by decide +kernel
theorem dX12_refuses_149 : decode cX12_refuses 149 = .ok (.iload_n 3, 1) := by decide +kernel
theorem dX12_refuses_150 : decode cX12_refuses 150 = .ok (.iconst 2, 1) := by decide +kernel
theorem dX12_refuses_151 : decode cX12_refuses 151 = .ok (.invokestatic 263, 3) := by decide +kernel
theorem dX12_refuses_154 : decode cX12_refuses 154 = .ok (.ifCond .ne 21, 3) := by decide +kernel
theorem dX12_refuses_157 : decode cX12_refuses 157 = .ok (.iload_n 3, 1) := by decide +kernel
theorem dX12_refuses_158 : decode cX12_refuses 158 = .ok (.bipush 16, 2) := by decide +kernel
theorem dX12_refuses_160 : decode cX12_refuses 160 = .ok (.invokestatic 263, 3) := by decide +kernel
theorem dX12_refuses_163 : decode cX12_refuses 163 = .ok (.ifCond .ne 12, 3) := by decide +kernel
theorem dX12_refuses_166 : decode cX12_refuses 166 = .ok (.iload_n 3, 1) := by decide +kernel
theorem dX12_refuses_167 : decode cX12_refuses 167 = .ok (.bipush 32, 2) := by decide +kernel
theorem dX12_refuses_169 : decode cX12_refuses 169 = .ok (.invokestatic 263, 3) := by decide +kernel
theorem dX12_refuses_172 : decode cX12_refuses 172 = .ok (.ifCond .eq 5, 3) := by decide +kernel
theorem dX12_refuses_175 : decode cX12_refuses 175 = .ok (.iconst 1, 1) := by decide +kernel
theorem dX12_refuses_176 : decode cX12_refuses 176 = .ok (.ireturn, 1) := by decide +kernel
theorem dX12_refuses_177 : decode cX12_refuses 177 = .ok (.iload_n 3, 1) := by decide +kernel
theorem dX12_refuses_178 : decode cX12_refuses 178 = .ok (.bipush 32, 2) := by decide +kernel
theorem dX12_refuses_180 : decode cX12_refuses 180 = .ok (.invokestatic 263, 3) := by decide +kernel
theorem dX12_refuses_183 : decode cX12_refuses 183 = .ok (.ifCond .eq 18, 3) := by decide +kernel
theorem dX12_refuses_186 : decode cX12_refuses 186 = .ok (.iload 4, 2) := by decide +kernel
theorem dX12_refuses_188 : decode cX12_refuses 188 = .ok (.iconst (-1), 1) := by decide +kernel
theorem dX12_refuses_189 : decode cX12_refuses 189 = .ok (.if_icmp .ne 42, 3) := by decide +kernel
theorem dX12_refuses_192 : decode cX12_refuses 192 = .ok (.aload_n 0, 1) := by decide +kernel
theorem dX12_refuses_193 : decode cX12_refuses 193 = .ok (.getfield 59, 3) := by decide +kernel
theorem dX12_refuses_196 : decode cX12_refuses 196 = .ok (.iload_n 1, 1) := by decide +kernel
theorem dX12_refuses_197 : decode cX12_refuses 197 = .ok (.iaload, 1) := by decide +kernel
theorem dX12_refuses_198 : decode cX12_refuses 198 = .ok (.ifCond .ne 33, 3) := by decide +kernel
theorem dX12_refuses_201 : decode cX12_refuses 201 = .ok (.iload 6, 2) := by decide +kernel
theorem dX12_refuses_203 : decode cX12_refuses 203 = .ok (.ifCond .eq 8, 3) := by decide +kernel
theorem dX12_refuses_206 : decode cX12_refuses 206 = .ok (.iload 7, 2) := by decide +kernel
theorem dX12_refuses_208 : decode cX12_refuses 208 = .ok (.ifCond .ne 23, 3) := by decide +kernel
theorem dX12_refuses_211 : decode cX12_refuses 211 = .ok (.iload_n 3, 1) := by decide +kernel
theorem dX12_refuses_212 : decode cX12_refuses 212 = .ok (.iconst 2, 1) := by decide +kernel
theorem dX12_refuses_213 : decode cX12_refuses 213 = .ok (.invokestatic 263, 3) := by decide +kernel
theorem dX12_refuses_216 : decode cX12_refuses 216 = .ok (.ifCond .ne 17, 3) := by decide +kernel
theorem dX12_refuses_219 : decode cX12_refuses 219 = .ok (.aload_n 0, 1) := by decide +kernel
theorem dX12_refuses_220 : decode cX12_refuses 220 = .ok (.getfield 225, 3) := by decide +kernel
theorem dX12_refuses_223 : decode cX12_refuses 223 = .ok (.ifCond .eq 10, 3) := by decide +kernel
theorem dX12_refuses_226 : decode cX12_refuses 226 = .ok (.iload 7, 2) := by decide +kernel
theorem dX12_refuses_228 : decode cX12_refuses 228 = .ok (.ifCond .eq 5, 3) := by decide +kernel
theorem dX12_refuses_231 : decode cX12_refuses 231 = .ok (.iconst 1, 1) := by decide +kernel
theorem dX12_refuses_232 : decode cX12_refuses 232 = .ok (.ireturn, 1) := by decide +kernel
theorem dX12_refuses_233 : decode cX12_refuses 233 = .ok (.aload_n 0, 1) := by decide +kernel
theorem dX12_refuses_234 : decode cX12_refuses 234 = .ok (.getfield 20, 3) := by decide +kernel
theorem dX12_refuses_237 : decode cX12_refuses 237 = .ok (.iload_n 1, 1) := by decide +kernel
theorem dX12_refuses_238 : decode cX12_refuses 238 = .ok (.iaload, 1) := by decide +kernel
theorem dX12_refuses_239 : decode cX12_refuses 239 = .ok (.ifCond .ne 32, 3) := by decide +kernel
theorem dX12_refuses_242 : decode cX12_refuses 242 = .ok (.aload_n 0, 1) := by decide +kernel
theorem dX12_refuses_243 : decode cX12_refuses 243 = .ok (.iload_n 1, 1) := by decide +kernel
theorem dX12_refuses_244 : decode cX12_refuses 244 = .ok (.iload 5, 2) := by decide +kernel
theorem dX12_refuses_246 : decode cX12_refuses 246 = .ok (.ifCond .eq 12, 3) := by decide +kernel
theorem dX12_refuses_249 : decode cX12_refuses 249 = .ok (.aload_n 0, 1) := by decide +kernel
theorem dX12_refuses_250 : decode cX12_refuses 250 = .ok (.getfield 23, 3) := by decide +kernel
theorem dX12_refuses_253 : decode cX12_refuses 253 = .ok (.iload_n 1, 1) := by decide +kernel
theorem dX12_refuses_254 : decode cX12_refuses 254 = .ok (.iaload, 1) := by decide +kernel
theorem dX12_refuses_255 : decode cX12_refuses 255 = .ok (.goto 5, 3) := by decide +kernel
theorem dX12_refuses_258 : decode cX12_refuses 258 = .ok (.iload 4, 2) := by decide +kernel
theorem dX12_refuses_260 : decode cX12_refuses 260 = .ok (.iload_n 2, 1) := by decide +kernel
theorem dX12_refuses_261 : decode cX12_refuses 261 = .ok (.invokevirtual 282, 3) := by decide +kernel
theorem dX12_refuses_264 : decode cX12_refuses 264 = .ok (.ifCond .eq 7, 3) := by decide +kernel
theorem dX12_refuses_267 : decode cX12_refuses 267 = .ok (.iconst 1, 1) := by decide +kernel
theorem dX12_refuses_268 : decode cX12_refuses 268 = .ok (.goto 4, 3) := by decide +kernel
theorem dX12_refuses_271 : decode cX12_refuses 271 = .ok (.iconst 0, 1) := by decide +kernel
theorem dX12_refuses_272 : decode cX12_refuses 272 = .ok (.ireturn, 1) := by decide +kernel
theorem dX12_isBarred_0 : decode cX12_isBarred 0 = .ok (.iconst 0, 1) := by decide +kernel
theorem dX12_isBarred_1 : decode cX12_isBarred 1 = .ok (.istore 4, 2) := by decide +kernel
theorem dX12_isBarred_3 : decode cX12_isBarred 3 = .ok (.iconst 0, 1) := by decide +kernel
theorem dX12_isBarred_4 : decode cX12_isBarred 4 = .ok (.istore 5, 2) := by decide +kernel
theorem dX12_isBarred_6 : decode cX12_isBarred 6 = .ok (.iload 5, 2) := by decide +kernel
theorem dX12_isBarred_8 : decode cX12_isBarred 8 = .ok (.aload_n 0, 1) := by decide +kernel
theorem dX12_isBarred_9 : decode cX12_isBarred 9 = .ok (.getfield 260, 3) := by decide +kernel
theorem dX12_isBarred_12 : decode cX12_isBarred 12 = .ok (.if_icmp .ge 134, 3) := by decide +kernel
theorem dX12_isBarred_15 : decode cX12_isBarred 15 = .ok (.aload_n 0, 1) := by decide +kernel
theorem dX12_isBarred_16 : decode cX12_isBarred 16 = .ok (.aload_n 0, 1) := by decide +kernel
theorem dX12_isBarred_17 : decode cX12_isBarred 17 = .ok (.getfield 98, 3) := by decide +kernel
theorem dX12_isBarred_20 : decode cX12_isBarred 20 = .ok (.iload 5, 2) := by decide +kernel
theorem dX12_isBarred_22 : decode cX12_isBarred 22 = .ok (.iaload, 1) := by decide +kernel
theorem dX12_isBarred_23 : decode cX12_isBarred 23 = .ok (.iload_n 2, 1) := by decide +kernel
theorem dX12_isBarred_24 : decode cX12_isBarred 24 = .ok (.invokevirtual 279, 3) := by decide +kernel
theorem dX12_isBarred_27 : decode cX12_isBarred 27 = .ok (.ifCond .ne 18, 3) := by decide +kernel
theorem dX12_isBarred_30 : decode cX12_isBarred 30 = .ok (.aload_n 0, 1) := by decide +kernel
theorem dX12_isBarred_31 : decode cX12_isBarred 31 = .ok (.iload_n 2, 1) := by decide +kernel
theorem dX12_isBarred_32 : decode cX12_isBarred 32 = .ok (.aload_n 0, 1) := by decide +kernel
theorem dX12_isBarred_33 : decode cX12_isBarred 33 = .ok (.getfield 98, 3) := by decide +kernel
theorem dX12_isBarred_36 : decode cX12_isBarred 36 = .ok (.iload 5, 2) := by decide +kernel
theorem dX12_isBarred_38 : decode cX12_isBarred 38 = .ok (.iaload, 1) := by decide +kernel
theorem dX12_isBarred_39 : decode cX12_isBarred 39 = .ok (.invokevirtual 279, 3) := by decide +kernel
theorem dX12_isBarred_42 : decode cX12_isBarred 42 = .ok (.ifCond .eq 7, 3) := by decide +kernel
theorem dX12_isBarred_45 : decode cX12_isBarred 45 = .ok (.iconst 1, 1) := by decide +kernel
theorem dX12_isBarred_46 : decode cX12_isBarred 46 = .ok (.goto 4, 3) := by decide +kernel
theorem dX12_isBarred_49 : decode cX12_isBarred 49 = .ok (.iconst 0, 1) := by decide +kernel
theorem dX12_isBarred_50 : decode cX12_isBarred 50 = .ok (.istore 6, 2) := by decide +kernel
theorem dX12_isBarred_52 : decode cX12_isBarred 52 = .ok (.iload 4, 2) := by decide +kernel
theorem dX12_isBarred_54 : decode cX12_isBarred 54 = .ok (.ifCond .ne 79, 3) := by decide +kernel
theorem dX12_isBarred_57 : decode cX12_isBarred 57 = .ok (.aload_n 0, 1) := by decide +kernel
theorem dX12_isBarred_58 : decode cX12_isBarred 58 = .ok (.getfield 107, 3) := by decide +kernel
theorem dX12_isBarred_61 : decode cX12_isBarred 61 = .ok (.iload 5, 2) := by decide +kernel
theorem dX12_isBarred_63 : decode cX12_isBarred 63 = .ok (.iaload, 1) := by decide +kernel
theorem dX12_isBarred_64 : decode cX12_isBarred 64 = .ok (.iconst 1, 1) := by decide +kernel
theorem dX12_isBarred_65 : decode cX12_isBarred 65 = .ok (.invokestatic 263, 3) := by decide +kernel
theorem dX12_isBarred_68 : decode cX12_isBarred 68 = .ok (.ifCond .eq 69, 3) := by decide +kernel
theorem dX12_isBarred_71 : decode cX12_isBarred 71 = .ok (.aload_n 0, 1) := by decide +kernel
theorem dX12_isBarred_72 : decode cX12_isBarred 72 = .ok (.getfield 92, 3) := by decide +kernel
theorem dX12_isBarred_75 : decode cX12_isBarred 75 = .ok (.iload 5, 2) := by decide +kernel
theorem dX12_isBarred_77 : decode cX12_isBarred 77 = .ok (.iaload, 1) := by decide +kernel
theorem dX12_isBarred_78 : decode cX12_isBarred 78 = .ok (.aload_n 0, 1) := by decide +kernel
theorem dX12_isBarred_79 : decode cX12_isBarred 79 = .ok (.getfield 50, 3) := by decide +kernel
theorem dX12_isBarred_82 : decode cX12_isBarred 82 = .ok (.iload_n 1, 1) := by decide +kernel
theorem dX12_isBarred_83 : decode cX12_isBarred 83 = .ok (.iaload, 1) := by decide +kernel
theorem dX12_isBarred_84 : decode cX12_isBarred 84 = .ok (.if_icmp .ne 53, 3) := by decide +kernel
theorem dX12_isBarred_87 : decode cX12_isBarred 87 = .ok (.aload_n 0, 1) := by decide +kernel
theorem dX12_isBarred_88 : decode cX12_isBarred 88 = .ok (.getfield 110, 3) := by decide +kernel
theorem dX12_isBarred_91 : decode cX12_isBarred 91 = .ok (.iload 5, 2) := by decide +kernel
theorem dX12_isBarred_93 : decode cX12_isBarred 93 = .ok (.iaload, 1) := by decide +kernel
theorem dX12_isBarred_94 : decode cX12_isBarred 94 = .ok (.iconst (-1), 1) := by decide +kernel
theorem dX12_isBarred_95 : decode cX12_isBarred 95 = .ok (.if_icmp .eq 14, 3) := by decide +kernel
theorem dX12_isBarred_98 : decode cX12_isBarred 98 = .ok (.aload_n 0, 1) := by decide +kernel
theorem dX12_isBarred_99 : decode cX12_isBarred 99 = .ok (.getfield 110, 3) := by decide +kernel
theorem dX12_isBarred_102 : decode cX12_isBarred 102 = .ok (.iload 5, 2) := by decide +kernel
theorem dX12_isBarred_104 : decode cX12_isBarred 104 = .ok (.iaload, 1) := by decide +kernel
theorem dX12_isBarred_105 : decode cX12_isBarred 105 = .ok (.iload_n 3, 1) := by decide +kernel
theorem dX12_isBarred_106 : decode cX12_isBarred 106 = .ok (.if_icmp .ne 31, 3) := by decide +kernel
theorem dX12_isBarred_109 : decode cX12_isBarred 109 = .ok (.iload 6, 2) := by decide +kernel
theorem dX12_isBarred_111 : decode cX12_isBarred 111 = .ok (.ifCond .eq 26, 3) := by decide +kernel
theorem dX12_isBarred_114 : decode cX12_isBarred 114 = .ok (.aload_n 0, 1) := by decide +kernel
theorem dX12_isBarred_115 : decode cX12_isBarred 115 = .ok (.getfield 104, 3) := by decide +kernel
theorem dX12_isBarred_118 : decode cX12_isBarred 118 = .ok (.iload 5, 2) := by decide +kernel
theorem dX12_isBarred_120 : decode cX12_isBarred 120 = .ok (.iaload, 1) := by decide +kernel
theorem dX12_isBarred_121 : decode cX12_isBarred 121 = .ok (.aload_n 0, 1) := by decide +kernel
theorem dX12_isBarred_122 : decode cX12_isBarred 122 = .ok (.getfield 59, 3) := by decide +kernel
theorem dX12_isBarred_125 : decode cX12_isBarred 125 = .ok (.iload_n 1, 1) := by decide +kernel
theorem dX12_isBarred_126 : decode cX12_isBarred 126 = .ok (.iaload, 1) := by decide +kernel
theorem dX12_isBarred_127 : decode cX12_isBarred 127 = .ok (.invokestatic 285, 3) := by decide +kernel
theorem dX12_isBarred_130 : decode cX12_isBarred 130 = .ok (.ifCond .eq 7, 3) := by decide +kernel
theorem dX12_isBarred_133 : decode cX12_isBarred 133 = .ok (.iconst 1, 1) := by decide +kernel
theorem dX12_isBarred_134 : decode cX12_isBarred 134 = .ok (.goto 4, 3) := by decide +kernel
theorem dX12_isBarred_137 : decode cX12_isBarred 137 = .ok (.iconst 0, 1) := by decide +kernel
theorem dX12_isBarred_138 : decode cX12_isBarred 138 = .ok (.istore 4, 2) := by decide +kernel
theorem dX12_isBarred_140 : decode cX12_isBarred 140 = .ok (.iinc 5 1, 3) := by decide +kernel
theorem dX12_isBarred_143 : decode cX12_isBarred 143 = .ok (.goto (-137), 3) := by decide +kernel
theorem dX12_isBarred_146 : decode cX12_isBarred 146 = .ok (.iload 4, 2) := by decide +kernel
theorem dX12_isBarred_148 : decode cX12_isBarred 148 = .ok (.ireturn, 1) := by decide +kernel
theorem dX12_isAmong_0 : decode cX12_isAmong 0 = .ok (.iload_n 2, 1) := by decide +kernel
theorem dX12_isAmong_1 : decode cX12_isAmong 1 = .ok (.ifCond .ne 28, 3) := by decide +kernel
theorem dX12_isAmong_4 : decode cX12_isAmong 4 = .ok (.aload_n 0, 1) := by decide +kernel
theorem dX12_isAmong_5 : decode cX12_isAmong 5 = .ok (.aload_n 0, 1) := by decide +kernel
theorem dX12_isAmong_6 : decode cX12_isAmong 6 = .ok (.getfield 98, 3) := by decide +kernel
theorem dX12_isAmong_9 : decode cX12_isAmong 9 = .ok (.iload_n 1, 1) := by decide +kernel
theorem dX12_isAmong_10 : decode cX12_isAmong 10 = .ok (.iaload, 1) := by decide +kernel
theorem dX12_isAmong_11 : decode cX12_isAmong 11 = .ok (.invokevirtual 190, 3) := by decide +kernel
theorem dX12_isAmong_14 : decode cX12_isAmong 14 = .ok (.iload_n 3, 1) := by decide +kernel
theorem dX12_isAmong_15 : decode cX12_isAmong 15 = .ok (.if_icmp .ne 18, 3) := by decide +kernel
theorem dX12_isAmong_18 : decode cX12_isAmong 18 = .ok (.aload_n 0, 1) := by decide +kernel
theorem dX12_isAmong_19 : decode cX12_isAmong 19 = .ok (.getfield 110, 3) := by decide +kernel
theorem dX12_isAmong_22 : decode cX12_isAmong 22 = .ok (.iload_n 1, 1) := by decide +kernel
theorem dX12_isAmong_23 : decode cX12_isAmong 23 = .ok (.iaload, 1) := by decide +kernel
theorem dX12_isAmong_24 : decode cX12_isAmong 24 = .ok (.iload 4, 2) := by decide +kernel
theorem dX12_isAmong_26 : decode cX12_isAmong 26 = .ok (.if_icmp .ne 7, 3) := by decide +kernel
theorem dX12_isAmong_29 : decode cX12_isAmong 29 = .ok (.iconst 1, 1) := by decide +kernel
theorem dX12_isAmong_30 : decode cX12_isAmong 30 = .ok (.goto 4, 3) := by decide +kernel
theorem dX12_isAmong_33 : decode cX12_isAmong 33 = .ok (.iconst 0, 1) := by decide +kernel
theorem dX12_isAmong_34 : decode cX12_isAmong 34 = .ok (.ireturn, 1) := by decide +kernel
theorem dX12_among_0 : decode cX12_among 0 = .ok (.iconst 0, 1) := by decide +kernel
theorem dX12_among_1 : decode cX12_among 1 = .ok (.istore 4, 2) := by decide +kernel
theorem dX12_among_3 : decode cX12_among 3 = .ok (.iconst 0, 1) := by decide +kernel
theorem dX12_among_4 : decode cX12_among 4 = .ok (.istore 5, 2) := by decide +kernel
theorem dX12_among_6 : decode cX12_among 6 = .ok (.iload 5, 2) := by decide +kernel
theorem dX12_among_8 : decode cX12_among 8 = .ok (.aload_n 0, 1) := by decide +kernel
theorem dX12_among_9 : decode cX12_among 9 = .ok (.getfield 260, 3) := by decide +kernel
theorem dX12_among_12 : decode cX12_among 12 = .ok (.if_icmp .ge 31, 3) := by decide +kernel
theorem dX12_among_15 : decode cX12_among 15 = .ok (.iload 4, 2) := by decide +kernel
theorem dX12_among_17 : decode cX12_among 17 = .ok (.aload_n 0, 1) := by decide +kernel
theorem dX12_among_18 : decode cX12_among 18 = .ok (.iload 5, 2) := by decide +kernel
theorem dX12_among_20 : decode cX12_among 20 = .ok (.iload_n 1, 1) := by decide +kernel
theorem dX12_among_21 : decode cX12_among 21 = .ok (.iload_n 2, 1) := by decide +kernel
theorem dX12_among_22 : decode cX12_among 22 = .ok (.iload_n 3, 1) := by decide +kernel
theorem dX12_among_23 : decode cX12_among 23 = .ok (.invokevirtual 288, 3) := by decide +kernel
theorem dX12_among_26 : decode cX12_among 26 = .ok (.ifCond .eq 7, 3) := by decide +kernel
theorem dX12_among_29 : decode cX12_among 29 = .ok (.iconst 1, 1) := by decide +kernel
theorem dX12_among_30 : decode cX12_among 30 = .ok (.goto 4, 3) := by decide +kernel
theorem dX12_among_33 : decode cX12_among 33 = .ok (.iconst 0, 1) := by decide +kernel
theorem dX12_among_34 : decode cX12_among 34 = .ok (.iadd, 1) := by decide +kernel
theorem dX12_among_35 : decode cX12_among 35 = .ok (.istore 4, 2) := by decide +kernel
theorem dX12_among_37 : decode cX12_among 37 = .ok (.iinc 5 1, 3) := by decide +kernel
theorem dX12_among_40 : decode cX12_among 40 = .ok (.goto (-34), 3) := by decide +kernel
theorem dX12_among_43 : decode cX12_among 43 = .ok (.iload 4, 2) := by decide +kernel
theorem dX12_among_45 : decode cX12_among 45 = .ok (.ireturn, 1) := by decide +kernel
theorem dX12_evicts_0 : decode cX12_evicts 0 = .ok (.iconst (-1), 1) := by decide +kernel
theorem dX12_evicts_1 : decode cX12_evicts 1 = .ok (.istore 4, 2) := by decide +kernel
theorem dX12_evicts_3 : decode cX12_evicts 3 = .ok (.iconst 0, 1) := by decide +kernel
theorem dX12_evicts_4 : decode cX12_evicts 4 = .ok (.istore 5, 2) := by decide +kernel
theorem dX12_evicts_6 : decode cX12_evicts 6 = .ok (.iload 5, 2) := by decide +kernel
theorem dX12_evicts_8 : decode cX12_evicts 8 = .ok (.aload_n 0, 1) := by decide +kernel
theorem dX12_evicts_9 : decode cX12_evicts 9 = .ok (.getfield 260, 3) := by decide +kernel
theorem dX12_evicts_12 : decode cX12_evicts 12 = .ok (.if_icmp .ge 79, 3) := by decide +kernel
theorem dX12_evicts_15 : decode cX12_evicts 15 = .ok (.aload_n 0, 1) := by decide +kernel
theorem dX12_evicts_16 : decode cX12_evicts 16 = .ok (.iload 5, 2) := by decide +kernel
theorem dX12_evicts_18 : decode cX12_evicts 18 = .ok (.iload_n 1, 1) := by decide +kernel
theorem dX12_evicts_19 : decode cX12_evicts 19 = .ok (.iload_n 2, 1) := by decide +kernel
theorem dX12_evicts_20 : decode cX12_evicts 20 = .ok (.iload_n 3, 1) := by decide +kernel
theorem dX12_evicts_21 : decode cX12_evicts 21 = .ok (.invokevirtual 288, 3) := by decide +kernel
theorem dX12_evicts_24 : decode cX12_evicts 24 = .ok (.ifCond .eq 21, 3) := by decide +kernel
theorem dX12_evicts_27 : decode cX12_evicts 27 = .ok (.aload_n 0, 1) := by decide +kernel
theorem dX12_evicts_28 : decode cX12_evicts 28 = .ok (.getfield 107, 3) := by decide +kernel
theorem dX12_evicts_31 : decode cX12_evicts 31 = .ok (.iload 5, 2) := by decide +kernel
theorem dX12_evicts_33 : decode cX12_evicts 33 = .ok (.iaload, 1) := by decide +kernel
theorem dX12_evicts_34 : decode cX12_evicts 34 = .ok (.iconst 1, 1) := by decide +kernel
theorem dX12_evicts_35 : decode cX12_evicts 35 = .ok (.invokestatic 263, 3) := by decide +kernel
theorem dX12_evicts_38 : decode cX12_evicts 38 = .ok (.ifCond .ne 7, 3) := by decide +kernel
theorem dX12_evicts_41 : decode cX12_evicts 41 = .ok (.iconst 1, 1) := by decide +kernel
theorem dX12_evicts_42 : decode cX12_evicts 42 = .ok (.goto 4, 3) := by decide +kernel
theorem dX12_evicts_45 : decode cX12_evicts 45 = .ok (.iconst 0, 1) := by decide +kernel
theorem dX12_evicts_46 : decode cX12_evicts 46 = .ok (.istore 6, 2) := by decide +kernel
theorem dX12_evicts_48 : decode cX12_evicts 48 = .ok (.iload 6, 2) := by decide +kernel
theorem dX12_evicts_50 : decode cX12_evicts 50 = .ok (.ifCond .eq 31, 3) := by decide +kernel
theorem dX12_evicts_53 : decode cX12_evicts 53 = .ok (.iload 4, 2) := by decide +kernel
theorem dX12_evicts_55 : decode cX12_evicts 55 = .ok (.iconst (-1), 1) := by decide +kernel
theorem dX12_evicts_56 : decode cX12_evicts 56 = .ok (.if_icmp .eq 20, 3) := by decide +kernel
theorem dX12_evicts_59 : decode cX12_evicts 59 = .ok (.aload_n 0, 1) := by decide +kernel
theorem dX12_evicts_60 : decode cX12_evicts 60 = .ok (.getfield 116, 3) := by decide +kernel
theorem dX12_evicts_63 : decode cX12_evicts 63 = .ok (.iload 5, 2) := by decide +kernel
theorem dX12_evicts_65 : decode cX12_evicts 65 = .ok (.iaload, 1) := by decide +kernel
theorem dX12_evicts_66 : decode cX12_evicts 66 = .ok (.aload_n 0, 1) := by decide +kernel
theorem dX12_evicts_67 : decode cX12_evicts 67 = .ok (.getfield 116, 3) := by decide +kernel
theorem dX12_evicts_70 : decode cX12_evicts 70 = .ok (.iload 4, 2) := by decide +kernel
theorem dX12_evicts_72 : decode cX12_evicts 72 = .ok (.iaload, 1) := by decide +kernel
theorem dX12_evicts_73 : decode cX12_evicts 73 = .ok (.if_icmp .ge 8, 3) := by decide +kernel
theorem dX12_evicts_76 : decode cX12_evicts 76 = .ok (.iload 5, 2) := by decide +kernel
theorem dX12_evicts_78 : decode cX12_evicts 78 = .ok (.goto 5, 3) := by decide +kernel
theorem dX12_evicts_81 : decode cX12_evicts 81 = .ok (.iload 4, 2) := by decide +kernel
theorem dX12_evicts_83 : decode cX12_evicts 83 = .ok (.istore 4, 2) := by decide +kernel
theorem dX12_evicts_85 : decode cX12_evicts 85 = .ok (.iinc 5 1, 3) := by decide +kernel
theorem dX12_evicts_88 : decode cX12_evicts 88 = .ok (.goto (-82), 3) := by decide +kernel
theorem dX12_evicts_91 : decode cX12_evicts 91 = .ok (.iconst 0, 1) := by decide +kernel
theorem dX12_evicts_92 : decode cX12_evicts 92 = .ok (.istore 5, 2) := by decide +kernel
theorem dX12_evicts_94 : decode cX12_evicts 94 = .ok (.iload 5, 2) := by decide +kernel
theorem dX12_evicts_96 : decode cX12_evicts 96 = .ok (.aload_n 0, 1) := by decide +kernel
theorem dX12_evicts_97 : decode cX12_evicts 97 = .ok (.getfield 260, 3) := by decide +kernel
theorem dX12_evicts_100 : decode cX12_evicts 100 = .ok (.if_icmp .ge 77, 3) := by decide +kernel
theorem dX12_evicts_103 : decode cX12_evicts 103 = .ok (.iload 4, 2) := by decide +kernel
theorem dX12_evicts_105 : decode cX12_evicts 105 = .ok (.iconst (-1), 1) := by decide +kernel
theorem dX12_evicts_106 : decode cX12_evicts 106 = .ok (.if_icmp .eq 17, 3) := by decide +kernel
theorem dX12_evicts_109 : decode cX12_evicts 109 = .ok (.aload_n 0, 1) := by decide +kernel
theorem dX12_evicts_110 : decode cX12_evicts 110 = .ok (.getfield 107, 3) := by decide +kernel
theorem dX12_evicts_113 : decode cX12_evicts 113 = .ok (.iload 4, 2) := by decide +kernel
theorem dX12_evicts_115 : decode cX12_evicts 115 = .ok (.iaload, 1) := by decide +kernel
theorem dX12_evicts_116 : decode cX12_evicts 116 = .ok (.iconst 1, 1) := by decide +kernel
theorem dX12_evicts_117 : decode cX12_evicts 117 = .ok (.invokestatic 263, 3) := by decide +kernel
theorem dX12_evicts_120 : decode cX12_evicts 120 = .ok (.ifCond .eq 57, 3) := by decide +kernel
theorem dX12_evicts_123 : decode cX12_evicts 123 = .ok (.aload_n 0, 1) := by decide +kernel
theorem dX12_evicts_124 : decode cX12_evicts 124 = .ok (.iload 5, 2) := by decide +kernel
theorem dX12_evicts_126 : decode cX12_evicts 126 = .ok (.iload_n 1, 1) := by decide +kernel
theorem dX12_evicts_127 : decode cX12_evicts 127 = .ok (.iload_n 2, 1) := by decide +kernel
theorem dX12_evicts_128 : decode cX12_evicts 128 = .ok (.iload_n 3, 1) := by decide +kernel
theorem dX12_evicts_129 : decode cX12_evicts 129 = .ok (.invokevirtual 288, 3) := by decide +kernel
theorem dX12_evicts_132 : decode cX12_evicts 132 = .ok (.istore 6, 2) := by decide +kernel
theorem dX12_evicts_134 : decode cX12_evicts 134 = .ok (.iload 6, 2) := by decide +kernel
theorem dX12_evicts_136 : decode cX12_evicts 136 = .ok (.ifCond .eq 31, 3) := by decide +kernel
theorem dX12_evicts_139 : decode cX12_evicts 139 = .ok (.iload 4, 2) := by decide +kernel
theorem dX12_evicts_141 : decode cX12_evicts 141 = .ok (.iconst (-1), 1) := by decide +kernel
theorem dX12_evicts_142 : decode cX12_evicts 142 = .ok (.if_icmp .eq 20, 3) := by decide +kernel
theorem dX12_evicts_145 : decode cX12_evicts 145 = .ok (.aload_n 0, 1) := by decide +kernel
theorem dX12_evicts_146 : decode cX12_evicts 146 = .ok (.getfield 116, 3) := by decide +kernel
theorem dX12_evicts_149 : decode cX12_evicts 149 = .ok (.iload 5, 2) := by decide +kernel
theorem dX12_evicts_151 : decode cX12_evicts 151 = .ok (.iaload, 1) := by decide +kernel
theorem dX12_evicts_152 : decode cX12_evicts 152 = .ok (.aload_n 0, 1) := by decide +kernel
theorem dX12_evicts_153 : decode cX12_evicts 153 = .ok (.getfield 116, 3) := by decide +kernel
theorem dX12_evicts_156 : decode cX12_evicts 156 = .ok (.iload 4, 2) := by decide +kernel
theorem dX12_evicts_158 : decode cX12_evicts 158 = .ok (.iaload, 1) := by decide +kernel
theorem dX12_evicts_159 : decode cX12_evicts 159 = .ok (.if_icmp .ge 8, 3) := by decide +kernel
theorem dX12_evicts_162 : decode cX12_evicts 162 = .ok (.iload 5, 2) := by decide +kernel
theorem dX12_evicts_164 : decode cX12_evicts 164 = .ok (.goto 5, 3) := by decide +kernel
theorem dX12_evicts_167 : decode cX12_evicts 167 = .ok (.iload 4, 2) := by decide +kernel
theorem dX12_evicts_169 : decode cX12_evicts 169 = .ok (.istore 4, 2) := by decide +kernel
theorem dX12_evicts_171 : decode cX12_evicts 171 = .ok (.iinc 5 1, 3) := by decide +kernel
theorem dX12_evicts_174 : decode cX12_evicts 174 = .ok (.goto (-80), 3) := by decide +kernel
theorem dX12_evicts_177 : decode cX12_evicts 177 = .ok (.aload_n 0, 1) := by decide +kernel
theorem dX12_evicts_178 : decode cX12_evicts 178 = .ok (.iload 4, 2) := by decide +kernel
theorem dX12_evicts_180 : decode cX12_evicts 180 = .ok (.invokevirtual 292, 3) := by decide +kernel
theorem dX12_evicts_183 : decode cX12_evicts 183 = .ok (.return_, 1) := by decide +kernel
theorem dX12_sets_0 : decode cX12_sets 0 = .ok (.aload_n 0, 1) := by decide +kernel
theorem dX12_sets_1 : decode cX12_sets 1 = .ok (.getfield 53, 3) := by decide +kernel
theorem dX12_sets_4 : decode cX12_sets 4 = .ok (.iload_n 1, 1) := by decide +kernel
theorem dX12_sets_5 : decode cX12_sets 5 = .ok (.iaload, 1) := by decide +kernel
theorem dX12_sets_6 : decode cX12_sets 6 = .ok (.iconst (-1), 1) := by decide +kernel
theorem dX12_sets_7 : decode cX12_sets 7 = .ok (.if_icmp .eq 12, 3) := by decide +kernel
theorem dX12_sets_10 : decode cX12_sets 10 = .ok (.aload_n 0, 1) := by decide +kernel
theorem dX12_sets_11 : decode cX12_sets 11 = .ok (.iload_n 1, 1) := by decide +kernel
theorem dX12_sets_12 : decode cX12_sets 12 = .ok (.iload_n 2, 1) := by decide +kernel
theorem dX12_sets_13 : decode cX12_sets 13 = .ok (.invokevirtual 295, 3) := by decide +kernel
theorem dX12_sets_16 : decode cX12_sets 16 = .ok (.ifCond .eq 4, 3) := by decide +kernel
theorem dX12_sets_19 : decode cX12_sets 19 = .ok (.return_, 1) := by decide +kernel
theorem dX12_sets_20 : decode cX12_sets 20 = .ok (.aload_n 0, 1) := by decide +kernel
theorem dX12_sets_21 : decode cX12_sets 21 = .ok (.getfield 56, 3) := by decide +kernel
theorem dX12_sets_24 : decode cX12_sets 24 = .ok (.iload_n 1, 1) := by decide +kernel
theorem dX12_sets_25 : decode cX12_sets 25 = .ok (.iaload, 1) := by decide +kernel
theorem dX12_sets_26 : decode cX12_sets 26 = .ok (.iconst (-1), 1) := by decide +kernel
theorem dX12_sets_27 : decode cX12_sets 27 = .ok (.if_icmp .eq 17, 3) := by decide +kernel
theorem dX12_sets_30 : decode cX12_sets 30 = .ok (.aload_n 0, 1) := by decide +kernel
theorem dX12_sets_31 : decode cX12_sets 31 = .ok (.getfield 16, 3) := by decide +kernel
theorem dX12_sets_34 : decode cX12_sets 34 = .ok (.aload_n 0, 1) := by decide +kernel
theorem dX12_sets_35 : decode cX12_sets 35 = .ok (.getfield 56, 3) := by decide +kernel
theorem dX12_sets_38 : decode cX12_sets 38 = .ok (.iload_n 1, 1) := by decide +kernel
theorem dX12_sets_39 : decode cX12_sets 39 = .ok (.iaload, 1) := by decide +kernel
theorem dX12_sets_40 : decode cX12_sets 40 = .ok (.baload, 1) := by decide +kernel
theorem dX12_sets_41 : decode cX12_sets 41 = .ok (.ifCond .eq 7, 3) := by decide +kernel
theorem dX12_sets_44 : decode cX12_sets 44 = .ok (.iconst 1, 1) := by decide +kernel
theorem dX12_sets_45 : decode cX12_sets 45 = .ok (.goto 4, 3) := by decide +kernel
theorem dX12_sets_48 : decode cX12_sets 48 = .ok (.iconst 0, 1) := by decide +kernel
theorem dX12_sets_49 : decode cX12_sets 49 = .ok (.istore_n 3, 1) := by decide +kernel
theorem dX12_sets_50 : decode cX12_sets 50 = .ok (.iload_n 3, 1) := by decide +kernel
theorem dX12_sets_51 : decode cX12_sets 51 = .ok (.ifCond .eq 12, 3) := by decide +kernel
theorem dX12_sets_54 : decode cX12_sets 54 = .ok (.aload_n 0, 1) := by decide +kernel
theorem dX12_sets_55 : decode cX12_sets 55 = .ok (.getfield 23, 3) := by decide +kernel
theorem dX12_sets_58 : decode cX12_sets 58 = .ok (.iload_n 1, 1) := by decide +kernel
theorem dX12_sets_59 : decode cX12_sets 59 = .ok (.iaload, 1) := by decide +kernel
theorem dX12_sets_60 : decode cX12_sets 60 = .ok (.goto 9, 3) := by decide +kernel
theorem dX12_sets_63 : decode cX12_sets 63 = .ok (.aload_n 0, 1) := by decide +kernel
theorem dX12_sets_64 : decode cX12_sets 64 = .ok (.getfield 56, 3) := by decide +kernel
theorem dX12_sets_67 : decode cX12_sets 67 = .ok (.iload_n 1, 1) := by decide +kernel
theorem dX12_sets_68 : decode cX12_sets 68 = .ok (.iaload, 1) := by decide +kernel
theorem dX12_sets_69 : decode cX12_sets 69 = .ok (.istore 4, 2) := by decide +kernel
theorem dX12_sets_71 : decode cX12_sets 71 = .ok (.aload_n 0, 1) := by decide +kernel
theorem dX12_sets_72 : decode cX12_sets 72 = .ok (.getfield 62, 3) := by decide +kernel
theorem dX12_sets_75 : decode cX12_sets 75 = .ok (.iload_n 1, 1) := by decide +kernel
theorem dX12_sets_76 : decode cX12_sets 76 = .ok (.iaload, 1) := by decide +kernel
theorem dX12_sets_77 : decode cX12_sets 77 = .ok (.iconst 2, 1) := by decide +kernel
theorem dX12_sets_78 : decode cX12_sets 78 = .ok (.invokestatic 263, 3) := by decide +kernel
theorem dX12_sets_81 : decode cX12_sets 81 = .ok (.ifCond .eq 7, 3) := by decide +kernel
theorem dX12_sets_84 : decode cX12_sets 84 = .ok (.iload_n 2, 1) := by decide +kernel
theorem dX12_sets_85 : decode cX12_sets 85 = .ok (.goto 4, 3) := by decide +kernel
theorem dX12_sets_88 : decode cX12_sets 88 = .ok (.iconst (-1), 1) := by decide +kernel
theorem dX12_sets_89 : decode cX12_sets 89 = .ok (.istore 5, 2) := by decide +kernel
theorem dX12_sets_91 : decode cX12_sets 91 = .ok (.iconst (-1), 1) := by decide +kernel
theorem dX12_sets_92 : decode cX12_sets 92 = .ok (.istore 6, 2) := by decide +kernel
theorem dX12_sets_94 : decode cX12_sets 94 = .ok (.iconst 0, 1) := by decide +kernel
theorem dX12_sets_95 : decode cX12_sets 95 = .ok (.istore 7, 2) := by decide +kernel
theorem dX12_sets_97 : decode cX12_sets 97 = .ok (.iload 7, 2) := by decide +kernel
theorem dX12_sets_99 : decode cX12_sets 99 = .ok (.aload_n 0, 1) := by decide +kernel
theorem dX12_sets_100 : decode cX12_sets 100 = .ok (.getfield 260, 3) := by decide +kernel
theorem dX12_sets_103 : decode cX12_sets 103 = .ok (.if_icmp .ge 74, 3) := by decide +kernel
theorem dX12_sets_106 : decode cX12_sets 106 = .ok (.aload_n 0, 1) := by decide +kernel
theorem dX12_sets_107 : decode cX12_sets 107 = .ok (.getfield 92, 3) := by decide +kernel
theorem dX12_sets_110 : decode cX12_sets 110 = .ok (.iload 7, 2) := by decide +kernel
theorem dX12_sets_112 : decode cX12_sets 112 = .ok (.iaload, 1) := by decide +kernel
theorem dX12_sets_113 : decode cX12_sets 113 = .ok (.aload_n 0, 1) := by decide +kernel
theorem dX12_sets_114 : decode cX12_sets 114 = .ok (.getfield 50, 3) := by decide +kernel
theorem dX12_sets_117 : decode cX12_sets 117 = .ok (.iload_n 1, 1) := by decide +kernel
theorem dX12_sets_118 : decode cX12_sets 118 = .ok (.iaload, 1) := by decide +kernel
theorem dX12_sets_119 : decode cX12_sets 119 = .ok (.if_icmp .ne 48, 3) := by decide +kernel
theorem dX12_sets_122 : decode cX12_sets 122 = .ok (.aload_n 0, 1) := by decide +kernel
theorem dX12_sets_123 : decode cX12_sets 123 = .ok (.getfield 98, 3) := by decide +kernel
theorem dX12_sets_126 : decode cX12_sets 126 = .ok (.iload 7, 2) := by decide +kernel
theorem dX12_sets_128 : decode cX12_sets 128 = .ok (.iaload, 1) := by decide +kernel
theorem dX12_sets_129 : decode cX12_sets 129 = .ok (.iload 4, 2) := by decide +kernel
theorem dX12_sets_131 : decode cX12_sets 131 = .ok (.if_icmp .ne 36, 3) := by decide +kernel
theorem dX12_sets_134 : decode cX12_sets 134 = .ok (.aload_n 0, 1) := by decide +kernel
theorem dX12_sets_135 : decode cX12_sets 135 = .ok (.getfield 104, 3) := by decide +kernel
theorem dX12_sets_138 : decode cX12_sets 138 = .ok (.iload 7, 2) := by decide +kernel
theorem dX12_sets_140 : decode cX12_sets 140 = .ok (.iaload, 1) := by decide +kernel
theorem dX12_sets_141 : decode cX12_sets 141 = .ok (.aload_n 0, 1) := by decide +kernel
theorem dX12_sets_142 : decode cX12_sets 142 = .ok (.getfield 59, 3) := by decide +kernel
theorem dX12_sets_145 : decode cX12_sets 145 = .ok (.iload_n 1, 1) := by decide +kernel
theorem dX12_sets_146 : decode cX12_sets 146 = .ok (.iaload, 1) := by decide +kernel
theorem dX12_sets_147 : decode cX12_sets 147 = .ok (.if_icmp .ne 20, 3) := by decide +kernel
theorem dX12_sets_150 : decode cX12_sets 150 = .ok (.aload_n 0, 1) := by decide +kernel
theorem dX12_sets_151 : decode cX12_sets 151 = .ok (.getfield 110, 3) := by decide +kernel
theorem dX12_sets_154 : decode cX12_sets 154 = .ok (.iload 7, 2) := by decide +kernel
theorem dX12_sets_156 : decode cX12_sets 156 = .ok (.iaload, 1) := by decide +kernel
theorem dX12_sets_157 : decode cX12_sets 157 = .ok (.iload 5, 2) := by decide +kernel
theorem dX12_sets_159 : decode cX12_sets 159 = .ok (.if_icmp .ne 8, 3) := by decide +kernel
theorem dX12_sets_162 : decode cX12_sets 162 = .ok (.iload 7, 2) := by decide +kernel
theorem dX12_sets_164 : decode cX12_sets 164 = .ok (.goto 5, 3) := by decide +kernel
theorem dX12_sets_167 : decode cX12_sets 167 = .ok (.iload 6, 2) := by decide +kernel
theorem dX12_sets_169 : decode cX12_sets 169 = .ok (.istore 6, 2) := by decide +kernel
theorem dX12_sets_171 : decode cX12_sets 171 = .ok (.iinc 7 1, 3) := by decide +kernel
theorem dX12_sets_174 : decode cX12_sets 174 = .ok (.goto (-77), 3) := by decide +kernel
theorem dX12_sets_177 : decode cX12_sets 177 = .ok (.aload_n 0, 1) := by decide +kernel
theorem dX12_sets_178 : decode cX12_sets 178 = .ok (.getfield 65, 3) := by decide +kernel
theorem dX12_sets_181 : decode cX12_sets 181 = .ok (.iload_n 1, 1) := by decide +kernel
theorem dX12_sets_182 : decode cX12_sets 182 = .ok (.iaload, 1) := by decide +kernel
theorem dX12_sets_183 : decode cX12_sets 183 = .ok (.ifCond .ge 16, 3) := by decide +kernel
theorem dX12_sets_186 : decode cX12_sets 186 = .ok (.iload 6, 2) := by decide +kernel
theorem dX12_sets_188 : decode cX12_sets 188 = .ok (.iconst (-1), 1) := by decide +kernel
theorem dX12_sets_189 : decode cX12_sets 189 = .ok (.if_icmp .eq 9, 3) := by decide +kernel
theorem dX12_sets_192 : decode cX12_sets 192 = .ok (.aload_n 0, 1) := by decide +kernel
theorem dX12_sets_193 : decode cX12_sets 193 = .ok (.iload 6, 2) := by decide +kernel
theorem dX12_sets_195 : decode cX12_sets 195 = .ok (.invokevirtual 292, 3) := by decide +kernel
theorem dX12_sets_198 : decode cX12_sets 198 = .ok (.return_, 1) := by decide +kernel
theorem dX12_sets_199 : decode cX12_sets 199 = .ok (.iload 6, 2) := by decide +kernel
theorem dX12_sets_201 : decode cX12_sets 201 = .ok (.iconst (-1), 1) := by decide +kernel
theorem dX12_sets_202 : decode cX12_sets 202 = .ok (.if_icmp .ne 19, 3) := by decide +kernel
theorem dX12_sets_205 : decode cX12_sets 205 = .ok (.aload_n 0, 1) := by decide +kernel
theorem dX12_sets_206 : decode cX12_sets 206 = .ok (.getfield 260, 3) := by decide +kernel
theorem dX12_sets_209 : decode cX12_sets 209 = .ok (.istore 6, 2) := by decide +kernel
theorem dX12_sets_211 : decode cX12_sets 211 = .ok (.aload_n 0, 1) := by decide +kernel
theorem dX12_sets_212 : decode cX12_sets 212 = .ok (.dup, 1) := by decide +kernel
theorem dX12_sets_213 : decode cX12_sets 213 = .ok (.getfield 260, 3) := by decide +kernel
theorem dX12_sets_216 : decode cX12_sets 216 = .ok (.iconst 1, 1) := by decide +kernel
theorem dX12_sets_217 : decode cX12_sets 217 = .ok (.iadd, 1) := by decide +kernel
theorem dX12_sets_218 : decode cX12_sets 218 = .ok (.putfield 260, 3) := by decide +kernel
theorem dX12_sets_221 : decode cX12_sets 221 = .ok (.aload_n 0, 1) := by decide +kernel
theorem dX12_sets_222 : decode cX12_sets 222 = .ok (.getfield 92, 3) := by decide +kernel
theorem dX12_sets_225 : decode cX12_sets 225 = .ok (.iload 6, 2) := by decide +kernel
theorem dX12_sets_227 : decode cX12_sets 227 = .ok (.aload_n 0, 1) := by decide +kernel
theorem dX12_sets_228 : decode cX12_sets 228 = .ok (.getfield 50, 3) := by decide +kernel
theorem dX12_sets_231 : decode cX12_sets 231 = .ok (.iload_n 1, 1) := by decide +kernel
theorem dX12_sets_232 : decode cX12_sets 232 = .ok (.iaload, 1) := by decide +kernel
theorem dX12_sets_233 : decode cX12_sets 233 = .ok (.iastore, 1) := by decide +kernel
theorem dX12_sets_234 : decode cX12_sets 234 = .ok (.aload_n 0, 1) := by decide +kernel
theorem dX12_sets_235 : decode cX12_sets 235 = .ok (.getfield 95, 3) := by decide +kernel
theorem dX12_sets_238 : decode cX12_sets 238 = .ok (.iload 6, 2) := by decide +kernel
theorem dX12_sets_240 : decode cX12_sets 240 = .ok (.aload_n 0, 1) := by decide +kernel
theorem dX12_sets_241 : decode cX12_sets 241 = .ok (.getfield 53, 3) := by decide +kernel
theorem dX12_sets_244 : decode cX12_sets 244 = .ok (.iload_n 1, 1) := by decide +kernel
theorem dX12_sets_245 : decode cX12_sets 245 = .ok (.iaload, 1) := by decide +kernel
theorem dX12_sets_246 : decode cX12_sets 246 = .ok (.iastore, 1) := by decide +kernel
theorem dX12_sets_247 : decode cX12_sets 247 = .ok (.aload_n 0, 1) := by decide +kernel
theorem dX12_sets_248 : decode cX12_sets 248 = .ok (.getfield 98, 3) := by decide +kernel
theorem dX12_sets_251 : decode cX12_sets 251 = .ok (.iload 6, 2) := by decide +kernel
theorem dX12_sets_253 : decode cX12_sets 253 = .ok (.iload 4, 2) := by decide +kernel
theorem dX12_sets_255 : decode cX12_sets 255 = .ok (.iastore, 1) := by decide +kernel
theorem dX12_sets_256 : decode cX12_sets 256 = .ok (.aload_n 0, 1) := by decide +kernel
theorem dX12_sets_257 : decode cX12_sets 257 = .ok (.getfield 101, 3) := by decide +kernel
theorem dX12_sets_260 : decode cX12_sets 260 = .ok (.iload 6, 2) := by decide +kernel
theorem dX12_sets_262 : decode cX12_sets 262 = .ok (.iload_n 3, 1) := by decide +kernel
theorem dX12_sets_263 : decode cX12_sets 263 = .ok (.bastore, 1) := by decide +kernel
theorem dX12_sets_264 : decode cX12_sets 264 = .ok (.aload_n 0, 1) := by decide +kernel
theorem dX12_sets_265 : decode cX12_sets 265 = .ok (.getfield 104, 3) := by decide +kernel
theorem dX12_sets_268 : decode cX12_sets 268 = .ok (.iload 6, 2) := by decide +kernel
theorem dX12_sets_270 : decode cX12_sets 270 = .ok (.aload_n 0, 1) := by decide +kernel
theorem dX12_sets_271 : decode cX12_sets 271 = .ok (.getfield 59, 3) := by decide +kernel
theorem dX12_sets_274 : decode cX12_sets 274 = .ok (.iload_n 1, 1) := by decide +kernel
theorem dX12_sets_275 : decode cX12_sets 275 = .ok (.iaload, 1) := by decide +kernel
theorem dX12_sets_276 : decode cX12_sets 276 = .ok (.iastore, 1) := by decide +kernel
theorem dX12_sets_277 : decode cX12_sets 277 = .ok (.aload_n 0, 1) := by decide +kernel
theorem dX12_sets_278 : decode cX12_sets 278 = .ok (.getfield 107, 3) := by decide +kernel
theorem dX12_sets_281 : decode cX12_sets 281 = .ok (.iload 6, 2) := by decide +kernel
theorem dX12_sets_283 : decode cX12_sets 283 = .ok (.aload_n 0, 1) := by decide +kernel
theorem dX12_sets_284 : decode cX12_sets 284 = .ok (.getfield 62, 3) := by decide +kernel
theorem dX12_sets_287 : decode cX12_sets 287 = .ok (.iload_n 1, 1) := by decide +kernel
theorem dX12_sets_288 : decode cX12_sets 288 = .ok (.iaload, 1) := by decide +kernel
theorem dX12_sets_289 : decode cX12_sets 289 = .ok (.iastore, 1) := by decide +kernel
theorem dX12_sets_290 : decode cX12_sets 290 = .ok (.aload_n 0, 1) := by decide +kernel
theorem dX12_sets_291 : decode cX12_sets 291 = .ok (.getfield 110, 3) := by decide +kernel
theorem dX12_sets_294 : decode cX12_sets 294 = .ok (.iload 6, 2) := by decide +kernel
theorem dX12_sets_296 : decode cX12_sets 296 = .ok (.iload 5, 2) := by decide +kernel
theorem dX12_sets_298 : decode cX12_sets 298 = .ok (.iastore, 1) := by decide +kernel
theorem dX12_sets_299 : decode cX12_sets 299 = .ok (.aload_n 0, 1) := by decide +kernel
theorem dX12_sets_300 : decode cX12_sets 300 = .ok (.getfield 113, 3) := by decide +kernel
theorem dX12_sets_303 : decode cX12_sets 303 = .ok (.iload 6, 2) := by decide +kernel
theorem dX12_sets_305 : decode cX12_sets 305 = .ok (.aload_n 0, 1) := by decide +kernel
theorem dX12_sets_306 : decode cX12_sets 306 = .ok (.getfield 65, 3) := by decide +kernel
theorem dX12_sets_309 : decode cX12_sets 309 = .ok (.iload_n 1, 1) := by decide +kernel
theorem dX12_sets_310 : decode cX12_sets 310 = .ok (.iaload, 1) := by decide +kernel
theorem dX12_sets_311 : decode cX12_sets 311 = .ok (.ifCond .ne 7, 3) := by decide +kernel
theorem dX12_sets_314 : decode cX12_sets 314 = .ok (.iconst (-1), 1) := by decide +kernel
theorem dX12_sets_315 : decode cX12_sets 315 = .ok (.goto 14, 3) := by decide +kernel
theorem dX12_sets_318 : decode cX12_sets 318 = .ok (.aload_n 0, 1) := by decide +kernel
theorem dX12_sets_319 : decode cX12_sets 319 = .ok (.getfield 244, 3) := by decide +kernel
theorem dX12_sets_322 : decode cX12_sets 322 = .ok (.aload_n 0, 1) := by decide +kernel
theorem dX12_sets_323 : decode cX12_sets 323 = .ok (.getfield 65, 3) := by decide +kernel
theorem dX12_sets_326 : decode cX12_sets 326 = .ok (.iload_n 1, 1) := by decide +kernel
theorem dX12_sets_327 : decode cX12_sets 327 = .ok (.iaload, 1) := by decide +kernel
theorem dX12_sets_328 : decode cX12_sets 328 = .ok (.iadd, 1) := by decide +kernel
theorem dX12_sets_329 : decode cX12_sets 329 = .ok (.iastore, 1) := by decide +kernel
theorem dX12_sets_330 : decode cX12_sets 330 = .ok (.aload_n 0, 1) := by decide +kernel
theorem dX12_sets_331 : decode cX12_sets 331 = .ok (.getfield 116, 3) := by decide +kernel
theorem dX12_sets_334 : decode cX12_sets 334 = .ok (.iload 6, 2) := by decide +kernel
theorem dX12_sets_336 : decode cX12_sets 336 = .ok (.aload_n 0, 1) := by decide +kernel
theorem dX12_sets_337 : decode cX12_sets 337 = .ok (.getfield 254, 3) := by decide +kernel
theorem dX12_sets_340 : decode cX12_sets 340 = .ok (.iastore, 1) := by decide +kernel
theorem dX12_sets_341 : decode cX12_sets 341 = .ok (.aload_n 0, 1) := by decide +kernel
theorem dX12_sets_342 : decode cX12_sets 342 = .ok (.dup, 1) := by decide +kernel
theorem dX12_sets_343 : decode cX12_sets 343 = .ok (.getfield 254, 3) := by decide +kernel
theorem dX12_sets_346 : decode cX12_sets 346 = .ok (.iconst 1, 1) := by decide +kernel
theorem dX12_sets_347 : decode cX12_sets 347 = .ok (.iadd, 1) := by decide +kernel
theorem dX12_sets_348 : decode cX12_sets 348 = .ok (.putfield 254, 3) := by decide +kernel
theorem dX12_sets_351 : decode cX12_sets 351 = .ok (.aload_n 0, 1) := by decide +kernel
theorem dX12_sets_352 : decode cX12_sets 352 = .ok (.iload 4, 2) := by decide +kernel
theorem dX12_sets_354 : decode cX12_sets 354 = .ok (.invokevirtual 190, 3) := by decide +kernel
theorem dX12_sets_357 : decode cX12_sets 357 = .ok (.istore 7, 2) := by decide +kernel
theorem dX12_sets_359 : decode cX12_sets 359 = .ok (.aload_n 0, 1) := by decide +kernel
theorem dX12_sets_360 : decode cX12_sets 360 = .ok (.iconst 0, 1) := by decide +kernel
theorem dX12_sets_361 : decode cX12_sets 361 = .ok (.iload 7, 2) := by decide +kernel
theorem dX12_sets_363 : decode cX12_sets 363 = .ok (.iload 5, 2) := by decide +kernel
theorem dX12_sets_365 : decode cX12_sets 365 = .ok (.invokevirtual 298, 3) := by decide +kernel
theorem dX12_sets_368 : decode cX12_sets 368 = .ok (.iconst 4, 1) := by decide +kernel
theorem dX12_sets_369 : decode cX12_sets 369 = .ok (.if_icmp .le 15, 3) := by decide +kernel
theorem dX12_sets_372 : decode cX12_sets 372 = .ok (.aload_n 0, 1) := by decide +kernel
theorem dX12_sets_373 : decode cX12_sets 373 = .ok (.iconst 0, 1) := by decide +kernel
theorem dX12_sets_374 : decode cX12_sets 374 = .ok (.iload 7, 2) := by decide +kernel
theorem dX12_sets_376 : decode cX12_sets 376 = .ok (.iload 5, 2) := by decide +kernel
theorem dX12_sets_378 : decode cX12_sets 378 = .ok (.invokevirtual 302, 3) := by decide +kernel
theorem dX12_sets_381 : decode cX12_sets 381 = .ok (.goto (-22), 3) := by decide +kernel
theorem dX12_sets_384 : decode cX12_sets 384 = .ok (.aload_n 0, 1) := by decide +kernel
theorem dX12_sets_385 : decode cX12_sets 385 = .ok (.getfield 260, 3) := by decide +kernel
theorem dX12_sets_388 : decode cX12_sets 388 = .ok (.bipush 10, 2) := by decide +kernel
theorem dX12_sets_390 : decode cX12_sets 390 = .ok (.if_icmp .le 15, 3) := by decide +kernel
theorem dX12_sets_393 : decode cX12_sets 393 = .ok (.aload_n 0, 1) := by decide +kernel
theorem dX12_sets_394 : decode cX12_sets 394 = .ok (.iconst 1, 1) := by decide +kernel
theorem dX12_sets_395 : decode cX12_sets 395 = .ok (.iload 7, 2) := by decide +kernel
theorem dX12_sets_397 : decode cX12_sets 397 = .ok (.iload 5, 2) := by decide +kernel
theorem dX12_sets_399 : decode cX12_sets 399 = .ok (.invokevirtual 302, 3) := by decide +kernel
theorem dX12_sets_402 : decode cX12_sets 402 = .ok (.goto (-18), 3) := by decide +kernel
theorem dX12_sets_405 : decode cX12_sets 405 = .ok (.return_, 1) := by decide +kernel
theorem dX12_goes_0 : decode cX12_goes 0 = .ok (.aload_n 0, 1) := by decide +kernel
theorem dX12_goes_1 : decode cX12_goes 1 = .ok (.getfield 101, 3) := by decide +kernel
theorem dX12_goes_4 : decode cX12_goes 4 = .ok (.iload_n 1, 1) := by decide +kernel
theorem dX12_goes_5 : decode cX12_goes 5 = .ok (.baload, 1) := by decide +kernel
theorem dX12_goes_6 : decode cX12_goes 6 = .ok (.ifCond .eq 26, 3) := by decide +kernel
theorem dX12_goes_9 : decode cX12_goes 9 = .ok (.aload_n 0, 1) := by decide +kernel
theorem dX12_goes_10 : decode cX12_goes 10 = .ok (.getfield 98, 3) := by decide +kernel
theorem dX12_goes_13 : decode cX12_goes 13 = .ok (.iload_n 1, 1) := by decide +kernel
theorem dX12_goes_14 : decode cX12_goes 14 = .ok (.iaload, 1) := by decide +kernel
theorem dX12_goes_15 : decode cX12_goes 15 = .ok (.aload_n 0, 1) := by decide +kernel
theorem dX12_goes_16 : decode cX12_goes 16 = .ok (.getfield 23, 3) := by decide +kernel
theorem dX12_goes_19 : decode cX12_goes 19 = .ok (.iload_n 2, 1) := by decide +kernel
theorem dX12_goes_20 : decode cX12_goes 20 = .ok (.iaload, 1) := by decide +kernel
theorem dX12_goes_21 : decode cX12_goes 21 = .ok (.if_icmp .ne 7, 3) := by decide +kernel
theorem dX12_goes_24 : decode cX12_goes 24 = .ok (.iconst 1, 1) := by decide +kernel
theorem dX12_goes_25 : decode cX12_goes 25 = .ok (.goto 23, 3) := by decide +kernel
theorem dX12_goes_28 : decode cX12_goes 28 = .ok (.iconst 0, 1) := by decide +kernel
theorem dX12_goes_29 : decode cX12_goes 29 = .ok (.goto 19, 3) := by decide +kernel
theorem dX12_goes_32 : decode cX12_goes 32 = .ok (.aload_n 0, 1) := by decide +kernel
theorem dX12_goes_33 : decode cX12_goes 33 = .ok (.aload_n 0, 1) := by decide +kernel
theorem dX12_goes_34 : decode cX12_goes 34 = .ok (.getfield 23, 3) := by decide +kernel
theorem dX12_goes_37 : decode cX12_goes 37 = .ok (.iload_n 2, 1) := by decide +kernel
theorem dX12_goes_38 : decode cX12_goes 38 = .ok (.iaload, 1) := by decide +kernel
theorem dX12_goes_39 : decode cX12_goes 39 = .ok (.aload_n 0, 1) := by decide +kernel
theorem dX12_goes_40 : decode cX12_goes 40 = .ok (.getfield 98, 3) := by decide +kernel
theorem dX12_goes_43 : decode cX12_goes 43 = .ok (.iload_n 1, 1) := by decide +kernel
theorem dX12_goes_44 : decode cX12_goes 44 = .ok (.iaload, 1) := by decide +kernel
theorem dX12_goes_45 : decode cX12_goes 45 = .ok (.invokevirtual 279, 3) := by decide +kernel
theorem dX12_goes_48 : decode cX12_goes 48 = .ok (.istore 4, 2) := by decide +kernel
theorem dX12_goes_50 : decode cX12_goes 50 = .ok (.iload 4, 2) := by decide +kernel
theorem dX12_goes_52 : decode cX12_goes 52 = .ok (.ifCond .eq 68, 3) := by decide +kernel
theorem dX12_goes_55 : decode cX12_goes 55 = .ok (.aload_n 0, 1) := by decide +kernel
theorem dX12_goes_56 : decode cX12_goes 56 = .ok (.getfield 104, 3) := by decide +kernel
theorem dX12_goes_59 : decode cX12_goes 59 = .ok (.iload_n 1, 1) := by decide +kernel
theorem dX12_goes_60 : decode cX12_goes 60 = .ok (.iaload, 1) := by decide +kernel
theorem dX12_goes_61 : decode cX12_goes 61 = .ok (.aload_n 0, 1) := by decide +kernel
theorem dX12_goes_62 : decode cX12_goes 62 = .ok (.getfield 29, 3) := by decide +kernel
theorem dX12_goes_65 : decode cX12_goes 65 = .ok (.iload_n 2, 1) := by decide +kernel
theorem dX12_goes_66 : decode cX12_goes 66 = .ok (.iaload, 1) := by decide +kernel
theorem dX12_goes_67 : decode cX12_goes 67 = .ok (.invokestatic 285, 3) := by decide +kernel
theorem dX12_goes_70 : decode cX12_goes 70 = .ok (.ifCond .eq 50, 3) := by decide +kernel
theorem dX12_goes_73 : decode cX12_goes 73 = .ok (.aload_n 0, 1) := by decide +kernel
theorem dX12_goes_74 : decode cX12_goes 74 = .ok (.getfield 107, 3) := by decide +kernel
theorem dX12_goes_77 : decode cX12_goes 77 = .ok (.iload_n 1, 1) := by decide +kernel
theorem dX12_goes_78 : decode cX12_goes 78 = .ok (.iaload, 1) := by decide +kernel
theorem dX12_goes_79 : decode cX12_goes 79 = .ok (.iconst 1, 1) := by decide +kernel
theorem dX12_goes_80 : decode cX12_goes 80 = .ok (.invokestatic 263, 3) := by decide +kernel
theorem dX12_goes_83 : decode cX12_goes 83 = .ok (.ifCond .eq 13, 3) := by decide +kernel
theorem dX12_goes_86 : decode cX12_goes 86 = .ok (.aload_n 0, 1) := by decide +kernel
theorem dX12_goes_87 : decode cX12_goes 87 = .ok (.getfield 20, 3) := by decide +kernel
theorem dX12_goes_90 : decode cX12_goes 90 = .ok (.iload_n 2, 1) := by decide +kernel
theorem dX12_goes_91 : decode cX12_goes 91 = .ok (.iaload, 1) := by decide +kernel
theorem dX12_goes_92 : decode cX12_goes 92 = .ok (.iconst 1, 1) := by decide +kernel
theorem dX12_goes_93 : decode cX12_goes 93 = .ok (.if_icmp .ne 27, 3) := by decide +kernel
theorem dX12_goes_96 : decode cX12_goes 96 = .ok (.aload_n 0, 1) := by decide +kernel
theorem dX12_goes_97 : decode cX12_goes 97 = .ok (.getfield 110, 3) := by decide +kernel
theorem dX12_goes_100 : decode cX12_goes 100 = .ok (.iload_n 1, 1) := by decide +kernel
theorem dX12_goes_101 : decode cX12_goes 101 = .ok (.iaload, 1) := by decide +kernel
theorem dX12_goes_102 : decode cX12_goes 102 = .ok (.iconst (-1), 1) := by decide +kernel
theorem dX12_goes_103 : decode cX12_goes 103 = .ok (.if_icmp .eq 13, 3) := by decide +kernel
theorem dX12_goes_106 : decode cX12_goes 106 = .ok (.aload_n 0, 1) := by decide +kernel
theorem dX12_goes_107 : decode cX12_goes 107 = .ok (.getfield 110, 3) := by decide +kernel
theorem dX12_goes_110 : decode cX12_goes 110 = .ok (.iload_n 1, 1) := by decide +kernel
theorem dX12_goes_111 : decode cX12_goes 111 = .ok (.iaload, 1) := by decide +kernel
theorem dX12_goes_112 : decode cX12_goes 112 = .ok (.iload_n 3, 1) := by decide +kernel
theorem dX12_goes_113 : decode cX12_goes 113 = .ok (.if_icmp .ne 7, 3) := by decide +kernel
theorem dX12_goes_116 : decode cX12_goes 116 = .ok (.iconst 1, 1) := by decide +kernel
theorem dX12_goes_117 : decode cX12_goes 117 = .ok (.goto 4, 3) := by decide +kernel
theorem dX12_goes_120 : decode cX12_goes 120 = .ok (.iconst 0, 1) := by decide +kernel
theorem dX12_goes_121 : decode cX12_goes 121 = .ok (.istore 5, 2) := by decide +kernel
theorem dX12_goes_123 : decode cX12_goes 123 = .ok (.aload_n 0, 1) := by decide +kernel
theorem dX12_goes_124 : decode cX12_goes 124 = .ok (.getfield 107, 3) := by decide +kernel
theorem dX12_goes_127 : decode cX12_goes 127 = .ok (.iload_n 1, 1) := by decide +kernel
theorem dX12_goes_128 : decode cX12_goes 128 = .ok (.iaload, 1) := by decide +kernel
theorem dX12_goes_129 : decode cX12_goes 129 = .ok (.invokestatic 267, 3) := by decide +kernel
theorem dX12_goes_132 : decode cX12_goes 132 = .ok (.ifCond .ne 19, 3) := by decide +kernel
theorem dX12_goes_135 : decode cX12_goes 135 = .ok (.aload_n 0, 1) := by decide +kernel
theorem dX12_goes_136 : decode cX12_goes 136 = .ok (.getfield 107, 3) := by decide +kernel
theorem dX12_goes_139 : decode cX12_goes 139 = .ok (.iload_n 1, 1) := by decide +kernel
theorem dX12_goes_140 : decode cX12_goes 140 = .ok (.iaload, 1) := by decide +kernel
theorem dX12_goes_141 : decode cX12_goes 141 = .ok (.invokestatic 270, 3) := by decide +kernel
theorem dX12_goes_144 : decode cX12_goes 144 = .ok (.ifCond .ne 7, 3) := by decide +kernel
theorem dX12_goes_147 : decode cX12_goes 147 = .ok (.iconst 1, 1) := by decide +kernel
theorem dX12_goes_148 : decode cX12_goes 148 = .ok (.goto 4, 3) := by decide +kernel
theorem dX12_goes_151 : decode cX12_goes 151 = .ok (.iconst 0, 1) := by decide +kernel
theorem dX12_goes_152 : decode cX12_goes 152 = .ok (.istore 6, 2) := by decide +kernel
theorem dX12_goes_154 : decode cX12_goes 154 = .ok (.aload_n 0, 1) := by decide +kernel
theorem dX12_goes_155 : decode cX12_goes 155 = .ok (.getfield 273, 3) := by decide +kernel
theorem dX12_goes_158 : decode cX12_goes 158 = .ok (.ifCond .eq 35, 3) := by decide +kernel
theorem dX12_goes_161 : decode cX12_goes 161 = .ok (.iload 6, 2) := by decide +kernel
theorem dX12_goes_163 : decode cX12_goes 163 = .ok (.ifCond .ne 30, 3) := by decide +kernel
theorem dX12_goes_166 : decode cX12_goes 166 = .ok (.aload_n 0, 1) := by decide +kernel
theorem dX12_goes_167 : decode cX12_goes 167 = .ok (.getfield 107, 3) := by decide +kernel
theorem dX12_goes_170 : decode cX12_goes 170 = .ok (.iload_n 1, 1) := by decide +kernel
theorem dX12_goes_171 : decode cX12_goes 171 = .ok (.iaload, 1) := by decide +kernel
theorem dX12_goes_172 : decode cX12_goes 172 = .ok (.invokestatic 267, 3) := by decide +kernel
theorem dX12_goes_175 : decode cX12_goes 175 = .ok (.ifCond .eq 22, 3) := by decide +kernel
theorem dX12_goes_178 : decode cX12_goes 178 = .ok (.aload_n 0, 1) := by decide +kernel
theorem dX12_goes_179 : decode cX12_goes 179 = .ok (.getfield 276, 3) := by decide +kernel
theorem dX12_goes_182 : decode cX12_goes 182 = .ok (.iconst 2, 1) := by decide +kernel
theorem dX12_goes_183 : decode cX12_goes 183 = .ok (.if_icmp .ne 14, 3) := by decide +kernel
theorem dX12_goes_186 : decode cX12_goes 186 = .ok (.aload_n 0, 1) := by decide +kernel
theorem dX12_goes_187 : decode cX12_goes 187 = .ok (.getfield 306, 3) := by decide +kernel
theorem dX12_goes_190 : decode cX12_goes 190 = .ok (.ifCond .ne 7, 3) := by decide +kernel
theorem dX12_goes_193 : decode cX12_goes 193 = .ok (.iconst 1, 1) := by decide +kernel
theorem dX12_goes_194 : decode cX12_goes 194 = .ok (.goto 4, 3) := by decide +kernel
theorem dX12_goes_197 : decode cX12_goes 197 = .ok (.iconst 0, 1) := by decide +kernel
theorem dX12_goes_198 : decode cX12_goes 198 = .ok (.istore 7, 2) := by decide +kernel
theorem dX12_goes_200 : decode cX12_goes 200 = .ok (.iload 5, 2) := by decide +kernel
theorem dX12_goes_202 : decode cX12_goes 202 = .ok (.ifCond .eq 44, 3) := by decide +kernel
theorem dX12_goes_205 : decode cX12_goes 205 = .ok (.iload 7, 2) := by decide +kernel
theorem dX12_goes_207 : decode cX12_goes 207 = .ok (.ifCond .eq 39, 3) := by decide +kernel
theorem dX12_goes_210 : decode cX12_goes 210 = .ok (.aload_n 0, 1) := by decide +kernel
theorem dX12_goes_211 : decode cX12_goes 211 = .ok (.getfield 225, 3) := by decide +kernel
theorem dX12_goes_214 : decode cX12_goes 214 = .ok (.ifCond .eq 28, 3) := by decide +kernel
theorem dX12_goes_217 : decode cX12_goes 217 = .ok (.aload_n 0, 1) := by decide +kernel
theorem dX12_goes_218 : decode cX12_goes 218 = .ok (.getfield 273, 3) := by decide +kernel
theorem dX12_goes_221 : decode cX12_goes 221 = .ok (.ifCond .eq 21, 3) := by decide +kernel
theorem dX12_goes_224 : decode cX12_goes 224 = .ok (.aload_n 0, 1) := by decide +kernel
theorem dX12_goes_225 : decode cX12_goes 225 = .ok (.getfield 276, 3) := by decide +kernel
theorem dX12_goes_228 : decode cX12_goes 228 = .ok (.iconst 2, 1) := by decide +kernel
theorem dX12_goes_229 : decode cX12_goes 229 = .ok (.if_icmp .eq 13, 3) := by decide +kernel
theorem dX12_goes_232 : decode cX12_goes 232 = .ok (.aload_n 0, 1) := by decide +kernel
theorem dX12_goes_233 : decode cX12_goes 233 = .ok (.getfield 110, 3) := by decide +kernel
theorem dX12_goes_236 : decode cX12_goes 236 = .ok (.iload_n 1, 1) := by decide +kernel
theorem dX12_goes_237 : decode cX12_goes 237 = .ok (.iaload, 1) := by decide +kernel
theorem dX12_goes_238 : decode cX12_goes 238 = .ok (.iconst (-1), 1) := by decide +kernel
theorem dX12_goes_239 : decode cX12_goes 239 = .ok (.if_icmp .eq 7, 3) := by decide +kernel
theorem dX12_goes_242 : decode cX12_goes 242 = .ok (.iconst 1, 1) := by decide +kernel
theorem dX12_goes_243 : decode cX12_goes 243 = .ok (.goto 4, 3) := by decide +kernel
theorem dX12_goes_246 : decode cX12_goes 246 = .ok (.iconst 0, 1) := by decide +kernel
theorem dX12_goes_247 : decode cX12_goes 247 = .ok (.ireturn, 1) := by decide +kernel
theorem dX12_sends_0 : decode cX12_sends 0 = .ok (.iconst 3, 1) := by decide +kernel
theorem dX12_sends_1 : decode cX12_sends 1 = .ok (.istore 4, 2) := by decide +kernel
theorem dX12_sends_3 : decode cX12_sends 3 = .ok (.iload 4, 2) := by decide +kernel
theorem dX12_sends_5 : decode cX12_sends 5 = .ok (.ifCond .lt 119, 3) := by decide +kernel
theorem dX12_sends_8 : decode cX12_sends 8 = .ok (.iconst 0, 1) := by decide +kernel
theorem dX12_sends_9 : decode cX12_sends 9 = .ok (.istore 5, 2) := by decide +kernel
theorem dX12_sends_11 : decode cX12_sends 11 = .ok (.iload 5, 2) := by decide +kernel
theorem dX12_sends_13 : decode cX12_sends 13 = .ok (.aload_n 0, 1) := by decide +kernel
theorem dX12_sends_14 : decode cX12_sends 14 = .ok (.getfield 260, 3) := by decide +kernel
theorem dX12_sends_17 : decode cX12_sends 17 = .ok (.if_icmp .ge 101, 3) := by decide +kernel
theorem dX12_sends_20 : decode cX12_sends 20 = .ok (.aload_n 0, 1) := by decide +kernel
theorem dX12_sends_21 : decode cX12_sends 21 = .ok (.getfield 104, 3) := by decide +kernel
theorem dX12_sends_24 : decode cX12_sends 24 = .ok (.iload 5, 2) := by decide +kernel
theorem dX12_sends_26 : decode cX12_sends 26 = .ok (.iaload, 1) := by decide +kernel
theorem dX12_sends_27 : decode cX12_sends 27 = .ok (.invokestatic 257, 3) := by decide +kernel
theorem dX12_sends_30 : decode cX12_sends 30 = .ok (.iload 4, 2) := by decide +kernel
theorem dX12_sends_32 : decode cX12_sends 32 = .ok (.if_icmp .ne 80, 3) := by decide +kernel
theorem dX12_sends_35 : decode cX12_sends 35 = .ok (.aload_n 0, 1) := by decide +kernel
theorem dX12_sends_36 : decode cX12_sends 36 = .ok (.iload 5, 2) := by decide +kernel
theorem dX12_sends_38 : decode cX12_sends 38 = .ok (.iload_n 1, 1) := by decide +kernel
theorem dX12_sends_39 : decode cX12_sends 39 = .ok (.iload_n 2, 1) := by decide +kernel
theorem dX12_sends_40 : decode cX12_sends 40 = .ok (.invokevirtual 309, 3) := by decide +kernel
theorem dX12_sends_43 : decode cX12_sends 43 = .ok (.ifCond .eq 69, 3) := by decide +kernel
theorem dX12_sends_46 : decode cX12_sends 46 = .ok (.aload_n 0, 1) := by decide +kernel
theorem dX12_sends_47 : decode cX12_sends 47 = .ok (.getfield 89, 3) := by decide +kernel
theorem dX12_sends_50 : decode cX12_sends 50 = .ok (.bipush 12, 2) := by decide +kernel
theorem dX12_sends_52 : decode cX12_sends 52 = .ok (.iload_n 3, 1) := by decide +kernel
theorem dX12_sends_53 : decode cX12_sends 53 = .ok (.imul, 1) := by decide +kernel
theorem dX12_sends_54 : decode cX12_sends 54 = .ok (.aload_n 0, 1) := by decide +kernel
theorem dX12_sends_55 : decode cX12_sends 55 = .ok (.getfield 86, 3) := by decide +kernel
theorem dX12_sends_58 : decode cX12_sends 58 = .ok (.iload_n 3, 1) := by decide +kernel
theorem dX12_sends_59 : decode cX12_sends 59 = .ok (.iaload, 1) := by decide +kernel
theorem dX12_sends_60 : decode cX12_sends 60 = .ok (.iadd, 1) := by decide +kernel
theorem dX12_sends_61 : decode cX12_sends 61 = .ok (.sipush 1000, 3) := by decide +kernel
theorem dX12_sends_64 : decode cX12_sends 64 = .ok (.aload_n 0, 1) := by decide +kernel
theorem dX12_sends_65 : decode cX12_sends 65 = .ok (.getfield 92, 3) := by decide +kernel
theorem dX12_sends_68 : decode cX12_sends 68 = .ok (.iload 5, 2) := by decide +kernel
theorem dX12_sends_70 : decode cX12_sends 70 = .ok (.iaload, 1) := by decide +kernel
theorem dX12_sends_71 : decode cX12_sends 71 = .ok (.imul, 1) := by decide +kernel
theorem dX12_sends_72 : decode cX12_sends 72 = .ok (.aload_n 0, 1) := by decide +kernel
theorem dX12_sends_73 : decode cX12_sends 73 = .ok (.getfield 95, 3) := by decide +kernel
theorem dX12_sends_76 : decode cX12_sends 76 = .ok (.iload 5, 2) := by decide +kernel
theorem dX12_sends_78 : decode cX12_sends 78 = .ok (.iaload, 1) := by decide +kernel
theorem dX12_sends_79 : decode cX12_sends 79 = .ok (.iadd, 1) := by decide +kernel
theorem dX12_sends_80 : decode cX12_sends 80 = .ok (.iastore, 1) := by decide +kernel
theorem dX12_sends_81 : decode cX12_sends 81 = .ok (.aload_n 0, 1) := by decide +kernel
theorem dX12_sends_82 : decode cX12_sends 82 = .ok (.getfield 86, 3) := by decide +kernel
theorem dX12_sends_85 : decode cX12_sends 85 = .ok (.iload_n 3, 1) := by decide +kernel
theorem dX12_sends_86 : decode cX12_sends 86 = .ok (.dup2, 1) := by decide +kernel
theorem dX12_sends_87 : decode cX12_sends 87 = .ok (.iaload, 1) := by decide +kernel
theorem dX12_sends_88 : decode cX12_sends 88 = .ok (.iconst 1, 1) := by decide +kernel
theorem dX12_sends_89 : decode cX12_sends 89 = .ok (.iadd, 1) := by decide +kernel
theorem dX12_sends_90 : decode cX12_sends 90 = .ok (.iastore, 1) := by decide +kernel
theorem dX12_sends_91 : decode cX12_sends 91 = .ok (.aload_n 0, 1) := by decide +kernel
theorem dX12_sends_92 : decode cX12_sends 92 = .ok (.getfield 116, 3) := by decide +kernel
theorem dX12_sends_95 : decode cX12_sends 95 = .ok (.iload 5, 2) := by decide +kernel
theorem dX12_sends_97 : decode cX12_sends 97 = .ok (.aload_n 0, 1) := by decide +kernel
theorem dX12_sends_98 : decode cX12_sends 98 = .ok (.getfield 254, 3) := by decide +kernel
theorem dX12_sends_101 : decode cX12_sends 101 = .ok (.iastore, 1) := by decide +kernel
theorem dX12_sends_102 : decode cX12_sends 102 = .ok (.aload_n 0, 1) := by decide +kernel
theorem dX12_sends_103 : decode cX12_sends 103 = .ok (.dup, 1) := by decide +kernel
theorem dX12_sends_104 : decode cX12_sends 104 = .ok (.getfield 254, 3) := by decide +kernel
theorem dX12_sends_107 : decode cX12_sends 107 = .ok (.iconst 1, 1) := by decide +kernel
theorem dX12_sends_108 : decode cX12_sends 108 = .ok (.iadd, 1) := by decide +kernel
theorem dX12_sends_109 : decode cX12_sends 109 = .ok (.putfield 254, 3) := by decide +kernel
theorem dX12_sends_112 : decode cX12_sends 112 = .ok (.iinc 5 1, 3) := by decide +kernel
theorem dX12_sends_115 : decode cX12_sends 115 = .ok (.goto (-104), 3) := by decide +kernel
theorem dX12_sends_118 : decode cX12_sends 118 = .ok (.iinc 4 (-1), 3) := by decide +kernel
theorem dX12_sends_121 : decode cX12_sends 121 = .ok (.goto (-118), 3) := by decide +kernel
theorem dX12_sends_124 : decode cX12_sends 124 = .ok (.return_, 1) := by decide +kernel
theorem dX12_referrer_0 : decode cX12_referrer 0 = .ok (.aload_n 0, 1) := by decide +kernel
theorem dX12_referrer_1 : decode cX12_referrer 1 = .ok (.getfield 68, 3) := by decide +kernel
theorem dX12_referrer_4 : decode cX12_referrer 4 = .ok (.aload_n 0, 1) := by decide +kernel
theorem dX12_referrer_5 : decode cX12_referrer 5 = .ok (.getfield 312, 3) := by decide +kernel
theorem dX12_referrer_8 : decode cX12_referrer 8 = .ok (.iaload, 1) := by decide +kernel
theorem dX12_referrer_9 : decode cX12_referrer 9 = .ok (.istore_n 2, 1) := by decide +kernel
theorem dX12_referrer_10 : decode cX12_referrer 10 = .ok (.aload_n 0, 1) := by decide +kernel
theorem dX12_referrer_11 : decode cX12_referrer 11 = .ok (.iload_n 1, 1) := by decide +kernel
theorem dX12_referrer_12 : decode cX12_referrer 12 = .ok (.iload_n 2, 1) := by decide +kernel
theorem dX12_referrer_13 : decode cX12_referrer 13 = .ok (.invokevirtual 315, 3) := by decide +kernel
theorem dX12_referrer_16 : decode cX12_referrer 16 = .ok (.istore_n 3, 1) := by decide +kernel
theorem dX12_referrer_17 : decode cX12_referrer 17 = .ok (.aload_n 0, 1) := by decide +kernel
theorem dX12_referrer_18 : decode cX12_referrer 18 = .ok (.getfield 74, 3) := by decide +kernel
theorem dX12_referrer_21 : decode cX12_referrer 21 = .ok (.aload_n 0, 1) := by decide +kernel
theorem dX12_referrer_22 : decode cX12_referrer 22 = .ok (.getfield 312, 3) := by decide +kernel
theorem dX12_referrer_25 : decode cX12_referrer 25 = .ok (.iaload, 1) := by decide +kernel
theorem dX12_referrer_26 : decode cX12_referrer 26 = .ok (.tableswitch 77 0 3 #[30, 32, 34, 44], 30) := by decide +kernel
theorem dX12_referrer_56 : decode cX12_referrer 56 = .ok (.iconst 0, 1) := by decide +kernel
theorem dX12_referrer_57 : decode cX12_referrer 57 = .ok (.ireturn, 1) := by decide +kernel
theorem dX12_referrer_58 : decode cX12_referrer 58 = .ok (.iconst 1, 1) := by decide +kernel
theorem dX12_referrer_59 : decode cX12_referrer 59 = .ok (.ireturn, 1) := by decide +kernel
theorem dX12_referrer_60 : decode cX12_referrer 60 = .ok (.iload_n 3, 1) := by decide +kernel
theorem dX12_referrer_61 : decode cX12_referrer 61 = .ok (.ifCond .eq 7, 3) := by decide +kernel
theorem dX12_referrer_64 : decode cX12_referrer 64 = .ok (.iconst 2, 1) := by decide +kernel
theorem dX12_referrer_65 : decode cX12_referrer 65 = .ok (.goto 4, 3) := by decide +kernel
theorem dX12_referrer_68 : decode cX12_referrer 68 = .ok (.iconst 0, 1) := by decide +kernel
theorem dX12_referrer_69 : decode cX12_referrer 69 = .ok (.ireturn, 1) := by decide +kernel
theorem dX12_referrer_70 : decode cX12_referrer 70 = .ok (.iload_n 3, 1) := by decide +kernel
theorem dX12_referrer_71 : decode cX12_referrer 71 = .ok (.ifCond .eq 7, 3) := by decide +kernel
theorem dX12_referrer_74 : decode cX12_referrer 74 = .ok (.iconst 2, 1) := by decide +kernel
theorem dX12_referrer_75 : decode cX12_referrer 75 = .ok (.goto 27, 3) := by decide +kernel
theorem dX12_referrer_78 : decode cX12_referrer 78 = .ok (.aload_n 0, 1) := by decide +kernel
theorem dX12_referrer_79 : decode cX12_referrer 79 = .ok (.getfield 20, 3) := by decide +kernel
theorem dX12_referrer_82 : decode cX12_referrer 82 = .ok (.iload_n 2, 1) := by decide +kernel
theorem dX12_referrer_83 : decode cX12_referrer 83 = .ok (.iaload, 1) := by decide +kernel
theorem dX12_referrer_84 : decode cX12_referrer 84 = .ok (.iconst 1, 1) := by decide +kernel
theorem dX12_referrer_85 : decode cX12_referrer 85 = .ok (.if_icmp .ne 16, 3) := by decide +kernel
theorem dX12_referrer_88 : decode cX12_referrer 88 = .ok (.aload_n 0, 1) := by decide +kernel
theorem dX12_referrer_89 : decode cX12_referrer 89 = .ok (.getfield 20, 3) := by decide +kernel
theorem dX12_referrer_92 : decode cX12_referrer 92 = .ok (.iload_n 1, 1) := by decide +kernel
theorem dX12_referrer_93 : decode cX12_referrer 93 = .ok (.iaload, 1) := by decide +kernel
theorem dX12_referrer_94 : decode cX12_referrer 94 = .ok (.ifCond .ne 7, 3) := by decide +kernel
theorem dX12_referrer_97 : decode cX12_referrer 97 = .ok (.iconst 0, 1) := by decide +kernel
theorem dX12_referrer_98 : decode cX12_referrer 98 = .ok (.goto 4, 3) := by decide +kernel
theorem dX12_referrer_101 : decode cX12_referrer 101 = .ok (.iconst 1, 1) := by decide +kernel
theorem dX12_referrer_102 : decode cX12_referrer 102 = .ok (.ireturn, 1) := by decide +kernel
theorem dX12_referrer_103 : decode cX12_referrer 103 = .ok (.iconst 2, 1) := by decide +kernel
theorem dX12_referrer_104 : decode cX12_referrer 104 = .ok (.ireturn, 1) := by decide +kernel
theorem dX12_letsIt_0 : decode cX12_letsIt 0 = .ok (.aload_n 0, 1) := by decide +kernel
theorem dX12_letsIt_1 : decode cX12_letsIt 1 = .ok (.getfield 38, 3) := by decide +kernel
theorem dX12_letsIt_4 : decode cX12_letsIt 4 = .ok (.iload_n 1, 1) := by decide +kernel
theorem dX12_letsIt_5 : decode cX12_letsIt 5 = .ok (.iaload, 1) := by decide +kernel
theorem dX12_letsIt_6 : decode cX12_letsIt 6 = .ok (.istore_n 2, 1) := by decide +kernel
theorem dX12_letsIt_7 : decode cX12_letsIt 7 = .ok (.aload_n 0, 1) := by decide +kernel
theorem dX12_letsIt_8 : decode cX12_letsIt 8 = .ok (.getfield 41, 3) := by decide +kernel
theorem dX12_letsIt_11 : decode cX12_letsIt 11 = .ok (.iload_n 1, 1) := by decide +kernel
theorem dX12_letsIt_12 : decode cX12_letsIt 12 = .ok (.baload, 1) := by decide +kernel
theorem dX12_letsIt_13 : decode cX12_letsIt 13 = .ok (.ifCond .ne 10, 3) := by decide +kernel
theorem dX12_letsIt_16 : decode cX12_letsIt 16 = .ok (.aload_n 0, 1) := by decide +kernel
theorem dX12_letsIt_17 : decode cX12_letsIt 17 = .ok (.getfield 318, 3) := by decide +kernel
theorem dX12_letsIt_20 : decode cX12_letsIt 20 = .ok (.ifCond .ne 7, 3) := by decide +kernel
theorem dX12_letsIt_23 : decode cX12_letsIt 23 = .ok (.iconst 1, 1) := by decide +kernel
theorem dX12_letsIt_24 : decode cX12_letsIt 24 = .ok (.goto 4, 3) := by decide +kernel
theorem dX12_letsIt_27 : decode cX12_letsIt 27 = .ok (.iconst 0, 1) := by decide +kernel
theorem dX12_letsIt_28 : decode cX12_letsIt 28 = .ok (.istore_n 3, 1) := by decide +kernel
theorem dX12_letsIt_29 : decode cX12_letsIt 29 = .ok (.iload_n 2, 1) := by decide +kernel
theorem dX12_letsIt_30 : decode cX12_letsIt 30 = .ok (.bipush (-2), 2) := by decide +kernel
theorem dX12_letsIt_32 : decode cX12_letsIt 32 = .ok (.if_icmp .ne 18, 3) := by decide +kernel
theorem dX12_letsIt_35 : decode cX12_letsIt 35 = .ok (.aload_n 0, 1) := by decide +kernel
theorem dX12_letsIt_36 : decode cX12_letsIt 36 = .ok (.getfield 318, 3) := by decide +kernel
theorem dX12_letsIt_39 : decode cX12_letsIt 39 = .ok (.ifCond .ne 7, 3) := by decide +kernel
theorem dX12_letsIt_42 : decode cX12_letsIt 42 = .ok (.iconst 1, 1) := by decide +kernel
theorem dX12_letsIt_43 : decode cX12_letsIt 43 = .ok (.goto 69, 3) := by decide +kernel
theorem dX12_letsIt_46 : decode cX12_letsIt 46 = .ok (.iconst 0, 1) := by decide +kernel
theorem dX12_letsIt_47 : decode cX12_letsIt 47 = .ok (.goto 65, 3) := by decide +kernel
theorem dX12_letsIt_50 : decode cX12_letsIt 50 = .ok (.iload_n 2, 1) := by decide +kernel
theorem dX12_letsIt_51 : decode cX12_letsIt 51 = .ok (.bipush (-3), 2) := by decide +kernel
theorem dX12_letsIt_53 : decode cX12_letsIt 53 = .ok (.if_icmp .ne 22, 3) := by decide +kernel
theorem dX12_letsIt_56 : decode cX12_letsIt 56 = .ok (.aload_n 0, 1) := by decide +kernel
theorem dX12_letsIt_57 : decode cX12_letsIt 57 = .ok (.getfield 321, 3) := by decide +kernel
theorem dX12_letsIt_60 : decode cX12_letsIt 60 = .ok (.ifCond .eq 11, 3) := by decide +kernel
theorem dX12_letsIt_63 : decode cX12_letsIt 63 = .ok (.iload_n 3, 1) := by decide +kernel
theorem dX12_letsIt_64 : decode cX12_letsIt 64 = .ok (.ifCond .eq 7, 3) := by decide +kernel
theorem dX12_letsIt_67 : decode cX12_letsIt 67 = .ok (.iconst 1, 1) := by decide +kernel
theorem dX12_letsIt_68 : decode cX12_letsIt 68 = .ok (.goto 44, 3) := by decide +kernel
theorem dX12_letsIt_71 : decode cX12_letsIt 71 = .ok (.iconst 0, 1) := by decide +kernel
theorem dX12_letsIt_72 : decode cX12_letsIt 72 = .ok (.goto 40, 3) := by decide +kernel
theorem dX12_letsIt_75 : decode cX12_letsIt 75 = .ok (.iload_n 2, 1) := by decide +kernel
theorem dX12_letsIt_76 : decode cX12_letsIt 76 = .ok (.ifCond .lt 35, 3) := by decide +kernel
theorem dX12_letsIt_79 : decode cX12_letsIt 79 = .ok (.aload_n 0, 1) := by decide +kernel
theorem dX12_letsIt_80 : decode cX12_letsIt 80 = .ok (.iload_n 2, 1) := by decide +kernel
theorem dX12_letsIt_81 : decode cX12_letsIt 81 = .ok (.aload_n 0, 1) := by decide +kernel
theorem dX12_letsIt_82 : decode cX12_letsIt 82 = .ok (.getfield 68, 3) := by decide +kernel
theorem dX12_letsIt_85 : decode cX12_letsIt 85 = .ok (.aload_n 0, 1) := by decide +kernel
theorem dX12_letsIt_86 : decode cX12_letsIt 86 = .ok (.getfield 312, 3) := by decide +kernel
theorem dX12_letsIt_89 : decode cX12_letsIt 89 = .ok (.iaload, 1) := by decide +kernel
theorem dX12_letsIt_90 : decode cX12_letsIt 90 = .ok (.invokevirtual 315, 3) := by decide +kernel
theorem dX12_letsIt_93 : decode cX12_letsIt 93 = .ok (.ifCond .eq 18, 3) := by decide +kernel
theorem dX12_letsIt_96 : decode cX12_letsIt 96 = .ok (.aload_n 0, 1) := by decide +kernel
theorem dX12_letsIt_97 : decode cX12_letsIt 97 = .ok (.getfield 321, 3) := by decide +kernel
theorem dX12_letsIt_100 : decode cX12_letsIt 100 = .ok (.ifCond .ne 11, 3) := by decide +kernel
theorem dX12_letsIt_103 : decode cX12_letsIt 103 = .ok (.iload_n 3, 1) := by decide +kernel
theorem dX12_letsIt_104 : decode cX12_letsIt 104 = .ok (.ifCond .eq 7, 3) := by decide +kernel
theorem dX12_letsIt_107 : decode cX12_letsIt 107 = .ok (.iconst 1, 1) := by decide +kernel
theorem dX12_letsIt_108 : decode cX12_letsIt 108 = .ok (.goto 4, 3) := by decide +kernel
theorem dX12_letsIt_111 : decode cX12_letsIt 111 = .ok (.iconst 0, 1) := by decide +kernel
theorem dX12_letsIt_112 : decode cX12_letsIt 112 = .ok (.ireturn, 1) := by decide +kernel
theorem dX12_originOf_0 : decode cX12_originOf 0 = .ok (.sipush 10000, 3) := by decide +kernel
theorem dX12_originOf_3 : decode cX12_originOf 3 = .ok (.bipush 16, 2) := by decide +kernel
theorem dX12_originOf_5 : decode cX12_originOf 5 = .ok (.aload_n 0, 1) := by decide +kernel
theorem dX12_originOf_6 : decode cX12_originOf 6 = .ok (.getfield 20, 3) := by decide +kernel
theorem dX12_originOf_9 : decode cX12_originOf 9 = .ok (.iload_n 1, 1) := by decide +kernel
theorem dX12_originOf_10 : decode cX12_originOf 10 = .ok (.iaload, 1) := by decide +kernel
theorem dX12_originOf_11 : decode cX12_originOf 11 = .ok (.imul, 1) := by decide +kernel
theorem dX12_originOf_12 : decode cX12_originOf 12 = .ok (.aload_n 0, 1) := by decide +kernel
theorem dX12_originOf_13 : decode cX12_originOf 13 = .ok (.getfield 23, 3) := by decide +kernel
theorem dX12_originOf_16 : decode cX12_originOf 16 = .ok (.iload_n 1, 1) := by decide +kernel
theorem dX12_originOf_17 : decode cX12_originOf 17 = .ok (.iaload, 1) := by decide +kernel
theorem dX12_originOf_18 : decode cX12_originOf 18 = .ok (.iadd, 1) := by decide +kernel
theorem dX12_originOf_19 : decode cX12_originOf 19 = .ok (.imul, 1) := by decide +kernel
theorem dX12_originOf_20 : decode cX12_originOf 20 = .ok (.aload_n 0, 1) := by decide +kernel
theorem dX12_originOf_21 : decode cX12_originOf 21 = .ok (.iload_n 1, 1) := by decide +kernel
theorem dX12_originOf_22 : decode cX12_originOf 22 = .ok (.invokevirtual 235, 3) := by decide +kernel
theorem dX12_originOf_25 : decode cX12_originOf 25 = .ok (.iadd, 1) := by decide +kernel
theorem dX12_originOf_26 : decode cX12_originOf 26 = .ok (.ireturn, 1) := by decide +kernel
theorem dX12_preflight_0 : decode cX12_preflight 0 = .ok (.aload_n 0, 1) := by decide +kernel
theorem dX12_preflight_1 : decode cX12_preflight 1 = .ok (.getfield 321, 3) := by decide +kernel
theorem dX12_preflight_4 : decode cX12_preflight 4 = .ok (.ifCond .eq 7, 3) := by decide +kernel
theorem dX12_preflight_7 : decode cX12_preflight 7 = .ok (.iconst (-1), 1) := by decide +kernel
theorem dX12_preflight_8 : decode cX12_preflight 8 = .ok (.goto 16, 3) := by decide +kernel
theorem dX12_preflight_11 : decode cX12_preflight 11 = .ok (.aload_n 0, 1) := by decide +kernel
theorem dX12_preflight_12 : decode cX12_preflight 12 = .ok (.aload_n 0, 1) := by decide +kernel
theorem dX12_preflight_13 : decode cX12_preflight 13 = .ok (.getfield 68, 3) := by decide +kernel
theorem dX12_preflight_16 : decode cX12_preflight 16 = .ok (.aload_n 0, 1) := by decide +kernel
theorem dX12_preflight_17 : decode cX12_preflight 17 = .ok (.getfield 312, 3) := by decide +kernel
theorem dX12_preflight_20 : decode cX12_preflight 20 = .ok (.iaload, 1) := by decide +kernel
theorem dX12_preflight_21 : decode cX12_preflight 21 = .ok (.invokevirtual 324, 3) := by decide +kernel
theorem dX12_preflight_24 : decode cX12_preflight 24 = .ok (.istore_n 3, 1) := by decide +kernel
theorem dX12_preflight_25 : decode cX12_preflight 25 = .ok (.aload_n 0, 1) := by decide +kernel
theorem dX12_preflight_26 : decode cX12_preflight 26 = .ok (.getfield 306, 3) := by decide +kernel
theorem dX12_preflight_29 : decode cX12_preflight 29 = .ok (.iconst 2, 1) := by decide +kernel
theorem dX12_preflight_30 : decode cX12_preflight 30 = .ok (.if_icmp .ne 7, 3) := by decide +kernel
theorem dX12_preflight_33 : decode cX12_preflight 33 = .ok (.iconst 1, 1) := by decide +kernel
theorem dX12_preflight_34 : decode cX12_preflight 34 = .ok (.goto 4, 3) := by decide +kernel
theorem dX12_preflight_37 : decode cX12_preflight 37 = .ok (.iconst 0, 1) := by decide +kernel
theorem dX12_preflight_38 : decode cX12_preflight 38 = .ok (.aload_n 0, 1) := by decide +kernel
theorem dX12_preflight_39 : decode cX12_preflight 39 = .ok (.getfield 327, 3) := by decide +kernel
theorem dX12_preflight_42 : decode cX12_preflight 42 = .ok (.ifCond .eq 7, 3) := by decide +kernel
theorem dX12_preflight_45 : decode cX12_preflight 45 = .ok (.iconst 2, 1) := by decide +kernel
theorem dX12_preflight_46 : decode cX12_preflight 46 = .ok (.goto 4, 3) := by decide +kernel
theorem dX12_preflight_49 : decode cX12_preflight 49 = .ok (.iconst 0, 1) := by decide +kernel
theorem dX12_preflight_50 : decode cX12_preflight 50 = .ok (.iadd, 1) := by decide +kernel
theorem dX12_preflight_51 : decode cX12_preflight 51 = .ok (.istore 4, 2) := by decide +kernel
theorem dX12_preflight_53 : decode cX12_preflight 53 = .ok (.iconst (-1), 1) := by decide +kernel
theorem dX12_preflight_54 : decode cX12_preflight 54 = .ok (.istore 5, 2) := by decide +kernel
theorem dX12_preflight_56 : decode cX12_preflight 56 = .ok (.iconst 0, 1) := by decide +kernel
theorem dX12_preflight_57 : decode cX12_preflight 57 = .ok (.istore 6, 2) := by decide +kernel
theorem dX12_preflight_59 : decode cX12_preflight 59 = .ok (.iload 6, 2) := by decide +kernel
theorem dX12_preflight_61 : decode cX12_preflight 61 = .ok (.aload_n 0, 1) := by decide +kernel
theorem dX12_preflight_62 : decode cX12_preflight 62 = .ok (.getfield 330, 3) := by decide +kernel
theorem dX12_preflight_65 : decode cX12_preflight 65 = .ok (.if_icmp .ge 65, 3) := by decide +kernel
theorem dX12_preflight_68 : decode cX12_preflight 68 = .ok (.aload_n 0, 1) := by decide +kernel
theorem dX12_preflight_69 : decode cX12_preflight 69 = .ok (.getfield 140, 3) := by decide +kernel
theorem dX12_preflight_72 : decode cX12_preflight 72 = .ok (.iload 6, 2) := by decide +kernel
theorem dX12_preflight_74 : decode cX12_preflight 74 = .ok (.iaload, 1) := by decide +kernel
theorem dX12_preflight_75 : decode cX12_preflight 75 = .ok (.iload_n 3, 1) := by decide +kernel
theorem dX12_preflight_76 : decode cX12_preflight 76 = .ok (.if_icmp .ne 44, 3) := by decide +kernel
theorem dX12_preflight_79 : decode cX12_preflight 79 = .ok (.aload_n 0, 1) := by decide +kernel
theorem dX12_preflight_80 : decode cX12_preflight 80 = .ok (.getfield 143, 3) := by decide +kernel
theorem dX12_preflight_83 : decode cX12_preflight 83 = .ok (.iload 6, 2) := by decide +kernel
theorem dX12_preflight_85 : decode cX12_preflight 85 = .ok (.iaload, 1) := by decide +kernel
theorem dX12_preflight_86 : decode cX12_preflight 86 = .ok (.iload_n 1, 1) := by decide +kernel
theorem dX12_preflight_87 : decode cX12_preflight 87 = .ok (.if_icmp .ne 33, 3) := by decide +kernel
theorem dX12_preflight_90 : decode cX12_preflight 90 = .ok (.aload_n 0, 1) := by decide +kernel
theorem dX12_preflight_91 : decode cX12_preflight 91 = .ok (.getfield 146, 3) := by decide +kernel
theorem dX12_preflight_94 : decode cX12_preflight 94 = .ok (.iload 6, 2) := by decide +kernel
theorem dX12_preflight_96 : decode cX12_preflight 96 = .ok (.baload, 1) := by decide +kernel
theorem dX12_preflight_97 : decode cX12_preflight 97 = .ok (.aload_n 0, 1) := by decide +kernel
theorem dX12_preflight_98 : decode cX12_preflight 98 = .ok (.getfield 318, 3) := by decide +kernel
theorem dX12_preflight_101 : decode cX12_preflight 101 = .ok (.if_icmp .ne 19, 3) := by decide +kernel
theorem dX12_preflight_104 : decode cX12_preflight 104 = .ok (.aload_n 0, 1) := by decide +kernel
theorem dX12_preflight_105 : decode cX12_preflight 105 = .ok (.getfield 149, 3) := by decide +kernel
theorem dX12_preflight_108 : decode cX12_preflight 108 = .ok (.iload 6, 2) := by decide +kernel
theorem dX12_preflight_110 : decode cX12_preflight 110 = .ok (.iaload, 1) := by decide +kernel
theorem dX12_preflight_111 : decode cX12_preflight 111 = .ok (.iload_n 2, 1) := by decide +kernel
theorem dX12_preflight_112 : decode cX12_preflight 112 = .ok (.if_icmp .ne 8, 3) := by decide +kernel
theorem dX12_preflight_115 : decode cX12_preflight 115 = .ok (.iload 6, 2) := by decide +kernel
theorem dX12_preflight_117 : decode cX12_preflight 117 = .ok (.goto 5, 3) := by decide +kernel
theorem dX12_preflight_120 : decode cX12_preflight 120 = .ok (.iload 5, 2) := by decide +kernel
theorem dX12_preflight_122 : decode cX12_preflight 122 = .ok (.istore 5, 2) := by decide +kernel
theorem dX12_preflight_124 : decode cX12_preflight 124 = .ok (.iinc 6 1, 3) := by decide +kernel
theorem dX12_preflight_127 : decode cX12_preflight 127 = .ok (.goto (-68), 3) := by decide +kernel
theorem dX12_preflight_130 : decode cX12_preflight 130 = .ok (.iload 5, 2) := by decide +kernel
theorem dX12_preflight_132 : decode cX12_preflight 132 = .ok (.iconst (-1), 1) := by decide +kernel
theorem dX12_preflight_133 : decode cX12_preflight 133 = .ok (.if_icmp .eq 34, 3) := by decide +kernel
theorem dX12_preflight_136 : decode cX12_preflight 136 = .ok (.aload_n 0, 1) := by decide +kernel
theorem dX12_preflight_137 : decode cX12_preflight 137 = .ok (.getfield 244, 3) := by decide +kernel
theorem dX12_preflight_140 : decode cX12_preflight 140 = .ok (.aload_n 0, 1) := by decide +kernel
theorem dX12_preflight_141 : decode cX12_preflight 141 = .ok (.getfield 155, 3) := by decide +kernel
theorem dX12_preflight_144 : decode cX12_preflight 144 = .ok (.iload 5, 2) := by decide +kernel
theorem dX12_preflight_146 : decode cX12_preflight 146 = .ok (.iaload, 1) := by decide +kernel
theorem dX12_preflight_147 : decode cX12_preflight 147 = .ok (.if_icmp .ge 20, 3) := by decide +kernel
theorem dX12_preflight_150 : decode cX12_preflight 150 = .ok (.aload_n 0, 1) := by decide +kernel
theorem dX12_preflight_151 : decode cX12_preflight 151 = .ok (.getfield 152, 3) := by decide +kernel
theorem dX12_preflight_154 : decode cX12_preflight 154 = .ok (.iload 5, 2) := by decide +kernel
theorem dX12_preflight_156 : decode cX12_preflight 156 = .ok (.iaload, 1) := by decide +kernel
theorem dX12_preflight_157 : decode cX12_preflight 157 = .ok (.iload 4, 2) := by decide +kernel
theorem dX12_preflight_159 : decode cX12_preflight 159 = .ok (.iand, 1) := by decide +kernel
theorem dX12_preflight_160 : decode cX12_preflight 160 = .ok (.iload 4, 2) := by decide +kernel
theorem dX12_preflight_162 : decode cX12_preflight 162 = .ok (.if_icmp .ne 5, 3) := by decide +kernel
theorem dX12_preflight_165 : decode cX12_preflight 165 = .ok (.iconst 1, 1) := by decide +kernel
theorem dX12_preflight_166 : decode cX12_preflight 166 = .ok (.ireturn, 1) := by decide +kernel
theorem dX12_preflight_167 : decode cX12_preflight 167 = .ok (.aload_n 0, 1) := by decide +kernel
theorem dX12_preflight_168 : decode cX12_preflight 168 = .ok (.dup, 1) := by decide +kernel
theorem dX12_preflight_169 : decode cX12_preflight 169 = .ok (.getfield 333, 3) := by decide +kernel
theorem dX12_preflight_172 : decode cX12_preflight 172 = .ok (.iconst 1, 1) := by decide +kernel
theorem dX12_preflight_173 : decode cX12_preflight 173 = .ok (.iadd, 1) := by decide +kernel
theorem dX12_preflight_174 : decode cX12_preflight 174 = .ok (.putfield 333, 3) := by decide +kernel
theorem dX12_preflight_177 : decode cX12_preflight 177 = .ok (.aload_n 0, 1) := by decide +kernel
theorem dX12_preflight_178 : decode cX12_preflight 178 = .ok (.iload_n 1, 1) := by decide +kernel
theorem dX12_preflight_179 : decode cX12_preflight 179 = .ok (.iconst 0, 1) := by decide +kernel
theorem dX12_preflight_180 : decode cX12_preflight 180 = .ok (.iload_n 2, 1) := by decide +kernel
theorem dX12_preflight_181 : decode cX12_preflight 181 = .ok (.invokevirtual 336, 3) := by decide +kernel
theorem dX12_preflight_184 : decode cX12_preflight 184 = .ok (.aload_n 0, 1) := by decide +kernel
theorem dX12_preflight_185 : decode cX12_preflight 185 = .ok (.iload_n 1, 1) := by decide +kernel
theorem dX12_preflight_186 : decode cX12_preflight 186 = .ok (.invokevirtual 340, 3) := by decide +kernel
theorem dX12_preflight_189 : decode cX12_preflight 189 = .ok (.ifCond .eq 17, 3) := by decide +kernel
theorem dX12_preflight_192 : decode cX12_preflight 192 = .ok (.aload_n 0, 1) := by decide +kernel
theorem dX12_preflight_193 : decode cX12_preflight 193 = .ok (.getfield 44, 3) := by decide +kernel
theorem dX12_preflight_196 : decode cX12_preflight 196 = .ok (.iload_n 1, 1) := by decide +kernel
theorem dX12_preflight_197 : decode cX12_preflight 197 = .ok (.iaload, 1) := by decide +kernel
theorem dX12_preflight_198 : decode cX12_preflight 198 = .ok (.iload 4, 2) := by decide +kernel
theorem dX12_preflight_200 : decode cX12_preflight 200 = .ok (.iand, 1) := by decide +kernel
theorem dX12_preflight_201 : decode cX12_preflight 201 = .ok (.iload 4, 2) := by decide +kernel
theorem dX12_preflight_203 : decode cX12_preflight 203 = .ok (.if_icmp .eq 5, 3) := by decide +kernel
theorem dX12_preflight_206 : decode cX12_preflight 206 = .ok (.iconst 0, 1) := by decide +kernel
theorem dX12_preflight_207 : decode cX12_preflight 207 = .ok (.ireturn, 1) := by decide +kernel
theorem dX12_preflight_208 : decode cX12_preflight 208 = .ok (.aload_n 0, 1) := by decide +kernel
theorem dX12_preflight_209 : decode cX12_preflight 209 = .ok (.getfield 47, 3) := by decide +kernel
theorem dX12_preflight_212 : decode cX12_preflight 212 = .ok (.iload_n 1, 1) := by decide +kernel
theorem dX12_preflight_213 : decode cX12_preflight 213 = .ok (.iaload, 1) := by decide +kernel
theorem dX12_preflight_214 : decode cX12_preflight 214 = .ok (.ifCond .le 91, 3) := by decide +kernel
theorem dX12_preflight_217 : decode cX12_preflight 217 = .ok (.iload 5, 2) := by decide +kernel
theorem dX12_preflight_219 : decode cX12_preflight 219 = .ok (.iconst (-1), 1) := by decide +kernel
theorem dX12_preflight_220 : decode cX12_preflight 220 = .ok (.if_icmp .ne 19, 3) := by decide +kernel
theorem dX12_preflight_223 : decode cX12_preflight 223 = .ok (.aload_n 0, 1) := by decide +kernel
theorem dX12_preflight_224 : decode cX12_preflight 224 = .ok (.getfield 330, 3) := by decide +kernel
theorem dX12_preflight_227 : decode cX12_preflight 227 = .ok (.istore 5, 2) := by decide +kernel
theorem dX12_preflight_229 : decode cX12_preflight 229 = .ok (.aload_n 0, 1) := by decide +kernel
theorem dX12_preflight_230 : decode cX12_preflight 230 = .ok (.dup, 1) := by decide +kernel
theorem dX12_preflight_231 : decode cX12_preflight 231 = .ok (.getfield 330, 3) := by decide +kernel
theorem dX12_preflight_234 : decode cX12_preflight 234 = .ok (.iconst 1, 1) := by decide +kernel
theorem dX12_preflight_235 : decode cX12_preflight 235 = .ok (.iadd, 1) := by decide +kernel
theorem dX12_preflight_236 : decode cX12_preflight 236 = .ok (.putfield 330, 3) := by decide +kernel
theorem dX12_preflight_239 : decode cX12_preflight 239 = .ok (.aload_n 0, 1) := by decide +kernel
theorem dX12_preflight_240 : decode cX12_preflight 240 = .ok (.getfield 140, 3) := by decide +kernel
theorem dX12_preflight_243 : decode cX12_preflight 243 = .ok (.iload 5, 2) := by decide +kernel
theorem dX12_preflight_245 : decode cX12_preflight 245 = .ok (.iload_n 3, 1) := by decide +kernel
theorem dX12_preflight_246 : decode cX12_preflight 246 = .ok (.iastore, 1) := by decide +kernel
theorem dX12_preflight_247 : decode cX12_preflight 247 = .ok (.aload_n 0, 1) := by decide +kernel
theorem dX12_preflight_248 : decode cX12_preflight 248 = .ok (.getfield 143, 3) := by decide +kernel
theorem dX12_preflight_251 : decode cX12_preflight 251 = .ok (.iload 5, 2) := by decide +kernel
theorem dX12_preflight_253 : decode cX12_preflight 253 = .ok (.iload_n 1, 1) := by decide +kernel
theorem dX12_preflight_254 : decode cX12_preflight 254 = .ok (.iastore, 1) := by decide +kernel
theorem dX12_preflight_255 : decode cX12_preflight 255 = .ok (.aload_n 0, 1) := by decide +kernel
theorem dX12_preflight_256 : decode cX12_preflight 256 = .ok (.getfield 146, 3) := by decide +kernel
theorem dX12_preflight_259 : decode cX12_preflight 259 = .ok (.iload 5, 2) := by decide +kernel
theorem dX12_preflight_261 : decode cX12_preflight 261 = .ok (.aload_n 0, 1) := by decide +kernel
theorem dX12_preflight_262 : decode cX12_preflight 262 = .ok (.getfield 318, 3) := by decide +kernel
theorem dX12_preflight_265 : decode cX12_preflight 265 = .ok (.bastore, 1) := by decide +kernel
theorem dX12_preflight_266 : decode cX12_preflight 266 = .ok (.aload_n 0, 1) := by decide +kernel
theorem dX12_preflight_267 : decode cX12_preflight 267 = .ok (.getfield 149, 3) := by decide +kernel
theorem dX12_preflight_270 : decode cX12_preflight 270 = .ok (.iload 5, 2) := by decide +kernel
theorem dX12_preflight_272 : decode cX12_preflight 272 = .ok (.iload_n 2, 1) := by decide +kernel
theorem dX12_preflight_273 : decode cX12_preflight 273 = .ok (.iastore, 1) := by decide +kernel
theorem dX12_preflight_274 : decode cX12_preflight 274 = .ok (.aload_n 0, 1) := by decide +kernel
theorem dX12_preflight_275 : decode cX12_preflight 275 = .ok (.getfield 152, 3) := by decide +kernel
theorem dX12_preflight_278 : decode cX12_preflight 278 = .ok (.iload 5, 2) := by decide +kernel
theorem dX12_preflight_280 : decode cX12_preflight 280 = .ok (.aload_n 0, 1) := by decide +kernel
theorem dX12_preflight_281 : decode cX12_preflight 281 = .ok (.getfield 44, 3) := by decide +kernel
theorem dX12_preflight_284 : decode cX12_preflight 284 = .ok (.iload_n 1, 1) := by decide +kernel
theorem dX12_preflight_285 : decode cX12_preflight 285 = .ok (.iaload, 1) := by decide +kernel
theorem dX12_preflight_286 : decode cX12_preflight 286 = .ok (.iastore, 1) := by decide +kernel
theorem dX12_preflight_287 : decode cX12_preflight 287 = .ok (.aload_n 0, 1) := by decide +kernel
theorem dX12_preflight_288 : decode cX12_preflight 288 = .ok (.getfield 155, 3) := by decide +kernel
theorem dX12_preflight_291 : decode cX12_preflight 291 = .ok (.iload 5, 2) := by decide +kernel
theorem dX12_preflight_293 : decode cX12_preflight 293 = .ok (.aload_n 0, 1) := by decide +kernel
theorem dX12_preflight_294 : decode cX12_preflight 294 = .ok (.getfield 244, 3) := by decide +kernel
theorem dX12_preflight_297 : decode cX12_preflight 297 = .ok (.aload_n 0, 1) := by decide +kernel
theorem dX12_preflight_298 : decode cX12_preflight 298 = .ok (.getfield 47, 3) := by decide +kernel
theorem dX12_preflight_301 : decode cX12_preflight 301 = .ok (.iload_n 1, 1) := by decide +kernel
theorem dX12_preflight_302 : decode cX12_preflight 302 = .ok (.iaload, 1) := by decide +kernel
theorem dX12_preflight_303 : decode cX12_preflight 303 = .ok (.iadd, 1) := by decide +kernel
theorem dX12_preflight_304 : decode cX12_preflight 304 = .ok (.iastore, 1) := by decide +kernel
theorem dX12_preflight_305 : decode cX12_preflight 305 = .ok (.iconst 1, 1) := by decide +kernel
theorem dX12_preflight_306 : decode cX12_preflight 306 = .ok (.ireturn, 1) := by decide +kernel
theorem dX12_records_0 : decode cX12_records 0 = .ok (.aload_n 0, 1) := by decide +kernel
theorem dX12_records_1 : decode cX12_records 1 = .ok (.getfield 83, 3) := by decide +kernel
theorem dX12_records_4 : decode cX12_records 4 = .ok (.iload_n 2, 1) := by decide +kernel
theorem dX12_records_5 : decode cX12_records 5 = .ok (.sipush 1000, 3) := by decide +kernel
theorem dX12_records_8 : decode cX12_records 8 = .ok (.iload_n 1, 1) := by decide +kernel
theorem dX12_records_9 : decode cX12_records 9 = .ok (.imul, 1) := by decide +kernel
theorem dX12_records_10 : decode cX12_records 10 = .ok (.bipush 100, 2) := by decide +kernel
theorem dX12_records_12 : decode cX12_records 12 = .ok (.aload_n 0, 1) := by decide +kernel
theorem dX12_records_13 : decode cX12_records 13 = .ok (.getfield 306, 3) := by decide +kernel
theorem dX12_records_16 : decode cX12_records 16 = .ok (.imul, 1) := by decide +kernel
theorem dX12_records_17 : decode cX12_records 17 = .ok (.iadd, 1) := by decide +kernel
theorem dX12_records_18 : decode cX12_records 18 = .ok (.aload_n 0, 1) := by decide +kernel
theorem dX12_records_19 : decode cX12_records 19 = .ok (.getfield 321, 3) := by decide +kernel
theorem dX12_records_22 : decode cX12_records 22 = .ok (.ifCond .eq 8, 3) := by decide +kernel
theorem dX12_records_25 : decode cX12_records 25 = .ok (.bipush 10, 2) := by decide +kernel
theorem dX12_records_27 : decode cX12_records 27 = .ok (.goto 4, 3) := by decide +kernel
theorem dX12_records_30 : decode cX12_records 30 = .ok (.iconst 0, 1) := by decide +kernel
theorem dX12_records_31 : decode cX12_records 31 = .ok (.iadd, 1) := by decide +kernel
theorem dX12_records_32 : decode cX12_records 32 = .ok (.aload_n 0, 1) := by decide +kernel
theorem dX12_records_33 : decode cX12_records 33 = .ok (.iload_n 1, 1) := by decide +kernel
theorem dX12_records_34 : decode cX12_records 34 = .ok (.invokevirtual 343, 3) := by decide +kernel
theorem dX12_records_37 : decode cX12_records 37 = .ok (.iadd, 1) := by decide +kernel
theorem dX12_records_38 : decode cX12_records 38 = .ok (.iastore, 1) := by decide +kernel
theorem dX12_records_39 : decode cX12_records 39 = .ok (.aload_n 0, 1) := by decide +kernel
theorem dX12_records_40 : decode cX12_records 40 = .ok (.getfield 86, 3) := by decide +kernel
theorem dX12_records_43 : decode cX12_records 43 = .ok (.iload_n 2, 1) := by decide +kernel
theorem dX12_records_44 : decode cX12_records 44 = .ok (.iconst 0, 1) := by decide +kernel
theorem dX12_records_45 : decode cX12_records 45 = .ok (.iastore, 1) := by decide +kernel
theorem dX12_records_46 : decode cX12_records 46 = .ok (.aload_n 0, 1) := by decide +kernel
theorem dX12_records_47 : decode cX12_records 47 = .ok (.getfield 80, 3) := by decide +kernel
theorem dX12_records_50 : decode cX12_records 50 = .ok (.aload_n 0, 1) := by decide +kernel
theorem dX12_records_51 : decode cX12_records 51 = .ok (.getfield 346, 3) := by decide +kernel
theorem dX12_records_54 : decode cX12_records 54 = .ok (.dup2, 1) := by decide +kernel
theorem dX12_records_55 : decode cX12_records 55 = .ok (.iaload, 1) := by decide +kernel
theorem dX12_records_56 : decode cX12_records 56 = .ok (.iconst 1, 1) := by decide +kernel
theorem dX12_records_57 : decode cX12_records 57 = .ok (.iadd, 1) := by decide +kernel
theorem dX12_records_58 : decode cX12_records 58 = .ok (.iastore, 1) := by decide +kernel
theorem dX12_records_59 : decode cX12_records 59 = .ok (.return_, 1) := by decide +kernel
theorem dX12_does_0 : decode cX12_does 0 = .ok (.aload_n 0, 1) := by decide +kernel
theorem dX12_does_1 : decode cX12_does 1 = .ok (.getfield 68, 3) := by decide +kernel
theorem dX12_does_4 : decode cX12_does 4 = .ok (.aload_n 0, 1) := by decide +kernel
theorem dX12_does_5 : decode cX12_does 5 = .ok (.getfield 312, 3) := by decide +kernel
theorem dX12_does_8 : decode cX12_does 8 = .ok (.iaload, 1) := by decide +kernel
theorem dX12_does_9 : decode cX12_does 9 = .ok (.istore_n 3, 1) := by decide +kernel
theorem dX12_does_10 : decode cX12_does 10 = .ok (.aload_n 0, 1) := by decide +kernel
theorem dX12_does_11 : decode cX12_does 11 = .ok (.getfield 276, 3) := by decide +kernel
theorem dX12_does_14 : decode cX12_does 14 = .ok (.iconst 2, 1) := by decide +kernel
theorem dX12_does_15 : decode cX12_does 15 = .ok (.if_icmp .ne 11, 3) := by decide +kernel
theorem dX12_does_18 : decode cX12_does 18 = .ok (.aload_n 0, 1) := by decide +kernel
theorem dX12_does_19 : decode cX12_does 19 = .ok (.iload_n 1, 1) := by decide +kernel
theorem dX12_does_20 : decode cX12_does 20 = .ok (.invokevirtual 238, 3) := by decide +kernel
theorem dX12_does_23 : decode cX12_does 23 = .ok (.goto 20, 3) := by decide +kernel
theorem dX12_does_26 : decode cX12_does 26 = .ok (.aload_n 0, 1) := by decide +kernel
theorem dX12_does_27 : decode cX12_does 27 = .ok (.aload_n 0, 1) := by decide +kernel
theorem dX12_does_28 : decode cX12_does 28 = .ok (.getfield 68, 3) := by decide +kernel
theorem dX12_does_31 : decode cX12_does 31 = .ok (.aload_n 0, 1) := by decide +kernel
theorem dX12_does_32 : decode cX12_does 32 = .ok (.aload_n 0, 1) := by decide +kernel
theorem dX12_does_33 : decode cX12_does 33 = .ok (.getfield 312, 3) := by decide +kernel
theorem dX12_does_36 : decode cX12_does 36 = .ok (.invokevirtual 349, 3) := by decide +kernel
theorem dX12_does_39 : decode cX12_does 39 = .ok (.iaload, 1) := by decide +kernel
theorem dX12_does_40 : decode cX12_does 40 = .ok (.invokevirtual 238, 3) := by decide +kernel
theorem dX12_does_43 : decode cX12_does 43 = .ok (.istore 4, 2) := by decide +kernel
theorem dX12_does_45 : decode cX12_does 45 = .ok (.aload_n 0, 1) := by decide +kernel
theorem dX12_does_46 : decode cX12_does 46 = .ok (.iload_n 1, 1) := by decide +kernel
theorem dX12_does_47 : decode cX12_does 47 = .ok (.iload_n 3, 1) := by decide +kernel
theorem dX12_does_48 : decode cX12_does 48 = .ok (.invokevirtual 315, 3) := by decide +kernel
theorem dX12_does_51 : decode cX12_does 51 = .ok (.ifCond .eq 10, 3) := by decide +kernel
theorem dX12_does_54 : decode cX12_does 54 = .ok (.aload_n 0, 1) := by decide +kernel
theorem dX12_does_55 : decode cX12_does 55 = .ok (.getfield 321, 3) := by decide +kernel
theorem dX12_does_58 : decode cX12_does 58 = .ok (.ifCond .eq 7, 3) := by decide +kernel
theorem dX12_does_61 : decode cX12_does 61 = .ok (.iconst 1, 1) := by decide +kernel
theorem dX12_does_62 : decode cX12_does 62 = .ok (.goto 4, 3) := by decide +kernel
theorem dX12_does_65 : decode cX12_does 65 = .ok (.iconst 0, 1) := by decide +kernel
theorem dX12_does_66 : decode cX12_does 66 = .ok (.istore 5, 2) := by decide +kernel
theorem dX12_does_68 : decode cX12_does 68 = .ok (.aload_n 0, 1) := by decide +kernel
theorem dX12_does_69 : decode cX12_does 69 = .ok (.aload_n 0, 1) := by decide +kernel
theorem dX12_does_70 : decode cX12_does 70 = .ok (.getfield 273, 3) := by decide +kernel
theorem dX12_does_73 : decode cX12_does 73 = .ok (.ifCond .ne 16, 3) := by decide +kernel
theorem dX12_does_76 : decode cX12_does 76 = .ok (.aload_n 0, 1) := by decide +kernel
theorem dX12_does_77 : decode cX12_does 77 = .ok (.iload_n 1, 1) := by decide +kernel
theorem dX12_does_78 : decode cX12_does 78 = .ok (.invokevirtual 238, 3) := by decide +kernel
theorem dX12_does_81 : decode cX12_does 81 = .ok (.aload_n 0, 1) := by decide +kernel
theorem dX12_does_82 : decode cX12_does 82 = .ok (.iload_n 3, 1) := by decide +kernel
theorem dX12_does_83 : decode cX12_does 83 = .ok (.invokevirtual 238, 3) := by decide +kernel
theorem dX12_does_86 : decode cX12_does 86 = .ok (.if_icmp .eq 7, 3) := by decide +kernel
theorem dX12_does_89 : decode cX12_does 89 = .ok (.iconst 1, 1) := by decide +kernel
theorem dX12_does_90 : decode cX12_does 90 = .ok (.goto 4, 3) := by decide +kernel
theorem dX12_does_93 : decode cX12_does 93 = .ok (.iconst 0, 1) := by decide +kernel
theorem dX12_does_94 : decode cX12_does 94 = .ok (.putfield 273, 3) := by decide +kernel
theorem dX12_does_97 : decode cX12_does 97 = .ok (.aload_n 0, 1) := by decide +kernel
theorem dX12_does_98 : decode cX12_does 98 = .ok (.aload_n 0, 1) := by decide +kernel
theorem dX12_does_99 : decode cX12_does 99 = .ok (.getfield 352, 3) := by decide +kernel
theorem dX12_does_102 : decode cX12_does 102 = .ok (.ifCond .ne 8, 3) := by decide +kernel
theorem dX12_does_105 : decode cX12_does 105 = .ok (.iload 5, 2) := by decide +kernel
theorem dX12_does_107 : decode cX12_does 107 = .ok (.ifCond .eq 7, 3) := by decide +kernel
theorem dX12_does_110 : decode cX12_does 110 = .ok (.iconst 1, 1) := by decide +kernel
theorem dX12_does_111 : decode cX12_does 111 = .ok (.goto 4, 3) := by decide +kernel
theorem dX12_does_114 : decode cX12_does 114 = .ok (.iconst 0, 1) := by decide +kernel
theorem dX12_does_115 : decode cX12_does 115 = .ok (.putfield 352, 3) := by decide +kernel
theorem dX12_does_118 : decode cX12_does 118 = .ok (.aload_n 0, 1) := by decide +kernel
theorem dX12_does_119 : decode cX12_does 119 = .ok (.getfield 276, 3) := by decide +kernel
theorem dX12_does_122 : decode cX12_does 122 = .ok (.iconst 1, 1) := by decide +kernel
theorem dX12_does_123 : decode cX12_does 123 = .ok (.if_icmp .ne 35, 3) := by decide +kernel
theorem dX12_does_126 : decode cX12_does 126 = .ok (.iload 5, 2) := by decide +kernel
theorem dX12_does_128 : decode cX12_does 128 = .ok (.ifCond .eq 30, 3) := by decide +kernel
theorem dX12_does_131 : decode cX12_does 131 = .ok (.aload_n 0, 1) := by decide +kernel
theorem dX12_does_132 : decode cX12_does 132 = .ok (.getfield 306, 3) := by decide +kernel
theorem dX12_does_135 : decode cX12_does 135 = .ok (.iconst 2, 1) := by decide +kernel
theorem dX12_does_136 : decode cX12_does 136 = .ok (.if_icmp .eq 10, 3) := by decide +kernel
theorem dX12_does_139 : decode cX12_does 139 = .ok (.aload_n 0, 1) := by decide +kernel
theorem dX12_does_140 : decode cX12_does 140 = .ok (.getfield 327, 3) := by decide +kernel
theorem dX12_does_143 : decode cX12_does 143 = .ok (.ifCond .eq 15, 3) := by decide +kernel
theorem dX12_does_146 : decode cX12_does 146 = .ok (.aload_n 0, 1) := by decide +kernel
theorem dX12_does_147 : decode cX12_does 147 = .ok (.iload_n 1, 1) := by decide +kernel
theorem dX12_does_148 : decode cX12_does 148 = .ok (.iload 4, 2) := by decide +kernel
theorem dX12_does_150 : decode cX12_does 150 = .ok (.invokevirtual 355, 3) := by decide +kernel
theorem dX12_does_153 : decode cX12_does 153 = .ok (.ifCond .ne 5, 3) := by decide +kernel
theorem dX12_does_156 : decode cX12_does 156 = .ok (.iconst 5, 1) := by decide +kernel
theorem dX12_does_157 : decode cX12_does 157 = .ok (.ireturn, 1) := by decide +kernel
theorem dX12_does_158 : decode cX12_does 158 = .ok (.aload_n 0, 1) := by decide +kernel
theorem dX12_does_159 : decode cX12_does 159 = .ok (.getfield 318, 3) := by decide +kernel
theorem dX12_does_162 : decode cX12_does 162 = .ok (.ifCond .ne 15, 3) := by decide +kernel
theorem dX12_does_165 : decode cX12_does 165 = .ok (.aload_n 0, 1) := by decide +kernel
theorem dX12_does_166 : decode cX12_does 166 = .ok (.getfield 358, 3) := by decide +kernel
theorem dX12_does_169 : decode cX12_does 169 = .ok (.ifCond .eq 12, 3) := by decide +kernel
theorem dX12_does_172 : decode cX12_does 172 = .ok (.iload 5, 2) := by decide +kernel
theorem dX12_does_174 : decode cX12_does 174 = .ok (.ifCond .ne 7, 3) := by decide +kernel
theorem dX12_does_177 : decode cX12_does 177 = .ok (.iconst 1, 1) := by decide +kernel
theorem dX12_does_178 : decode cX12_does 178 = .ok (.goto 4, 3) := by decide +kernel
theorem dX12_does_181 : decode cX12_does 181 = .ok (.iconst 0, 1) := by decide +kernel
theorem dX12_does_182 : decode cX12_does 182 = .ok (.istore 6, 2) := by decide +kernel
theorem dX12_does_184 : decode cX12_does 184 = .ok (.aload_n 0, 1) := by decide +kernel
theorem dX12_does_185 : decode cX12_does 185 = .ok (.iload_n 1, 1) := by decide +kernel
theorem dX12_does_186 : decode cX12_does 186 = .ok (.iload 6, 2) := by decide +kernel
theorem dX12_does_188 : decode cX12_does 188 = .ok (.iload 4, 2) := by decide +kernel
theorem dX12_does_190 : decode cX12_does 190 = .ok (.invokevirtual 336, 3) := by decide +kernel
theorem dX12_does_193 : decode cX12_does 193 = .ok (.iload 6, 2) := by decide +kernel
theorem dX12_does_195 : decode cX12_does 195 = .ok (.ifCond .eq 18, 3) := by decide +kernel
theorem dX12_does_198 : decode cX12_does 198 = .ok (.aload_n 0, 1) := by decide +kernel
theorem dX12_does_199 : decode cX12_does 199 = .ok (.iload_n 1, 1) := by decide +kernel
theorem dX12_does_200 : decode cX12_does 200 = .ok (.iload 4, 2) := by decide +kernel
theorem dX12_does_202 : decode cX12_does 202 = .ok (.iload_n 2, 1) := by decide +kernel
theorem dX12_does_203 : decode cX12_does 203 = .ok (.invokevirtual 361, 3) := by decide +kernel
theorem dX12_does_206 : decode cX12_does 206 = .ok (.aload_n 0, 1) := by decide +kernel
theorem dX12_does_207 : decode cX12_does 207 = .ok (.iload_n 1, 1) := by decide +kernel
theorem dX12_does_208 : decode cX12_does 208 = .ok (.iload 4, 2) := by decide +kernel
theorem dX12_does_210 : decode cX12_does 210 = .ok (.invokevirtual 365, 3) := by decide +kernel
theorem dX12_does_213 : decode cX12_does 213 = .ok (.aload_n 0, 1) := by decide +kernel
theorem dX12_does_214 : decode cX12_does 214 = .ok (.getfield 276, 3) := by decide +kernel
theorem dX12_does_217 : decode cX12_does 217 = .ok (.iconst 1, 1) := by decide +kernel
theorem dX12_does_218 : decode cX12_does 218 = .ok (.if_icmp .ne 18, 3) := by decide +kernel
theorem dX12_does_221 : decode cX12_does 221 = .ok (.iload 5, 2) := by decide +kernel
theorem dX12_does_223 : decode cX12_does 223 = .ok (.ifCond .eq 13, 3) := by decide +kernel
theorem dX12_does_226 : decode cX12_does 226 = .ok (.aload_n 0, 1) := by decide +kernel
theorem dX12_does_227 : decode cX12_does 227 = .ok (.iload_n 1, 1) := by decide +kernel
theorem dX12_does_228 : decode cX12_does 228 = .ok (.invokevirtual 340, 3) := by decide +kernel
theorem dX12_does_231 : decode cX12_does 231 = .ok (.ifCond .ne 5, 3) := by decide +kernel
theorem dX12_does_234 : decode cX12_does 234 = .ok (.iconst 3, 1) := by decide +kernel
theorem dX12_does_235 : decode cX12_does 235 = .ok (.ireturn, 1) := by decide +kernel
theorem dX12_does_236 : decode cX12_does 236 = .ok (.aload_n 0, 1) := by decide +kernel
theorem dX12_does_237 : decode cX12_does 237 = .ok (.getfield 32, 3) := by decide +kernel
theorem dX12_does_240 : decode cX12_does 240 = .ok (.iload_n 1, 1) := by decide +kernel
theorem dX12_does_241 : decode cX12_does 241 = .ok (.iaload, 1) := by decide +kernel
theorem dX12_does_242 : decode cX12_does 242 = .ok (.iconst (-1), 1) := by decide +kernel
theorem dX12_does_243 : decode cX12_does 243 = .ok (.if_icmp .ne 23, 3) := by decide +kernel
theorem dX12_does_246 : decode cX12_does 246 = .ok (.aload_n 0, 1) := by decide +kernel
theorem dX12_does_247 : decode cX12_does 247 = .ok (.getfield 276, 3) := by decide +kernel
theorem dX12_does_250 : decode cX12_does 250 = .ok (.ifCond .ne 14, 3) := by decide +kernel
theorem dX12_does_253 : decode cX12_does 253 = .ok (.aload_n 0, 1) := by decide +kernel
theorem dX12_does_254 : decode cX12_does 254 = .ok (.getfield 352, 3) := by decide +kernel
theorem dX12_does_257 : decode cX12_does 257 = .ok (.ifCond .eq 7, 3) := by decide +kernel
theorem dX12_does_260 : decode cX12_does 260 = .ok (.iconst 1, 1) := by decide +kernel
theorem dX12_does_261 : decode cX12_does 261 = .ok (.goto 4, 3) := by decide +kernel
theorem dX12_does_264 : decode cX12_does 264 = .ok (.iconst 0, 1) := by decide +kernel
theorem dX12_does_265 : decode cX12_does 265 = .ok (.ireturn, 1) := by decide +kernel
theorem dX12_does_266 : decode cX12_does 266 = .ok (.iconst (-1), 1) := by decide +kernel
theorem dX12_does_267 : decode cX12_does 267 = .ok (.ireturn, 1) := by decide +kernel
theorem dX12_mixes_0 : decode cX12_mixes 0 = .ok (.aload_n 0, 1) := by decide +kernel
theorem dX12_mixes_1 : decode cX12_mixes 1 = .ok (.getfield 20, 3) := by decide +kernel
theorem dX12_mixes_4 : decode cX12_mixes 4 = .ok (.aload_n 0, 1) := by decide +kernel
theorem dX12_mixes_5 : decode cX12_mixes 5 = .ok (.getfield 68, 3) := by decide +kernel
theorem dX12_mixes_8 : decode cX12_mixes 8 = .ok (.aload_n 0, 1) := by decide +kernel
theorem dX12_mixes_9 : decode cX12_mixes 9 = .ok (.getfield 312, 3) := by decide +kernel
theorem dX12_mixes_12 : decode cX12_mixes 12 = .ok (.iaload, 1) := by decide +kernel
theorem dX12_mixes_13 : decode cX12_mixes 13 = .ok (.iaload, 1) := by decide +kernel
theorem dX12_mixes_14 : decode cX12_mixes 14 = .ok (.ifCond .eq 21, 3) := by decide +kernel
theorem dX12_mixes_17 : decode cX12_mixes 17 = .ok (.aload_n 0, 1) := by decide +kernel
theorem dX12_mixes_18 : decode cX12_mixes 18 = .ok (.getfield 20, 3) := by decide +kernel
theorem dX12_mixes_21 : decode cX12_mixes 21 = .ok (.iload_n 1, 1) := by decide +kernel
theorem dX12_mixes_22 : decode cX12_mixes 22 = .ok (.iaload, 1) := by decide +kernel
theorem dX12_mixes_23 : decode cX12_mixes 23 = .ok (.iconst 1, 1) := by decide +kernel
theorem dX12_mixes_24 : decode cX12_mixes 24 = .ok (.if_icmp .eq 11, 3) := by decide +kernel
theorem dX12_mixes_27 : decode cX12_mixes 27 = .ok (.aload_n 0, 1) := by decide +kernel
theorem dX12_mixes_28 : decode cX12_mixes 28 = .ok (.getfield 276, 3) := by decide +kernel
theorem dX12_mixes_31 : decode cX12_mixes 31 = .ok (.iconst 2, 1) := by decide +kernel
theorem dX12_mixes_32 : decode cX12_mixes 32 = .ok (.if_icmp .ne 5, 3) := by decide +kernel
theorem dX12_mixes_35 : decode cX12_mixes 35 = .ok (.iload_n 1, 1) := by decide +kernel
theorem dX12_mixes_36 : decode cX12_mixes 36 = .ok (.ireturn, 1) := by decide +kernel
theorem dX12_mixes_37 : decode cX12_mixes 37 = .ok (.aload_n 0, 1) := by decide +kernel
theorem dX12_mixes_38 : decode cX12_mixes 38 = .ok (.getfield 276, 3) := by decide +kernel
theorem dX12_mixes_41 : decode cX12_mixes 41 = .ok (.ifCond .ne 29, 3) := by decide +kernel
theorem dX12_mixes_44 : decode cX12_mixes 44 = .ok (.aload_n 0, 1) := by decide +kernel
theorem dX12_mixes_45 : decode cX12_mixes 45 = .ok (.iconst 1, 1) := by decide +kernel
theorem dX12_mixes_46 : decode cX12_mixes 46 = .ok (.aload_n 0, 1) := by decide +kernel
theorem dX12_mixes_47 : decode cX12_mixes 47 = .ok (.getfield 23, 3) := by decide +kernel
theorem dX12_mixes_50 : decode cX12_mixes 50 = .ok (.iload_n 1, 1) := by decide +kernel
theorem dX12_mixes_51 : decode cX12_mixes 51 = .ok (.iaload, 1) := by decide +kernel
theorem dX12_mixes_52 : decode cX12_mixes 52 = .ok (.aload_n 0, 1) := by decide +kernel
theorem dX12_mixes_53 : decode cX12_mixes 53 = .ok (.getfield 26, 3) := by decide +kernel
theorem dX12_mixes_56 : decode cX12_mixes 56 = .ok (.iload_n 1, 1) := by decide +kernel
theorem dX12_mixes_57 : decode cX12_mixes 57 = .ok (.iaload, 1) := by decide +kernel
theorem dX12_mixes_58 : decode cX12_mixes 58 = .ok (.aload_n 0, 1) := by decide +kernel
theorem dX12_mixes_59 : decode cX12_mixes 59 = .ok (.getfield 29, 3) := by decide +kernel
theorem dX12_mixes_62 : decode cX12_mixes 62 = .ok (.iload_n 1, 1) := by decide +kernel
theorem dX12_mixes_63 : decode cX12_mixes 63 = .ok (.iaload, 1) := by decide +kernel
theorem dX12_mixes_64 : decode cX12_mixes 64 = .ok (.invokevirtual 193, 3) := by decide +kernel
theorem dX12_mixes_67 : decode cX12_mixes 67 = .ok (.goto 4, 3) := by decide +kernel
theorem dX12_mixes_70 : decode cX12_mixes 70 = .ok (.iconst (-1), 1) := by decide +kernel
theorem dX12_mixes_71 : decode cX12_mixes 71 = .ok (.ireturn, 1) := by decide +kernel
theorem dX12_goesOn_0 : decode cX12_goesOn 0 = .ok (.iload_n 1, 1) := by decide +kernel
theorem dX12_goesOn_1 : decode cX12_goesOn 1 = .ok (.istore_n 2, 1) := by decide +kernel
theorem dX12_goesOn_2 : decode cX12_goesOn 2 = .ok (.iconst 0, 1) := by decide +kernel
theorem dX12_goesOn_3 : decode cX12_goesOn 3 = .ok (.istore_n 3, 1) := by decide +kernel
theorem dX12_goesOn_4 : decode cX12_goesOn 4 = .ok (.iload_n 3, 1) := by decide +kernel
theorem dX12_goesOn_5 : decode cX12_goesOn 5 = .ok (.bipush 6, 2) := by decide +kernel
theorem dX12_goesOn_7 : decode cX12_goesOn 7 = .ok (.if_icmp .ge 208, 3) := by decide +kernel
theorem dX12_goesOn_10 : decode cX12_goesOn 10 = .ok (.bipush 6, 2) := by decide +kernel
theorem dX12_goesOn_12 : decode cX12_goesOn 12 = .ok (.aload_n 0, 1) := by decide +kernel
theorem dX12_goesOn_13 : decode cX12_goesOn 13 = .ok (.getfield 346, 3) := by decide +kernel
theorem dX12_goesOn_16 : decode cX12_goesOn 16 = .ok (.imul, 1) := by decide +kernel
theorem dX12_goesOn_17 : decode cX12_goesOn 17 = .ok (.iload_n 3, 1) := by decide +kernel
theorem dX12_goesOn_18 : decode cX12_goesOn 18 = .ok (.iadd, 1) := by decide +kernel
theorem dX12_goesOn_19 : decode cX12_goesOn 19 = .ok (.istore 4, 2) := by decide +kernel
theorem dX12_goesOn_21 : decode cX12_goesOn 21 = .ok (.aload_n 0, 1) := by decide +kernel
theorem dX12_goesOn_22 : decode cX12_goesOn 22 = .ok (.iload_n 2, 1) := by decide +kernel
theorem dX12_goesOn_23 : decode cX12_goesOn 23 = .ok (.invokevirtual 369, 3) := by decide +kernel
theorem dX12_goesOn_26 : decode cX12_goesOn 26 = .ok (.istore 5, 2) := by decide +kernel
theorem dX12_goesOn_28 : decode cX12_goesOn 28 = .ok (.iload 5, 2) := by decide +kernel
theorem dX12_goesOn_30 : decode cX12_goesOn 30 = .ok (.iconst (-1), 1) := by decide +kernel
theorem dX12_goesOn_31 : decode cX12_goesOn 31 = .ok (.if_icmp .ne 7, 3) := by decide +kernel
theorem dX12_goesOn_34 : decode cX12_goesOn 34 = .ok (.iload_n 2, 1) := by decide +kernel
theorem dX12_goesOn_35 : decode cX12_goesOn 35 = .ok (.goto 5, 3) := by decide +kernel
theorem dX12_goesOn_38 : decode cX12_goesOn 38 = .ok (.iload 5, 2) := by decide +kernel
theorem dX12_goesOn_40 : decode cX12_goesOn 40 = .ok (.istore_n 2, 1) := by decide +kernel
theorem dX12_goesOn_41 : decode cX12_goesOn 41 = .ok (.aload_n 0, 1) := by decide +kernel
theorem dX12_goesOn_42 : decode cX12_goesOn 42 = .ok (.iload_n 2, 1) := by decide +kernel
theorem dX12_goesOn_43 : decode cX12_goesOn 43 = .ok (.iload 4, 2) := by decide +kernel
theorem dX12_goesOn_45 : decode cX12_goesOn 45 = .ok (.invokevirtual 372, 3) := by decide +kernel
theorem dX12_goesOn_48 : decode cX12_goesOn 48 = .ok (.iload 5, 2) := by decide +kernel
theorem dX12_goesOn_50 : decode cX12_goesOn 50 = .ok (.iconst (-1), 1) := by decide +kernel
theorem dX12_goesOn_51 : decode cX12_goesOn 51 = .ok (.if_icmp .ne 5, 3) := by decide +kernel
theorem dX12_goesOn_54 : decode cX12_goesOn 54 = .ok (.iconst 2, 1) := by decide +kernel
theorem dX12_goesOn_55 : decode cX12_goesOn 55 = .ok (.ireturn, 1) := by decide +kernel
