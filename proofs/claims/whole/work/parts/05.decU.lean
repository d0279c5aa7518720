theorem d_U_init_0 : decode b_U_init 0 = .ok (.aload_n 0, 1) := by decide +kernel
theorem d_U_init_1 : decode b_U_init 1 = .ok (.invokespecial 3, 3) := by decide +kernel
theorem d_U_init_4 : decode b_U_init 4 = .ok (.aload_n 0, 1) := by decide +kernel
theorem d_U_init_5 : decode b_U_init 5 = .ok (.bipush 12, 2) := by decide +kernel
theorem d_U_init_7 : decode b_U_init 7 = .ok (.newarray .int, 2) := by decide +kernel
theorem d_U_init_9 : decode b_U_init 9 = .ok (.putfield 9, 3) := by decide +kernel
theorem d_U_init_12 : decode b_U_init 12 = .ok (.aload_n 0, 1) := by decide +kernel
theorem d_U_init_13 : decode b_U_init 13 = .ok (.bipush 12, 2) := by decide +kernel
theorem d_U_init_15 : decode b_U_init 15 = .ok (.newarray .int, 2) := by decide +kernel
theorem d_U_init_17 : decode b_U_init 17 = .ok (.putfield 15, 3) := by decide +kernel
theorem d_U_init_20 : decode b_U_init 20 = .ok (.aload_n 0, 1) := by decide +kernel
theorem d_U_init_21 : decode b_U_init 21 = .ok (.bipush 12, 2) := by decide +kernel
theorem d_U_init_23 : decode b_U_init 23 = .ok (.newarray .int, 2) := by decide +kernel
theorem d_U_init_25 : decode b_U_init 25 = .ok (.putfield 18, 3) := by decide +kernel
theorem d_U_init_28 : decode b_U_init 28 = .ok (.aload_n 0, 1) := by decide +kernel
theorem d_U_init_29 : decode b_U_init 29 = .ok (.aload_n 1, 1) := by decide +kernel
theorem d_U_init_30 : decode b_U_init 30 = .ok (.putfield 21, 3) := by decide +kernel
theorem d_U_init_33 : decode b_U_init 33 = .ok (.aload_n 0, 1) := by decide +kernel
theorem d_U_init_34 : decode b_U_init 34 = .ok (.aload_n 2, 1) := by decide +kernel
theorem d_U_init_35 : decode b_U_init 35 = .ok (.putfield 25, 3) := by decide +kernel
theorem d_U_init_38 : decode b_U_init 38 = .ok (.return_, 1) := by decide +kernel
theorem d_U_collect_0 : decode b_U_collect 0 = .ok (.aload_n 0, 1) := by decide +kernel
theorem d_U_collect_1 : decode b_U_collect 1 = .ok (.getfield 21, 3) := by decide +kernel
theorem d_U_collect_4 : decode b_U_collect 4 = .ok (.getfield 29, 3) := by decide +kernel
theorem d_U_collect_7 : decode b_U_collect 7 = .ok (.iconst 0, 1) := by decide +kernel
theorem d_U_collect_8 : decode b_U_collect 8 = .ok (.aload_n 0, 1) := by decide +kernel
theorem d_U_collect_9 : decode b_U_collect 9 = .ok (.getfield 9, 3) := by decide +kernel
theorem d_U_collect_12 : decode b_U_collect 12 = .ok (.iconst 0, 1) := by decide +kernel
theorem d_U_collect_13 : decode b_U_collect 13 = .ok (.bipush 12, 2) := by decide +kernel
theorem d_U_collect_15 : decode b_U_collect 15 = .ok (.invokestatic 34, 3) := by decide +kernel
theorem d_U_collect_18 : decode b_U_collect 18 = .ok (.aload_n 0, 1) := by decide +kernel
theorem d_U_collect_19 : decode b_U_collect 19 = .ok (.iconst 0, 1) := by decide +kernel
theorem d_U_collect_20 : decode b_U_collect 20 = .ok (.putfield 40, 3) := by decide +kernel
theorem d_U_collect_23 : decode b_U_collect 23 = .ok (.aload_n 0, 1) := by decide +kernel
theorem d_U_collect_24 : decode b_U_collect 24 = .ok (.iconst 0, 1) := by decide +kernel
theorem d_U_collect_25 : decode b_U_collect 25 = .ok (.putfield 44, 3) := by decide +kernel
theorem d_U_collect_28 : decode b_U_collect 28 = .ok (.aload_n 0, 1) := by decide +kernel
theorem d_U_collect_29 : decode b_U_collect 29 = .ok (.iload_n 1, 1) := by decide +kernel
theorem d_U_collect_30 : decode b_U_collect 30 = .ok (.invokevirtual 47, 3) := by decide +kernel
theorem d_U_collect_33 : decode b_U_collect 33 = .ok (.istore_n 2, 1) := by decide +kernel
theorem d_U_collect_34 : decode b_U_collect 34 = .ok (.iconst 0, 1) := by decide +kernel
theorem d_U_collect_35 : decode b_U_collect 35 = .ok (.istore_n 3, 1) := by decide +kernel
theorem d_U_collect_36 : decode b_U_collect 36 = .ok (.iload_n 3, 1) := by decide +kernel
theorem d_U_collect_37 : decode b_U_collect 37 = .ok (.bipush 12, 2) := by decide +kernel
theorem d_U_collect_39 : decode b_U_collect 39 = .ok (.if_icmp .ge 62, 3) := by decide +kernel
theorem d_U_collect_42 : decode b_U_collect 42 = .ok (.iload_n 2, 1) := by decide +kernel
theorem d_U_collect_43 : decode b_U_collect 43 = .ok (.ifCond .le 58, 3) := by decide +kernel
theorem d_U_collect_46 : decode b_U_collect 46 = .ok (.iload_n 2, 1) := by decide +kernel
theorem d_U_collect_47 : decode b_U_collect 47 = .ok (.ldc 51, 2) := by decide +kernel
theorem d_U_collect_49 : decode b_U_collect 49 = .ok (.if_icmp .ge 52, 3) := by decide +kernel
theorem d_U_collect_52 : decode b_U_collect 52 = .ok (.aload_n 0, 1) := by decide +kernel
theorem d_U_collect_53 : decode b_U_collect 53 = .ok (.getfield 18, 3) := by decide +kernel
theorem d_U_collect_56 : decode b_U_collect 56 = .ok (.iload_n 3, 1) := by decide +kernel
theorem d_U_collect_57 : decode b_U_collect 57 = .ok (.aload_n 0, 1) := by decide +kernel
theorem d_U_collect_58 : decode b_U_collect 58 = .ok (.iload_n 1, 1) := by decide +kernel
theorem d_U_collect_59 : decode b_U_collect 59 = .ok (.invokevirtual 52, 3) := by decide +kernel
theorem d_U_collect_62 : decode b_U_collect 62 = .ok (.iastore, 1) := by decide +kernel
theorem d_U_collect_63 : decode b_U_collect 63 = .ok (.aload_n 0, 1) := by decide +kernel
theorem d_U_collect_64 : decode b_U_collect 64 = .ok (.iload_n 3, 1) := by decide +kernel
theorem d_U_collect_65 : decode b_U_collect 65 = .ok (.iconst 1, 1) := by decide +kernel
theorem d_U_collect_66 : decode b_U_collect 66 = .ok (.iadd, 1) := by decide +kernel
theorem d_U_collect_67 : decode b_U_collect 67 = .ok (.putfield 40, 3) := by decide +kernel
theorem d_U_collect_70 : decode b_U_collect 70 = .ok (.aload_n 0, 1) := by decide +kernel
theorem d_U_collect_71 : decode b_U_collect 71 = .ok (.dup, 1) := by decide +kernel
theorem d_U_collect_72 : decode b_U_collect 72 = .ok (.getfield 44, 3) := by decide +kernel
theorem d_U_collect_75 : decode b_U_collect 75 = .ok (.aload_n 0, 1) := by decide +kernel
theorem d_U_collect_76 : decode b_U_collect 76 = .ok (.aload_n 0, 1) := by decide +kernel
theorem d_U_collect_77 : decode b_U_collect 77 = .ok (.getfield 18, 3) := by decide +kernel
theorem d_U_collect_80 : decode b_U_collect 80 = .ok (.iload_n 3, 1) := by decide +kernel
theorem d_U_collect_81 : decode b_U_collect 81 = .ok (.iaload, 1) := by decide +kernel
theorem d_U_collect_82 : decode b_U_collect 82 = .ok (.invokevirtual 55, 3) := by decide +kernel
theorem d_U_collect_85 : decode b_U_collect 85 = .ok (.iadd, 1) := by decide +kernel
theorem d_U_collect_86 : decode b_U_collect 86 = .ok (.putfield 44, 3) := by decide +kernel
theorem d_U_collect_89 : decode b_U_collect 89 = .ok (.aload_n 0, 1) := by decide +kernel
theorem d_U_collect_90 : decode b_U_collect 90 = .ok (.iload_n 1, 1) := by decide +kernel
theorem d_U_collect_91 : decode b_U_collect 91 = .ok (.invokevirtual 47, 3) := by decide +kernel
theorem d_U_collect_94 : decode b_U_collect 94 = .ok (.istore_n 2, 1) := by decide +kernel
theorem d_U_collect_95 : decode b_U_collect 95 = .ok (.iinc 3 1, 3) := by decide +kernel
theorem d_U_collect_98 : decode b_U_collect 98 = .ok (.goto (-62), 3) := by decide +kernel
theorem d_U_collect_101 : decode b_U_collect 101 = .ok (.iload_n 2, 1) := by decide +kernel
theorem d_U_collect_102 : decode b_U_collect 102 = .ok (.ldc 51, 2) := by decide +kernel
theorem d_U_collect_104 : decode b_U_collect 104 = .ok (.if_icmp .lt 8, 3) := by decide +kernel
theorem d_U_collect_107 : decode b_U_collect 107 = .ok (.aload_n 0, 1) := by decide +kernel
theorem d_U_collect_108 : decode b_U_collect 108 = .ok (.iconst (-1), 1) := by decide +kernel
theorem d_U_collect_109 : decode b_U_collect 109 = .ok (.putfield 44, 3) := by decide +kernel
theorem d_U_collect_112 : decode b_U_collect 112 = .ok (.return_, 1) := by decide +kernel
theorem d_U_goalHeight_0 : decode b_U_goalHeight 0 = .ok (.aload_n 0, 1) := by decide +kernel
theorem d_U_goalHeight_1 : decode b_U_goalHeight 1 = .ok (.getfield 25, 3) := by decide +kernel
theorem d_U_goalHeight_4 : decode b_U_goalHeight 4 = .ok (.iload_n 1, 1) := by decide +kernel
theorem d_U_goalHeight_5 : decode b_U_goalHeight 5 = .ok (.aload_n 0, 1) := by decide +kernel
theorem d_U_goalHeight_6 : decode b_U_goalHeight 6 = .ok (.getfield 9, 3) := by decide +kernel
theorem d_U_goalHeight_9 : decode b_U_goalHeight 9 = .ok (.iconst 0, 1) := by decide +kernel
theorem d_U_goalHeight_10 : decode b_U_goalHeight 10 = .ok (.iconst 0, 1) := by decide +kernel
theorem d_U_goalHeight_11 : decode b_U_goalHeight 11 = .ok (.invokevirtual 58, 3) := by decide +kernel
theorem d_U_goalHeight_14 : decode b_U_goalHeight 14 = .ok (.aload_n 0, 1) := by decide +kernel
theorem d_U_goalHeight_15 : decode b_U_goalHeight 15 = .ok (.getfield 25, 3) := by decide +kernel
theorem d_U_goalHeight_18 : decode b_U_goalHeight 18 = .ok (.aload_n 0, 1) := by decide +kernel
theorem d_U_goalHeight_19 : decode b_U_goalHeight 19 = .ok (.getfield 21, 3) := by decide +kernel
theorem d_U_goalHeight_22 : decode b_U_goalHeight 22 = .ok (.getfield 64, 3) := by decide +kernel
theorem d_U_goalHeight_25 : decode b_U_goalHeight 25 = .ok (.iconst 0, 1) := by decide +kernel
theorem d_U_goalHeight_26 : decode b_U_goalHeight 26 = .ok (.invokevirtual 67, 3) := by decide +kernel
theorem d_U_goalHeight_29 : decode b_U_goalHeight 29 = .ok (.ireturn, 1) := by decide +kernel
theorem d_U_nextCut_0 : decode b_U_nextCut 0 = .ok (.iconst 0, 1) := by decide +kernel
theorem d_U_nextCut_1 : decode b_U_nextCut 1 = .ok (.istore_n 2, 1) := by decide +kernel
theorem d_U_nextCut_2 : decode b_U_nextCut 2 = .ok (.iload_n 2, 1) := by decide +kernel
theorem d_U_nextCut_3 : decode b_U_nextCut 3 = .ok (.aload_n 0, 1) := by decide +kernel
theorem d_U_nextCut_4 : decode b_U_nextCut 4 = .ok (.getfield 21, 3) := by decide +kernel
theorem d_U_nextCut_7 : decode b_U_nextCut 7 = .ok (.getfield 71, 3) := by decide +kernel
theorem d_U_nextCut_10 : decode b_U_nextCut 10 = .ok (.if_icmp .ge 33, 3) := by decide +kernel
theorem d_U_nextCut_13 : decode b_U_nextCut 13 = .ok (.aload_n 0, 1) := by decide +kernel
theorem d_U_nextCut_14 : decode b_U_nextCut 14 = .ok (.getfield 15, 3) := by decide +kernel
theorem d_U_nextCut_17 : decode b_U_nextCut 17 = .ok (.iload_n 2, 1) := by decide +kernel
theorem d_U_nextCut_18 : decode b_U_nextCut 18 = .ok (.aload_n 0, 1) := by decide +kernel
theorem d_U_nextCut_19 : decode b_U_nextCut 19 = .ok (.getfield 25, 3) := by decide +kernel
theorem d_U_nextCut_22 : decode b_U_nextCut 22 = .ok (.aload_n 0, 1) := by decide +kernel
theorem d_U_nextCut_23 : decode b_U_nextCut 23 = .ok (.getfield 21, 3) := by decide +kernel
theorem d_U_nextCut_26 : decode b_U_nextCut 26 = .ok (.getfield 74, 3) := by decide +kernel
theorem d_U_nextCut_29 : decode b_U_nextCut 29 = .ok (.iconst 0, 1) := by decide +kernel
theorem d_U_nextCut_30 : decode b_U_nextCut 30 = .ok (.aaload, 1) := by decide +kernel
theorem d_U_nextCut_31 : decode b_U_nextCut 31 = .ok (.iload_n 2, 1) := by decide +kernel
theorem d_U_nextCut_32 : decode b_U_nextCut 32 = .ok (.iaload, 1) := by decide +kernel
theorem d_U_nextCut_33 : decode b_U_nextCut 33 = .ok (.invokevirtual 78, 3) := by decide +kernel
theorem d_U_nextCut_36 : decode b_U_nextCut 36 = .ok (.iastore, 1) := by decide +kernel
theorem d_U_nextCut_37 : decode b_U_nextCut 37 = .ok (.iinc 2 1, 3) := by decide +kernel
theorem d_U_nextCut_40 : decode b_U_nextCut 40 = .ok (.goto (-38), 3) := by decide +kernel
theorem d_U_nextCut_43 : decode b_U_nextCut 43 = .ok (.aload_n 0, 1) := by decide +kernel
theorem d_U_nextCut_44 : decode b_U_nextCut 44 = .ok (.iconst 1, 1) := by decide +kernel
theorem d_U_nextCut_45 : decode b_U_nextCut 45 = .ok (.aload_n 0, 1) := by decide +kernel
theorem d_U_nextCut_46 : decode b_U_nextCut 46 = .ok (.getfield 25, 3) := by decide +kernel
theorem d_U_nextCut_49 : decode b_U_nextCut 49 = .ok (.aload_n 0, 1) := by decide +kernel
theorem d_U_nextCut_50 : decode b_U_nextCut 50 = .ok (.getfield 21, 3) := by decide +kernel
theorem d_U_nextCut_53 : decode b_U_nextCut 53 = .ok (.getfield 64, 3) := by decide +kernel
theorem d_U_nextCut_56 : decode b_U_nextCut 56 = .ok (.invokevirtual 78, 3) := by decide +kernel
theorem d_U_nextCut_59 : decode b_U_nextCut 59 = .ok (.ishl, 1) := by decide +kernel
theorem d_U_nextCut_60 : decode b_U_nextCut 60 = .ok (.invokevirtual 81, 3) := by decide +kernel
theorem d_U_nextCut_63 : decode b_U_nextCut 63 = .ok (.istore_n 2, 1) := by decide +kernel
theorem d_U_nextCut_64 : decode b_U_nextCut 64 = .ok (.aload_n 0, 1) := by decide +kernel
theorem d_U_nextCut_65 : decode b_U_nextCut 65 = .ok (.iload_n 1, 1) := by decide +kernel
theorem d_U_nextCut_66 : decode b_U_nextCut 66 = .ok (.sipush 1024, 3) := by decide +kernel
theorem d_U_nextCut_69 : decode b_U_nextCut 69 = .ok (.ior, 1) := by decide +kernel
theorem d_U_nextCut_70 : decode b_U_nextCut 70 = .ok (.iload_n 2, 1) := by decide +kernel
theorem d_U_nextCut_71 : decode b_U_nextCut 71 = .ok (.iconst (-1), 1) := by decide +kernel
theorem d_U_nextCut_72 : decode b_U_nextCut 72 = .ok (.ixor, 1) := by decide +kernel
theorem d_U_nextCut_73 : decode b_U_nextCut 73 = .ok (.iand, 1) := by decide +kernel
theorem d_U_nextCut_74 : decode b_U_nextCut 74 = .ok (.iload_n 2, 1) := by decide +kernel
theorem d_U_nextCut_75 : decode b_U_nextCut 75 = .ok (.invokevirtual 84, 3) := by decide +kernel
theorem d_U_nextCut_78 : decode b_U_nextCut 78 = .ok (.istore_n 3, 1) := by decide +kernel
theorem d_U_nextCut_79 : decode b_U_nextCut 79 = .ok (.iconst 0, 1) := by decide +kernel
theorem d_U_nextCut_80 : decode b_U_nextCut 80 = .ok (.istore 4, 2) := by decide +kernel
theorem d_U_nextCut_82 : decode b_U_nextCut 82 = .ok (.iconst 0, 1) := by decide +kernel
theorem d_U_nextCut_83 : decode b_U_nextCut 83 = .ok (.istore 5, 2) := by decide +kernel
theorem d_U_nextCut_85 : decode b_U_nextCut 85 = .ok (.iload 5, 2) := by decide +kernel
theorem d_U_nextCut_87 : decode b_U_nextCut 87 = .ok (.aload_n 0, 1) := by decide +kernel
theorem d_U_nextCut_88 : decode b_U_nextCut 88 = .ok (.getfield 21, 3) := by decide +kernel
theorem d_U_nextCut_91 : decode b_U_nextCut 91 = .ok (.getfield 71, 3) := by decide +kernel
theorem d_U_nextCut_94 : decode b_U_nextCut 94 = .ok (.if_icmp .ge 45, 3) := by decide +kernel
theorem d_U_nextCut_97 : decode b_U_nextCut 97 = .ok (.aload_n 0, 1) := by decide +kernel
theorem d_U_nextCut_98 : decode b_U_nextCut 98 = .ok (.iload_n 3, 1) := by decide +kernel
theorem d_U_nextCut_99 : decode b_U_nextCut 99 = .ok (.iload 5, 2) := by decide +kernel
theorem d_U_nextCut_101 : decode b_U_nextCut 101 = .ok (.invokevirtual 88, 3) := by decide +kernel
theorem d_U_nextCut_104 : decode b_U_nextCut 104 = .ok (.ifCond .eq 29, 3) := by decide +kernel
theorem d_U_nextCut_107 : decode b_U_nextCut 107 = .ok (.aload_n 0, 1) := by decide +kernel
theorem d_U_nextCut_108 : decode b_U_nextCut 108 = .ok (.getfield 21, 3) := by decide +kernel
theorem d_U_nextCut_111 : decode b_U_nextCut 111 = .ok (.getfield 74, 3) := by decide +kernel
theorem d_U_nextCut_114 : decode b_U_nextCut 114 = .ok (.iconst 1, 1) := by decide +kernel
theorem d_U_nextCut_115 : decode b_U_nextCut 115 = .ok (.aaload, 1) := by decide +kernel
theorem d_U_nextCut_116 : decode b_U_nextCut 116 = .ok (.iload 5, 2) := by decide +kernel
theorem d_U_nextCut_118 : decode b_U_nextCut 118 = .ok (.iaload, 1) := by decide +kernel
theorem d_U_nextCut_119 : decode b_U_nextCut 119 = .ok (.iload_n 2, 1) := by decide +kernel
theorem d_U_nextCut_120 : decode b_U_nextCut 120 = .ok (.iand, 1) := by decide +kernel
theorem d_U_nextCut_121 : decode b_U_nextCut 121 = .ok (.ifCond .eq 12, 3) := by decide +kernel
theorem d_U_nextCut_124 : decode b_U_nextCut 124 = .ok (.iload 4, 2) := by decide +kernel
theorem d_U_nextCut_126 : decode b_U_nextCut 126 = .ok (.iconst 1, 1) := by decide +kernel
theorem d_U_nextCut_127 : decode b_U_nextCut 127 = .ok (.iload 5, 2) := by decide +kernel
theorem d_U_nextCut_129 : decode b_U_nextCut 129 = .ok (.ishl, 1) := by decide +kernel
theorem d_U_nextCut_130 : decode b_U_nextCut 130 = .ok (.ior, 1) := by decide +kernel
theorem d_U_nextCut_131 : decode b_U_nextCut 131 = .ok (.istore 4, 2) := by decide +kernel
theorem d_U_nextCut_133 : decode b_U_nextCut 133 = .ok (.iinc 5 1, 3) := by decide +kernel
theorem d_U_nextCut_136 : decode b_U_nextCut 136 = .ok (.goto (-51), 3) := by decide +kernel
theorem d_U_nextCut_139 : decode b_U_nextCut 139 = .ok (.iload 4, 2) := by decide +kernel
theorem d_U_nextCut_141 : decode b_U_nextCut 141 = .ok (.ireturn, 1) := by decide +kernel
theorem d_U_zoneBefore_0 : decode b_U_zoneBefore 0 = .ok (.iload_n 1, 1) := by decide +kernel
theorem d_U_zoneBefore_1 : decode b_U_zoneBefore 1 = .ok (.istore_n 2, 1) := by decide +kernel
theorem d_U_zoneBefore_2 : decode b_U_zoneBefore 2 = .ok (.iconst 0, 1) := by decide +kernel
theorem d_U_zoneBefore_3 : decode b_U_zoneBefore 3 = .ok (.istore_n 3, 1) := by decide +kernel
theorem d_U_zoneBefore_4 : decode b_U_zoneBefore 4 = .ok (.iconst 0, 1) := by decide +kernel
theorem d_U_zoneBefore_5 : decode b_U_zoneBefore 5 = .ok (.istore 4, 2) := by decide +kernel
theorem d_U_zoneBefore_7 : decode b_U_zoneBefore 7 = .ok (.iload 4, 2) := by decide +kernel
theorem d_U_zoneBefore_9 : decode b_U_zoneBefore 9 = .ok (.bipush 10, 2) := by decide +kernel
theorem d_U_zoneBefore_11 : decode b_U_zoneBefore 11 = .ok (.if_icmp .gt 99, 3) := by decide +kernel
theorem d_U_zoneBefore_14 : decode b_U_zoneBefore 14 = .ok (.iload_n 2, 1) := by decide +kernel
theorem d_U_zoneBefore_15 : decode b_U_zoneBefore 15 = .ok (.iload_n 3, 1) := by decide +kernel
theorem d_U_zoneBefore_16 : decode b_U_zoneBefore 16 = .ok (.if_icmp .eq 94, 3) := by decide +kernel
theorem d_U_zoneBefore_19 : decode b_U_zoneBefore 19 = .ok (.iload_n 2, 1) := by decide +kernel
theorem d_U_zoneBefore_20 : decode b_U_zoneBefore 20 = .ok (.istore_n 3, 1) := by decide +kernel
theorem d_U_zoneBefore_21 : decode b_U_zoneBefore 21 = .ok (.iconst 0, 1) := by decide +kernel
theorem d_U_zoneBefore_22 : decode b_U_zoneBefore 22 = .ok (.istore 5, 2) := by decide +kernel
theorem d_U_zoneBefore_24 : decode b_U_zoneBefore 24 = .ok (.iload 5, 2) := by decide +kernel
theorem d_U_zoneBefore_26 : decode b_U_zoneBefore 26 = .ok (.aload_n 0, 1) := by decide +kernel
theorem d_U_zoneBefore_27 : decode b_U_zoneBefore 27 = .ok (.getfield 21, 3) := by decide +kernel
theorem d_U_zoneBefore_30 : decode b_U_zoneBefore 30 = .ok (.getfield 71, 3) := by decide +kernel
theorem d_U_zoneBefore_33 : decode b_U_zoneBefore 33 = .ok (.if_icmp .ge 71, 3) := by decide +kernel
theorem d_U_zoneBefore_36 : decode b_U_zoneBefore 36 = .ok (.aload_n 0, 1) := by decide +kernel
theorem d_U_zoneBefore_37 : decode b_U_zoneBefore 37 = .ok (.getfield 9, 3) := by decide +kernel
theorem d_U_zoneBefore_40 : decode b_U_zoneBefore 40 = .ok (.iload 5, 2) := by decide +kernel
theorem d_U_zoneBefore_42 : decode b_U_zoneBefore 42 = .ok (.iaload, 1) := by decide +kernel
theorem d_U_zoneBefore_43 : decode b_U_zoneBefore 43 = .ok (.ifCond .ne 18, 3) := by decide +kernel
theorem d_U_zoneBefore_46 : decode b_U_zoneBefore 46 = .ok (.aload_n 0, 1) := by decide +kernel
theorem d_U_zoneBefore_47 : decode b_U_zoneBefore 47 = .ok (.getfield 15, 3) := by decide +kernel
theorem d_U_zoneBefore_50 : decode b_U_zoneBefore 50 = .ok (.iload 5, 2) := by decide +kernel
theorem d_U_zoneBefore_52 : decode b_U_zoneBefore 52 = .ok (.iaload, 1) := by decide +kernel
theorem d_U_zoneBefore_53 : decode b_U_zoneBefore 53 = .ok (.iconst (-1), 1) := by decide +kernel
theorem d_U_zoneBefore_54 : decode b_U_zoneBefore 54 = .ok (.if_icmp .eq 7, 3) := by decide +kernel
theorem d_U_zoneBefore_57 : decode b_U_zoneBefore 57 = .ok (.iconst 1, 1) := by decide +kernel
theorem d_U_zoneBefore_58 : decode b_U_zoneBefore 58 = .ok (.goto 4, 3) := by decide +kernel
theorem d_U_zoneBefore_61 : decode b_U_zoneBefore 61 = .ok (.iconst 0, 1) := by decide +kernel
theorem d_U_zoneBefore_62 : decode b_U_zoneBefore 62 = .ok (.istore 6, 2) := by decide +kernel
theorem d_U_zoneBefore_64 : decode b_U_zoneBefore 64 = .ok (.iload 6, 2) := by decide +kernel
theorem d_U_zoneBefore_66 : decode b_U_zoneBefore 66 = .ok (.ifCond .eq 32, 3) := by decide +kernel
theorem d_U_zoneBefore_69 : decode b_U_zoneBefore 69 = .ok (.aload_n 0, 1) := by decide +kernel
theorem d_U_zoneBefore_70 : decode b_U_zoneBefore 70 = .ok (.getfield 21, 3) := by decide +kernel
theorem d_U_zoneBefore_73 : decode b_U_zoneBefore 73 = .ok (.getfield 74, 3) := by decide +kernel
theorem d_U_zoneBefore_76 : decode b_U_zoneBefore 76 = .ok (.iconst 1, 1) := by decide +kernel
theorem d_U_zoneBefore_77 : decode b_U_zoneBefore 77 = .ok (.aaload, 1) := by decide +kernel
theorem d_U_zoneBefore_78 : decode b_U_zoneBefore 78 = .ok (.iload 5, 2) := by decide +kernel
theorem d_U_zoneBefore_80 : decode b_U_zoneBefore 80 = .ok (.iaload, 1) := by decide +kernel
theorem d_U_zoneBefore_81 : decode b_U_zoneBefore 81 = .ok (.iload_n 2, 1) := by decide +kernel
theorem d_U_zoneBefore_82 : decode b_U_zoneBefore 82 = .ok (.iand, 1) := by decide +kernel
theorem d_U_zoneBefore_83 : decode b_U_zoneBefore 83 = .ok (.ifCond .eq 15, 3) := by decide +kernel
theorem d_U_zoneBefore_86 : decode b_U_zoneBefore 86 = .ok (.iload_n 2, 1) := by decide +kernel
theorem d_U_zoneBefore_87 : decode b_U_zoneBefore 87 = .ok (.iconst 1, 1) := by decide +kernel
theorem d_U_zoneBefore_88 : decode b_U_zoneBefore 88 = .ok (.aload_n 0, 1) := by decide +kernel
theorem d_U_zoneBefore_89 : decode b_U_zoneBefore 89 = .ok (.getfield 15, 3) := by decide +kernel
theorem d_U_zoneBefore_92 : decode b_U_zoneBefore 92 = .ok (.iload 5, 2) := by decide +kernel
theorem d_U_zoneBefore_94 : decode b_U_zoneBefore 94 = .ok (.iaload, 1) := by decide +kernel
theorem d_U_zoneBefore_95 : decode b_U_zoneBefore 95 = .ok (.ishl, 1) := by decide +kernel
theorem d_U_zoneBefore_96 : decode b_U_zoneBefore 96 = .ok (.ior, 1) := by decide +kernel
theorem d_U_zoneBefore_97 : decode b_U_zoneBefore 97 = .ok (.istore_n 2, 1) := by decide +kernel
theorem d_U_zoneBefore_98 : decode b_U_zoneBefore 98 = .ok (.iinc 5 1, 3) := by decide +kernel
theorem d_U_zoneBefore_101 : decode b_U_zoneBefore 101 = .ok (.goto (-77), 3) := by decide +kernel
theorem d_U_zoneBefore_104 : decode b_U_zoneBefore 104 = .ok (.iinc 4 1, 3) := by decide +kernel
theorem d_U_zoneBefore_107 : decode b_U_zoneBefore 107 = .ok (.goto (-100), 3) := by decide +kernel
theorem d_U_zoneBefore_110 : decode b_U_zoneBefore 110 = .ok (.iload_n 2, 1) := by decide +kernel
theorem d_U_zoneBefore_111 : decode b_U_zoneBefore 111 = .ok (.ireturn, 1) := by decide +kernel
theorem d_U_restBehind_0 : decode b_U_restBehind 0 = .ok (.iload_n 1, 1) := by decide +kernel
theorem d_U_restBehind_1 : decode b_U_restBehind 1 = .ok (.istore_n 3, 1) := by decide +kernel
theorem d_U_restBehind_2 : decode b_U_restBehind 2 = .ok (.iconst 0, 1) := by decide +kernel
theorem d_U_restBehind_3 : decode b_U_restBehind 3 = .ok (.istore 4, 2) := by decide +kernel
theorem d_U_restBehind_5 : decode b_U_restBehind 5 = .ok (.iconst 0, 1) := by decide +kernel
theorem d_U_restBehind_6 : decode b_U_restBehind 6 = .ok (.istore 5, 2) := by decide +kernel
theorem d_U_restBehind_8 : decode b_U_restBehind 8 = .ok (.iload 5, 2) := by decide +kernel
theorem d_U_restBehind_10 : decode b_U_restBehind 10 = .ok (.bipush 10, 2) := by decide +kernel
theorem d_U_restBehind_12 : decode b_U_restBehind 12 = .ok (.if_icmp .gt 68, 3) := by decide +kernel
theorem d_U_restBehind_15 : decode b_U_restBehind 15 = .ok (.iload_n 3, 1) := by decide +kernel
theorem d_U_restBehind_16 : decode b_U_restBehind 16 = .ok (.iload 4, 2) := by decide +kernel
theorem d_U_restBehind_18 : decode b_U_restBehind 18 = .ok (.if_icmp .eq 62, 3) := by decide +kernel
theorem d_U_restBehind_21 : decode b_U_restBehind 21 = .ok (.iload_n 3, 1) := by decide +kernel
theorem d_U_restBehind_22 : decode b_U_restBehind 22 = .ok (.istore 4, 2) := by decide +kernel
theorem d_U_restBehind_24 : decode b_U_restBehind 24 = .ok (.iconst 0, 1) := by decide +kernel
theorem d_U_restBehind_25 : decode b_U_restBehind 25 = .ok (.istore 6, 2) := by decide +kernel
theorem d_U_restBehind_27 : decode b_U_restBehind 27 = .ok (.iload 6, 2) := by decide +kernel
theorem d_U_restBehind_29 : decode b_U_restBehind 29 = .ok (.aload_n 0, 1) := by decide +kernel
theorem d_U_restBehind_30 : decode b_U_restBehind 30 = .ok (.getfield 21, 3) := by decide +kernel
theorem d_U_restBehind_33 : decode b_U_restBehind 33 = .ok (.getfield 71, 3) := by decide +kernel
theorem d_U_restBehind_36 : decode b_U_restBehind 36 = .ok (.if_icmp .ge 38, 3) := by decide +kernel
theorem d_U_restBehind_39 : decode b_U_restBehind 39 = .ok (.aload_n 0, 1) := by decide +kernel
theorem d_U_restBehind_40 : decode b_U_restBehind 40 = .ok (.iload_n 3, 1) := by decide +kernel
theorem d_U_restBehind_41 : decode b_U_restBehind 41 = .ok (.iload 6, 2) := by decide +kernel
theorem d_U_restBehind_43 : decode b_U_restBehind 43 = .ok (.invokevirtual 88, 3) := by decide +kernel
theorem d_U_restBehind_46 : decode b_U_restBehind 46 = .ok (.ifCond .eq 22, 3) := by decide +kernel
theorem d_U_restBehind_49 : decode b_U_restBehind 49 = .ok (.iload_n 3, 1) := by decide +kernel
theorem d_U_restBehind_50 : decode b_U_restBehind 50 = .ok (.aload_n 0, 1) := by decide +kernel
theorem d_U_restBehind_51 : decode b_U_restBehind 51 = .ok (.getfield 21, 3) := by decide +kernel
theorem d_U_restBehind_54 : decode b_U_restBehind 54 = .ok (.getfield 74, 3) := by decide +kernel
theorem d_U_restBehind_57 : decode b_U_restBehind 57 = .ok (.iconst 1, 1) := by decide +kernel
theorem d_U_restBehind_58 : decode b_U_restBehind 58 = .ok (.aaload, 1) := by decide +kernel
theorem d_U_restBehind_59 : decode b_U_restBehind 59 = .ok (.iload 6, 2) := by decide +kernel
theorem d_U_restBehind_61 : decode b_U_restBehind 61 = .ok (.iaload, 1) := by decide +kernel
theorem d_U_restBehind_62 : decode b_U_restBehind 62 = .ok (.iload_n 2, 1) := by decide +kernel
theorem d_U_restBehind_63 : decode b_U_restBehind 63 = .ok (.iconst (-1), 1) := by decide +kernel
theorem d_U_restBehind_64 : decode b_U_restBehind 64 = .ok (.ixor, 1) := by decide +kernel
theorem d_U_restBehind_65 : decode b_U_restBehind 65 = .ok (.iand, 1) := by decide +kernel
theorem d_U_restBehind_66 : decode b_U_restBehind 66 = .ok (.ior, 1) := by decide +kernel
theorem d_U_restBehind_67 : decode b_U_restBehind 67 = .ok (.istore_n 3, 1) := by decide +kernel
theorem d_U_restBehind_68 : decode b_U_restBehind 68 = .ok (.iinc 6 1, 3) := by decide +kernel
theorem d_U_restBehind_71 : decode b_U_restBehind 71 = .ok (.goto (-44), 3) := by decide +kernel
theorem d_U_restBehind_74 : decode b_U_restBehind 74 = .ok (.iinc 5 1, 3) := by decide +kernel
theorem d_U_restBehind_77 : decode b_U_restBehind 77 = .ok (.goto (-69), 3) := by decide +kernel
theorem d_U_restBehind_80 : decode b_U_restBehind 80 = .ok (.iload_n 3, 1) := by decide +kernel
theorem d_U_restBehind_81 : decode b_U_restBehind 81 = .ok (.ireturn, 1) := by decide +kernel
theorem d_U_isBasedIn_0 : decode b_U_isBasedIn 0 = .ok (.aload_n 0, 1) := by decide +kernel
theorem d_U_isBasedIn_1 : decode b_U_isBasedIn 1 = .ok (.getfield 15, 3) := by decide +kernel
theorem d_U_isBasedIn_4 : decode b_U_isBasedIn 4 = .ok (.iload_n 2, 1) := by decide +kernel
theorem d_U_isBasedIn_5 : decode b_U_isBasedIn 5 = .ok (.iaload, 1) := by decide +kernel
theorem d_U_isBasedIn_6 : decode b_U_isBasedIn 6 = .ok (.iconst (-1), 1) := by decide +kernel
theorem d_U_isBasedIn_7 : decode b_U_isBasedIn 7 = .ok (.if_icmp .eq 20, 3) := by decide +kernel
theorem d_U_isBasedIn_10 : decode b_U_isBasedIn 10 = .ok (.iload_n 1, 1) := by decide +kernel
theorem d_U_isBasedIn_11 : decode b_U_isBasedIn 11 = .ok (.aload_n 0, 1) := by decide +kernel
theorem d_U_isBasedIn_12 : decode b_U_isBasedIn 12 = .ok (.getfield 15, 3) := by decide +kernel
theorem d_U_isBasedIn_15 : decode b_U_isBasedIn 15 = .ok (.iload_n 2, 1) := by decide +kernel
theorem d_U_isBasedIn_16 : decode b_U_isBasedIn 16 = .ok (.iaload, 1) := by decide +kernel
theorem d_U_isBasedIn_17 : decode b_U_isBasedIn 17 = .ok (.invokestatic 92, 3) := by decide +kernel
theorem d_U_isBasedIn_20 : decode b_U_isBasedIn 20 = .ok (.ifCond .eq 7, 3) := by decide +kernel
theorem d_U_isBasedIn_23 : decode b_U_isBasedIn 23 = .ok (.iconst 1, 1) := by decide +kernel
theorem d_U_isBasedIn_24 : decode b_U_isBasedIn 24 = .ok (.goto 4, 3) := by decide +kernel
theorem d_U_isBasedIn_27 : decode b_U_isBasedIn 27 = .ok (.iconst 0, 1) := by decide +kernel
theorem d_U_isBasedIn_28 : decode b_U_isBasedIn 28 = .ok (.ireturn, 1) := by decide +kernel
theorem d_U_pay_0 : decode b_U_pay 0 = .ok (.bipush 9, 2) := by decide +kernel
theorem d_U_pay_2 : decode b_U_pay 2 = .ok (.istore_n 2, 1) := by decide +kernel
theorem d_U_pay_3 : decode b_U_pay 3 = .ok (.iconst 0, 1) := by decide +kernel
theorem d_U_pay_4 : decode b_U_pay 4 = .ok (.istore_n 3, 1) := by decide +kernel
theorem d_U_pay_5 : decode b_U_pay 5 = .ok (.iload_n 3, 1) := by decide +kernel
theorem d_U_pay_6 : decode b_U_pay 6 = .ok (.aload_n 0, 1) := by decide +kernel
theorem d_U_pay_7 : decode b_U_pay 7 = .ok (.getfield 21, 3) := by decide +kernel
theorem d_U_pay_10 : decode b_U_pay 10 = .ok (.getfield 71, 3) := by decide +kernel
theorem d_U_pay_13 : decode b_U_pay 13 = .ok (.if_icmp .ge 28, 3) := by decide +kernel
theorem d_U_pay_16 : decode b_U_pay 16 = .ok (.iload_n 1, 1) := by decide +kernel
theorem d_U_pay_17 : decode b_U_pay 17 = .ok (.iload_n 3, 1) := by decide +kernel
theorem d_U_pay_18 : decode b_U_pay 18 = .ok (.invokestatic 92, 3) := by decide +kernel
theorem d_U_pay_21 : decode b_U_pay 21 = .ok (.ifCond .eq 14, 3) := by decide +kernel
theorem d_U_pay_24 : decode b_U_pay 24 = .ok (.iload_n 2, 1) := by decide +kernel
theorem d_U_pay_25 : decode b_U_pay 25 = .ok (.aload_n 0, 1) := by decide +kernel
theorem d_U_pay_26 : decode b_U_pay 26 = .ok (.getfield 9, 3) := by decide +kernel
theorem d_U_pay_29 : decode b_U_pay 29 = .ok (.iload_n 3, 1) := by decide +kernel
theorem d_U_pay_30 : decode b_U_pay 30 = .ok (.iaload, 1) := by decide +kernel
theorem d_U_pay_31 : decode b_U_pay 31 = .ok (.invokestatic 95, 3) := by decide +kernel
theorem d_U_pay_34 : decode b_U_pay 34 = .ok (.istore_n 2, 1) := by decide +kernel
theorem d_U_pay_35 : decode b_U_pay 35 = .ok (.iinc 3 1, 3) := by decide +kernel
theorem d_U_pay_38 : decode b_U_pay 38 = .ok (.goto (-33), 3) := by decide +kernel
theorem d_U_pay_41 : decode b_U_pay 41 = .ok (.iconst 0, 1) := by decide +kernel
theorem d_U_pay_42 : decode b_U_pay 42 = .ok (.istore_n 3, 1) := by decide +kernel
theorem d_U_pay_43 : decode b_U_pay 43 = .ok (.iload_n 3, 1) := by decide +kernel
theorem d_U_pay_44 : decode b_U_pay 44 = .ok (.aload_n 0, 1) := by decide +kernel
theorem d_U_pay_45 : decode b_U_pay 45 = .ok (.getfield 21, 3) := by decide +kernel
theorem d_U_pay_48 : decode b_U_pay 48 = .ok (.getfield 71, 3) := by decide +kernel
theorem d_U_pay_51 : decode b_U_pay 51 = .ok (.if_icmp .ge 27, 3) := by decide +kernel
theorem d_U_pay_54 : decode b_U_pay 54 = .ok (.iload_n 1, 1) := by decide +kernel
theorem d_U_pay_55 : decode b_U_pay 55 = .ok (.iload_n 3, 1) := by decide +kernel
theorem d_U_pay_56 : decode b_U_pay 56 = .ok (.invokestatic 92, 3) := by decide +kernel
theorem d_U_pay_59 : decode b_U_pay 59 = .ok (.ifCond .eq 13, 3) := by decide +kernel
theorem d_U_pay_62 : decode b_U_pay 62 = .ok (.aload_n 0, 1) := by decide +kernel
theorem d_U_pay_63 : decode b_U_pay 63 = .ok (.getfield 9, 3) := by decide +kernel
theorem d_U_pay_66 : decode b_U_pay 66 = .ok (.iload_n 3, 1) := by decide +kernel
theorem d_U_pay_67 : decode b_U_pay 67 = .ok (.dup2, 1) := by decide +kernel
theorem d_U_pay_68 : decode b_U_pay 68 = .ok (.iaload, 1) := by decide +kernel
theorem d_U_pay_69 : decode b_U_pay 69 = .ok (.iload_n 2, 1) := by decide +kernel
theorem d_U_pay_70 : decode b_U_pay 70 = .ok (.isub, 1) := by decide +kernel
theorem d_U_pay_71 : decode b_U_pay 71 = .ok (.iastore, 1) := by decide +kernel
theorem d_U_pay_72 : decode b_U_pay 72 = .ok (.iinc 3 1, 3) := by decide +kernel
theorem d_U_pay_75 : decode b_U_pay 75 = .ok (.goto (-32), 3) := by decide +kernel
theorem d_U_pay_78 : decode b_U_pay 78 = .ok (.iload_n 2, 1) := by decide +kernel
theorem d_U_pay_79 : decode b_U_pay 79 = .ok (.ireturn, 1) := by decide +kernel
