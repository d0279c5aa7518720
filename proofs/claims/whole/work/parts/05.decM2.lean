theorem d_M_over_7 : decode b_M_over 7 = .ok (.aload_n 0, 1) := by decide +kernel
theorem d_M_over_8 : decode b_M_over 8 = .ok (.getfield 48, 3) := by decide +kernel
theorem d_M_over_11 : decode b_M_over 11 = .ok (.if_icmp .ge 58, 3) := by decide +kernel
theorem d_M_over_14 : decode b_M_over 14 = .ok (.iload_n 1, 1) := by decide +kernel
theorem d_M_over_15 : decode b_M_over 15 = .ok (.iload 4, 2) := by decide +kernel
theorem d_M_over_17 : decode b_M_over 17 = .ok (.ishr, 1) := by decide +kernel
theorem d_M_over_18 : decode b_M_over 18 = .ok (.iconst 1, 1) := by decide +kernel
theorem d_M_over_19 : decode b_M_over 19 = .ok (.iand, 1) := by decide +kernel
theorem d_M_over_20 : decode b_M_over 20 = .ok (.iconst 1, 1) := by decide +kernel
theorem d_M_over_21 : decode b_M_over 21 = .ok (.if_icmp .ne 42, 3) := by decide +kernel
theorem d_M_over_24 : decode b_M_over 24 = .ok (.iload_n 2, 1) := by decide +kernel
theorem d_M_over_25 : decode b_M_over 25 = .ok (.ifCond .eq 15, 3) := by decide +kernel
theorem d_M_over_28 : decode b_M_over 28 = .ok (.iload_n 3, 1) := by decide +kernel
theorem d_M_over_29 : decode b_M_over 29 = .ok (.aload_n 0, 1) := by decide +kernel
theorem d_M_over_30 : decode b_M_over 30 = .ok (.getfield 38, 3) := by decide +kernel
theorem d_M_over_33 : decode b_M_over 33 = .ok (.iload 4, 2) := by decide +kernel
theorem d_M_over_35 : decode b_M_over 35 = .ok (.iaload, 1) := by decide +kernel
theorem d_M_over_36 : decode b_M_over 36 = .ok (.iadd, 1) := by decide +kernel
theorem d_M_over_37 : decode b_M_over 37 = .ok (.goto 25, 3) := by decide +kernel
theorem d_M_over_40 : decode b_M_over 40 = .ok (.aload_n 0, 1) := by decide +kernel
theorem d_M_over_41 : decode b_M_over 41 = .ok (.getfield 38, 3) := by decide +kernel
theorem d_M_over_44 : decode b_M_over 44 = .ok (.iload 4, 2) := by decide +kernel
theorem d_M_over_46 : decode b_M_over 46 = .ok (.iaload, 1) := by decide +kernel
theorem d_M_over_47 : decode b_M_over 47 = .ok (.iload_n 3, 1) := by decide +kernel
theorem d_M_over_48 : decode b_M_over 48 = .ok (.if_icmp .le 13, 3) := by decide +kernel
theorem d_M_over_51 : decode b_M_over 51 = .ok (.aload_n 0, 1) := by decide +kernel
theorem d_M_over_52 : decode b_M_over 52 = .ok (.getfield 38, 3) := by decide +kernel
theorem d_M_over_55 : decode b_M_over 55 = .ok (.iload 4, 2) := by decide +kernel
theorem d_M_over_57 : decode b_M_over 57 = .ok (.iaload, 1) := by decide +kernel
theorem d_M_over_58 : decode b_M_over 58 = .ok (.goto 4, 3) := by decide +kernel
theorem d_M_over_61 : decode b_M_over 61 = .ok (.iload_n 3, 1) := by decide +kernel
theorem d_M_over_62 : decode b_M_over 62 = .ok (.istore_n 3, 1) := by decide +kernel
theorem d_M_over_63 : decode b_M_over 63 = .ok (.iinc 4 1, 3) := by decide +kernel
theorem d_M_over_66 : decode b_M_over 66 = .ok (.goto (-61), 3) := by decide +kernel
theorem d_M_over_69 : decode b_M_over 69 = .ok (.iload_n 3, 1) := by decide +kernel
theorem d_M_over_70 : decode b_M_over 70 = .ok (.ldc 87, 2) := by decide +kernel
theorem d_M_over_72 : decode b_M_over 72 = .ok (.if_icmp .le 8, 3) := by decide +kernel
theorem d_M_over_75 : decode b_M_over 75 = .ok (.ldc 87, 2) := by decide +kernel
theorem d_M_over_77 : decode b_M_over 77 = .ok (.goto 4, 3) := by decide +kernel
theorem d_M_over_80 : decode b_M_over 80 = .ok (.iload_n 3, 1) := by decide +kernel
theorem d_M_over_81 : decode b_M_over 81 = .ok (.ireturn, 1) := by decide +kernel
theorem d_M_findLevels_0 : decode b_M_findLevels 0 = .ok (.iconst 0, 1) := by decide +kernel
theorem d_M_findLevels_1 : decode b_M_findLevels 1 = .ok (.istore_n 3, 1) := by decide +kernel
theorem d_M_findLevels_2 : decode b_M_findLevels 2 = .ok (.iload_n 3, 1) := by decide +kernel
theorem d_M_findLevels_3 : decode b_M_findLevels 3 = .ok (.aload_n 0, 1) := by decide +kernel
theorem d_M_findLevels_4 : decode b_M_findLevels 4 = .ok (.getfield 48, 3) := by decide +kernel
theorem d_M_findLevels_7 : decode b_M_findLevels 7 = .ok (.if_icmp .ge 33, 3) := by decide +kernel
theorem d_M_findLevels_10 : decode b_M_findLevels 10 = .ok (.aload_n 0, 1) := by decide +kernel
theorem d_M_findLevels_11 : decode b_M_findLevels 11 = .ok (.getfield 38, 3) := by decide +kernel
theorem d_M_findLevels_14 : decode b_M_findLevels 14 = .ok (.iload_n 3, 1) := by decide +kernel
theorem d_M_findLevels_15 : decode b_M_findLevels 15 = .ok (.aload_n 0, 1) := by decide +kernel
theorem d_M_findLevels_16 : decode b_M_findLevels 16 = .ok (.getfield 60, 3) := by decide +kernel
theorem d_M_findLevels_19 : decode b_M_findLevels 19 = .ok (.iload_n 3, 1) := by decide +kernel
theorem d_M_findLevels_20 : decode b_M_findLevels 20 = .ok (.ishr, 1) := by decide +kernel
theorem d_M_findLevels_21 : decode b_M_findLevels 21 = .ok (.iconst 1, 1) := by decide +kernel
theorem d_M_findLevels_22 : decode b_M_findLevels 22 = .ok (.iand, 1) := by decide +kernel
theorem d_M_findLevels_23 : decode b_M_findLevels 23 = .ok (.iconst 1, 1) := by decide +kernel
theorem d_M_findLevels_24 : decode b_M_findLevels 24 = .ok (.if_icmp .ne 7, 3) := by decide +kernel
theorem d_M_findLevels_27 : decode b_M_findLevels 27 = .ok (.iconst 0, 1) := by decide +kernel
theorem d_M_findLevels_28 : decode b_M_findLevels 28 = .ok (.goto 5, 3) := by decide +kernel
theorem d_M_findLevels_31 : decode b_M_findLevels 31 = .ok (.ldc 87, 2) := by decide +kernel
theorem d_M_findLevels_33 : decode b_M_findLevels 33 = .ok (.iastore, 1) := by decide +kernel
theorem d_M_findLevels_34 : decode b_M_findLevels 34 = .ok (.iinc 3 1, 3) := by decide +kernel
theorem d_M_findLevels_37 : decode b_M_findLevels 37 = .ok (.goto (-35), 3) := by decide +kernel
theorem d_M_findLevels_40 : decode b_M_findLevels 40 = .ok (.iconst 1, 1) := by decide +kernel
theorem d_M_findLevels_41 : decode b_M_findLevels 41 = .ok (.istore_n 3, 1) := by decide +kernel
theorem d_M_findLevels_42 : decode b_M_findLevels 42 = .ok (.iload_n 3, 1) := by decide +kernel
theorem d_M_findLevels_43 : decode b_M_findLevels 43 = .ok (.ifCond .eq 122, 3) := by decide +kernel
theorem d_M_findLevels_46 : decode b_M_findLevels 46 = .ok (.iconst 0, 1) := by decide +kernel
theorem d_M_findLevels_47 : decode b_M_findLevels 47 = .ok (.istore_n 3, 1) := by decide +kernel
theorem d_M_findLevels_48 : decode b_M_findLevels 48 = .ok (.iconst 0, 1) := by decide +kernel
theorem d_M_findLevels_49 : decode b_M_findLevels 49 = .ok (.istore 4, 2) := by decide +kernel
theorem d_M_findLevels_51 : decode b_M_findLevels 51 = .ok (.iload 4, 2) := by decide +kernel
theorem d_M_findLevels_53 : decode b_M_findLevels 53 = .ok (.aload_n 0, 1) := by decide +kernel
theorem d_M_findLevels_54 : decode b_M_findLevels 54 = .ok (.getfield 51, 3) := by decide +kernel
theorem d_M_findLevels_57 : decode b_M_findLevels 57 = .ok (.if_icmp .ge 105, 3) := by decide +kernel
theorem d_M_findLevels_60 : decode b_M_findLevels 60 = .ok (.aload_n 0, 1) := by decide +kernel
theorem d_M_findLevels_61 : decode b_M_findLevels 61 = .ok (.getfield 16, 3) := by decide +kernel
theorem d_M_findLevels_64 : decode b_M_findLevels 64 = .ok (.iload 4, 2) := by decide +kernel
theorem d_M_findLevels_66 : decode b_M_findLevels 66 = .ok (.iaload, 1) := by decide +kernel
theorem d_M_findLevels_67 : decode b_M_findLevels 67 = .ok (.iload_n 2, 1) := by decide +kernel
theorem d_M_findLevels_68 : decode b_M_findLevels 68 = .ok (.iand, 1) := by decide +kernel
theorem d_M_findLevels_69 : decode b_M_findLevels 69 = .ok (.ifCond .eq 8, 3) := by decide +kernel
theorem d_M_findLevels_72 : decode b_M_findLevels 72 = .ok (.ldc 87, 2) := by decide +kernel
theorem d_M_findLevels_74 : decode b_M_findLevels 74 = .ok (.goto 23, 3) := by decide +kernel
theorem d_M_findLevels_77 : decode b_M_findLevels 77 = .ok (.aload_n 0, 1) := by decide +kernel
theorem d_M_findLevels_78 : decode b_M_findLevels 78 = .ok (.getfield 35, 3) := by decide +kernel
theorem d_M_findLevels_81 : decode b_M_findLevels 81 = .ok (.iload 4, 2) := by decide +kernel
theorem d_M_findLevels_83 : decode b_M_findLevels 83 = .ok (.iaload, 1) := by decide +kernel
theorem d_M_findLevels_84 : decode b_M_findLevels 84 = .ok (.aload_n 0, 1) := by decide +kernel
theorem d_M_findLevels_85 : decode b_M_findLevels 85 = .ok (.aload_n 0, 1) := by decide +kernel
theorem d_M_findLevels_86 : decode b_M_findLevels 86 = .ok (.getfield 13, 3) := by decide +kernel
theorem d_M_findLevels_89 : decode b_M_findLevels 89 = .ok (.iload 4, 2) := by decide +kernel
theorem d_M_findLevels_91 : decode b_M_findLevels 91 = .ok (.iaload, 1) := by decide +kernel
theorem d_M_findLevels_92 : decode b_M_findLevels 92 = .ok (.iload_n 1, 1) := by decide +kernel
theorem d_M_findLevels_93 : decode b_M_findLevels 93 = .ok (.invokevirtual 101, 3) := by decide +kernel
theorem d_M_findLevels_96 : decode b_M_findLevels 96 = .ok (.iadd, 1) := by decide +kernel
theorem d_M_findLevels_97 : decode b_M_findLevels 97 = .ok (.istore 5, 2) := by decide +kernel
theorem d_M_findLevels_99 : decode b_M_findLevels 99 = .ok (.iconst 0, 1) := by decide +kernel
theorem d_M_findLevels_100 : decode b_M_findLevels 100 = .ok (.istore 6, 2) := by decide +kernel
theorem d_M_findLevels_102 : decode b_M_findLevels 102 = .ok (.iload 6, 2) := by decide +kernel
theorem d_M_findLevels_104 : decode b_M_findLevels 104 = .ok (.aload_n 0, 1) := by decide +kernel
theorem d_M_findLevels_105 : decode b_M_findLevels 105 = .ok (.getfield 48, 3) := by decide +kernel
theorem d_M_findLevels_108 : decode b_M_findLevels 108 = .ok (.if_icmp .ge 48, 3) := by decide +kernel
theorem d_M_findLevels_111 : decode b_M_findLevels 111 = .ok (.aload_n 0, 1) := by decide +kernel
theorem d_M_findLevels_112 : decode b_M_findLevels 112 = .ok (.getfield 16, 3) := by decide +kernel
theorem d_M_findLevels_115 : decode b_M_findLevels 115 = .ok (.iload 4, 2) := by decide +kernel
theorem d_M_findLevels_117 : decode b_M_findLevels 117 = .ok (.iaload, 1) := by decide +kernel
theorem d_M_findLevels_118 : decode b_M_findLevels 118 = .ok (.iload 6, 2) := by decide +kernel
theorem d_M_findLevels_120 : decode b_M_findLevels 120 = .ok (.ishr, 1) := by decide +kernel
theorem d_M_findLevels_121 : decode b_M_findLevels 121 = .ok (.iconst 1, 1) := by decide +kernel
theorem d_M_findLevels_122 : decode b_M_findLevels 122 = .ok (.iand, 1) := by decide +kernel
theorem d_M_findLevels_123 : decode b_M_findLevels 123 = .ok (.iconst 1, 1) := by decide +kernel
theorem d_M_findLevels_124 : decode b_M_findLevels 124 = .ok (.if_icmp .ne 26, 3) := by decide +kernel
theorem d_M_findLevels_127 : decode b_M_findLevels 127 = .ok (.iload 5, 2) := by decide +kernel
theorem d_M_findLevels_129 : decode b_M_findLevels 129 = .ok (.aload_n 0, 1) := by decide +kernel
theorem d_M_findLevels_130 : decode b_M_findLevels 130 = .ok (.getfield 38, 3) := by decide +kernel
theorem d_M_findLevels_133 : decode b_M_findLevels 133 = .ok (.iload 6, 2) := by decide +kernel
theorem d_M_findLevels_135 : decode b_M_findLevels 135 = .ok (.iaload, 1) := by decide +kernel
theorem d_M_findLevels_136 : decode b_M_findLevels 136 = .ok (.if_icmp .ge 14, 3) := by decide +kernel
theorem d_M_findLevels_139 : decode b_M_findLevels 139 = .ok (.aload_n 0, 1) := by decide +kernel
theorem d_M_findLevels_140 : decode b_M_findLevels 140 = .ok (.getfield 38, 3) := by decide +kernel
theorem d_M_findLevels_143 : decode b_M_findLevels 143 = .ok (.iload 6, 2) := by decide +kernel
theorem d_M_findLevels_145 : decode b_M_findLevels 145 = .ok (.iload 5, 2) := by decide +kernel
theorem d_M_findLevels_147 : decode b_M_findLevels 147 = .ok (.iastore, 1) := by decide +kernel
theorem d_M_findLevels_148 : decode b_M_findLevels 148 = .ok (.iconst 1, 1) := by decide +kernel
theorem d_M_findLevels_149 : decode b_M_findLevels 149 = .ok (.istore_n 3, 1) := by decide +kernel
theorem d_M_findLevels_150 : decode b_M_findLevels 150 = .ok (.iinc 6 1, 3) := by decide +kernel
theorem d_M_findLevels_153 : decode b_M_findLevels 153 = .ok (.goto (-51), 3) := by decide +kernel
theorem d_M_findLevels_156 : decode b_M_findLevels 156 = .ok (.iinc 4 1, 3) := by decide +kernel
theorem d_M_findLevels_159 : decode b_M_findLevels 159 = .ok (.goto (-108), 3) := by decide +kernel
theorem d_M_findLevels_162 : decode b_M_findLevels 162 = .ok (.goto (-120), 3) := by decide +kernel
theorem d_M_findLevels_165 : decode b_M_findLevels 165 = .ok (.return_, 1) := by decide +kernel
theorem d_M_ownRates_0 : decode b_M_ownRates 0 = .ok (.iconst 0, 1) := by decide +kernel
theorem d_M_ownRates_1 : decode b_M_ownRates 1 = .ok (.istore_n 1, 1) := by decide +kernel
theorem d_M_ownRates_2 : decode b_M_ownRates 2 = .ok (.iload_n 1, 1) := by decide +kernel
theorem d_M_ownRates_3 : decode b_M_ownRates 3 = .ok (.aload_n 0, 1) := by decide +kernel
theorem d_M_ownRates_4 : decode b_M_ownRates 4 = .ok (.getfield 51, 3) := by decide +kernel
theorem d_M_ownRates_7 : decode b_M_ownRates 7 = .ok (.if_icmp .ge 21, 3) := by decide +kernel
theorem d_M_ownRates_10 : decode b_M_ownRates 10 = .ok (.aload_n 0, 1) := by decide +kernel
theorem d_M_ownRates_11 : decode b_M_ownRates 11 = .ok (.getfield 35, 3) := by decide +kernel
theorem d_M_ownRates_14 : decode b_M_ownRates 14 = .ok (.iload_n 1, 1) := by decide +kernel
theorem d_M_ownRates_15 : decode b_M_ownRates 15 = .ok (.aload_n 0, 1) := by decide +kernel
theorem d_M_ownRates_16 : decode b_M_ownRates 16 = .ok (.getfield 7, 3) := by decide +kernel
theorem d_M_ownRates_19 : decode b_M_ownRates 19 = .ok (.iload_n 1, 1) := by decide +kernel
theorem d_M_ownRates_20 : decode b_M_ownRates 20 = .ok (.iaload, 1) := by decide +kernel
theorem d_M_ownRates_21 : decode b_M_ownRates 21 = .ok (.iastore, 1) := by decide +kernel
theorem d_M_ownRates_22 : decode b_M_ownRates 22 = .ok (.iinc 1 1, 3) := by decide +kernel
theorem d_M_ownRates_25 : decode b_M_ownRates 25 = .ok (.goto (-23), 3) := by decide +kernel
theorem d_M_ownRates_28 : decode b_M_ownRates 28 = .ok (.return_, 1) := by decide +kernel
theorem d_M_told_0 : decode b_M_told 0 = .ok (.iload_n 0, 1) := by decide +kernel
theorem d_M_told_1 : decode b_M_told 1 = .ok (.ldc 87, 2) := by decide +kernel
theorem d_M_told_3 : decode b_M_told 3 = .ok (.if_icmp .lt 7, 3) := by decide +kernel
theorem d_M_told_6 : decode b_M_told 6 = .ok (.iconst (-1), 1) := by decide +kernel
theorem d_M_told_7 : decode b_M_told 7 = .ok (.goto 4, 3) := by decide +kernel
theorem d_M_told_10 : decode b_M_told 10 = .ok (.iload_n 0, 1) := by decide +kernel
theorem d_M_told_11 : decode b_M_told 11 = .ok (.ireturn, 1) := by decide +kernel
theorem d_M_level_0 : decode b_M_level 0 = .ok (.aload_n 0, 1) := by decide +kernel
theorem d_M_level_1 : decode b_M_level 1 = .ok (.aload_n 0, 1) := by decide +kernel
theorem d_M_level_2 : decode b_M_level 2 = .ok (.iload_n 1, 1) := by decide +kernel
theorem d_M_level_3 : decode b_M_level 3 = .ok (.invokevirtual 73, 3) := by decide +kernel
theorem d_M_level_6 : decode b_M_level 6 = .ok (.ifCond .eq 7, 3) := by decide +kernel
theorem d_M_level_9 : decode b_M_level 9 = .ok (.iconst 1, 1) := by decide +kernel
theorem d_M_level_10 : decode b_M_level 10 = .ok (.goto 4, 3) := by decide +kernel
theorem d_M_level_13 : decode b_M_level 13 = .ok (.iconst 0, 1) := by decide +kernel
theorem d_M_level_14 : decode b_M_level 14 = .ok (.putfield 44, 3) := by decide +kernel
theorem d_M_level_17 : decode b_M_level 17 = .ok (.aload_n 0, 1) := by decide +kernel
theorem d_M_level_18 : decode b_M_level 18 = .ok (.getfield 44, 3) := by decide +kernel
theorem d_M_level_21 : decode b_M_level 21 = .ok (.ifCond .le 5, 3) := by decide +kernel
theorem d_M_level_24 : decode b_M_level 24 = .ok (.iconst 0, 1) := by decide +kernel
theorem d_M_level_25 : decode b_M_level 25 = .ok (.ireturn, 1) := by decide +kernel
theorem d_M_level_26 : decode b_M_level 26 = .ok (.aload_n 0, 1) := by decide +kernel
theorem d_M_level_27 : decode b_M_level 27 = .ok (.invokevirtual 105, 3) := by decide +kernel
theorem d_M_level_30 : decode b_M_level 30 = .ok (.aload_n 0, 1) := by decide +kernel
theorem d_M_level_31 : decode b_M_level 31 = .ok (.iload_n 2, 1) := by decide +kernel
theorem d_M_level_32 : decode b_M_level 32 = .ok (.iconst 0, 1) := by decide +kernel
theorem d_M_level_33 : decode b_M_level 33 = .ok (.invokevirtual 108, 3) := by decide +kernel
theorem d_M_level_36 : decode b_M_level 36 = .ok (.aload_n 0, 1) := by decide +kernel
theorem d_M_level_37 : decode b_M_level 37 = .ok (.getfield 38, 3) := by decide +kernel
theorem d_M_level_40 : decode b_M_level 40 = .ok (.iload_n 1, 1) := by decide +kernel
theorem d_M_level_41 : decode b_M_level 41 = .ok (.iaload, 1) := by decide +kernel
theorem d_M_level_42 : decode b_M_level 42 = .ok (.invokestatic 112, 3) := by decide +kernel
theorem d_M_level_45 : decode b_M_level 45 = .ok (.ireturn, 1) := by decide +kernel
theorem d_M_bound_0 : decode b_M_bound 0 = .ok (.aload_n 0, 1) := by decide +kernel
theorem d_M_bound_1 : decode b_M_bound 1 = .ok (.iconst 0, 1) := by decide +kernel
theorem d_M_bound_2 : decode b_M_bound 2 = .ok (.putfield 44, 3) := by decide +kernel
theorem d_M_bound_5 : decode b_M_bound 5 = .ok (.aload_n 0, 1) := by decide +kernel
theorem d_M_bound_6 : decode b_M_bound 6 = .ok (.invokevirtual 105, 3) := by decide +kernel
theorem d_M_bound_9 : decode b_M_bound 9 = .ok (.aload_n 0, 1) := by decide +kernel
theorem d_M_bound_10 : decode b_M_bound 10 = .ok (.iload_n 1, 1) := by decide +kernel
theorem d_M_bound_11 : decode b_M_bound 11 = .ok (.iconst 0, 1) := by decide +kernel
theorem d_M_bound_12 : decode b_M_bound 12 = .ok (.invokevirtual 108, 3) := by decide +kernel
theorem d_M_bound_15 : decode b_M_bound 15 = .ok (.aload_n 0, 1) := by decide +kernel
theorem d_M_bound_16 : decode b_M_bound 16 = .ok (.aload_n 0, 1) := by decide +kernel
theorem d_M_bound_17 : decode b_M_bound 17 = .ok (.getfield 63, 3) := by decide +kernel
theorem d_M_bound_20 : decode b_M_bound 20 = .ok (.iload_n 1, 1) := by decide +kernel
theorem d_M_bound_21 : decode b_M_bound 21 = .ok (.invokevirtual 101, 3) := by decide +kernel
theorem d_M_bound_24 : decode b_M_bound 24 = .ok (.invokestatic 112, 3) := by decide +kernel
theorem d_M_bound_27 : decode b_M_bound 27 = .ok (.ireturn, 1) := by decide +kernel
theorem d_M_base_0 : decode b_M_base 0 = .ok (.aload_n 0, 1) := by decide +kernel
theorem d_M_base_1 : decode b_M_base 1 = .ok (.iload_n 1, 1) := by decide +kernel
theorem d_M_base_2 : decode b_M_base 2 = .ok (.iconst 0, 1) := by decide +kernel
theorem d_M_base_3 : decode b_M_base 3 = .ok (.invokevirtual 101, 3) := by decide +kernel
theorem d_M_base_6 : decode b_M_base 6 = .ok (.ldc 87, 2) := by decide +kernel
theorem d_M_base_8 : decode b_M_base 8 = .ok (.if_icmp .lt 5, 3) := by decide +kernel
theorem d_M_base_11 : decode b_M_base 11 = .ok (.iconst (-1), 1) := by decide +kernel
theorem d_M_base_12 : decode b_M_base 12 = .ok (.ireturn, 1) := by decide +kernel
theorem d_M_base_13 : decode b_M_base 13 = .ok (.bipush 10, 2) := by decide +kernel
theorem d_M_base_15 : decode b_M_base 15 = .ok (.istore_n 2, 1) := by decide +kernel
theorem d_M_base_16 : decode b_M_base 16 = .ok (.aload_n 0, 1) := by decide +kernel
theorem d_M_base_17 : decode b_M_base 17 = .ok (.getfield 48, 3) := by decide +kernel
theorem d_M_base_20 : decode b_M_base 20 = .ok (.iconst 1, 1) := by decide +kernel
theorem d_M_base_21 : decode b_M_base 21 = .ok (.isub, 1) := by decide +kernel
theorem d_M_base_22 : decode b_M_base 22 = .ok (.istore_n 3, 1) := by decide +kernel
theorem d_M_base_23 : decode b_M_base 23 = .ok (.iload_n 3, 1) := by decide +kernel
theorem d_M_base_24 : decode b_M_base 24 = .ok (.ifCond .lt 41, 3) := by decide +kernel
theorem d_M_base_27 : decode b_M_base 27 = .ok (.iload_n 1, 1) := by decide +kernel
theorem d_M_base_28 : decode b_M_base 28 = .ok (.iload_n 3, 1) := by decide +kernel
theorem d_M_base_29 : decode b_M_base 29 = .ok (.ishr, 1) := by decide +kernel
theorem d_M_base_30 : decode b_M_base 30 = .ok (.iconst 1, 1) := by decide +kernel
theorem d_M_base_31 : decode b_M_base 31 = .ok (.iand, 1) := by decide +kernel
theorem d_M_base_32 : decode b_M_base 32 = .ok (.iconst 1, 1) := by decide +kernel
theorem d_M_base_33 : decode b_M_base 33 = .ok (.if_icmp .ne 26, 3) := by decide +kernel
theorem d_M_base_36 : decode b_M_base 36 = .ok (.iload_n 2, 1) := by decide +kernel
theorem d_M_base_37 : decode b_M_base 37 = .ok (.bipush 10, 2) := by decide +kernel
theorem d_M_base_39 : decode b_M_base 39 = .ok (.if_icmp .eq 18, 3) := by decide +kernel
theorem d_M_base_42 : decode b_M_base 42 = .ok (.aload_n 0, 1) := by decide +kernel
theorem d_M_base_43 : decode b_M_base 43 = .ok (.getfield 38, 3) := by decide +kernel
theorem d_M_base_46 : decode b_M_base 46 = .ok (.iload_n 3, 1) := by decide +kernel
theorem d_M_base_47 : decode b_M_base 47 = .ok (.iaload, 1) := by decide +kernel
theorem d_M_base_48 : decode b_M_base 48 = .ok (.aload_n 0, 1) := by decide +kernel
theorem d_M_base_49 : decode b_M_base 49 = .ok (.getfield 38, 3) := by decide +kernel
theorem d_M_base_52 : decode b_M_base 52 = .ok (.iload_n 2, 1) := by decide +kernel
theorem d_M_base_53 : decode b_M_base 53 = .ok (.iaload, 1) := by decide +kernel
theorem d_M_base_54 : decode b_M_base 54 = .ok (.if_icmp .lt 5, 3) := by decide +kernel
theorem d_M_base_57 : decode b_M_base 57 = .ok (.iload_n 3, 1) := by decide +kernel
theorem d_M_base_58 : decode b_M_base 58 = .ok (.istore_n 2, 1) := by decide +kernel
theorem d_M_base_59 : decode b_M_base 59 = .ok (.iinc 3 (-1), 3) := by decide +kernel
theorem d_M_base_62 : decode b_M_base 62 = .ok (.goto (-39), 3) := by decide +kernel
theorem d_M_base_65 : decode b_M_base 65 = .ok (.iload_n 2, 1) := by decide +kernel
theorem d_M_base_66 : decode b_M_base 66 = .ok (.ireturn, 1) := by decide +kernel
theorem d_M_zone_0 : decode b_M_zone 0 = .ok (.iconst 1, 1) := by decide +kernel
theorem d_M_zone_1 : decode b_M_zone 1 = .ok (.aload_n 0, 1) := by decide +kernel
theorem d_M_zone_2 : decode b_M_zone 2 = .ok (.aload_n 0, 1) := by decide +kernel
theorem d_M_zone_3 : decode b_M_zone 3 = .ok (.getfield 63, 3) := by decide +kernel
theorem d_M_zone_6 : decode b_M_zone 6 = .ok (.invokevirtual 115, 3) := by decide +kernel
theorem d_M_zone_9 : decode b_M_zone 9 = .ok (.ishl, 1) := by decide +kernel
theorem d_M_zone_10 : decode b_M_zone 10 = .ok (.istore_n 1, 1) := by decide +kernel
theorem d_M_zone_11 : decode b_M_zone 11 = .ok (.iconst 1, 1) := by decide +kernel
theorem d_M_zone_12 : decode b_M_zone 12 = .ok (.istore_n 2, 1) := by decide +kernel
theorem d_M_zone_13 : decode b_M_zone 13 = .ok (.iload_n 2, 1) := by decide +kernel
theorem d_M_zone_14 : decode b_M_zone 14 = .ok (.ifCond .eq 79, 3) := by decide +kernel
theorem d_M_zone_17 : decode b_M_zone 17 = .ok (.iconst 0, 1) := by decide +kernel
theorem d_M_zone_18 : decode b_M_zone 18 = .ok (.istore_n 2, 1) := by decide +kernel
theorem d_M_zone_19 : decode b_M_zone 19 = .ok (.iconst 0, 1) := by decide +kernel
theorem d_M_zone_20 : decode b_M_zone 20 = .ok (.istore_n 3, 1) := by decide +kernel
theorem d_M_zone_21 : decode b_M_zone 21 = .ok (.iload_n 3, 1) := by decide +kernel
theorem d_M_zone_22 : decode b_M_zone 22 = .ok (.aload_n 0, 1) := by decide +kernel
theorem d_M_zone_23 : decode b_M_zone 23 = .ok (.getfield 51, 3) := by decide +kernel
theorem d_M_zone_26 : decode b_M_zone 26 = .ok (.if_icmp .ge 64, 3) := by decide +kernel
theorem d_M_zone_29 : decode b_M_zone 29 = .ok (.aload_n 0, 1) := by decide +kernel
theorem d_M_zone_30 : decode b_M_zone 30 = .ok (.aload_n 0, 1) := by decide +kernel
theorem d_M_zone_31 : decode b_M_zone 31 = .ok (.getfield 13, 3) := by decide +kernel
theorem d_M_zone_34 : decode b_M_zone 34 = .ok (.iload_n 3, 1) := by decide +kernel
theorem d_M_zone_35 : decode b_M_zone 35 = .ok (.iaload, 1) := by decide +kernel
theorem d_M_zone_36 : decode b_M_zone 36 = .ok (.invokevirtual 115, 3) := by decide +kernel
theorem d_M_zone_39 : decode b_M_zone 39 = .ok (.istore 4, 2) := by decide +kernel
theorem d_M_zone_41 : decode b_M_zone 41 = .ok (.iload 4, 2) := by decide +kernel
theorem d_M_zone_43 : decode b_M_zone 43 = .ok (.ifCond .lt 41, 3) := by decide +kernel
theorem d_M_zone_46 : decode b_M_zone 46 = .ok (.aload_n 0, 1) := by decide +kernel
theorem d_M_zone_47 : decode b_M_zone 47 = .ok (.getfield 35, 3) := by decide +kernel
theorem d_M_zone_50 : decode b_M_zone 50 = .ok (.iload_n 3, 1) := by decide +kernel
theorem d_M_zone_51 : decode b_M_zone 51 = .ok (.iaload, 1) := by decide +kernel
theorem d_M_zone_52 : decode b_M_zone 52 = .ok (.ifCond .ne 32, 3) := by decide +kernel
theorem d_M_zone_55 : decode b_M_zone 55 = .ok (.aload_n 0, 1) := by decide +kernel
theorem d_M_zone_56 : decode b_M_zone 56 = .ok (.getfield 16, 3) := by decide +kernel
theorem d_M_zone_59 : decode b_M_zone 59 = .ok (.iload_n 3, 1) := by decide +kernel
theorem d_M_zone_60 : decode b_M_zone 60 = .ok (.iaload, 1) := by decide +kernel
theorem d_M_zone_61 : decode b_M_zone 61 = .ok (.iload_n 1, 1) := by decide +kernel
theorem d_M_zone_62 : decode b_M_zone 62 = .ok (.iand, 1) := by decide +kernel
theorem d_M_zone_63 : decode b_M_zone 63 = .ok (.ifCond .eq 21, 3) := by decide +kernel
theorem d_M_zone_66 : decode b_M_zone 66 = .ok (.iload_n 1, 1) := by decide +kernel
theorem d_M_zone_67 : decode b_M_zone 67 = .ok (.iload 4, 2) := by decide +kernel
theorem d_M_zone_69 : decode b_M_zone 69 = .ok (.ishr, 1) := by decide +kernel
theorem d_M_zone_70 : decode b_M_zone 70 = .ok (.iconst 1, 1) := by decide +kernel
theorem d_M_zone_71 : decode b_M_zone 71 = .ok (.iand, 1) := by decide +kernel
theorem d_M_zone_72 : decode b_M_zone 72 = .ok (.ifCond .ne 12, 3) := by decide +kernel
theorem d_M_zone_75 : decode b_M_zone 75 = .ok (.iload_n 1, 1) := by decide +kernel
theorem d_M_zone_76 : decode b_M_zone 76 = .ok (.iconst 1, 1) := by decide +kernel
theorem d_M_zone_77 : decode b_M_zone 77 = .ok (.iload 4, 2) := by decide +kernel
theorem d_M_zone_79 : decode b_M_zone 79 = .ok (.ishl, 1) := by decide +kernel
theorem d_M_zone_80 : decode b_M_zone 80 = .ok (.ior, 1) := by decide +kernel
theorem d_M_zone_81 : decode b_M_zone 81 = .ok (.istore_n 1, 1) := by decide +kernel
theorem d_M_zone_82 : decode b_M_zone 82 = .ok (.iconst 1, 1) := by decide +kernel
theorem d_M_zone_83 : decode b_M_zone 83 = .ok (.istore_n 2, 1) := by decide +kernel
theorem d_M_zone_84 : decode b_M_zone 84 = .ok (.iinc 3 1, 3) := by decide +kernel
theorem d_M_zone_87 : decode b_M_zone 87 = .ok (.goto (-66), 3) := by decide +kernel
theorem d_M_zone_90 : decode b_M_zone 90 = .ok (.goto (-77), 3) := by decide +kernel
theorem d_M_zone_93 : decode b_M_zone 93 = .ok (.iload_n 1, 1) := by decide +kernel
theorem d_M_zone_94 : decode b_M_zone 94 = .ok (.ireturn, 1) := by decide +kernel
theorem d_M_rest_0 : decode b_M_rest 0 = .ok (.aload_n 0, 1) := by decide +kernel
theorem d_M_rest_1 : decode b_M_rest 1 = .ok (.getfield 60, 3) := by decide +kernel
theorem d_M_rest_4 : decode b_M_rest 4 = .ok (.sipush 1024, 3) := by decide +kernel
theorem d_M_rest_7 : decode b_M_rest 7 = .ok (.ior, 1) := by decide +kernel
theorem d_M_rest_8 : decode b_M_rest 8 = .ok (.iload_n 1, 1) := by decide +kernel
theorem d_M_rest_9 : decode b_M_rest 9 = .ok (.iconst (-1), 1) := by decide +kernel
theorem d_M_rest_10 : decode b_M_rest 10 = .ok (.ixor, 1) := by decide +kernel
theorem d_M_rest_11 : decode b_M_rest 11 = .ok (.iand, 1) := by decide +kernel
theorem d_M_rest_12 : decode b_M_rest 12 = .ok (.istore_n 2, 1) := by decide +kernel
theorem d_M_rest_13 : decode b_M_rest 13 = .ok (.iconst 1, 1) := by decide +kernel
theorem d_M_rest_14 : decode b_M_rest 14 = .ok (.istore_n 3, 1) := by decide +kernel
theorem d_M_rest_15 : decode b_M_rest 15 = .ok (.iload_n 3, 1) := by decide +kernel
theorem d_M_rest_16 : decode b_M_rest 16 = .ok (.ifCond .eq 88, 3) := by decide +kernel
theorem d_M_rest_19 : decode b_M_rest 19 = .ok (.iconst 0, 1) := by decide +kernel
theorem d_M_rest_20 : decode b_M_rest 20 = .ok (.istore_n 3, 1) := by decide +kernel
theorem d_M_rest_21 : decode b_M_rest 21 = .ok (.iconst 0, 1) := by decide +kernel
theorem d_M_rest_22 : decode b_M_rest 22 = .ok (.istore 4, 2) := by decide +kernel
theorem d_M_rest_24 : decode b_M_rest 24 = .ok (.iload 4, 2) := by decide +kernel
theorem d_M_rest_26 : decode b_M_rest 26 = .ok (.aload_n 0, 1) := by decide +kernel
theorem d_M_rest_27 : decode b_M_rest 27 = .ok (.getfield 51, 3) := by decide +kernel
theorem d_M_rest_30 : decode b_M_rest 30 = .ok (.if_icmp .ge 71, 3) := by decide +kernel
theorem d_M_rest_33 : decode b_M_rest 33 = .ok (.aload_n 0, 1) := by decide +kernel
theorem d_M_rest_34 : decode b_M_rest 34 = .ok (.aload_n 0, 1) := by decide +kernel
theorem d_M_rest_35 : decode b_M_rest 35 = .ok (.getfield 13, 3) := by decide +kernel
theorem d_M_rest_38 : decode b_M_rest 38 = .ok (.iload 4, 2) := by decide +kernel
theorem d_M_rest_40 : decode b_M_rest 40 = .ok (.iaload, 1) := by decide +kernel
theorem d_M_rest_41 : decode b_M_rest 41 = .ok (.invokevirtual 115, 3) := by decide +kernel
theorem d_M_rest_44 : decode b_M_rest 44 = .ok (.istore 5, 2) := by decide +kernel
theorem d_M_rest_46 : decode b_M_rest 46 = .ok (.iload 5, 2) := by decide +kernel
theorem d_M_rest_48 : decode b_M_rest 48 = .ok (.ifCond .lt 47, 3) := by decide +kernel
theorem d_M_rest_51 : decode b_M_rest 51 = .ok (.iload_n 2, 1) := by decide +kernel
theorem d_M_rest_52 : decode b_M_rest 52 = .ok (.iload 5, 2) := by decide +kernel
theorem d_M_rest_54 : decode b_M_rest 54 = .ok (.ishr, 1) := by decide +kernel
theorem d_M_rest_55 : decode b_M_rest 55 = .ok (.iconst 1, 1) := by decide +kernel
theorem d_M_rest_56 : decode b_M_rest 56 = .ok (.iand, 1) := by decide +kernel
theorem d_M_rest_57 : decode b_M_rest 57 = .ok (.iconst 1, 1) := by decide +kernel
theorem d_M_rest_58 : decode b_M_rest 58 = .ok (.if_icmp .ne 37, 3) := by decide +kernel
theorem d_M_rest_61 : decode b_M_rest 61 = .ok (.aload_n 0, 1) := by decide +kernel
theorem d_M_rest_62 : decode b_M_rest 62 = .ok (.getfield 16, 3) := by decide +kernel
theorem d_M_rest_65 : decode b_M_rest 65 = .ok (.iload 4, 2) := by decide +kernel
theorem d_M_rest_67 : decode b_M_rest 67 = .ok (.iaload, 1) := by decide +kernel
theorem d_M_rest_68 : decode b_M_rest 68 = .ok (.iload_n 1, 1) := by decide +kernel
theorem d_M_rest_69 : decode b_M_rest 69 = .ok (.iconst (-1), 1) := by decide +kernel
theorem d_M_rest_70 : decode b_M_rest 70 = .ok (.ixor, 1) := by decide +kernel
theorem d_M_rest_71 : decode b_M_rest 71 = .ok (.iand, 1) := by decide +kernel
theorem d_M_rest_72 : decode b_M_rest 72 = .ok (.iload_n 2, 1) := by decide +kernel
theorem d_M_rest_73 : decode b_M_rest 73 = .ok (.iconst (-1), 1) := by decide +kernel
theorem d_M_rest_74 : decode b_M_rest 74 = .ok (.ixor, 1) := by decide +kernel
theorem d_M_rest_75 : decode b_M_rest 75 = .ok (.iand, 1) := by decide +kernel
theorem d_M_rest_76 : decode b_M_rest 76 = .ok (.ifCond .eq 19, 3) := by decide +kernel
theorem d_M_rest_79 : decode b_M_rest 79 = .ok (.iload_n 2, 1) := by decide +kernel
theorem d_M_rest_80 : decode b_M_rest 80 = .ok (.aload_n 0, 1) := by decide +kernel
theorem d_M_rest_81 : decode b_M_rest 81 = .ok (.getfield 16, 3) := by decide +kernel
theorem d_M_rest_84 : decode b_M_rest 84 = .ok (.iload 4, 2) := by decide +kernel
theorem d_M_rest_86 : decode b_M_rest 86 = .ok (.iaload, 1) := by decide +kernel
theorem d_M_rest_87 : decode b_M_rest 87 = .ok (.iload_n 1, 1) := by decide +kernel
theorem d_M_rest_88 : decode b_M_rest 88 = .ok (.iconst (-1), 1) := by decide +kernel
theorem d_M_rest_89 : decode b_M_rest 89 = .ok (.ixor, 1) := by decide +kernel
theorem d_M_rest_90 : decode b_M_rest 90 = .ok (.iand, 1) := by decide +kernel
theorem d_M_rest_91 : decode b_M_rest 91 = .ok (.ior, 1) := by decide +kernel
theorem d_M_rest_92 : decode b_M_rest 92 = .ok (.istore_n 2, 1) := by decide +kernel
theorem d_M_rest_93 : decode b_M_rest 93 = .ok (.iconst 1, 1) := by decide +kernel
theorem d_M_rest_94 : decode b_M_rest 94 = .ok (.istore_n 3, 1) := by decide +kernel
theorem d_M_rest_95 : decode b_M_rest 95 = .ok (.iinc 4 1, 3) := by decide +kernel
theorem d_M_rest_98 : decode b_M_rest 98 = .ok (.goto (-74), 3) := by decide +kernel
theorem d_M_rest_101 : decode b_M_rest 101 = .ok (.goto (-86), 3) := by decide +kernel
theorem d_M_rest_104 : decode b_M_rest 104 = .ok (.iload_n 2, 1) := by decide +kernel
theorem d_M_rest_105 : decode b_M_rest 105 = .ok (.ireturn, 1) := by decide +kernel
theorem d_M_actionsAcross_0 : decode b_M_actionsAcross 0 = .ok (.iconst 0, 1) := by decide +kernel
theorem d_M_actionsAcross_1 : decode b_M_actionsAcross 1 = .ok (.istore_n 3, 1) := by decide +kernel
theorem d_M_actionsAcross_2 : decode b_M_actionsAcross 2 = .ok (.iconst 0, 1) := by decide +kernel
theorem d_M_actionsAcross_3 : decode b_M_actionsAcross 3 = .ok (.istore 4, 2) := by decide +kernel
theorem d_M_actionsAcross_5 : decode b_M_actionsAcross 5 = .ok (.iload 4, 2) := by decide +kernel
theorem d_M_actionsAcross_7 : decode b_M_actionsAcross 7 = .ok (.aload_n 0, 1) := by decide +kernel
theorem d_M_actionsAcross_8 : decode b_M_actionsAcross 8 = .ok (.getfield 51, 3) := by decide +kernel
theorem d_M_actionsAcross_11 : decode b_M_actionsAcross 11 = .ok (.if_icmp .ge 60, 3) := by decide +kernel
theorem d_M_actionsAcross_14 : decode b_M_actionsAcross 14 = .ok (.aload_n 0, 1) := by decide +kernel
theorem d_M_actionsAcross_15 : decode b_M_actionsAcross 15 = .ok (.aload_n 0, 1) := by decide +kernel
theorem d_M_actionsAcross_16 : decode b_M_actionsAcross 16 = .ok (.getfield 13, 3) := by decide +kernel
theorem d_M_actionsAcross_19 : decode b_M_actionsAcross 19 = .ok (.iload 4, 2) := by decide +kernel
theorem d_M_actionsAcross_21 : decode b_M_actionsAcross 21 = .ok (.iaload, 1) := by decide +kernel
theorem d_M_actionsAcross_22 : decode b_M_actionsAcross 22 = .ok (.invokevirtual 115, 3) := by decide +kernel
theorem d_M_actionsAcross_25 : decode b_M_actionsAcross 25 = .ok (.istore 5, 2) := by decide +kernel
theorem d_M_actionsAcross_27 : decode b_M_actionsAcross 27 = .ok (.iload 5, 2) := by decide +kernel
theorem d_M_actionsAcross_29 : decode b_M_actionsAcross 29 = .ok (.ifCond .lt 34, 3) := by decide +kernel
theorem d_M_actionsAcross_32 : decode b_M_actionsAcross 32 = .ok (.iload_n 1, 1) := by decide +kernel
theorem d_M_actionsAcross_33 : decode b_M_actionsAcross 33 = .ok (.iload 5, 2) := by decide +kernel
theorem d_M_actionsAcross_35 : decode b_M_actionsAcross 35 = .ok (.ishr, 1) := by decide +kernel
theorem d_M_actionsAcross_36 : decode b_M_actionsAcross 36 = .ok (.iconst 1, 1) := by decide +kernel
theorem d_M_actionsAcross_37 : decode b_M_actionsAcross 37 = .ok (.iand, 1) := by decide +kernel
theorem d_M_actionsAcross_38 : decode b_M_actionsAcross 38 = .ok (.iconst 1, 1) := by decide +kernel
theorem d_M_actionsAcross_39 : decode b_M_actionsAcross 39 = .ok (.if_icmp .ne 24, 3) := by decide +kernel
theorem d_M_actionsAcross_42 : decode b_M_actionsAcross 42 = .ok (.aload_n 0, 1) := by decide +kernel
theorem d_M_actionsAcross_43 : decode b_M_actionsAcross 43 = .ok (.getfield 16, 3) := by decide +kernel
theorem d_M_actionsAcross_46 : decode b_M_actionsAcross 46 = .ok (.iload 4, 2) := by decide +kernel
theorem d_M_actionsAcross_48 : decode b_M_actionsAcross 48 = .ok (.iaload, 1) := by decide +kernel
theorem d_M_actionsAcross_49 : decode b_M_actionsAcross 49 = .ok (.iload_n 2, 1) := by decide +kernel
theorem d_M_actionsAcross_50 : decode b_M_actionsAcross 50 = .ok (.iand, 1) := by decide +kernel
theorem d_M_actionsAcross_51 : decode b_M_actionsAcross 51 = .ok (.ifCond .eq 12, 3) := by decide +kernel
theorem d_M_actionsAcross_54 : decode b_M_actionsAcross 54 = .ok (.iload_n 3, 1) := by decide +kernel
theorem d_M_actionsAcross_55 : decode b_M_actionsAcross 55 = .ok (.iconst 1, 1) := by decide +kernel
theorem d_M_actionsAcross_56 : decode b_M_actionsAcross 56 = .ok (.iload 4, 2) := by decide +kernel
theorem d_M_actionsAcross_58 : decode b_M_actionsAcross 58 = .ok (.ishl, 1) := by decide +kernel
theorem d_M_actionsAcross_59 : decode b_M_actionsAcross 59 = .ok (.ior, 1) := by decide +kernel
theorem d_M_actionsAcross_60 : decode b_M_actionsAcross 60 = .ok (.goto 4, 3) := by decide +kernel
theorem d_M_actionsAcross_63 : decode b_M_actionsAcross 63 = .ok (.iload_n 3, 1) := by decide +kernel
theorem d_M_actionsAcross_64 : decode b_M_actionsAcross 64 = .ok (.istore_n 3, 1) := by decide +kernel
theorem d_M_actionsAcross_65 : decode b_M_actionsAcross 65 = .ok (.iinc 4 1, 3) := by decide +kernel
theorem d_M_actionsAcross_68 : decode b_M_actionsAcross 68 = .ok (.goto (-63), 3) := by decide +kernel
theorem d_M_actionsAcross_71 : decode b_M_actionsAcross 71 = .ok (.iload_n 3, 1) := by decide +kernel
theorem d_M_actionsAcross_72 : decode b_M_actionsAcross 72 = .ok (.ireturn, 1) := by decide +kernel
theorem d_M_least_0 : decode b_M_least 0 = .ok (.ldc 87, 2) := by decide +kernel
theorem d_M_least_2 : decode b_M_least 2 = .ok (.istore_n 2, 1) := by decide +kernel
theorem d_M_least_3 : decode b_M_least 3 = .ok (.iconst 0, 1) := by decide +kernel
theorem d_M_least_4 : decode b_M_least 4 = .ok (.istore_n 3, 1) := by decide +kernel
theorem d_M_least_5 : decode b_M_least 5 = .ok (.iload_n 3, 1) := by decide +kernel
theorem d_M_least_6 : decode b_M_least 6 = .ok (.aload_n 0, 1) := by decide +kernel
theorem d_M_least_7 : decode b_M_least 7 = .ok (.getfield 51, 3) := by decide +kernel
theorem d_M_least_10 : decode b_M_least 10 = .ok (.if_icmp .ge 39, 3) := by decide +kernel
theorem d_M_least_13 : decode b_M_least 13 = .ok (.iload_n 1, 1) := by decide +kernel
theorem d_M_least_14 : decode b_M_least 14 = .ok (.iload_n 3, 1) := by decide +kernel
theorem d_M_least_15 : decode b_M_least 15 = .ok (.ishr, 1) := by decide +kernel
theorem d_M_least_16 : decode b_M_least 16 = .ok (.iconst 1, 1) := by decide +kernel
theorem d_M_least_17 : decode b_M_least 17 = .ok (.iand, 1) := by decide +kernel
theorem d_M_least_18 : decode b_M_least 18 = .ok (.iconst 1, 1) := by decide +kernel
theorem d_M_least_19 : decode b_M_least 19 = .ok (.if_icmp .ne 22, 3) := by decide +kernel
theorem d_M_least_22 : decode b_M_least 22 = .ok (.aload_n 0, 1) := by decide +kernel
theorem d_M_least_23 : decode b_M_least 23 = .ok (.getfield 35, 3) := by decide +kernel
theorem d_M_least_26 : decode b_M_least 26 = .ok (.iload_n 3, 1) := by decide +kernel
theorem d_M_least_27 : decode b_M_least 27 = .ok (.iaload, 1) := by decide +kernel
theorem d_M_least_28 : decode b_M_least 28 = .ok (.iload_n 2, 1) := by decide +kernel
theorem d_M_least_29 : decode b_M_least 29 = .ok (.if_icmp .ge 12, 3) := by decide +kernel
theorem d_M_least_32 : decode b_M_least 32 = .ok (.aload_n 0, 1) := by decide +kernel
theorem d_M_least_33 : decode b_M_least 33 = .ok (.getfield 35, 3) := by decide +kernel
theorem d_M_least_36 : decode b_M_least 36 = .ok (.iload_n 3, 1) := by decide +kernel
theorem d_M_least_37 : decode b_M_least 37 = .ok (.iaload, 1) := by decide +kernel
theorem d_M_least_38 : decode b_M_least 38 = .ok (.goto 4, 3) := by decide +kernel
theorem d_M_least_41 : decode b_M_least 41 = .ok (.iload_n 2, 1) := by decide +kernel
theorem d_M_least_42 : decode b_M_least 42 = .ok (.istore_n 2, 1) := by decide +kernel
theorem d_M_least_43 : decode b_M_least 43 = .ok (.iinc 3 1, 3) := by decide +kernel
theorem d_M_least_46 : decode b_M_least 46 = .ok (.goto (-41), 3) := by decide +kernel
theorem d_M_least_49 : decode b_M_least 49 = .ok (.iload_n 2, 1) := by decide +kernel
theorem d_M_least_50 : decode b_M_least 50 = .ok (.ireturn, 1) := by decide +kernel
theorem d_M_cutAll_0 : decode b_M_cutAll 0 = .ok (.aload_n 0, 1) := by decide +kernel
theorem d_M_cutAll_1 : decode b_M_cutAll 1 = .ok (.invokevirtual 105, 3) := by decide +kernel
theorem d_M_cutAll_4 : decode b_M_cutAll 4 = .ok (.aload_n 0, 1) := by decide +kernel
theorem d_M_cutAll_5 : decode b_M_cutAll 5 = .ok (.iconst 0, 1) := by decide +kernel
theorem d_M_cutAll_6 : decode b_M_cutAll 6 = .ok (.putfield 118, 3) := by decide +kernel
theorem d_M_cutAll_9 : decode b_M_cutAll 9 = .ok (.aload_n 0, 1) := by decide +kernel
theorem d_M_cutAll_10 : decode b_M_cutAll 10 = .ok (.iconst 0, 1) := by decide +kernel
theorem d_M_cutAll_11 : decode b_M_cutAll 11 = .ok (.putfield 121, 3) := by decide +kernel
theorem d_M_cutAll_14 : decode b_M_cutAll 14 = .ok (.aload_n 0, 1) := by decide +kernel
theorem d_M_cutAll_15 : decode b_M_cutAll 15 = .ok (.iconst 0, 1) := by decide +kernel
theorem d_M_cutAll_16 : decode b_M_cutAll 16 = .ok (.iconst 0, 1) := by decide +kernel
theorem d_M_cutAll_17 : decode b_M_cutAll 17 = .ok (.invokevirtual 108, 3) := by decide +kernel
theorem d_M_cutAll_20 : decode b_M_cutAll 20 = .ok (.aload_n 0, 1) := by decide +kernel
theorem d_M_cutAll_21 : decode b_M_cutAll 21 = .ok (.aload_n 0, 1) := by decide +kernel
theorem d_M_cutAll_22 : decode b_M_cutAll 22 = .ok (.getfield 63, 3) := by decide +kernel
theorem d_M_cutAll_25 : decode b_M_cutAll 25 = .ok (.iconst 0, 1) := by decide +kernel
theorem d_M_cutAll_26 : decode b_M_cutAll 26 = .ok (.invokevirtual 101, 3) := by decide +kernel
theorem d_M_cutAll_29 : decode b_M_cutAll 29 = .ok (.istore_n 1, 1) := by decide +kernel
theorem d_M_cutAll_30 : decode b_M_cutAll 30 = .ok (.iload_n 1, 1) := by decide +kernel
theorem d_M_cutAll_31 : decode b_M_cutAll 31 = .ok (.ifCond .le 137, 3) := by decide +kernel
theorem d_M_cutAll_34 : decode b_M_cutAll 34 = .ok (.iload_n 1, 1) := by decide +kernel
theorem d_M_cutAll_35 : decode b_M_cutAll 35 = .ok (.ldc 87, 2) := by decide +kernel
theorem d_M_cutAll_37 : decode b_M_cutAll 37 = .ok (.if_icmp .ge 131, 3) := by decide +kernel
theorem d_M_cutAll_40 : decode b_M_cutAll 40 = .ok (.aload_n 0, 1) := by decide +kernel
theorem d_M_cutAll_41 : decode b_M_cutAll 41 = .ok (.invokevirtual 124, 3) := by decide +kernel
theorem d_M_cutAll_44 : decode b_M_cutAll 44 = .ok (.istore_n 2, 1) := by decide +kernel
theorem d_M_cutAll_45 : decode b_M_cutAll 45 = .ok (.aload_n 0, 1) := by decide +kernel
theorem d_M_cutAll_46 : decode b_M_cutAll 46 = .ok (.aload_n 0, 1) := by decide +kernel
theorem d_M_cutAll_47 : decode b_M_cutAll 47 = .ok (.iload_n 2, 1) := by decide +kernel
theorem d_M_cutAll_48 : decode b_M_cutAll 48 = .ok (.invokevirtual 128, 3) := by decide +kernel
theorem d_M_cutAll_51 : decode b_M_cutAll 51 = .ok (.iload_n 2, 1) := by decide +kernel
theorem d_M_cutAll_52 : decode b_M_cutAll 52 = .ok (.invokevirtual 131, 3) := by decide +kernel
theorem d_M_cutAll_55 : decode b_M_cutAll 55 = .ok (.istore_n 3, 1) := by decide +kernel
theorem d_M_cutAll_56 : decode b_M_cutAll 56 = .ok (.aload_n 0, 1) := by decide +kernel
theorem d_M_cutAll_57 : decode b_M_cutAll 57 = .ok (.iload_n 3, 1) := by decide +kernel
theorem d_M_cutAll_58 : decode b_M_cutAll 58 = .ok (.invokevirtual 134, 3) := by decide +kernel
theorem d_M_cutAll_61 : decode b_M_cutAll 61 = .ok (.istore 4, 2) := by decide +kernel
theorem d_M_cutAll_63 : decode b_M_cutAll 63 = .ok (.iconst 0, 1) := by decide +kernel
theorem d_M_cutAll_64 : decode b_M_cutAll 64 = .ok (.istore 5, 2) := by decide +kernel
theorem d_M_cutAll_66 : decode b_M_cutAll 66 = .ok (.iload 5, 2) := by decide +kernel
theorem d_M_cutAll_68 : decode b_M_cutAll 68 = .ok (.aload_n 0, 1) := by decide +kernel
theorem d_M_cutAll_69 : decode b_M_cutAll 69 = .ok (.getfield 51, 3) := by decide +kernel
theorem d_M_cutAll_72 : decode b_M_cutAll 72 = .ok (.if_icmp .ge 46, 3) := by decide +kernel
theorem d_M_cutAll_75 : decode b_M_cutAll 75 = .ok (.aload_n 0, 1) := by decide +kernel
theorem d_M_cutAll_76 : decode b_M_cutAll 76 = .ok (.getfield 35, 3) := by decide +kernel
theorem d_M_cutAll_79 : decode b_M_cutAll 79 = .ok (.iload 5, 2) := by decide +kernel
theorem d_M_cutAll_81 : decode b_M_cutAll 81 = .ok (.iload_n 3, 1) := by decide +kernel
theorem d_M_cutAll_82 : decode b_M_cutAll 82 = .ok (.iload 5, 2) := by decide +kernel
theorem d_M_cutAll_84 : decode b_M_cutAll 84 = .ok (.ishr, 1) := by decide +kernel
theorem d_M_cutAll_85 : decode b_M_cutAll 85 = .ok (.iconst 1, 1) := by decide +kernel
theorem d_M_cutAll_86 : decode b_M_cutAll 86 = .ok (.iand, 1) := by decide +kernel
theorem d_M_cutAll_87 : decode b_M_cutAll 87 = .ok (.iconst 1, 1) := by decide +kernel
theorem d_M_cutAll_88 : decode b_M_cutAll 88 = .ok (.if_icmp .ne 16, 3) := by decide +kernel
theorem d_M_cutAll_91 : decode b_M_cutAll 91 = .ok (.aload_n 0, 1) := by decide +kernel
theorem d_M_cutAll_92 : decode b_M_cutAll 92 = .ok (.getfield 35, 3) := by decide +kernel
theorem d_M_cutAll_95 : decode b_M_cutAll 95 = .ok (.iload 5, 2) := by decide +kernel
theorem d_M_cutAll_97 : decode b_M_cutAll 97 = .ok (.iaload, 1) := by decide +kernel
theorem d_M_cutAll_98 : decode b_M_cutAll 98 = .ok (.iload 4, 2) := by decide +kernel
theorem d_M_cutAll_100 : decode b_M_cutAll 100 = .ok (.isub, 1) := by decide +kernel
theorem d_M_cutAll_101 : decode b_M_cutAll 101 = .ok (.goto 10, 3) := by decide +kernel
theorem d_M_cutAll_104 : decode b_M_cutAll 104 = .ok (.aload_n 0, 1) := by decide +kernel
theorem d_M_cutAll_105 : decode b_M_cutAll 105 = .ok (.getfield 35, 3) := by decide +kernel
theorem d_M_cutAll_108 : decode b_M_cutAll 108 = .ok (.iload 5, 2) := by decide +kernel
theorem d_M_cutAll_110 : decode b_M_cutAll 110 = .ok (.iaload, 1) := by decide +kernel
theorem d_M_cutAll_111 : decode b_M_cutAll 111 = .ok (.iastore, 1) := by decide +kernel
theorem d_M_cutAll_112 : decode b_M_cutAll 112 = .ok (.iinc 5 1, 3) := by decide +kernel
theorem d_M_cutAll_115 : decode b_M_cutAll 115 = .ok (.goto (-49), 3) := by decide +kernel
theorem d_M_cutAll_118 : decode b_M_cutAll 118 = .ok (.aload_n 0, 1) := by decide +kernel
theorem d_M_cutAll_119 : decode b_M_cutAll 119 = .ok (.getfield 41, 3) := by decide +kernel
theorem d_M_cutAll_122 : decode b_M_cutAll 122 = .ok (.aload_n 0, 1) := by decide +kernel
theorem d_M_cutAll_123 : decode b_M_cutAll 123 = .ok (.getfield 118, 3) := by decide +kernel
theorem d_M_cutAll_126 : decode b_M_cutAll 126 = .ok (.iload_n 3, 1) := by decide +kernel
theorem d_M_cutAll_127 : decode b_M_cutAll 127 = .ok (.iastore, 1) := by decide +kernel
theorem d_M_cutAll_128 : decode b_M_cutAll 128 = .ok (.aload_n 0, 1) := by decide +kernel
theorem d_M_cutAll_129 : decode b_M_cutAll 129 = .ok (.dup, 1) := by decide +kernel
theorem d_M_cutAll_130 : decode b_M_cutAll 130 = .ok (.getfield 118, 3) := by decide +kernel
theorem d_M_cutAll_133 : decode b_M_cutAll 133 = .ok (.iconst 1, 1) := by decide +kernel
theorem d_M_cutAll_134 : decode b_M_cutAll 134 = .ok (.iadd, 1) := by decide +kernel
theorem d_M_cutAll_135 : decode b_M_cutAll 135 = .ok (.putfield 118, 3) := by decide +kernel
theorem d_M_cutAll_138 : decode b_M_cutAll 138 = .ok (.aload_n 0, 1) := by decide +kernel
theorem d_M_cutAll_139 : decode b_M_cutAll 139 = .ok (.aload_n 0, 1) := by decide +kernel
theorem d_M_cutAll_140 : decode b_M_cutAll 140 = .ok (.getfield 121, 3) := by decide +kernel
theorem d_M_cutAll_143 : decode b_M_cutAll 143 = .ok (.iload 4, 2) := by decide +kernel
theorem d_M_cutAll_145 : decode b_M_cutAll 145 = .ok (.iadd, 1) := by decide +kernel
theorem d_M_cutAll_146 : decode b_M_cutAll 146 = .ok (.putfield 121, 3) := by decide +kernel
theorem d_M_cutAll_149 : decode b_M_cutAll 149 = .ok (.aload_n 0, 1) := by decide +kernel
theorem d_M_cutAll_150 : decode b_M_cutAll 150 = .ok (.iconst 0, 1) := by decide +kernel
theorem d_M_cutAll_151 : decode b_M_cutAll 151 = .ok (.iconst 0, 1) := by decide +kernel
theorem d_M_cutAll_152 : decode b_M_cutAll 152 = .ok (.invokevirtual 108, 3) := by decide +kernel
theorem d_M_cutAll_155 : decode b_M_cutAll 155 = .ok (.aload_n 0, 1) := by decide +kernel
theorem d_M_cutAll_156 : decode b_M_cutAll 156 = .ok (.aload_n 0, 1) := by decide +kernel
theorem d_M_cutAll_157 : decode b_M_cutAll 157 = .ok (.getfield 63, 3) := by decide +kernel
theorem d_M_cutAll_160 : decode b_M_cutAll 160 = .ok (.iconst 0, 1) := by decide +kernel
theorem d_M_cutAll_161 : decode b_M_cutAll 161 = .ok (.invokevirtual 101, 3) := by decide +kernel
theorem d_M_cutAll_164 : decode b_M_cutAll 164 = .ok (.istore_n 1, 1) := by decide +kernel
theorem d_M_cutAll_165 : decode b_M_cutAll 165 = .ok (.goto (-135), 3) := by decide +kernel
theorem d_M_cutAll_168 : decode b_M_cutAll 168 = .ok (.aload_n 0, 1) := by decide +kernel
theorem d_M_cutAll_169 : decode b_M_cutAll 169 = .ok (.iload_n 1, 1) := by decide +kernel
theorem d_M_cutAll_170 : decode b_M_cutAll 170 = .ok (.ldc 87, 2) := by decide +kernel
theorem d_M_cutAll_172 : decode b_M_cutAll 172 = .ok (.if_icmp .lt 7, 3) := by decide +kernel
theorem d_M_cutAll_175 : decode b_M_cutAll 175 = .ok (.iconst (-1), 1) := by decide +kernel
theorem d_M_cutAll_176 : decode b_M_cutAll 176 = .ok (.goto 7, 3) := by decide +kernel
theorem d_M_cutAll_179 : decode b_M_cutAll 179 = .ok (.aload_n 0, 1) := by decide +kernel
theorem d_M_cutAll_180 : decode b_M_cutAll 180 = .ok (.getfield 121, 3) := by decide +kernel
theorem d_M_cutAll_183 : decode b_M_cutAll 183 = .ok (.putfield 121, 3) := by decide +kernel
theorem d_M_cutAll_186 : decode b_M_cutAll 186 = .ok (.return_, 1) := by decide +kernel
theorem d_M_cuts_0 : decode b_M_cuts 0 = .ok (.aload_n 0, 1) := by decide +kernel
theorem d_M_cuts_1 : decode b_M_cuts 1 = .ok (.iconst 0, 1) := by decide +kernel
theorem d_M_cuts_2 : decode b_M_cuts 2 = .ok (.putfield 44, 3) := by decide +kernel
theorem d_M_cuts_5 : decode b_M_cuts 5 = .ok (.aload_n 0, 1) := by decide +kernel
theorem d_M_cuts_6 : decode b_M_cuts 6 = .ok (.invokevirtual 137, 3) := by decide +kernel
theorem d_M_cuts_9 : decode b_M_cuts 9 = .ok (.aload_n 0, 1) := by decide +kernel
theorem d_M_cuts_10 : decode b_M_cuts 10 = .ok (.getfield 121, 3) := by decide +kernel
theorem d_M_cuts_13 : decode b_M_cuts 13 = .ok (.ireturn, 1) := by decide +kernel
theorem d_M_cut_0 : decode b_M_cut 0 = .ok (.aload_n 0, 1) := by decide +kernel
theorem d_M_cut_1 : decode b_M_cut 1 = .ok (.iconst 0, 1) := by decide +kernel
theorem d_M_cut_2 : decode b_M_cut 2 = .ok (.putfield 44, 3) := by decide +kernel
theorem d_M_cut_5 : decode b_M_cut 5 = .ok (.aload_n 0, 1) := by decide +kernel
theorem d_M_cut_6 : decode b_M_cut 6 = .ok (.invokevirtual 137, 3) := by decide +kernel
theorem d_M_cut_9 : decode b_M_cut 9 = .ok (.iload_n 1, 1) := by decide +kernel
theorem d_M_cut_10 : decode b_M_cut 10 = .ok (.ifCond .lt 11, 3) := by decide +kernel
theorem d_M_cut_13 : decode b_M_cut 13 = .ok (.iload_n 1, 1) := by decide +kernel
theorem d_M_cut_14 : decode b_M_cut 14 = .ok (.aload_n 0, 1) := by decide +kernel
theorem d_M_cut_15 : decode b_M_cut 15 = .ok (.getfield 118, 3) := by decide +kernel
theorem d_M_cut_18 : decode b_M_cut 18 = .ok (.if_icmp .lt 7, 3) := by decide +kernel
theorem d_M_cut_21 : decode b_M_cut 21 = .ok (.iconst 0, 1) := by decide +kernel
theorem d_M_cut_22 : decode b_M_cut 22 = .ok (.goto 9, 3) := by decide +kernel
theorem d_M_cut_25 : decode b_M_cut 25 = .ok (.aload_n 0, 1) := by decide +kernel
theorem d_M_cut_26 : decode b_M_cut 26 = .ok (.getfield 41, 3) := by decide +kernel
theorem d_M_cut_29 : decode b_M_cut 29 = .ok (.iload_n 1, 1) := by decide +kernel
theorem d_M_cut_30 : decode b_M_cut 30 = .ok (.iaload, 1) := by decide +kernel
theorem d_M_cut_31 : decode b_M_cut 31 = .ok (.ireturn, 1) := by decide +kernel
theorem d_M_landmark_0 : decode b_M_landmark 0 = .ok (.aload_n 0, 1) := by decide +kernel
theorem d_M_landmark_1 : decode b_M_landmark 1 = .ok (.aload_n 0, 1) := by decide +kernel
theorem d_M_landmark_2 : decode b_M_landmark 2 = .ok (.iload_n 1, 1) := by decide +kernel
theorem d_M_landmark_3 : decode b_M_landmark 3 = .ok (.invokevirtual 73, 3) := by decide +kernel
theorem d_M_landmark_6 : decode b_M_landmark 6 = .ok (.ifCond .eq 7, 3) := by decide +kernel
theorem d_M_landmark_9 : decode b_M_landmark 9 = .ok (.iconst 1, 1) := by decide +kernel
theorem d_M_landmark_10 : decode b_M_landmark 10 = .ok (.goto 4, 3) := by decide +kernel
theorem d_M_landmark_13 : decode b_M_landmark 13 = .ok (.iconst 0, 1) := by decide +kernel
theorem d_M_landmark_14 : decode b_M_landmark 14 = .ok (.putfield 44, 3) := by decide +kernel
theorem d_M_landmark_17 : decode b_M_landmark 17 = .ok (.aload_n 0, 1) := by decide +kernel
theorem d_M_landmark_18 : decode b_M_landmark 18 = .ok (.getfield 44, 3) := by decide +kernel
theorem d_M_landmark_21 : decode b_M_landmark 21 = .ok (.ifCond .le 5, 3) := by decide +kernel
theorem d_M_landmark_24 : decode b_M_landmark 24 = .ok (.iconst 0, 1) := by decide +kernel
theorem d_M_landmark_25 : decode b_M_landmark 25 = .ok (.ireturn, 1) := by decide +kernel
theorem d_M_landmark_26 : decode b_M_landmark 26 = .ok (.aload_n 0, 1) := by decide +kernel
theorem d_M_landmark_27 : decode b_M_landmark 27 = .ok (.invokevirtual 105, 3) := by decide +kernel
theorem d_M_landmark_30 : decode b_M_landmark 30 = .ok (.aload_n 0, 1) := by decide +kernel
theorem d_M_landmark_31 : decode b_M_landmark 31 = .ok (.iconst 0, 1) := by decide +kernel
theorem d_M_landmark_32 : decode b_M_landmark 32 = .ok (.iconst 1, 1) := by decide +kernel
theorem d_M_landmark_33 : decode b_M_landmark 33 = .ok (.iload_n 1, 1) := by decide +kernel
theorem d_M_landmark_34 : decode b_M_landmark 34 = .ok (.ishl, 1) := by decide +kernel
theorem d_M_landmark_35 : decode b_M_landmark 35 = .ok (.invokevirtual 108, 3) := by decide +kernel
theorem d_M_landmark_38 : decode b_M_landmark 38 = .ok (.aload_n 0, 1) := by decide +kernel
theorem d_M_landmark_39 : decode b_M_landmark 39 = .ok (.getfield 60, 3) := by decide +kernel
theorem d_M_landmark_42 : decode b_M_landmark 42 = .ok (.iload_n 1, 1) := by decide +kernel
theorem d_M_landmark_43 : decode b_M_landmark 43 = .ok (.ishr, 1) := by decide +kernel
theorem d_M_landmark_44 : decode b_M_landmark 44 = .ok (.iconst 1, 1) := by decide +kernel
theorem d_M_landmark_45 : decode b_M_landmark 45 = .ok (.iand, 1) := by decide +kernel
theorem d_M_landmark_46 : decode b_M_landmark 46 = .ok (.iconst 1, 1) := by decide +kernel
theorem d_M_landmark_47 : decode b_M_landmark 47 = .ok (.if_icmp .eq 17, 3) := by decide +kernel
theorem d_M_landmark_50 : decode b_M_landmark 50 = .ok (.aload_n 0, 1) := by decide +kernel
theorem d_M_landmark_51 : decode b_M_landmark 51 = .ok (.aload_n 0, 1) := by decide +kernel
theorem d_M_landmark_52 : decode b_M_landmark 52 = .ok (.getfield 63, 3) := by decide +kernel
theorem d_M_landmark_55 : decode b_M_landmark 55 = .ok (.iconst 0, 1) := by decide +kernel
theorem d_M_landmark_56 : decode b_M_landmark 56 = .ok (.invokevirtual 101, 3) := by decide +kernel
theorem d_M_landmark_59 : decode b_M_landmark 59 = .ok (.ldc 87, 2) := by decide +kernel
theorem d_M_landmark_61 : decode b_M_landmark 61 = .ok (.if_icmp .lt 7, 3) := by decide +kernel
theorem d_M_landmark_64 : decode b_M_landmark 64 = .ok (.iconst 1, 1) := by decide +kernel
theorem d_M_landmark_65 : decode b_M_landmark 65 = .ok (.goto 4, 3) := by decide +kernel
theorem d_M_landmark_68 : decode b_M_landmark 68 = .ok (.iconst 0, 1) := by decide +kernel
theorem d_M_landmark_69 : decode b_M_landmark 69 = .ok (.ireturn, 1) := by decide +kernel
theorem d_M_draft_0 : decode b_M_draft 0 = .ok (.aload_n 0, 1) := by decide +kernel
theorem d_M_draft_1 : decode b_M_draft 1 = .ok (.aload_n 0, 1) := by decide +kernel
theorem d_M_draft_2 : decode b_M_draft 2 = .ok (.iload_n 1, 1) := by decide +kernel
theorem d_M_draft_3 : decode b_M_draft 3 = .ok (.invokevirtual 69, 3) := by decide +kernel
theorem d_M_draft_6 : decode b_M_draft 6 = .ok (.ifCond .eq 7, 3) := by decide +kernel
theorem d_M_draft_9 : decode b_M_draft 9 = .ok (.iconst 1, 1) := by decide +kernel
theorem d_M_draft_10 : decode b_M_draft 10 = .ok (.goto 17, 3) := by decide +kernel
theorem d_M_draft_13 : decode b_M_draft 13 = .ok (.aload_n 0, 1) := by decide +kernel
theorem d_M_draft_14 : decode b_M_draft 14 = .ok (.getfield 54, 3) := by decide +kernel
theorem d_M_draft_17 : decode b_M_draft 17 = .ok (.bipush 24, 2) := by decide +kernel
theorem d_M_draft_19 : decode b_M_draft 19 = .ok (.if_icmp .ne 7, 3) := by decide +kernel
theorem d_M_draft_22 : decode b_M_draft 22 = .ok (.iconst 2, 1) := by decide +kernel
theorem d_M_draft_23 : decode b_M_draft 23 = .ok (.goto 4, 3) := by decide +kernel
theorem d_M_draft_26 : decode b_M_draft 26 = .ok (.iconst 0, 1) := by decide +kernel
theorem d_M_draft_27 : decode b_M_draft 27 = .ok (.putfield 44, 3) := by decide +kernel
theorem d_M_draft_30 : decode b_M_draft 30 = .ok (.aload_n 0, 1) := by decide +kernel
theorem d_M_draft_31 : decode b_M_draft 31 = .ok (.getfield 44, 3) := by decide +kernel
theorem d_M_draft_34 : decode b_M_draft 34 = .ok (.ifCond .le 5, 3) := by decide +kernel
theorem d_M_draft_37 : decode b_M_draft 37 = .ok (.iconst 0, 1) := by decide +kernel
theorem d_M_draft_38 : decode b_M_draft 38 = .ok (.ireturn, 1) := by decide +kernel
theorem d_M_draft_39 : decode b_M_draft 39 = .ok (.aload_n 0, 1) := by decide +kernel
theorem d_M_draft_40 : decode b_M_draft 40 = .ok (.getfield 25, 3) := by decide +kernel
theorem d_M_draft_43 : decode b_M_draft 43 = .ok (.aload_n 0, 1) := by decide +kernel
theorem d_M_draft_44 : decode b_M_draft 44 = .ok (.getfield 54, 3) := by decide +kernel
theorem d_M_draft_47 : decode b_M_draft 47 = .ok (.iload_n 1, 1) := by decide +kernel
theorem d_M_draft_48 : decode b_M_draft 48 = .ok (.iastore, 1) := by decide +kernel
theorem d_M_draft_49 : decode b_M_draft 49 = .ok (.aload_n 0, 1) := by decide +kernel
theorem d_M_draft_50 : decode b_M_draft 50 = .ok (.dup, 1) := by decide +kernel
theorem d_M_draft_51 : decode b_M_draft 51 = .ok (.getfield 54, 3) := by decide +kernel
theorem d_M_draft_54 : decode b_M_draft 54 = .ok (.iconst 1, 1) := by decide +kernel
theorem d_M_draft_55 : decode b_M_draft 55 = .ok (.iadd, 1) := by decide +kernel
theorem d_M_draft_56 : decode b_M_draft 56 = .ok (.putfield 54, 3) := by decide +kernel
theorem d_M_draft_59 : decode b_M_draft 59 = .ok (.aload_n 0, 1) := by decide +kernel
theorem d_M_draft_60 : decode b_M_draft 60 = .ok (.getfield 54, 3) := by decide +kernel
theorem d_M_draft_63 : decode b_M_draft 63 = .ok (.ireturn, 1) := by decide +kernel
theorem d_M_wipe_0 : decode b_M_wipe 0 = .ok (.aload_n 0, 1) := by decide +kernel
theorem d_M_wipe_1 : decode b_M_wipe 1 = .ok (.iconst 0, 1) := by decide +kernel
theorem d_M_wipe_2 : decode b_M_wipe 2 = .ok (.putfield 44, 3) := by decide +kernel
theorem d_M_wipe_5 : decode b_M_wipe 5 = .ok (.aload_n 0, 1) := by decide +kernel
theorem d_M_wipe_6 : decode b_M_wipe 6 = .ok (.iconst 0, 1) := by decide +kernel
theorem d_M_wipe_7 : decode b_M_wipe 7 = .ok (.putfield 54, 3) := by decide +kernel
theorem d_M_wipe_10 : decode b_M_wipe 10 = .ok (.return_, 1) := by decide +kernel
theorem d_M_check_0 : decode b_M_check 0 = .ok (.aload_n 0, 1) := by decide +kernel
theorem d_M_check_1 : decode b_M_check 1 = .ok (.iconst 0, 1) := by decide +kernel
theorem d_M_check_2 : decode b_M_check 2 = .ok (.putfield 44, 3) := by decide +kernel
theorem d_M_check_5 : decode b_M_check 5 = .ok (.aload_n 0, 1) := by decide +kernel
theorem d_M_check_6 : decode b_M_check 6 = .ok (.getfield 60, 3) := by decide +kernel
theorem d_M_check_9 : decode b_M_check 9 = .ok (.istore_n 1, 1) := by decide +kernel
theorem d_M_check_10 : decode b_M_check 10 = .ok (.iconst 0, 1) := by decide +kernel
theorem d_M_check_11 : decode b_M_check 11 = .ok (.istore_n 2, 1) := by decide +kernel
theorem d_M_check_12 : decode b_M_check 12 = .ok (.iload_n 2, 1) := by decide +kernel
theorem d_M_check_13 : decode b_M_check 13 = .ok (.aload_n 0, 1) := by decide +kernel
theorem d_M_check_14 : decode b_M_check 14 = .ok (.getfield 54, 3) := by decide +kernel
theorem d_M_check_17 : decode b_M_check 17 = .ok (.if_icmp .ge 37, 3) := by decide +kernel
theorem d_M_check_20 : decode b_M_check 20 = .ok (.aload_n 0, 1) := by decide +kernel
theorem d_M_check_21 : decode b_M_check 21 = .ok (.aload_n 0, 1) := by decide +kernel
theorem d_M_check_22 : decode b_M_check 22 = .ok (.getfield 25, 3) := by decide +kernel
theorem d_M_check_25 : decode b_M_check 25 = .ok (.iload_n 2, 1) := by decide +kernel
theorem d_M_check_26 : decode b_M_check 26 = .ok (.iaload, 1) := by decide +kernel
theorem d_M_check_27 : decode b_M_check 27 = .ok (.iload_n 1, 1) := by decide +kernel
theorem d_M_check_28 : decode b_M_check 28 = .ok (.invokevirtual 76, 3) := by decide +kernel
theorem d_M_check_31 : decode b_M_check 31 = .ok (.ifCond .ne 5, 3) := by decide +kernel
theorem d_M_check_34 : decode b_M_check 34 = .ok (.iload_n 2, 1) := by decide +kernel
theorem d_M_check_35 : decode b_M_check 35 = .ok (.ireturn, 1) := by decide +kernel
theorem d_M_check_36 : decode b_M_check 36 = .ok (.aload_n 0, 1) := by decide +kernel
theorem d_M_check_37 : decode b_M_check 37 = .ok (.aload_n 0, 1) := by decide +kernel
theorem d_M_check_38 : decode b_M_check 38 = .ok (.getfield 25, 3) := by decide +kernel
theorem d_M_check_41 : decode b_M_check 41 = .ok (.iload_n 2, 1) := by decide +kernel
theorem d_M_check_42 : decode b_M_check 42 = .ok (.iaload, 1) := by decide +kernel
theorem d_M_check_43 : decode b_M_check 43 = .ok (.iload_n 1, 1) := by decide +kernel
theorem d_M_check_44 : decode b_M_check 44 = .ok (.invokevirtual 80, 3) := by decide +kernel
theorem d_M_check_47 : decode b_M_check 47 = .ok (.istore_n 1, 1) := by decide +kernel
theorem d_M_check_48 : decode b_M_check 48 = .ok (.iinc 2 1, 3) := by decide +kernel
theorem d_M_check_51 : decode b_M_check 51 = .ok (.goto (-39), 3) := by decide +kernel
theorem d_M_check_54 : decode b_M_check 54 = .ok (.aload_n 0, 1) := by decide +kernel
theorem d_M_check_55 : decode b_M_check 55 = .ok (.iload_n 1, 1) := by decide +kernel
theorem d_M_check_56 : decode b_M_check 56 = .ok (.invokevirtual 84, 3) := by decide +kernel
theorem d_M_check_59 : decode b_M_check 59 = .ok (.ifCond .eq 7, 3) := by decide +kernel
theorem d_M_check_62 : decode b_M_check 62 = .ok (.iconst (-1), 1) := by decide +kernel
theorem d_M_check_63 : decode b_M_check 63 = .ok (.goto 7, 3) := by decide +kernel
theorem d_M_check_66 : decode b_M_check 66 = .ok (.aload_n 0, 1) := by decide +kernel
theorem d_M_check_67 : decode b_M_check 67 = .ok (.getfield 54, 3) := by decide +kernel
theorem d_M_check_70 : decode b_M_check 70 = .ok (.ireturn, 1) := by decide +kernel
theorem d_M_cost_0 : decode b_M_cost 0 = .ok (.aload_n 0, 1) := by decide +kernel
theorem d_M_cost_1 : decode b_M_cost 1 = .ok (.iconst 0, 1) := by decide +kernel
theorem d_M_cost_2 : decode b_M_cost 2 = .ok (.putfield 44, 3) := by decide +kernel
theorem d_M_cost_5 : decode b_M_cost 5 = .ok (.iconst 0, 1) := by decide +kernel
theorem d_M_cost_6 : decode b_M_cost 6 = .ok (.istore_n 1, 1) := by decide +kernel
theorem d_M_cost_7 : decode b_M_cost 7 = .ok (.iconst 0, 1) := by decide +kernel
theorem d_M_cost_8 : decode b_M_cost 8 = .ok (.istore_n 2, 1) := by decide +kernel
theorem d_M_cost_9 : decode b_M_cost 9 = .ok (.iload_n 2, 1) := by decide +kernel
theorem d_M_cost_10 : decode b_M_cost 10 = .ok (.aload_n 0, 1) := by decide +kernel
theorem d_M_cost_11 : decode b_M_cost 11 = .ok (.getfield 54, 3) := by decide +kernel
theorem d_M_cost_14 : decode b_M_cost 14 = .ok (.if_icmp .ge 23, 3) := by decide +kernel
theorem d_M_cost_17 : decode b_M_cost 17 = .ok (.iload_n 1, 1) := by decide +kernel
theorem d_M_cost_18 : decode b_M_cost 18 = .ok (.aload_n 0, 1) := by decide +kernel
theorem d_M_cost_19 : decode b_M_cost 19 = .ok (.getfield 7, 3) := by decide +kernel
theorem d_M_cost_22 : decode b_M_cost 22 = .ok (.aload_n 0, 1) := by decide +kernel
theorem d_M_cost_23 : decode b_M_cost 23 = .ok (.getfield 25, 3) := by decide +kernel
theorem d_M_cost_26 : decode b_M_cost 26 = .ok (.iload_n 2, 1) := by decide +kernel
theorem d_M_cost_27 : decode b_M_cost 27 = .ok (.iaload, 1) := by decide +kernel
theorem d_M_cost_28 : decode b_M_cost 28 = .ok (.iaload, 1) := by decide +kernel
theorem d_M_cost_29 : decode b_M_cost 29 = .ok (.iadd, 1) := by decide +kernel
theorem d_M_cost_30 : decode b_M_cost 30 = .ok (.istore_n 1, 1) := by decide +kernel
theorem d_M_cost_31 : decode b_M_cost 31 = .ok (.iinc 2 1, 3) := by decide +kernel
theorem d_M_cost_34 : decode b_M_cost 34 = .ok (.goto (-25), 3) := by decide +kernel
theorem d_M_cost_37 : decode b_M_cost 37 = .ok (.iload_n 1, 1) := by decide +kernel
theorem d_M_cost_38 : decode b_M_cost 38 = .ok (.ireturn, 1) := by decide +kernel
