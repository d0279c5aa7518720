theorem d_S_init_0 : decode b_S_init 0 = .ok (.aload_n 0, 1) := by decide +kernel
theorem d_S_init_1 : decode b_S_init 1 = .ok (.invokespecial 3, 3) := by decide +kernel
theorem d_S_init_4 : decode b_S_init 4 = .ok (.aload_n 0, 1) := by decide +kernel
theorem d_S_init_5 : decode b_S_init 5 = .ok (.sipush 1024, 3) := by decide +kernel
theorem d_S_init_8 : decode b_S_init 8 = .ok (.newarray .int, 2) := by decide +kernel
theorem d_S_init_10 : decode b_S_init 10 = .ok (.putfield 9, 3) := by decide +kernel
theorem d_S_init_13 : decode b_S_init 13 = .ok (.aload_n 0, 1) := by decide +kernel
theorem d_S_init_14 : decode b_S_init 14 = .ok (.sipush 1024, 3) := by decide +kernel
theorem d_S_init_17 : decode b_S_init 17 = .ok (.newarray .int, 2) := by decide +kernel
theorem d_S_init_19 : decode b_S_init 19 = .ok (.putfield 15, 3) := by decide +kernel
theorem d_S_init_22 : decode b_S_init 22 = .ok (.aload_n 0, 1) := by decide +kernel
theorem d_S_init_23 : decode b_S_init 23 = .ok (.sipush 1024, 3) := by decide +kernel
theorem d_S_init_26 : decode b_S_init 26 = .ok (.newarray .int, 2) := by decide +kernel
theorem d_S_init_28 : decode b_S_init 28 = .ok (.putfield 18, 3) := by decide +kernel
theorem d_S_init_31 : decode b_S_init 31 = .ok (.aload_n 0, 1) := by decide +kernel
theorem d_S_init_32 : decode b_S_init 32 = .ok (.bipush 10, 2) := by decide +kernel
theorem d_S_init_34 : decode b_S_init 34 = .ok (.newarray .int, 2) := by decide +kernel
theorem d_S_init_36 : decode b_S_init 36 = .ok (.putfield 21, 3) := by decide +kernel
theorem d_S_init_39 : decode b_S_init 39 = .ok (.aload_n 0, 1) := by decide +kernel
theorem d_S_init_40 : decode b_S_init 40 = .ok (.aload_n 1, 1) := by decide +kernel
theorem d_S_init_41 : decode b_S_init 41 = .ok (.putfield 24, 3) := by decide +kernel
theorem d_S_init_44 : decode b_S_init 44 = .ok (.aload_n 0, 1) := by decide +kernel
theorem d_S_init_45 : decode b_S_init 45 = .ok (.getfield 15, 3) := by decide +kernel
theorem d_S_init_48 : decode b_S_init 48 = .ok (.iconst (-1), 1) := by decide +kernel
theorem d_S_init_49 : decode b_S_init 49 = .ok (.invokestatic 28, 3) := by decide +kernel
theorem d_S_init_52 : decode b_S_init 52 = .ok (.return_, 1) := by decide +kernel
theorem d_S_explore_0 : decode b_S_explore 0 = .ok (.aload_n 0, 1) := by decide +kernel
theorem d_S_explore_1 : decode b_S_explore 1 = .ok (.invokevirtual 34, 3) := by decide +kernel
theorem d_S_explore_4 : decode b_S_explore 4 = .ok (.aload_n 0, 1) := by decide +kernel
theorem d_S_explore_5 : decode b_S_explore 5 = .ok (.getfield 21, 3) := by decide +kernel
theorem d_S_explore_8 : decode b_S_explore 8 = .ok (.iconst 0, 1) := by decide +kernel
theorem d_S_explore_9 : decode b_S_explore 9 = .ok (.iconst 0, 1) := by decide +kernel
theorem d_S_explore_10 : decode b_S_explore 10 = .ok (.iastore, 1) := by decide +kernel
theorem d_S_explore_11 : decode b_S_explore 11 = .ok (.aload_n 0, 1) := by decide +kernel
theorem d_S_explore_12 : decode b_S_explore 12 = .ok (.iload_n 1, 1) := by decide +kernel
theorem d_S_explore_13 : decode b_S_explore 13 = .ok (.iconst 0, 1) := by decide +kernel
theorem d_S_explore_14 : decode b_S_explore 14 = .ok (.invokevirtual 37, 3) := by decide +kernel
theorem d_S_explore_17 : decode b_S_explore 17 = .ok (.iconst 1, 1) := by decide +kernel
theorem d_S_explore_18 : decode b_S_explore 18 = .ok (.istore_n 2, 1) := by decide +kernel
theorem d_S_explore_19 : decode b_S_explore 19 = .ok (.iload_n 2, 1) := by decide +kernel
theorem d_S_explore_20 : decode b_S_explore 20 = .ok (.sipush 9207, 3) := by decide +kernel
theorem d_S_explore_23 : decode b_S_explore 23 = .ok (.if_icmp .gt 78, 3) := by decide +kernel
theorem d_S_explore_26 : decode b_S_explore 26 = .ok (.iload_n 2, 1) := by decide +kernel
theorem d_S_explore_27 : decode b_S_explore 27 = .ok (.aload_n 0, 1) := by decide +kernel
theorem d_S_explore_28 : decode b_S_explore 28 = .ok (.invokevirtual 41, 3) := by decide +kernel
theorem d_S_explore_31 : decode b_S_explore 31 = .ok (.bipush 9, 2) := by decide +kernel
theorem d_S_explore_33 : decode b_S_explore 33 = .ok (.iadd, 1) := by decide +kernel
theorem d_S_explore_34 : decode b_S_explore 34 = .ok (.if_icmp .gt 67, 3) := by decide +kernel
theorem d_S_explore_37 : decode b_S_explore 37 = .ok (.aload_n 0, 1) := by decide +kernel
theorem d_S_explore_38 : decode b_S_explore 38 = .ok (.getfield 21, 3) := by decide +kernel
theorem d_S_explore_41 : decode b_S_explore 41 = .ok (.iload_n 2, 1) := by decide +kernel
theorem d_S_explore_42 : decode b_S_explore 42 = .ok (.bipush 10, 2) := by decide +kernel
theorem d_S_explore_44 : decode b_S_explore 44 = .ok (.irem, 1) := by decide +kernel
theorem d_S_explore_45 : decode b_S_explore 45 = .ok (.aload_n 0, 1) := by decide +kernel
theorem d_S_explore_46 : decode b_S_explore 46 = .ok (.getfield 45, 3) := by decide +kernel
theorem d_S_explore_49 : decode b_S_explore 49 = .ok (.iastore, 1) := by decide +kernel
theorem d_S_explore_50 : decode b_S_explore 50 = .ok (.iconst 0, 1) := by decide +kernel
theorem d_S_explore_51 : decode b_S_explore 51 = .ok (.istore_n 3, 1) := by decide +kernel
theorem d_S_explore_52 : decode b_S_explore 52 = .ok (.iload_n 3, 1) := by decide +kernel
theorem d_S_explore_53 : decode b_S_explore 53 = .ok (.aload_n 0, 1) := by decide +kernel
theorem d_S_explore_54 : decode b_S_explore 54 = .ok (.getfield 24, 3) := by decide +kernel
theorem d_S_explore_57 : decode b_S_explore 57 = .ok (.getfield 49, 3) := by decide +kernel
theorem d_S_explore_60 : decode b_S_explore 60 = .ok (.if_icmp .ge 35, 3) := by decide +kernel
theorem d_S_explore_63 : decode b_S_explore 63 = .ok (.iload_n 2, 1) := by decide +kernel
theorem d_S_explore_64 : decode b_S_explore 64 = .ok (.aload_n 0, 1) := by decide +kernel
theorem d_S_explore_65 : decode b_S_explore 65 = .ok (.getfield 24, 3) := by decide +kernel
theorem d_S_explore_68 : decode b_S_explore 68 = .ok (.getfield 54, 3) := by decide +kernel
theorem d_S_explore_71 : decode b_S_explore 71 = .ok (.iload_n 3, 1) := by decide +kernel
theorem d_S_explore_72 : decode b_S_explore 72 = .ok (.iaload, 1) := by decide +kernel
theorem d_S_explore_73 : decode b_S_explore 73 = .ok (.isub, 1) := by decide +kernel
theorem d_S_explore_74 : decode b_S_explore 74 = .ok (.istore 4, 2) := by decide +kernel
theorem d_S_explore_76 : decode b_S_explore 76 = .ok (.iload 4, 2) := by decide +kernel
theorem d_S_explore_78 : decode b_S_explore 78 = .ok (.ifCond .lt 11, 3) := by decide +kernel
theorem d_S_explore_81 : decode b_S_explore 81 = .ok (.aload_n 0, 1) := by decide +kernel
theorem d_S_explore_82 : decode b_S_explore 82 = .ok (.iload_n 3, 1) := by decide +kernel
theorem d_S_explore_83 : decode b_S_explore 83 = .ok (.iload 4, 2) := by decide +kernel
theorem d_S_explore_85 : decode b_S_explore 85 = .ok (.iload_n 2, 1) := by decide +kernel
theorem d_S_explore_86 : decode b_S_explore 86 = .ok (.invokevirtual 57, 3) := by decide +kernel
theorem d_S_explore_89 : decode b_S_explore 89 = .ok (.iinc 3 1, 3) := by decide +kernel
theorem d_S_explore_92 : decode b_S_explore 92 = .ok (.goto (-40), 3) := by decide +kernel
theorem d_S_explore_95 : decode b_S_explore 95 = .ok (.iinc 2 1, 3) := by decide +kernel
theorem d_S_explore_98 : decode b_S_explore 98 = .ok (.goto (-79), 3) := by decide +kernel
theorem d_S_explore_101 : decode b_S_explore 101 = .ok (.return_, 1) := by decide +kernel
theorem d_S_cameTo_0 : decode b_S_cameTo 0 = .ok (.iconst 0, 1) := by decide +kernel
theorem d_S_cameTo_1 : decode b_S_cameTo 1 = .ok (.istore_n 2, 1) := by decide +kernel
theorem d_S_cameTo_2 : decode b_S_cameTo 2 = .ok (.iload_n 2, 1) := by decide +kernel
theorem d_S_cameTo_3 : decode b_S_cameTo 3 = .ok (.aload_n 0, 1) := by decide +kernel
theorem d_S_cameTo_4 : decode b_S_cameTo 4 = .ok (.getfield 45, 3) := by decide +kernel
theorem d_S_cameTo_7 : decode b_S_cameTo 7 = .ok (.if_icmp .ge 24, 3) := by decide +kernel
theorem d_S_cameTo_10 : decode b_S_cameTo 10 = .ok (.aload_n 0, 1) := by decide +kernel
theorem d_S_cameTo_11 : decode b_S_cameTo 11 = .ok (.getfield 9, 3) := by decide +kernel
theorem d_S_cameTo_14 : decode b_S_cameTo 14 = .ok (.iload_n 2, 1) := by decide +kernel
theorem d_S_cameTo_15 : decode b_S_cameTo 15 = .ok (.iaload, 1) := by decide +kernel
theorem d_S_cameTo_16 : decode b_S_cameTo 16 = .ok (.iload_n 1, 1) := by decide +kernel
theorem d_S_cameTo_17 : decode b_S_cameTo 17 = .ok (.invokestatic 61, 3) := by decide +kernel
theorem d_S_cameTo_20 : decode b_S_cameTo 20 = .ok (.ifCond .eq 5, 3) := by decide +kernel
theorem d_S_cameTo_23 : decode b_S_cameTo 23 = .ok (.iconst 1, 1) := by decide +kernel
theorem d_S_cameTo_24 : decode b_S_cameTo 24 = .ok (.ireturn, 1) := by decide +kernel
theorem d_S_cameTo_25 : decode b_S_cameTo 25 = .ok (.iinc 2 1, 3) := by decide +kernel
theorem d_S_cameTo_28 : decode b_S_cameTo 28 = .ok (.goto (-26), 3) := by decide +kernel
theorem d_S_cameTo_31 : decode b_S_cameTo 31 = .ok (.iconst 0, 1) := by decide +kernel
theorem d_S_cameTo_32 : decode b_S_cameTo 32 = .ok (.ireturn, 1) := by decide +kernel
theorem d_S_leastToMet_0 : decode b_S_leastToMet 0 = .ok (.iconst 0, 1) := by decide +kernel
theorem d_S_leastToMet_1 : decode b_S_leastToMet 1 = .ok (.istore_n 1, 1) := by decide +kernel
theorem d_S_leastToMet_2 : decode b_S_leastToMet 2 = .ok (.iload_n 1, 1) := by decide +kernel
theorem d_S_leastToMet_3 : decode b_S_leastToMet 3 = .ok (.aload_n 0, 1) := by decide +kernel
theorem d_S_leastToMet_4 : decode b_S_leastToMet 4 = .ok (.getfield 45, 3) := by decide +kernel
theorem d_S_leastToMet_7 : decode b_S_leastToMet 7 = .ok (.if_icmp .ge 37, 3) := by decide +kernel
theorem d_S_leastToMet_10 : decode b_S_leastToMet 10 = .ok (.aload_n 0, 1) := by decide +kernel
theorem d_S_leastToMet_11 : decode b_S_leastToMet 11 = .ok (.getfield 24, 3) := by decide +kernel
theorem d_S_leastToMet_14 : decode b_S_leastToMet 14 = .ok (.aload_n 0, 1) := by decide +kernel
theorem d_S_leastToMet_15 : decode b_S_leastToMet 15 = .ok (.getfield 9, 3) := by decide +kernel
theorem d_S_leastToMet_18 : decode b_S_leastToMet 18 = .ok (.iload_n 1, 1) := by decide +kernel
theorem d_S_leastToMet_19 : decode b_S_leastToMet 19 = .ok (.iaload, 1) := by decide +kernel
theorem d_S_leastToMet_20 : decode b_S_leastToMet 20 = .ok (.invokevirtual 65, 3) := by decide +kernel
theorem d_S_leastToMet_23 : decode b_S_leastToMet 23 = .ok (.ifCond .eq 15, 3) := by decide +kernel
theorem d_S_leastToMet_26 : decode b_S_leastToMet 26 = .ok (.aload_n 0, 1) := by decide +kernel
theorem d_S_leastToMet_27 : decode b_S_leastToMet 27 = .ok (.getfield 15, 3) := by decide +kernel
theorem d_S_leastToMet_30 : decode b_S_leastToMet 30 = .ok (.aload_n 0, 1) := by decide +kernel
theorem d_S_leastToMet_31 : decode b_S_leastToMet 31 = .ok (.getfield 9, 3) := by decide +kernel
theorem d_S_leastToMet_34 : decode b_S_leastToMet 34 = .ok (.iload_n 1, 1) := by decide +kernel
theorem d_S_leastToMet_35 : decode b_S_leastToMet 35 = .ok (.iaload, 1) := by decide +kernel
theorem d_S_leastToMet_36 : decode b_S_leastToMet 36 = .ok (.iaload, 1) := by decide +kernel
theorem d_S_leastToMet_37 : decode b_S_leastToMet 37 = .ok (.ireturn, 1) := by decide +kernel
theorem d_S_leastToMet_38 : decode b_S_leastToMet 38 = .ok (.iinc 1 1, 3) := by decide +kernel
theorem d_S_leastToMet_41 : decode b_S_leastToMet 41 = .ok (.goto (-39), 3) := by decide +kernel
theorem d_S_leastToMet_44 : decode b_S_leastToMet 44 = .ok (.iconst (-1), 1) := by decide +kernel
theorem d_S_leastToMet_45 : decode b_S_leastToMet 45 = .ok (.ireturn, 1) := by decide +kernel
theorem d_S_writeBest_0 : decode b_S_writeBest 0 = .ok (.aload_n 0, 1) := by decide +kernel
theorem d_S_writeBest_1 : decode b_S_writeBest 1 = .ok (.getfield 45, 3) := by decide +kernel
theorem d_S_writeBest_4 : decode b_S_writeBest 4 = .ok (.iconst 1, 1) := by decide +kernel
theorem d_S_writeBest_5 : decode b_S_writeBest 5 = .ok (.isub, 1) := by decide +kernel
theorem d_S_writeBest_6 : decode b_S_writeBest 6 = .ok (.istore 4, 2) := by decide +kernel
theorem d_S_writeBest_8 : decode b_S_writeBest 8 = .ok (.iload 4, 2) := by decide +kernel
theorem d_S_writeBest_10 : decode b_S_writeBest 10 = .ok (.ifCond .lt 71, 3) := by decide +kernel
theorem d_S_writeBest_13 : decode b_S_writeBest 13 = .ok (.aload_n 0, 1) := by decide +kernel
theorem d_S_writeBest_14 : decode b_S_writeBest 14 = .ok (.getfield 9, 3) := by decide +kernel
theorem d_S_writeBest_17 : decode b_S_writeBest 17 = .ok (.iload 4, 2) := by decide +kernel
theorem d_S_writeBest_19 : decode b_S_writeBest 19 = .ok (.iaload, 1) := by decide +kernel
theorem d_S_writeBest_20 : decode b_S_writeBest 20 = .ok (.istore 5, 2) := by decide +kernel
theorem d_S_writeBest_22 : decode b_S_writeBest 22 = .ok (.aload_n 0, 1) := by decide +kernel
theorem d_S_writeBest_23 : decode b_S_writeBest 23 = .ok (.getfield 15, 3) := by decide +kernel
theorem d_S_writeBest_26 : decode b_S_writeBest 26 = .ok (.iload 5, 2) := by decide +kernel
theorem d_S_writeBest_28 : decode b_S_writeBest 28 = .ok (.iaload, 1) := by decide +kernel
theorem d_S_writeBest_29 : decode b_S_writeBest 29 = .ok (.iload_n 2, 1) := by decide +kernel
theorem d_S_writeBest_30 : decode b_S_writeBest 30 = .ok (.if_icmp .ne 19, 3) := by decide +kernel
theorem d_S_writeBest_33 : decode b_S_writeBest 33 = .ok (.aload_n 0, 1) := by decide +kernel
theorem d_S_writeBest_34 : decode b_S_writeBest 34 = .ok (.getfield 24, 3) := by decide +kernel
theorem d_S_writeBest_37 : decode b_S_writeBest 37 = .ok (.iload 5, 2) := by decide +kernel
theorem d_S_writeBest_39 : decode b_S_writeBest 39 = .ok (.invokevirtual 65, 3) := by decide +kernel
theorem d_S_writeBest_42 : decode b_S_writeBest 42 = .ok (.ifCond .eq 7, 3) := by decide +kernel
theorem d_S_writeBest_45 : decode b_S_writeBest 45 = .ok (.iconst 1, 1) := by decide +kernel
theorem d_S_writeBest_46 : decode b_S_writeBest 46 = .ok (.goto 4, 3) := by decide +kernel
theorem d_S_writeBest_49 : decode b_S_writeBest 49 = .ok (.iconst 0, 1) := by decide +kernel
theorem d_S_writeBest_50 : decode b_S_writeBest 50 = .ok (.istore 6, 2) := by decide +kernel
theorem d_S_writeBest_52 : decode b_S_writeBest 52 = .ok (.aload_n 0, 1) := by decide +kernel
theorem d_S_writeBest_53 : decode b_S_writeBest 53 = .ok (.getfield 18, 3) := by decide +kernel
theorem d_S_writeBest_56 : decode b_S_writeBest 56 = .ok (.iload 5, 2) := by decide +kernel
theorem d_S_writeBest_58 : decode b_S_writeBest 58 = .ok (.iload 6, 2) := by decide +kernel
theorem d_S_writeBest_60 : decode b_S_writeBest 60 = .ok (.ifCond .eq 8, 3) := by decide +kernel
theorem d_S_writeBest_63 : decode b_S_writeBest 63 = .ok (.bipush (-2), 2) := by decide +kernel
theorem d_S_writeBest_65 : decode b_S_writeBest 65 = .ok (.goto 9, 3) := by decide +kernel
theorem d_S_writeBest_68 : decode b_S_writeBest 68 = .ok (.aload_n 0, 1) := by decide +kernel
theorem d_S_writeBest_69 : decode b_S_writeBest 69 = .ok (.iload 5, 2) := by decide +kernel
theorem d_S_writeBest_71 : decode b_S_writeBest 71 = .ok (.invokevirtual 69, 3) := by decide +kernel
theorem d_S_writeBest_74 : decode b_S_writeBest 74 = .ok (.iastore, 1) := by decide +kernel
theorem d_S_writeBest_75 : decode b_S_writeBest 75 = .ok (.iinc 4 (-1), 3) := by decide +kernel
theorem d_S_writeBest_78 : decode b_S_writeBest 78 = .ok (.goto (-70), 3) := by decide +kernel
theorem d_S_writeBest_81 : decode b_S_writeBest 81 = .ok (.iload_n 1, 1) := by decide +kernel
theorem d_S_writeBest_82 : decode b_S_writeBest 82 = .ok (.istore 4, 2) := by decide +kernel
theorem d_S_writeBest_84 : decode b_S_writeBest 84 = .ok (.iconst 0, 1) := by decide +kernel
theorem d_S_writeBest_85 : decode b_S_writeBest 85 = .ok (.istore 5, 2) := by decide +kernel
theorem d_S_writeBest_87 : decode b_S_writeBest 87 = .ok (.iload 5, 2) := by decide +kernel
theorem d_S_writeBest_89 : decode b_S_writeBest 89 = .ok (.sipush 1023, 3) := by decide +kernel
theorem d_S_writeBest_92 : decode b_S_writeBest 92 = .ok (.if_icmp .ge 48, 3) := by decide +kernel
theorem d_S_writeBest_95 : decode b_S_writeBest 95 = .ok (.aload_n 0, 1) := by decide +kernel
theorem d_S_writeBest_96 : decode b_S_writeBest 96 = .ok (.getfield 18, 3) := by decide +kernel
theorem d_S_writeBest_99 : decode b_S_writeBest 99 = .ok (.iload 4, 2) := by decide +kernel
theorem d_S_writeBest_101 : decode b_S_writeBest 101 = .ok (.iaload, 1) := by decide +kernel
theorem d_S_writeBest_102 : decode b_S_writeBest 102 = .ok (.ifCond .lt 38, 3) := by decide +kernel
theorem d_S_writeBest_105 : decode b_S_writeBest 105 = .ok (.aload_n 3, 1) := by decide +kernel
theorem d_S_writeBest_106 : decode b_S_writeBest 106 = .ok (.aload_n 0, 1) := by decide +kernel
theorem d_S_writeBest_107 : decode b_S_writeBest 107 = .ok (.getfield 18, 3) := by decide +kernel
theorem d_S_writeBest_110 : decode b_S_writeBest 110 = .ok (.iload 4, 2) := by decide +kernel
theorem d_S_writeBest_112 : decode b_S_writeBest 112 = .ok (.iaload, 1) := by decide +kernel
theorem d_S_writeBest_113 : decode b_S_writeBest 113 = .ok (.invokevirtual 73, 3) := by decide +kernel
theorem d_S_writeBest_116 : decode b_S_writeBest 116 = .ok (.aload_n 0, 1) := by decide +kernel
theorem d_S_writeBest_117 : decode b_S_writeBest 117 = .ok (.getfield 24, 3) := by decide +kernel
theorem d_S_writeBest_120 : decode b_S_writeBest 120 = .ok (.aload_n 0, 1) := by decide +kernel
theorem d_S_writeBest_121 : decode b_S_writeBest 121 = .ok (.getfield 18, 3) := by decide +kernel
theorem d_S_writeBest_124 : decode b_S_writeBest 124 = .ok (.iload 4, 2) := by decide +kernel
theorem d_S_writeBest_126 : decode b_S_writeBest 126 = .ok (.iaload, 1) := by decide +kernel
theorem d_S_writeBest_127 : decode b_S_writeBest 127 = .ok (.iload 4, 2) := by decide +kernel
theorem d_S_writeBest_129 : decode b_S_writeBest 129 = .ok (.invokevirtual 79, 3) := by decide +kernel
theorem d_S_writeBest_132 : decode b_S_writeBest 132 = .ok (.istore 4, 2) := by decide +kernel
theorem d_S_writeBest_134 : decode b_S_writeBest 134 = .ok (.iinc 5 1, 3) := by decide +kernel
theorem d_S_writeBest_137 : decode b_S_writeBest 137 = .ok (.goto (-50), 3) := by decide +kernel
theorem d_S_writeBest_140 : decode b_S_writeBest 140 = .ok (.return_, 1) := by decide +kernel
theorem d_S_leastOnward_0 : decode b_S_leastOnward 0 = .ok (.iconst 0, 1) := by decide +kernel
theorem d_S_leastOnward_1 : decode b_S_leastOnward 1 = .ok (.istore_n 2, 1) := by decide +kernel
theorem d_S_leastOnward_2 : decode b_S_leastOnward 2 = .ok (.iload_n 2, 1) := by decide +kernel
theorem d_S_leastOnward_3 : decode b_S_leastOnward 3 = .ok (.aload_n 0, 1) := by decide +kernel
theorem d_S_leastOnward_4 : decode b_S_leastOnward 4 = .ok (.getfield 24, 3) := by decide +kernel
theorem d_S_leastOnward_7 : decode b_S_leastOnward 7 = .ok (.getfield 49, 3) := by decide +kernel
theorem d_S_leastOnward_10 : decode b_S_leastOnward 10 = .ok (.if_icmp .ge 68, 3) := by decide +kernel
theorem d_S_leastOnward_13 : decode b_S_leastOnward 13 = .ok (.aload_n 0, 1) := by decide +kernel
theorem d_S_leastOnward_14 : decode b_S_leastOnward 14 = .ok (.getfield 24, 3) := by decide +kernel
theorem d_S_leastOnward_17 : decode b_S_leastOnward 17 = .ok (.iload_n 2, 1) := by decide +kernel
theorem d_S_leastOnward_18 : decode b_S_leastOnward 18 = .ok (.iload_n 1, 1) := by decide +kernel
theorem d_S_leastOnward_19 : decode b_S_leastOnward 19 = .ok (.invokevirtual 83, 3) := by decide +kernel
theorem d_S_leastOnward_22 : decode b_S_leastOnward 22 = .ok (.ifCond .eq 50, 3) := by decide +kernel
theorem d_S_leastOnward_25 : decode b_S_leastOnward 25 = .ok (.aload_n 0, 1) := by decide +kernel
theorem d_S_leastOnward_26 : decode b_S_leastOnward 26 = .ok (.getfield 24, 3) := by decide +kernel
theorem d_S_leastOnward_29 : decode b_S_leastOnward 29 = .ok (.iload_n 2, 1) := by decide +kernel
theorem d_S_leastOnward_30 : decode b_S_leastOnward 30 = .ok (.iload_n 1, 1) := by decide +kernel
theorem d_S_leastOnward_31 : decode b_S_leastOnward 31 = .ok (.invokevirtual 79, 3) := by decide +kernel
theorem d_S_leastOnward_34 : decode b_S_leastOnward 34 = .ok (.istore_n 3, 1) := by decide +kernel
theorem d_S_leastOnward_35 : decode b_S_leastOnward 35 = .ok (.aload_n 0, 1) := by decide +kernel
theorem d_S_leastOnward_36 : decode b_S_leastOnward 36 = .ok (.getfield 15, 3) := by decide +kernel
theorem d_S_leastOnward_39 : decode b_S_leastOnward 39 = .ok (.iload_n 3, 1) := by decide +kernel
theorem d_S_leastOnward_40 : decode b_S_leastOnward 40 = .ok (.iaload, 1) := by decide +kernel
theorem d_S_leastOnward_41 : decode b_S_leastOnward 41 = .ok (.aload_n 0, 1) := by decide +kernel
theorem d_S_leastOnward_42 : decode b_S_leastOnward 42 = .ok (.getfield 15, 3) := by decide +kernel
theorem d_S_leastOnward_45 : decode b_S_leastOnward 45 = .ok (.iload_n 1, 1) := by decide +kernel
theorem d_S_leastOnward_46 : decode b_S_leastOnward 46 = .ok (.iaload, 1) := by decide +kernel
theorem d_S_leastOnward_47 : decode b_S_leastOnward 47 = .ok (.aload_n 0, 1) := by decide +kernel
theorem d_S_leastOnward_48 : decode b_S_leastOnward 48 = .ok (.getfield 24, 3) := by decide +kernel
theorem d_S_leastOnward_51 : decode b_S_leastOnward 51 = .ok (.getfield 54, 3) := by decide +kernel
theorem d_S_leastOnward_54 : decode b_S_leastOnward 54 = .ok (.iload_n 2, 1) := by decide +kernel
theorem d_S_leastOnward_55 : decode b_S_leastOnward 55 = .ok (.iaload, 1) := by decide +kernel
theorem d_S_leastOnward_56 : decode b_S_leastOnward 56 = .ok (.iadd, 1) := by decide +kernel
theorem d_S_leastOnward_57 : decode b_S_leastOnward 57 = .ok (.if_icmp .ne 15, 3) := by decide +kernel
theorem d_S_leastOnward_60 : decode b_S_leastOnward 60 = .ok (.aload_n 0, 1) := by decide +kernel
theorem d_S_leastOnward_61 : decode b_S_leastOnward 61 = .ok (.getfield 18, 3) := by decide +kernel
theorem d_S_leastOnward_64 : decode b_S_leastOnward 64 = .ok (.iload_n 3, 1) := by decide +kernel
theorem d_S_leastOnward_65 : decode b_S_leastOnward 65 = .ok (.iaload, 1) := by decide +kernel
theorem d_S_leastOnward_66 : decode b_S_leastOnward 66 = .ok (.iconst (-1), 1) := by decide +kernel
theorem d_S_leastOnward_67 : decode b_S_leastOnward 67 = .ok (.if_icmp .eq 5, 3) := by decide +kernel
theorem d_S_leastOnward_70 : decode b_S_leastOnward 70 = .ok (.iload_n 2, 1) := by decide +kernel
theorem d_S_leastOnward_71 : decode b_S_leastOnward 71 = .ok (.ireturn, 1) := by decide +kernel
theorem d_S_leastOnward_72 : decode b_S_leastOnward 72 = .ok (.iinc 2 1, 3) := by decide +kernel
theorem d_S_leastOnward_75 : decode b_S_leastOnward 75 = .ok (.goto (-73), 3) := by decide +kernel
theorem d_S_leastOnward_78 : decode b_S_leastOnward 78 = .ok (.iconst (-1), 1) := by decide +kernel
theorem d_S_leastOnward_79 : decode b_S_leastOnward 79 = .ok (.ireturn, 1) := by decide +kernel
theorem d_S_forget_0 : decode b_S_forget 0 = .ok (.iconst 0, 1) := by decide +kernel
theorem d_S_forget_1 : decode b_S_forget 1 = .ok (.istore_n 1, 1) := by decide +kernel
theorem d_S_forget_2 : decode b_S_forget 2 = .ok (.iload_n 1, 1) := by decide +kernel
theorem d_S_forget_3 : decode b_S_forget 3 = .ok (.aload_n 0, 1) := by decide +kernel
theorem d_S_forget_4 : decode b_S_forget 4 = .ok (.getfield 45, 3) := by decide +kernel
theorem d_S_forget_7 : decode b_S_forget 7 = .ok (.if_icmp .ge 21, 3) := by decide +kernel
theorem d_S_forget_10 : decode b_S_forget 10 = .ok (.aload_n 0, 1) := by decide +kernel
theorem d_S_forget_11 : decode b_S_forget 11 = .ok (.getfield 15, 3) := by decide +kernel
theorem d_S_forget_14 : decode b_S_forget 14 = .ok (.aload_n 0, 1) := by decide +kernel
theorem d_S_forget_15 : decode b_S_forget 15 = .ok (.getfield 9, 3) := by decide +kernel
theorem d_S_forget_18 : decode b_S_forget 18 = .ok (.iload_n 1, 1) := by decide +kernel
theorem d_S_forget_19 : decode b_S_forget 19 = .ok (.iaload, 1) := by decide +kernel
theorem d_S_forget_20 : decode b_S_forget 20 = .ok (.iconst (-1), 1) := by decide +kernel
theorem d_S_forget_21 : decode b_S_forget 21 = .ok (.iastore, 1) := by decide +kernel
theorem d_S_forget_22 : decode b_S_forget 22 = .ok (.iinc 1 1, 3) := by decide +kernel
theorem d_S_forget_25 : decode b_S_forget 25 = .ok (.goto (-23), 3) := by decide +kernel
theorem d_S_forget_28 : decode b_S_forget 28 = .ok (.aload_n 0, 1) := by decide +kernel
theorem d_S_forget_29 : decode b_S_forget 29 = .ok (.iconst 0, 1) := by decide +kernel
theorem d_S_forget_30 : decode b_S_forget 30 = .ok (.putfield 45, 3) := by decide +kernel
theorem d_S_forget_33 : decode b_S_forget 33 = .ok (.return_, 1) := by decide +kernel
theorem d_S_lastSpent_0 : decode b_S_lastSpent 0 = .ok (.aload_n 0, 1) := by decide +kernel
theorem d_S_lastSpent_1 : decode b_S_lastSpent 1 = .ok (.getfield 45, 3) := by decide +kernel
theorem d_S_lastSpent_4 : decode b_S_lastSpent 4 = .ok (.ifCond .ne 7, 3) := by decide +kernel
theorem d_S_lastSpent_7 : decode b_S_lastSpent 7 = .ok (.iconst 0, 1) := by decide +kernel
theorem d_S_lastSpent_8 : decode b_S_lastSpent 8 = .ok (.goto 19, 3) := by decide +kernel
theorem d_S_lastSpent_11 : decode b_S_lastSpent 11 = .ok (.aload_n 0, 1) := by decide +kernel
theorem d_S_lastSpent_12 : decode b_S_lastSpent 12 = .ok (.getfield 15, 3) := by decide +kernel
theorem d_S_lastSpent_15 : decode b_S_lastSpent 15 = .ok (.aload_n 0, 1) := by decide +kernel
theorem d_S_lastSpent_16 : decode b_S_lastSpent 16 = .ok (.getfield 9, 3) := by decide +kernel
theorem d_S_lastSpent_19 : decode b_S_lastSpent 19 = .ok (.aload_n 0, 1) := by decide +kernel
theorem d_S_lastSpent_20 : decode b_S_lastSpent 20 = .ok (.getfield 45, 3) := by decide +kernel
theorem d_S_lastSpent_23 : decode b_S_lastSpent 23 = .ok (.iconst 1, 1) := by decide +kernel
theorem d_S_lastSpent_24 : decode b_S_lastSpent 24 = .ok (.isub, 1) := by decide +kernel
theorem d_S_lastSpent_25 : decode b_S_lastSpent 25 = .ok (.iaload, 1) := by decide +kernel
theorem d_S_lastSpent_26 : decode b_S_lastSpent 26 = .ok (.iaload, 1) := by decide +kernel
theorem d_S_lastSpent_27 : decode b_S_lastSpent 27 = .ok (.ireturn, 1) := by decide +kernel
theorem d_S_spread_0 : decode b_S_spread 0 = .ok (.aload_n 0, 1) := by decide +kernel
theorem d_S_spread_1 : decode b_S_spread 1 = .ok (.getfield 21, 3) := by decide +kernel
theorem d_S_spread_4 : decode b_S_spread 4 = .ok (.iload_n 2, 1) := by decide +kernel
theorem d_S_spread_5 : decode b_S_spread 5 = .ok (.iconst 1, 1) := by decide +kernel
theorem d_S_spread_6 : decode b_S_spread 6 = .ok (.iadd, 1) := by decide +kernel
theorem d_S_spread_7 : decode b_S_spread 7 = .ok (.bipush 10, 2) := by decide +kernel
theorem d_S_spread_9 : decode b_S_spread 9 = .ok (.irem, 1) := by decide +kernel
theorem d_S_spread_10 : decode b_S_spread 10 = .ok (.iaload, 1) := by decide +kernel
theorem d_S_spread_11 : decode b_S_spread 11 = .ok (.istore 4, 2) := by decide +kernel
theorem d_S_spread_13 : decode b_S_spread 13 = .ok (.aload_n 0, 1) := by decide +kernel
theorem d_S_spread_14 : decode b_S_spread 14 = .ok (.getfield 21, 3) := by decide +kernel
theorem d_S_spread_17 : decode b_S_spread 17 = .ok (.iload_n 2, 1) := by decide +kernel
theorem d_S_spread_18 : decode b_S_spread 18 = .ok (.bipush 10, 2) := by decide +kernel
theorem d_S_spread_20 : decode b_S_spread 20 = .ok (.irem, 1) := by decide +kernel
theorem d_S_spread_21 : decode b_S_spread 21 = .ok (.iaload, 1) := by decide +kernel
theorem d_S_spread_22 : decode b_S_spread 22 = .ok (.istore 5, 2) := by decide +kernel
theorem d_S_spread_24 : decode b_S_spread 24 = .ok (.iload 5, 2) := by decide +kernel
theorem d_S_spread_26 : decode b_S_spread 26 = .ok (.iload 4, 2) := by decide +kernel
theorem d_S_spread_28 : decode b_S_spread 28 = .ok (.if_icmp .ge 47, 3) := by decide +kernel
theorem d_S_spread_31 : decode b_S_spread 31 = .ok (.aload_n 0, 1) := by decide +kernel
theorem d_S_spread_32 : decode b_S_spread 32 = .ok (.getfield 24, 3) := by decide +kernel
theorem d_S_spread_35 : decode b_S_spread 35 = .ok (.iload_n 1, 1) := by decide +kernel
theorem d_S_spread_36 : decode b_S_spread 36 = .ok (.aload_n 0, 1) := by decide +kernel
theorem d_S_spread_37 : decode b_S_spread 37 = .ok (.getfield 9, 3) := by decide +kernel
theorem d_S_spread_40 : decode b_S_spread 40 = .ok (.iload 5, 2) := by decide +kernel
theorem d_S_spread_42 : decode b_S_spread 42 = .ok (.iaload, 1) := by decide +kernel
theorem d_S_spread_43 : decode b_S_spread 43 = .ok (.invokevirtual 83, 3) := by decide +kernel
theorem d_S_spread_46 : decode b_S_spread 46 = .ok (.ifCond .eq 23, 3) := by decide +kernel
theorem d_S_spread_49 : decode b_S_spread 49 = .ok (.aload_n 0, 1) := by decide +kernel
theorem d_S_spread_50 : decode b_S_spread 50 = .ok (.aload_n 0, 1) := by decide +kernel
theorem d_S_spread_51 : decode b_S_spread 51 = .ok (.getfield 24, 3) := by decide +kernel
theorem d_S_spread_54 : decode b_S_spread 54 = .ok (.iload_n 1, 1) := by decide +kernel
theorem d_S_spread_55 : decode b_S_spread 55 = .ok (.aload_n 0, 1) := by decide +kernel
theorem d_S_spread_56 : decode b_S_spread 56 = .ok (.getfield 9, 3) := by decide +kernel
theorem d_S_spread_59 : decode b_S_spread 59 = .ok (.iload 5, 2) := by decide +kernel
theorem d_S_spread_61 : decode b_S_spread 61 = .ok (.iaload, 1) := by decide +kernel
theorem d_S_spread_62 : decode b_S_spread 62 = .ok (.invokevirtual 79, 3) := by decide +kernel
theorem d_S_spread_65 : decode b_S_spread 65 = .ok (.iload_n 3, 1) := by decide +kernel
theorem d_S_spread_66 : decode b_S_spread 66 = .ok (.invokevirtual 37, 3) := by decide +kernel
theorem d_S_spread_69 : decode b_S_spread 69 = .ok (.iinc 5 1, 3) := by decide +kernel
theorem d_S_spread_72 : decode b_S_spread 72 = .ok (.goto (-48), 3) := by decide +kernel
theorem d_S_spread_75 : decode b_S_spread 75 = .ok (.return_, 1) := by decide +kernel
theorem d_S_settle_0 : decode b_S_settle 0 = .ok (.aload_n 0, 1) := by decide +kernel
theorem d_S_settle_1 : decode b_S_settle 1 = .ok (.getfield 15, 3) := by decide +kernel
theorem d_S_settle_4 : decode b_S_settle 4 = .ok (.iload_n 1, 1) := by decide +kernel
theorem d_S_settle_5 : decode b_S_settle 5 = .ok (.iaload, 1) := by decide +kernel
theorem d_S_settle_6 : decode b_S_settle 6 = .ok (.iconst (-1), 1) := by decide +kernel
theorem d_S_settle_7 : decode b_S_settle 7 = .ok (.if_icmp .ne 30, 3) := by decide +kernel
theorem d_S_settle_10 : decode b_S_settle 10 = .ok (.aload_n 0, 1) := by decide +kernel
theorem d_S_settle_11 : decode b_S_settle 11 = .ok (.getfield 15, 3) := by decide +kernel
theorem d_S_settle_14 : decode b_S_settle 14 = .ok (.iload_n 1, 1) := by decide +kernel
theorem d_S_settle_15 : decode b_S_settle 15 = .ok (.iload_n 2, 1) := by decide +kernel
theorem d_S_settle_16 : decode b_S_settle 16 = .ok (.iastore, 1) := by decide +kernel
theorem d_S_settle_17 : decode b_S_settle 17 = .ok (.aload_n 0, 1) := by decide +kernel
theorem d_S_settle_18 : decode b_S_settle 18 = .ok (.getfield 9, 3) := by decide +kernel
theorem d_S_settle_21 : decode b_S_settle 21 = .ok (.aload_n 0, 1) := by decide +kernel
theorem d_S_settle_22 : decode b_S_settle 22 = .ok (.getfield 45, 3) := by decide +kernel
theorem d_S_settle_25 : decode b_S_settle 25 = .ok (.iload_n 1, 1) := by decide +kernel
theorem d_S_settle_26 : decode b_S_settle 26 = .ok (.iastore, 1) := by decide +kernel
theorem d_S_settle_27 : decode b_S_settle 27 = .ok (.aload_n 0, 1) := by decide +kernel
theorem d_S_settle_28 : decode b_S_settle 28 = .ok (.dup, 1) := by decide +kernel
theorem d_S_settle_29 : decode b_S_settle 29 = .ok (.getfield 45, 3) := by decide +kernel
theorem d_S_settle_32 : decode b_S_settle 32 = .ok (.iconst 1, 1) := by decide +kernel
theorem d_S_settle_33 : decode b_S_settle 33 = .ok (.iadd, 1) := by decide +kernel
theorem d_S_settle_34 : decode b_S_settle 34 = .ok (.putfield 45, 3) := by decide +kernel
theorem d_S_settle_37 : decode b_S_settle 37 = .ok (.return_, 1) := by decide +kernel
