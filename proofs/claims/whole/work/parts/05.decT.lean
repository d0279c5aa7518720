theorem d_V_init_0 : decode b_V_init 0 = .ok (.aload_n 0, 1) := by decide +kernel
theorem d_V_init_1 : decode b_V_init 1 = .ok (.invokespecial 3, 3) := by decide +kernel
theorem d_V_init_4 : decode b_V_init 4 = .ok (.aload_n 0, 1) := by decide +kernel
theorem d_V_init_5 : decode b_V_init 5 = .ok (.bipush 10, 2) := by decide +kernel
theorem d_V_init_7 : decode b_V_init 7 = .ok (.newarray .int, 2) := by decide +kernel
theorem d_V_init_9 : decode b_V_init 9 = .ok (.putfield 9, 3) := by decide +kernel
theorem d_V_init_12 : decode b_V_init 12 = .ok (.aload_n 0, 1) := by decide +kernel
theorem d_V_init_13 : decode b_V_init 13 = .ok (.aload_n 1, 1) := by decide +kernel
theorem d_V_init_14 : decode b_V_init 14 = .ok (.putfield 15, 3) := by decide +kernel
theorem d_V_init_17 : decode b_V_init 17 = .ok (.return_, 1) := by decide +kernel
theorem d_V_measure_0 : decode b_V_measure 0 = .ok (.iconst 0, 1) := by decide +kernel
theorem d_V_measure_1 : decode b_V_measure 1 = .ok (.istore 5, 2) := by decide +kernel
theorem d_V_measure_3 : decode b_V_measure 3 = .ok (.iload 5, 2) := by decide +kernel
theorem d_V_measure_5 : decode b_V_measure 5 = .ok (.bipush 10, 2) := by decide +kernel
theorem d_V_measure_7 : decode b_V_measure 7 = .ok (.if_icmp .ge 31, 3) := by decide +kernel
theorem d_V_measure_10 : decode b_V_measure 10 = .ok (.aload_n 0, 1) := by decide +kernel
theorem d_V_measure_11 : decode b_V_measure 11 = .ok (.getfield 9, 3) := by decide +kernel
theorem d_V_measure_14 : decode b_V_measure 14 = .ok (.iload 5, 2) := by decide +kernel
theorem d_V_measure_16 : decode b_V_measure 16 = .ok (.iload_n 1, 1) := by decide +kernel
theorem d_V_measure_17 : decode b_V_measure 17 = .ok (.iload 5, 2) := by decide +kernel
theorem d_V_measure_19 : decode b_V_measure 19 = .ok (.invokestatic 19, 3) := by decide +kernel
theorem d_V_measure_22 : decode b_V_measure 22 = .ok (.ifCond .eq 7, 3) := by decide +kernel
theorem d_V_measure_25 : decode b_V_measure 25 = .ok (.iconst 0, 1) := by decide +kernel
theorem d_V_measure_26 : decode b_V_measure 26 = .ok (.goto 5, 3) := by decide +kernel
theorem d_V_measure_29 : decode b_V_measure 29 = .ok (.ldc 23, 2) := by decide +kernel
theorem d_V_measure_31 : decode b_V_measure 31 = .ok (.iastore, 1) := by decide +kernel
theorem d_V_measure_32 : decode b_V_measure 32 = .ok (.iinc 5 1, 3) := by decide +kernel
theorem d_V_measure_35 : decode b_V_measure 35 = .ok (.goto (-32), 3) := by decide +kernel
theorem d_V_measure_38 : decode b_V_measure 38 = .ok (.iconst 1, 1) := by decide +kernel
theorem d_V_measure_39 : decode b_V_measure 39 = .ok (.istore 5, 2) := by decide +kernel
theorem d_V_measure_41 : decode b_V_measure 41 = .ok (.iconst 0, 1) := by decide +kernel
theorem d_V_measure_42 : decode b_V_measure 42 = .ok (.istore 6, 2) := by decide +kernel
theorem d_V_measure_44 : decode b_V_measure 44 = .ok (.iload 6, 2) := by decide +kernel
theorem d_V_measure_46 : decode b_V_measure 46 = .ok (.bipush 10, 2) := by decide +kernel
theorem d_V_measure_48 : decode b_V_measure 48 = .ok (.if_icmp .ge 95, 3) := by decide +kernel
theorem d_V_measure_51 : decode b_V_measure 51 = .ok (.iload 5, 2) := by decide +kernel
theorem d_V_measure_53 : decode b_V_measure 53 = .ok (.ifCond .eq 90, 3) := by decide +kernel
theorem d_V_measure_56 : decode b_V_measure 56 = .ok (.iconst 0, 1) := by decide +kernel
theorem d_V_measure_57 : decode b_V_measure 57 = .ok (.istore 5, 2) := by decide +kernel
theorem d_V_measure_59 : decode b_V_measure 59 = .ok (.iconst 0, 1) := by decide +kernel
theorem d_V_measure_60 : decode b_V_measure 60 = .ok (.istore 7, 2) := by decide +kernel
theorem d_V_measure_62 : decode b_V_measure 62 = .ok (.iload 7, 2) := by decide +kernel
theorem d_V_measure_64 : decode b_V_measure 64 = .ok (.aload_n 0, 1) := by decide +kernel
theorem d_V_measure_65 : decode b_V_measure 65 = .ok (.getfield 15, 3) := by decide +kernel
theorem d_V_measure_68 : decode b_V_measure 68 = .ok (.getfield 24, 3) := by decide +kernel
theorem d_V_measure_71 : decode b_V_measure 71 = .ok (.if_icmp .ge 66, 3) := by decide +kernel
theorem d_V_measure_74 : decode b_V_measure 74 = .ok (.iload 4, 2) := by decide +kernel
theorem d_V_measure_76 : decode b_V_measure 76 = .ok (.iload 7, 2) := by decide +kernel
theorem d_V_measure_78 : decode b_V_measure 78 = .ok (.invokestatic 19, 3) := by decide +kernel
theorem d_V_measure_81 : decode b_V_measure 81 = .ok (.ifCond .ne 50, 3) := by decide +kernel
theorem d_V_measure_84 : decode b_V_measure 84 = .ok (.aload_n 2, 1) := by decide +kernel
theorem d_V_measure_85 : decode b_V_measure 85 = .ok (.iload 7, 2) := by decide +kernel
theorem d_V_measure_87 : decode b_V_measure 87 = .ok (.iaload, 1) := by decide +kernel
theorem d_V_measure_88 : decode b_V_measure 88 = .ok (.aload_n 0, 1) := by decide +kernel
theorem d_V_measure_89 : decode b_V_measure 89 = .ok (.aload_n 0, 1) := by decide +kernel
theorem d_V_measure_90 : decode b_V_measure 90 = .ok (.getfield 15, 3) := by decide +kernel
theorem d_V_measure_93 : decode b_V_measure 93 = .ok (.getfield 30, 3) := by decide +kernel
theorem d_V_measure_96 : decode b_V_measure 96 = .ok (.iconst 0, 1) := by decide +kernel
theorem d_V_measure_97 : decode b_V_measure 97 = .ok (.aaload, 1) := by decide +kernel
theorem d_V_measure_98 : decode b_V_measure 98 = .ok (.iload 7, 2) := by decide +kernel
theorem d_V_measure_100 : decode b_V_measure 100 = .ok (.iaload, 1) := by decide +kernel
theorem d_V_measure_101 : decode b_V_measure 101 = .ok (.iload_n 3, 1) := by decide +kernel
theorem d_V_measure_102 : decode b_V_measure 102 = .ok (.invokevirtual 34, 3) := by decide +kernel
theorem d_V_measure_105 : decode b_V_measure 105 = .ok (.iadd, 1) := by decide +kernel
theorem d_V_measure_106 : decode b_V_measure 106 = .ok (.istore 8, 2) := by decide +kernel
theorem d_V_measure_108 : decode b_V_measure 108 = .ok (.iload 5, 2) := by decide +kernel
theorem d_V_measure_110 : decode b_V_measure 110 = .ok (.aload_n 0, 1) := by decide +kernel
theorem d_V_measure_111 : decode b_V_measure 111 = .ok (.aload_n 0, 1) := by decide +kernel
theorem d_V_measure_112 : decode b_V_measure 112 = .ok (.getfield 15, 3) := by decide +kernel
theorem d_V_measure_115 : decode b_V_measure 115 = .ok (.getfield 30, 3) := by decide +kernel
theorem d_V_measure_118 : decode b_V_measure 118 = .ok (.iconst 1, 1) := by decide +kernel
theorem d_V_measure_119 : decode b_V_measure 119 = .ok (.aaload, 1) := by decide +kernel
theorem d_V_measure_120 : decode b_V_measure 120 = .ok (.iload 7, 2) := by decide +kernel
theorem d_V_measure_122 : decode b_V_measure 122 = .ok (.iaload, 1) := by decide +kernel
theorem d_V_measure_123 : decode b_V_measure 123 = .ok (.iload 8, 2) := by decide +kernel
theorem d_V_measure_125 : decode b_V_measure 125 = .ok (.invokevirtual 38, 3) := by decide +kernel
theorem d_V_measure_128 : decode b_V_measure 128 = .ok (.ior, 1) := by decide +kernel
theorem d_V_measure_129 : decode b_V_measure 129 = .ok (.istore 5, 2) := by decide +kernel
theorem d_V_measure_131 : decode b_V_measure 131 = .ok (.iinc 7 1, 3) := by decide +kernel
theorem d_V_measure_134 : decode b_V_measure 134 = .ok (.goto (-72), 3) := by decide +kernel
theorem d_V_measure_137 : decode b_V_measure 137 = .ok (.iinc 6 1, 3) := by decide +kernel
theorem d_V_measure_140 : decode b_V_measure 140 = .ok (.goto (-96), 3) := by decide +kernel
theorem d_V_measure_143 : decode b_V_measure 143 = .ok (.return_, 1) := by decide +kernel
theorem d_V_joined_0 : decode b_V_joined 0 = .ok (.iconst 0, 1) := by decide +kernel
theorem d_V_joined_1 : decode b_V_joined 1 = .ok (.istore_n 3, 1) := by decide +kernel
theorem d_V_joined_2 : decode b_V_joined 2 = .ok (.iconst 0, 1) := by decide +kernel
theorem d_V_joined_3 : decode b_V_joined 3 = .ok (.istore 4, 2) := by decide +kernel
theorem d_V_joined_5 : decode b_V_joined 5 = .ok (.iload 4, 2) := by decide +kernel
theorem d_V_joined_7 : decode b_V_joined 7 = .ok (.bipush 10, 2) := by decide +kernel
theorem d_V_joined_9 : decode b_V_joined 9 = .ok (.if_icmp .ge 46, 3) := by decide +kernel
theorem d_V_joined_12 : decode b_V_joined 12 = .ok (.iload_n 1, 1) := by decide +kernel
theorem d_V_joined_13 : decode b_V_joined 13 = .ok (.iload 4, 2) := by decide +kernel
theorem d_V_joined_15 : decode b_V_joined 15 = .ok (.invokestatic 19, 3) := by decide +kernel
theorem d_V_joined_18 : decode b_V_joined 18 = .ok (.ifCond .eq 31, 3) := by decide +kernel
theorem d_V_joined_21 : decode b_V_joined 21 = .ok (.iload_n 2, 1) := by decide +kernel
theorem d_V_joined_22 : decode b_V_joined 22 = .ok (.ifCond .eq 15, 3) := by decide +kernel
theorem d_V_joined_25 : decode b_V_joined 25 = .ok (.iload_n 3, 1) := by decide +kernel
theorem d_V_joined_26 : decode b_V_joined 26 = .ok (.aload_n 0, 1) := by decide +kernel
theorem d_V_joined_27 : decode b_V_joined 27 = .ok (.getfield 9, 3) := by decide +kernel
theorem d_V_joined_30 : decode b_V_joined 30 = .ok (.iload 4, 2) := by decide +kernel
theorem d_V_joined_32 : decode b_V_joined 32 = .ok (.iaload, 1) := by decide +kernel
theorem d_V_joined_33 : decode b_V_joined 33 = .ok (.iadd, 1) := by decide +kernel
theorem d_V_joined_34 : decode b_V_joined 34 = .ok (.goto 14, 3) := by decide +kernel
theorem d_V_joined_37 : decode b_V_joined 37 = .ok (.iload_n 3, 1) := by decide +kernel
theorem d_V_joined_38 : decode b_V_joined 38 = .ok (.aload_n 0, 1) := by decide +kernel
theorem d_V_joined_39 : decode b_V_joined 39 = .ok (.getfield 9, 3) := by decide +kernel
theorem d_V_joined_42 : decode b_V_joined 42 = .ok (.iload 4, 2) := by decide +kernel
theorem d_V_joined_44 : decode b_V_joined 44 = .ok (.iaload, 1) := by decide +kernel
theorem d_V_joined_45 : decode b_V_joined 45 = .ok (.invokestatic 41, 3) := by decide +kernel
theorem d_V_joined_48 : decode b_V_joined 48 = .ok (.istore_n 3, 1) := by decide +kernel
theorem d_V_joined_49 : decode b_V_joined 49 = .ok (.iinc 4 1, 3) := by decide +kernel
theorem d_V_joined_52 : decode b_V_joined 52 = .ok (.goto (-47), 3) := by decide +kernel
theorem d_V_joined_55 : decode b_V_joined 55 = .ok (.iload_n 3, 1) := by decide +kernel
theorem d_V_joined_56 : decode b_V_joined 56 = .ok (.ldc 23, 2) := by decide +kernel
theorem d_V_joined_58 : decode b_V_joined 58 = .ok (.invokestatic 47, 3) := by decide +kernel
theorem d_V_joined_61 : decode b_V_joined 61 = .ok (.ireturn, 1) := by decide +kernel
theorem d_V_baseOf_0 : decode b_V_baseOf 0 = .ok (.bipush 10, 2) := by decide +kernel
theorem d_V_baseOf_2 : decode b_V_baseOf 2 = .ok (.istore_n 2, 1) := by decide +kernel
theorem d_V_baseOf_3 : decode b_V_baseOf 3 = .ok (.iconst (-1), 1) := by decide +kernel
theorem d_V_baseOf_4 : decode b_V_baseOf 4 = .ok (.istore_n 3, 1) := by decide +kernel
theorem d_V_baseOf_5 : decode b_V_baseOf 5 = .ok (.iconst 0, 1) := by decide +kernel
theorem d_V_baseOf_6 : decode b_V_baseOf 6 = .ok (.istore 4, 2) := by decide +kernel
theorem d_V_baseOf_8 : decode b_V_baseOf 8 = .ok (.iload 4, 2) := by decide +kernel
theorem d_V_baseOf_10 : decode b_V_baseOf 10 = .ok (.bipush 10, 2) := by decide +kernel
theorem d_V_baseOf_12 : decode b_V_baseOf 12 = .ok (.if_icmp .ge 40, 3) := by decide +kernel
theorem d_V_baseOf_15 : decode b_V_baseOf 15 = .ok (.iload_n 1, 1) := by decide +kernel
theorem d_V_baseOf_16 : decode b_V_baseOf 16 = .ok (.iload 4, 2) := by decide +kernel
theorem d_V_baseOf_18 : decode b_V_baseOf 18 = .ok (.invokestatic 19, 3) := by decide +kernel
theorem d_V_baseOf_21 : decode b_V_baseOf 21 = .ok (.ifCond .eq 25, 3) := by decide +kernel
theorem d_V_baseOf_24 : decode b_V_baseOf 24 = .ok (.aload_n 0, 1) := by decide +kernel
theorem d_V_baseOf_25 : decode b_V_baseOf 25 = .ok (.getfield 9, 3) := by decide +kernel
theorem d_V_baseOf_28 : decode b_V_baseOf 28 = .ok (.iload 4, 2) := by decide +kernel
theorem d_V_baseOf_30 : decode b_V_baseOf 30 = .ok (.iaload, 1) := by decide +kernel
theorem d_V_baseOf_31 : decode b_V_baseOf 31 = .ok (.iload_n 3, 1) := by decide +kernel
theorem d_V_baseOf_32 : decode b_V_baseOf 32 = .ok (.if_icmp .le 14, 3) := by decide +kernel
theorem d_V_baseOf_35 : decode b_V_baseOf 35 = .ok (.iload 4, 2) := by decide +kernel
theorem d_V_baseOf_37 : decode b_V_baseOf 37 = .ok (.istore_n 2, 1) := by decide +kernel
theorem d_V_baseOf_38 : decode b_V_baseOf 38 = .ok (.aload_n 0, 1) := by decide +kernel
theorem d_V_baseOf_39 : decode b_V_baseOf 39 = .ok (.getfield 9, 3) := by decide +kernel
theorem d_V_baseOf_42 : decode b_V_baseOf 42 = .ok (.iload 4, 2) := by decide +kernel
theorem d_V_baseOf_44 : decode b_V_baseOf 44 = .ok (.iaload, 1) := by decide +kernel
theorem d_V_baseOf_45 : decode b_V_baseOf 45 = .ok (.istore_n 3, 1) := by decide +kernel
theorem d_V_baseOf_46 : decode b_V_baseOf 46 = .ok (.iinc 4 1, 3) := by decide +kernel
theorem d_V_baseOf_49 : decode b_V_baseOf 49 = .ok (.goto (-41), 3) := by decide +kernel
theorem d_V_baseOf_52 : decode b_V_baseOf 52 = .ok (.iload_n 3, 1) := by decide +kernel
theorem d_V_baseOf_53 : decode b_V_baseOf 53 = .ok (.ldc 23, 2) := by decide +kernel
theorem d_V_baseOf_55 : decode b_V_baseOf 55 = .ok (.if_icmp .lt 7, 3) := by decide +kernel
theorem d_V_baseOf_58 : decode b_V_baseOf 58 = .ok (.iconst (-1), 1) := by decide +kernel
theorem d_V_baseOf_59 : decode b_V_baseOf 59 = .ok (.goto 4, 3) := by decide +kernel
theorem d_V_baseOf_62 : decode b_V_baseOf 62 = .ok (.iload_n 2, 1) := by decide +kernel
theorem d_V_baseOf_63 : decode b_V_baseOf 63 = .ok (.ireturn, 1) := by decide +kernel
theorem d_V_lower_0 : decode b_V_lower 0 = .ok (.iconst 0, 1) := by decide +kernel
theorem d_V_lower_1 : decode b_V_lower 1 = .ok (.istore_n 3, 1) := by decide +kernel
theorem d_V_lower_2 : decode b_V_lower 2 = .ok (.iconst 0, 1) := by decide +kernel
theorem d_V_lower_3 : decode b_V_lower 3 = .ok (.istore 4, 2) := by decide +kernel
theorem d_V_lower_5 : decode b_V_lower 5 = .ok (.iload 4, 2) := by decide +kernel
theorem d_V_lower_7 : decode b_V_lower 7 = .ok (.bipush 10, 2) := by decide +kernel
theorem d_V_lower_9 : decode b_V_lower 9 = .ok (.if_icmp .ge 39, 3) := by decide +kernel
theorem d_V_lower_12 : decode b_V_lower 12 = .ok (.iload_n 1, 1) := by decide +kernel
theorem d_V_lower_13 : decode b_V_lower 13 = .ok (.iload 4, 2) := by decide +kernel
theorem d_V_lower_15 : decode b_V_lower 15 = .ok (.invokestatic 19, 3) := by decide +kernel
theorem d_V_lower_18 : decode b_V_lower 18 = .ok (.ifCond .eq 24, 3) := by decide +kernel
theorem d_V_lower_21 : decode b_V_lower 21 = .ok (.iload_n 2, 1) := by decide +kernel
theorem d_V_lower_22 : decode b_V_lower 22 = .ok (.aload_n 0, 1) := by decide +kernel
theorem d_V_lower_23 : decode b_V_lower 23 = .ok (.getfield 9, 3) := by decide +kernel
theorem d_V_lower_26 : decode b_V_lower 26 = .ok (.iload 4, 2) := by decide +kernel
theorem d_V_lower_28 : decode b_V_lower 28 = .ok (.iaload, 1) := by decide +kernel
theorem d_V_lower_29 : decode b_V_lower 29 = .ok (.if_icmp .ge 13, 3) := by decide +kernel
theorem d_V_lower_32 : decode b_V_lower 32 = .ok (.aload_n 0, 1) := by decide +kernel
theorem d_V_lower_33 : decode b_V_lower 33 = .ok (.getfield 9, 3) := by decide +kernel
theorem d_V_lower_36 : decode b_V_lower 36 = .ok (.iload 4, 2) := by decide +kernel
theorem d_V_lower_38 : decode b_V_lower 38 = .ok (.iload_n 2, 1) := by decide +kernel
theorem d_V_lower_39 : decode b_V_lower 39 = .ok (.iastore, 1) := by decide +kernel
theorem d_V_lower_40 : decode b_V_lower 40 = .ok (.iconst 1, 1) := by decide +kernel
theorem d_V_lower_41 : decode b_V_lower 41 = .ok (.istore_n 3, 1) := by decide +kernel
theorem d_V_lower_42 : decode b_V_lower 42 = .ok (.iinc 4 1, 3) := by decide +kernel
theorem d_V_lower_45 : decode b_V_lower 45 = .ok (.goto (-40), 3) := by decide +kernel
theorem d_V_lower_48 : decode b_V_lower 48 = .ok (.iload_n 3, 1) := by decide +kernel
theorem d_V_lower_49 : decode b_V_lower 49 = .ok (.ireturn, 1) := by decide +kernel
theorem d_R_init_0 : decode b_R_init 0 = .ok (.aload_n 0, 1) := by decide +kernel
theorem d_R_init_1 : decode b_R_init 1 = .ok (.invokespecial 1, 3) := by decide +kernel
theorem d_R_init_4 : decode b_R_init 4 = .ok (.aload_n 0, 1) := by decide +kernel
theorem d_R_init_5 : decode b_R_init 5 = .ok (.iload_n 1, 1) := by decide +kernel
theorem d_R_init_6 : decode b_R_init 6 = .ok (.newarray .int, 2) := by decide +kernel
theorem d_R_init_8 : decode b_R_init 8 = .ok (.putfield 7, 3) := by decide +kernel
theorem d_R_init_11 : decode b_R_init 11 = .ok (.return_, 1) := by decide +kernel
theorem d_R_empty_0 : decode b_R_empty 0 = .ok (.aload_n 0, 1) := by decide +kernel
theorem d_R_empty_1 : decode b_R_empty 1 = .ok (.iconst 0, 1) := by decide +kernel
theorem d_R_empty_2 : decode b_R_empty 2 = .ok (.putfield 13, 3) := by decide +kernel
theorem d_R_empty_5 : decode b_R_empty 5 = .ok (.return_, 1) := by decide +kernel
theorem d_R_append_0 : decode b_R_append 0 = .ok (.aload_n 0, 1) := by decide +kernel
theorem d_R_append_1 : decode b_R_append 1 = .ok (.getfield 13, 3) := by decide +kernel
theorem d_R_append_4 : decode b_R_append 4 = .ok (.aload_n 0, 1) := by decide +kernel
theorem d_R_append_5 : decode b_R_append 5 = .ok (.getfield 7, 3) := by decide +kernel
theorem d_R_append_8 : decode b_R_append 8 = .ok (.arraylength, 1) := by decide +kernel
theorem d_R_append_9 : decode b_R_append 9 = .ok (.if_icmp .ge 23, 3) := by decide +kernel
theorem d_R_append_12 : decode b_R_append 12 = .ok (.aload_n 0, 1) := by decide +kernel
theorem d_R_append_13 : decode b_R_append 13 = .ok (.getfield 7, 3) := by decide +kernel
theorem d_R_append_16 : decode b_R_append 16 = .ok (.aload_n 0, 1) := by decide +kernel
theorem d_R_append_17 : decode b_R_append 17 = .ok (.getfield 13, 3) := by decide +kernel
theorem d_R_append_20 : decode b_R_append 20 = .ok (.iload_n 1, 1) := by decide +kernel
theorem d_R_append_21 : decode b_R_append 21 = .ok (.iastore, 1) := by decide +kernel
theorem d_R_append_22 : decode b_R_append 22 = .ok (.aload_n 0, 1) := by decide +kernel
theorem d_R_append_23 : decode b_R_append 23 = .ok (.dup, 1) := by decide +kernel
theorem d_R_append_24 : decode b_R_append 24 = .ok (.getfield 13, 3) := by decide +kernel
theorem d_R_append_27 : decode b_R_append 27 = .ok (.iconst 1, 1) := by decide +kernel
theorem d_R_append_28 : decode b_R_append 28 = .ok (.iadd, 1) := by decide +kernel
theorem d_R_append_29 : decode b_R_append 29 = .ok (.putfield 13, 3) := by decide +kernel
theorem d_R_append_32 : decode b_R_append 32 = .ok (.return_, 1) := by decide +kernel
theorem d_T_init_0 : decode b_T_init 0 = .ok (.aload_n 0, 1) := by decide +kernel
theorem d_T_init_1 : decode b_T_init 1 = .ok (.invokespecial 3, 3) := by decide +kernel
theorem d_T_init_4 : decode b_T_init 4 = .ok (.aload_n 0, 1) := by decide +kernel
theorem d_T_init_5 : decode b_T_init 5 = .ok (.bipush 12, 2) := by decide +kernel
theorem d_T_init_7 : decode b_T_init 7 = .ok (.newarray .int, 2) := by decide +kernel
theorem d_T_init_9 : decode b_T_init 9 = .ok (.putfield 9, 3) := by decide +kernel
theorem d_T_init_12 : decode b_T_init 12 = .ok (.aload_n 0, 1) := by decide +kernel
theorem d_T_init_13 : decode b_T_init 13 = .ok (.iconst 3, 1) := by decide +kernel
theorem d_T_init_14 : decode b_T_init 14 = .ok (.bipush 12, 2) := by decide +kernel
theorem d_T_init_16 : decode b_T_init 16 = .ok (.multianewarray 15 2, 4) := by decide +kernel
theorem d_T_init_20 : decode b_T_init 20 = .ok (.putfield 17, 3) := by decide +kernel
theorem d_T_init_23 : decode b_T_init 23 = .ok (.return_, 1) := by decide +kernel
theorem d_T_newFact_0 : decode b_T_newFact 0 = .ok (.aload_n 0, 1) := by decide +kernel
theorem d_T_newFact_1 : decode b_T_newFact 1 = .ok (.getfield 20, 3) := by decide +kernel
theorem d_T_newFact_4 : decode b_T_newFact 4 = .ok (.istore_n 3, 1) := by decide +kernel
theorem d_T_newFact_5 : decode b_T_newFact 5 = .ok (.iload_n 1, 1) := by decide +kernel
theorem d_T_newFact_6 : decode b_T_newFact 6 = .ok (.ifCond .eq 15, 3) := by decide +kernel
theorem d_T_newFact_9 : decode b_T_newFact 9 = .ok (.aload_n 0, 1) := by decide +kernel
theorem d_T_newFact_10 : decode b_T_newFact 10 = .ok (.dup, 1) := by decide +kernel
theorem d_T_newFact_11 : decode b_T_newFact 11 = .ok (.getfield 24, 3) := by decide +kernel
theorem d_T_newFact_14 : decode b_T_newFact 14 = .ok (.iconst 1, 1) := by decide +kernel
theorem d_T_newFact_15 : decode b_T_newFact 15 = .ok (.iload_n 3, 1) := by decide +kernel
theorem d_T_newFact_16 : decode b_T_newFact 16 = .ok (.ishl, 1) := by decide +kernel
theorem d_T_newFact_17 : decode b_T_newFact 17 = .ok (.ior, 1) := by decide +kernel
theorem d_T_newFact_18 : decode b_T_newFact 18 = .ok (.putfield 24, 3) := by decide +kernel
theorem d_T_newFact_21 : decode b_T_newFact 21 = .ok (.iload_n 2, 1) := by decide +kernel
theorem d_T_newFact_22 : decode b_T_newFact 22 = .ok (.ifCond .eq 15, 3) := by decide +kernel
theorem d_T_newFact_25 : decode b_T_newFact 25 = .ok (.aload_n 0, 1) := by decide +kernel
theorem d_T_newFact_26 : decode b_T_newFact 26 = .ok (.dup, 1) := by decide +kernel
theorem d_T_newFact_27 : decode b_T_newFact 27 = .ok (.getfield 27, 3) := by decide +kernel
theorem d_T_newFact_30 : decode b_T_newFact 30 = .ok (.iconst 1, 1) := by decide +kernel
theorem d_T_newFact_31 : decode b_T_newFact 31 = .ok (.iload_n 3, 1) := by decide +kernel
theorem d_T_newFact_32 : decode b_T_newFact 32 = .ok (.ishl, 1) := by decide +kernel
theorem d_T_newFact_33 : decode b_T_newFact 33 = .ok (.ior, 1) := by decide +kernel
theorem d_T_newFact_34 : decode b_T_newFact 34 = .ok (.putfield 27, 3) := by decide +kernel
theorem d_T_newFact_37 : decode b_T_newFact 37 = .ok (.aload_n 0, 1) := by decide +kernel
theorem d_T_newFact_38 : decode b_T_newFact 38 = .ok (.dup, 1) := by decide +kernel
theorem d_T_newFact_39 : decode b_T_newFact 39 = .ok (.getfield 20, 3) := by decide +kernel
theorem d_T_newFact_42 : decode b_T_newFact 42 = .ok (.iconst 1, 1) := by decide +kernel
theorem d_T_newFact_43 : decode b_T_newFact 43 = .ok (.iadd, 1) := by decide +kernel
theorem d_T_newFact_44 : decode b_T_newFact 44 = .ok (.putfield 20, 3) := by decide +kernel
theorem d_T_newFact_47 : decode b_T_newFact 47 = .ok (.iload_n 3, 1) := by decide +kernel
theorem d_T_newFact_48 : decode b_T_newFact 48 = .ok (.ireturn, 1) := by decide +kernel
theorem d_T_newAction_0 : decode b_T_newAction 0 = .ok (.aload_n 0, 1) := by decide +kernel
theorem d_T_newAction_1 : decode b_T_newAction 1 = .ok (.getfield 30, 3) := by decide +kernel
theorem d_T_newAction_4 : decode b_T_newAction 4 = .ok (.istore_n 2, 1) := by decide +kernel
theorem d_T_newAction_5 : decode b_T_newAction 5 = .ok (.aload_n 0, 1) := by decide +kernel
theorem d_T_newAction_6 : decode b_T_newAction 6 = .ok (.getfield 9, 3) := by decide +kernel
theorem d_T_newAction_9 : decode b_T_newAction 9 = .ok (.iload_n 2, 1) := by decide +kernel
theorem d_T_newAction_10 : decode b_T_newAction 10 = .ok (.iload_n 1, 1) := by decide +kernel
theorem d_T_newAction_11 : decode b_T_newAction 11 = .ok (.iastore, 1) := by decide +kernel
theorem d_T_newAction_12 : decode b_T_newAction 12 = .ok (.aload_n 0, 1) := by decide +kernel
theorem d_T_newAction_13 : decode b_T_newAction 13 = .ok (.dup, 1) := by decide +kernel
theorem d_T_newAction_14 : decode b_T_newAction 14 = .ok (.getfield 30, 3) := by decide +kernel
theorem d_T_newAction_17 : decode b_T_newAction 17 = .ok (.iconst 1, 1) := by decide +kernel
theorem d_T_newAction_18 : decode b_T_newAction 18 = .ok (.iadd, 1) := by decide +kernel
theorem d_T_newAction_19 : decode b_T_newAction 19 = .ok (.putfield 30, 3) := by decide +kernel
theorem d_T_newAction_22 : decode b_T_newAction 22 = .ok (.iload_n 2, 1) := by decide +kernel
theorem d_T_newAction_23 : decode b_T_newAction 23 = .ok (.ireturn, 1) := by decide +kernel
theorem d_T_allows_0 : decode b_T_allows 0 = .ok (.iload_n 2, 1) := by decide +kernel
theorem d_T_allows_1 : decode b_T_allows 1 = .ok (.aload_n 0, 1) := by decide +kernel
theorem d_T_allows_2 : decode b_T_allows 2 = .ok (.getfield 17, 3) := by decide +kernel
theorem d_T_allows_5 : decode b_T_allows 5 = .ok (.iconst 0, 1) := by decide +kernel
theorem d_T_allows_6 : decode b_T_allows 6 = .ok (.aaload, 1) := by decide +kernel
theorem d_T_allows_7 : decode b_T_allows 7 = .ok (.iload_n 1, 1) := by decide +kernel
theorem d_T_allows_8 : decode b_T_allows 8 = .ok (.iaload, 1) := by decide +kernel
theorem d_T_allows_9 : decode b_T_allows 9 = .ok (.invokestatic 33, 3) := by decide +kernel
theorem d_T_allows_12 : decode b_T_allows 12 = .ok (.ireturn, 1) := by decide +kernel
theorem d_T_after_0 : decode b_T_after 0 = .ok (.iload_n 2, 1) := by decide +kernel
theorem d_T_after_1 : decode b_T_after 1 = .ok (.aload_n 0, 1) := by decide +kernel
theorem d_T_after_2 : decode b_T_after 2 = .ok (.getfield 17, 3) := by decide +kernel
theorem d_T_after_5 : decode b_T_after 5 = .ok (.iconst 2, 1) := by decide +kernel
theorem d_T_after_6 : decode b_T_after 6 = .ok (.aaload, 1) := by decide +kernel
theorem d_T_after_7 : decode b_T_after 7 = .ok (.iload_n 1, 1) := by decide +kernel
theorem d_T_after_8 : decode b_T_after 8 = .ok (.iaload, 1) := by decide +kernel
theorem d_T_after_9 : decode b_T_after 9 = .ok (.iconst (-1), 1) := by decide +kernel
theorem d_T_after_10 : decode b_T_after 10 = .ok (.ixor, 1) := by decide +kernel
theorem d_T_after_11 : decode b_T_after 11 = .ok (.iand, 1) := by decide +kernel
theorem d_T_after_12 : decode b_T_after 12 = .ok (.aload_n 0, 1) := by decide +kernel
theorem d_T_after_13 : decode b_T_after 13 = .ok (.getfield 17, 3) := by decide +kernel
theorem d_T_after_16 : decode b_T_after 16 = .ok (.iconst 1, 1) := by decide +kernel
theorem d_T_after_17 : decode b_T_after 17 = .ok (.aaload, 1) := by decide +kernel
theorem d_T_after_18 : decode b_T_after 18 = .ok (.iload_n 1, 1) := by decide +kernel
theorem d_T_after_19 : decode b_T_after 19 = .ok (.iaload, 1) := by decide +kernel
theorem d_T_after_20 : decode b_T_after 20 = .ok (.ior, 1) := by decide +kernel
theorem d_T_after_21 : decode b_T_after 21 = .ok (.ireturn, 1) := by decide +kernel
theorem d_T_isMet_0 : decode b_T_isMet 0 = .ok (.iload_n 1, 1) := by decide +kernel
theorem d_T_isMet_1 : decode b_T_isMet 1 = .ok (.aload_n 0, 1) := by decide +kernel
theorem d_T_isMet_2 : decode b_T_isMet 2 = .ok (.getfield 27, 3) := by decide +kernel
theorem d_T_isMet_5 : decode b_T_isMet 5 = .ok (.invokestatic 33, 3) := by decide +kernel
theorem d_T_isMet_8 : decode b_T_isMet 8 = .ok (.ireturn, 1) := by decide +kernel
theorem d_T_addersOf_0 : decode b_T_addersOf 0 = .ok (.iconst 0, 1) := by decide +kernel
theorem d_T_addersOf_1 : decode b_T_addersOf 1 = .ok (.istore_n 2, 1) := by decide +kernel
theorem d_T_addersOf_2 : decode b_T_addersOf 2 = .ok (.iconst 0, 1) := by decide +kernel
theorem d_T_addersOf_3 : decode b_T_addersOf 3 = .ok (.istore_n 3, 1) := by decide +kernel
theorem d_T_addersOf_4 : decode b_T_addersOf 4 = .ok (.iload_n 3, 1) := by decide +kernel
theorem d_T_addersOf_5 : decode b_T_addersOf 5 = .ok (.aload_n 0, 1) := by decide +kernel
theorem d_T_addersOf_6 : decode b_T_addersOf 6 = .ok (.getfield 30, 3) := by decide +kernel
theorem d_T_addersOf_9 : decode b_T_addersOf 9 = .ok (.if_icmp .ge 30, 3) := by decide +kernel
theorem d_T_addersOf_12 : decode b_T_addersOf 12 = .ok (.aload_n 0, 1) := by decide +kernel
theorem d_T_addersOf_13 : decode b_T_addersOf 13 = .ok (.getfield 17, 3) := by decide +kernel
theorem d_T_addersOf_16 : decode b_T_addersOf 16 = .ok (.iconst 1, 1) := by decide +kernel
theorem d_T_addersOf_17 : decode b_T_addersOf 17 = .ok (.aaload, 1) := by decide +kernel
theorem d_T_addersOf_18 : decode b_T_addersOf 18 = .ok (.iload_n 3, 1) := by decide +kernel
theorem d_T_addersOf_19 : decode b_T_addersOf 19 = .ok (.iaload, 1) := by decide +kernel
theorem d_T_addersOf_20 : decode b_T_addersOf 20 = .ok (.iload_n 1, 1) := by decide +kernel
theorem d_T_addersOf_21 : decode b_T_addersOf 21 = .ok (.invokestatic 37, 3) := by decide +kernel
theorem d_T_addersOf_24 : decode b_T_addersOf 24 = .ok (.ifCond .eq 9, 3) := by decide +kernel
theorem d_T_addersOf_27 : decode b_T_addersOf 27 = .ok (.iload_n 2, 1) := by decide +kernel
theorem d_T_addersOf_28 : decode b_T_addersOf 28 = .ok (.iconst 1, 1) := by decide +kernel
theorem d_T_addersOf_29 : decode b_T_addersOf 29 = .ok (.iload_n 3, 1) := by decide +kernel
theorem d_T_addersOf_30 : decode b_T_addersOf 30 = .ok (.ishl, 1) := by decide +kernel
theorem d_T_addersOf_31 : decode b_T_addersOf 31 = .ok (.ior, 1) := by decide +kernel
theorem d_T_addersOf_32 : decode b_T_addersOf 32 = .ok (.istore_n 2, 1) := by decide +kernel
theorem d_T_addersOf_33 : decode b_T_addersOf 33 = .ok (.iinc 3 1, 3) := by decide +kernel
theorem d_T_addersOf_36 : decode b_T_addersOf 36 = .ok (.goto (-32), 3) := by decide +kernel
theorem d_T_addersOf_39 : decode b_T_addersOf 39 = .ok (.iload_n 2, 1) := by decide +kernel
theorem d_T_addersOf_40 : decode b_T_addersOf 40 = .ok (.ireturn, 1) := by decide +kernel
