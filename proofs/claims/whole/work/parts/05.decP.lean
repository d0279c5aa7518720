theorem d_P_init_0 : decode b_P_init 0 = .ok (.aload_n 0, 1) := by decide +kernel
theorem d_P_init_1 : decode b_P_init 1 = .ok (.invokespecial 3, 3) := by decide +kernel
theorem d_P_init_4 : decode b_P_init 4 = .ok (.aload_n 0, 1) := by decide +kernel
theorem d_P_init_5 : decode b_P_init 5 = .ok (.new 9, 3) := by decide +kernel
theorem d_P_init_8 : decode b_P_init 8 = .ok (.dup, 1) := by decide +kernel
theorem d_P_init_9 : decode b_P_init 9 = .ok (.invokespecial 11, 3) := by decide +kernel
theorem d_P_init_12 : decode b_P_init 12 = .ok (.putfield 12, 3) := by decide +kernel
theorem d_P_init_15 : decode b_P_init 15 = .ok (.aload_n 0, 1) := by decide +kernel
theorem d_P_init_16 : decode b_P_init 16 = .ok (.new 16, 3) := by decide +kernel
theorem d_P_init_19 : decode b_P_init 19 = .ok (.dup, 1) := by decide +kernel
theorem d_P_init_20 : decode b_P_init 20 = .ok (.aload_n 0, 1) := by decide +kernel
theorem d_P_init_21 : decode b_P_init 21 = .ok (.getfield 12, 3) := by decide +kernel
theorem d_P_init_24 : decode b_P_init 24 = .ok (.invokespecial 18, 3) := by decide +kernel
theorem d_P_init_27 : decode b_P_init 27 = .ok (.putfield 21, 3) := by decide +kernel
theorem d_P_init_30 : decode b_P_init 30 = .ok (.aload_n 0, 1) := by decide +kernel
theorem d_P_init_31 : decode b_P_init 31 = .ok (.new 25, 3) := by decide +kernel
theorem d_P_init_34 : decode b_P_init 34 = .ok (.dup, 1) := by decide +kernel
theorem d_P_init_35 : decode b_P_init 35 = .ok (.sipush 1023, 3) := by decide +kernel
theorem d_P_init_38 : decode b_P_init 38 = .ok (.invokespecial 27, 3) := by decide +kernel
theorem d_P_init_41 : decode b_P_init 41 = .ok (.putfield 30, 3) := by decide +kernel
theorem d_P_init_44 : decode b_P_init 44 = .ok (.aload_n 0, 1) := by decide +kernel
theorem d_P_init_45 : decode b_P_init 45 = .ok (.new 25, 3) := by decide +kernel
theorem d_P_init_48 : decode b_P_init 48 = .ok (.dup, 1) := by decide +kernel
theorem d_P_init_49 : decode b_P_init 49 = .ok (.bipush 24, 2) := by decide +kernel
theorem d_P_init_51 : decode b_P_init 51 = .ok (.invokespecial 27, 3) := by decide +kernel
theorem d_P_init_54 : decode b_P_init 54 = .ok (.putfield 34, 3) := by decide +kernel
theorem d_P_init_57 : decode b_P_init 57 = .ok (.aload_n 0, 1) := by decide +kernel
theorem d_P_init_58 : decode b_P_init 58 = .ok (.new 37, 3) := by decide +kernel
theorem d_P_init_61 : decode b_P_init 61 = .ok (.dup, 1) := by decide +kernel
theorem d_P_init_62 : decode b_P_init 62 = .ok (.aload_n 0, 1) := by decide +kernel
theorem d_P_init_63 : decode b_P_init 63 = .ok (.getfield 12, 3) := by decide +kernel
theorem d_P_init_66 : decode b_P_init 66 = .ok (.invokespecial 39, 3) := by decide +kernel
theorem d_P_init_69 : decode b_P_init 69 = .ok (.putfield 40, 3) := by decide +kernel
theorem d_P_init_72 : decode b_P_init 72 = .ok (.aload_n 0, 1) := by decide +kernel
theorem d_P_init_73 : decode b_P_init 73 = .ok (.new 44, 3) := by decide +kernel
theorem d_P_init_76 : decode b_P_init 76 = .ok (.dup, 1) := by decide +kernel
theorem d_P_init_77 : decode b_P_init 77 = .ok (.aload_n 0, 1) := by decide +kernel
theorem d_P_init_78 : decode b_P_init 78 = .ok (.getfield 12, 3) := by decide +kernel
theorem d_P_init_81 : decode b_P_init 81 = .ok (.aload_n 0, 1) := by decide +kernel
theorem d_P_init_82 : decode b_P_init 82 = .ok (.getfield 40, 3) := by decide +kernel
theorem d_P_init_85 : decode b_P_init 85 = .ok (.invokespecial 46, 3) := by decide +kernel
theorem d_P_init_88 : decode b_P_init 88 = .ok (.putfield 49, 3) := by decide +kernel
theorem d_P_init_91 : decode b_P_init 91 = .ok (.aload_n 0, 1) := by decide +kernel
theorem d_P_init_92 : decode b_P_init 92 = .ok (.iconst 0, 1) := by decide +kernel
theorem d_P_init_93 : decode b_P_init 93 = .ok (.putfield 53, 3) := by decide +kernel
theorem d_P_init_96 : decode b_P_init 96 = .ok (.return_, 1) := by decide +kernel
theorem d_P_fact_0 : decode b_P_fact 0 = .ok (.aload_n 0, 1) := by decide +kernel
theorem d_P_fact_1 : decode b_P_fact 1 = .ok (.getfield 12, 3) := by decide +kernel
theorem d_P_fact_4 : decode b_P_fact 4 = .ok (.getfield 57, 3) := by decide +kernel
theorem d_P_fact_7 : decode b_P_fact 7 = .ok (.bipush 10, 2) := by decide +kernel
theorem d_P_fact_9 : decode b_P_fact 9 = .ok (.if_icmp .lt 13, 3) := by decide +kernel
theorem d_P_fact_12 : decode b_P_fact 12 = .ok (.new 60, 3) := by decide +kernel
theorem d_P_fact_15 : decode b_P_fact 15 = .ok (.dup, 1) := by decide +kernel
theorem d_P_fact_16 : decode b_P_fact 16 = .ok (.ldc 62, 2) := by decide +kernel
theorem d_P_fact_18 : decode b_P_fact 18 = .ok (.invokespecial 64, 3) := by decide +kernel
theorem d_P_fact_21 : decode b_P_fact 21 = .ok (.athrow, 1) := by decide +kernel
theorem d_P_fact_22 : decode b_P_fact 22 = .ok (.aload_n 0, 1) := by decide +kernel
theorem d_P_fact_23 : decode b_P_fact 23 = .ok (.getfield 12, 3) := by decide +kernel
theorem d_P_fact_26 : decode b_P_fact 26 = .ok (.iload_n 1, 1) := by decide +kernel
theorem d_P_fact_27 : decode b_P_fact 27 = .ok (.iload_n 2, 1) := by decide +kernel
theorem d_P_fact_28 : decode b_P_fact 28 = .ok (.invokevirtual 67, 3) := by decide +kernel
theorem d_P_fact_31 : decode b_P_fact 31 = .ok (.istore_n 3, 1) := by decide +kernel
theorem d_P_fact_32 : decode b_P_fact 32 = .ok (.aload_n 0, 1) := by decide +kernel
theorem d_P_fact_33 : decode b_P_fact 33 = .ok (.invokevirtual 71, 3) := by decide +kernel
theorem d_P_fact_36 : decode b_P_fact 36 = .ok (.iload_n 3, 1) := by decide +kernel
theorem d_P_fact_37 : decode b_P_fact 37 = .ok (.ireturn, 1) := by decide +kernel
theorem d_P_action_0 : decode b_P_action 0 = .ok (.iload_n 1, 1) := by decide +kernel
theorem d_P_action_1 : decode b_P_action 1 = .ok (.iconst 1, 1) := by decide +kernel
theorem d_P_action_2 : decode b_P_action 2 = .ok (.if_icmp .lt 9, 3) := by decide +kernel
theorem d_P_action_5 : decode b_P_action 5 = .ok (.iload_n 1, 1) := by decide +kernel
theorem d_P_action_6 : decode b_P_action 6 = .ok (.bipush 9, 2) := by decide +kernel
theorem d_P_action_8 : decode b_P_action 8 = .ok (.if_icmp .le 13, 3) := by decide +kernel
theorem d_P_action_11 : decode b_P_action 11 = .ok (.new 74, 3) := by decide +kernel
theorem d_P_action_14 : decode b_P_action 14 = .ok (.dup, 1) := by decide +kernel
theorem d_P_action_15 : decode b_P_action 15 = .ok (.ldc 76, 2) := by decide +kernel
theorem d_P_action_17 : decode b_P_action 17 = .ok (.invokespecial 78, 3) := by decide +kernel
theorem d_P_action_20 : decode b_P_action 20 = .ok (.athrow, 1) := by decide +kernel
theorem d_P_action_21 : decode b_P_action 21 = .ok (.aload_n 0, 1) := by decide +kernel
theorem d_P_action_22 : decode b_P_action 22 = .ok (.getfield 12, 3) := by decide +kernel
theorem d_P_action_25 : decode b_P_action 25 = .ok (.getfield 79, 3) := by decide +kernel
theorem d_P_action_28 : decode b_P_action 28 = .ok (.bipush 12, 2) := by decide +kernel
theorem d_P_action_30 : decode b_P_action 30 = .ok (.if_icmp .lt 13, 3) := by decide +kernel
theorem d_P_action_33 : decode b_P_action 33 = .ok (.new 60, 3) := by decide +kernel
theorem d_P_action_36 : decode b_P_action 36 = .ok (.dup, 1) := by decide +kernel
theorem d_P_action_37 : decode b_P_action 37 = .ok (.ldc 82, 2) := by decide +kernel
theorem d_P_action_39 : decode b_P_action 39 = .ok (.invokespecial 64, 3) := by decide +kernel
theorem d_P_action_42 : decode b_P_action 42 = .ok (.athrow, 1) := by decide +kernel
theorem d_P_action_43 : decode b_P_action 43 = .ok (.aload_n 0, 1) := by decide +kernel
theorem d_P_action_44 : decode b_P_action 44 = .ok (.getfield 12, 3) := by decide +kernel
theorem d_P_action_47 : decode b_P_action 47 = .ok (.iload_n 1, 1) := by decide +kernel
theorem d_P_action_48 : decode b_P_action 48 = .ok (.invokevirtual 84, 3) := by decide +kernel
theorem d_P_action_51 : decode b_P_action 51 = .ok (.istore_n 2, 1) := by decide +kernel
theorem d_P_action_52 : decode b_P_action 52 = .ok (.aload_n 0, 1) := by decide +kernel
theorem d_P_action_53 : decode b_P_action 53 = .ok (.invokevirtual 71, 3) := by decide +kernel
theorem d_P_action_56 : decode b_P_action 56 = .ok (.iload_n 2, 1) := by decide +kernel
theorem d_P_action_57 : decode b_P_action 57 = .ok (.ireturn, 1) := by decide +kernel
theorem d_P_link_0 : decode b_P_link 0 = .ok (.aload_n 0, 1) := by decide +kernel
theorem d_P_link_1 : decode b_P_link 1 = .ok (.iload_n 2, 1) := by decide +kernel
theorem d_P_link_2 : decode b_P_link 2 = .ok (.invokevirtual 88, 3) := by decide +kernel
theorem d_P_link_5 : decode b_P_link 5 = .ok (.aload_n 0, 1) := by decide +kernel
theorem d_P_link_6 : decode b_P_link 6 = .ok (.iload_n 3, 1) := by decide +kernel
theorem d_P_link_7 : decode b_P_link 7 = .ok (.invokevirtual 91, 3) := by decide +kernel
theorem d_P_link_10 : decode b_P_link 10 = .ok (.iload_n 1, 1) := by decide +kernel
theorem d_P_link_11 : decode b_P_link 11 = .ok (.ifCond .lt 8, 3) := by decide +kernel
theorem d_P_link_14 : decode b_P_link 14 = .ok (.iload_n 1, 1) := by decide +kernel
theorem d_P_link_15 : decode b_P_link 15 = .ok (.iconst 3, 1) := by decide +kernel
theorem d_P_link_16 : decode b_P_link 16 = .ok (.if_icmp .lt 13, 3) := by decide +kernel
theorem d_P_link_19 : decode b_P_link 19 = .ok (.new 74, 3) := by decide +kernel
theorem d_P_link_22 : decode b_P_link 22 = .ok (.dup, 1) := by decide +kernel
theorem d_P_link_23 : decode b_P_link 23 = .ok (.ldc 94, 2) := by decide +kernel
theorem d_P_link_25 : decode b_P_link 25 = .ok (.invokespecial 78, 3) := by decide +kernel
theorem d_P_link_28 : decode b_P_link 28 = .ok (.athrow, 1) := by decide +kernel
theorem d_P_link_29 : decode b_P_link 29 = .ok (.aload_n 0, 1) := by decide +kernel
theorem d_P_link_30 : decode b_P_link 30 = .ok (.getfield 12, 3) := by decide +kernel
theorem d_P_link_33 : decode b_P_link 33 = .ok (.getfield 96, 3) := by decide +kernel
theorem d_P_link_36 : decode b_P_link 36 = .ok (.iload_n 1, 1) := by decide +kernel
theorem d_P_link_37 : decode b_P_link 37 = .ok (.aaload, 1) := by decide +kernel
theorem d_P_link_38 : decode b_P_link 38 = .ok (.iload_n 2, 1) := by decide +kernel
theorem d_P_link_39 : decode b_P_link 39 = .ok (.iaload, 1) := by decide +kernel
theorem d_P_link_40 : decode b_P_link 40 = .ok (.iload_n 3, 1) := by decide +kernel
theorem d_P_link_41 : decode b_P_link 41 = .ok (.invokestatic 100, 3) := by decide +kernel
theorem d_P_link_44 : decode b_P_link 44 = .ok (.ifCond .eq 13, 3) := by decide +kernel
theorem d_P_link_47 : decode b_P_link 47 = .ok (.new 60, 3) := by decide +kernel
theorem d_P_link_50 : decode b_P_link 50 = .ok (.dup, 1) := by decide +kernel
theorem d_P_link_51 : decode b_P_link 51 = .ok (.ldc 104, 2) := by decide +kernel
theorem d_P_link_53 : decode b_P_link 53 = .ok (.invokespecial 64, 3) := by decide +kernel
theorem d_P_link_56 : decode b_P_link 56 = .ok (.athrow, 1) := by decide +kernel
theorem d_P_link_57 : decode b_P_link 57 = .ok (.aload_n 0, 1) := by decide +kernel
theorem d_P_link_58 : decode b_P_link 58 = .ok (.getfield 12, 3) := by decide +kernel
theorem d_P_link_61 : decode b_P_link 61 = .ok (.getfield 96, 3) := by decide +kernel
theorem d_P_link_64 : decode b_P_link 64 = .ok (.iload_n 1, 1) := by decide +kernel
theorem d_P_link_65 : decode b_P_link 65 = .ok (.aaload, 1) := by decide +kernel
theorem d_P_link_66 : decode b_P_link 66 = .ok (.iload_n 2, 1) := by decide +kernel
theorem d_P_link_67 : decode b_P_link 67 = .ok (.dup2, 1) := by decide +kernel
theorem d_P_link_68 : decode b_P_link 68 = .ok (.iaload, 1) := by decide +kernel
theorem d_P_link_69 : decode b_P_link 69 = .ok (.iconst 1, 1) := by decide +kernel
theorem d_P_link_70 : decode b_P_link 70 = .ok (.iload_n 3, 1) := by decide +kernel
theorem d_P_link_71 : decode b_P_link 71 = .ok (.ishl, 1) := by decide +kernel
theorem d_P_link_72 : decode b_P_link 72 = .ok (.ior, 1) := by decide +kernel
theorem d_P_link_73 : decode b_P_link 73 = .ok (.iastore, 1) := by decide +kernel
theorem d_P_link_74 : decode b_P_link 74 = .ok (.aload_n 0, 1) := by decide +kernel
theorem d_P_link_75 : decode b_P_link 75 = .ok (.invokevirtual 71, 3) := by decide +kernel
theorem d_P_link_78 : decode b_P_link 78 = .ok (.return_, 1) := by decide +kernel
theorem d_P_reset_0 : decode b_P_reset 0 = .ok (.aload_n 0, 1) := by decide +kernel
theorem d_P_reset_1 : decode b_P_reset 1 = .ok (.aload_n 0, 1) := by decide +kernel
theorem d_P_reset_2 : decode b_P_reset 2 = .ok (.getfield 12, 3) := by decide +kernel
theorem d_P_reset_5 : decode b_P_reset 5 = .ok (.getfield 106, 3) := by decide +kernel
theorem d_P_reset_8 : decode b_P_reset 8 = .ok (.putfield 53, 3) := by decide +kernel
theorem d_P_reset_11 : decode b_P_reset 11 = .ok (.return_, 1) := by decide +kernel
theorem d_P_holds_0 : decode b_P_holds 0 = .ok (.aload_n 0, 1) := by decide +kernel
theorem d_P_holds_1 : decode b_P_holds 1 = .ok (.iload_n 1, 1) := by decide +kernel
theorem d_P_holds_2 : decode b_P_holds 2 = .ok (.invokevirtual 91, 3) := by decide +kernel
theorem d_P_holds_5 : decode b_P_holds 5 = .ok (.aload_n 0, 1) := by decide +kernel
theorem d_P_holds_6 : decode b_P_holds 6 = .ok (.getfield 53, 3) := by decide +kernel
theorem d_P_holds_9 : decode b_P_holds 9 = .ok (.iload_n 1, 1) := by decide +kernel
theorem d_P_holds_10 : decode b_P_holds 10 = .ok (.invokestatic 100, 3) := by decide +kernel
theorem d_P_holds_13 : decode b_P_holds 13 = .ok (.ireturn, 1) := by decide +kernel
theorem d_P_applicable_0 : decode b_P_applicable 0 = .ok (.aload_n 0, 1) := by decide +kernel
theorem d_P_applicable_1 : decode b_P_applicable 1 = .ok (.iload_n 1, 1) := by decide +kernel
theorem d_P_applicable_2 : decode b_P_applicable 2 = .ok (.invokevirtual 88, 3) := by decide +kernel
theorem d_P_applicable_5 : decode b_P_applicable 5 = .ok (.aload_n 0, 1) := by decide +kernel
theorem d_P_applicable_6 : decode b_P_applicable 6 = .ok (.getfield 12, 3) := by decide +kernel
theorem d_P_applicable_9 : decode b_P_applicable 9 = .ok (.iload_n 1, 1) := by decide +kernel
theorem d_P_applicable_10 : decode b_P_applicable 10 = .ok (.aload_n 0, 1) := by decide +kernel
theorem d_P_applicable_11 : decode b_P_applicable 11 = .ok (.getfield 53, 3) := by decide +kernel
theorem d_P_applicable_14 : decode b_P_applicable 14 = .ok (.invokevirtual 109, 3) := by decide +kernel
theorem d_P_applicable_17 : decode b_P_applicable 17 = .ok (.ireturn, 1) := by decide +kernel
theorem d_P_apply_0 : decode b_P_apply 0 = .ok (.aload_n 0, 1) := by decide +kernel
theorem d_P_apply_1 : decode b_P_apply 1 = .ok (.iload_n 1, 1) := by decide +kernel
theorem d_P_apply_2 : decode b_P_apply 2 = .ok (.invokevirtual 88, 3) := by decide +kernel
theorem d_P_apply_5 : decode b_P_apply 5 = .ok (.aload_n 0, 1) := by decide +kernel
theorem d_P_apply_6 : decode b_P_apply 6 = .ok (.getfield 12, 3) := by decide +kernel
theorem d_P_apply_9 : decode b_P_apply 9 = .ok (.iload_n 1, 1) := by decide +kernel
theorem d_P_apply_10 : decode b_P_apply 10 = .ok (.aload_n 0, 1) := by decide +kernel
theorem d_P_apply_11 : decode b_P_apply 11 = .ok (.getfield 53, 3) := by decide +kernel
theorem d_P_apply_14 : decode b_P_apply 14 = .ok (.invokevirtual 109, 3) := by decide +kernel
theorem d_P_apply_17 : decode b_P_apply 17 = .ok (.ifCond .ne 13, 3) := by decide +kernel
theorem d_P_apply_20 : decode b_P_apply 20 = .ok (.new 60, 3) := by decide +kernel
theorem d_P_apply_23 : decode b_P_apply 23 = .ok (.dup, 1) := by decide +kernel
theorem d_P_apply_24 : decode b_P_apply 24 = .ok (.ldc 112, 2) := by decide +kernel
theorem d_P_apply_26 : decode b_P_apply 26 = .ok (.invokespecial 64, 3) := by decide +kernel
theorem d_P_apply_29 : decode b_P_apply 29 = .ok (.athrow, 1) := by decide +kernel
theorem d_P_apply_30 : decode b_P_apply 30 = .ok (.aload_n 0, 1) := by decide +kernel
theorem d_P_apply_31 : decode b_P_apply 31 = .ok (.aload_n 0, 1) := by decide +kernel
theorem d_P_apply_32 : decode b_P_apply 32 = .ok (.getfield 12, 3) := by decide +kernel
theorem d_P_apply_35 : decode b_P_apply 35 = .ok (.iload_n 1, 1) := by decide +kernel
theorem d_P_apply_36 : decode b_P_apply 36 = .ok (.aload_n 0, 1) := by decide +kernel
theorem d_P_apply_37 : decode b_P_apply 37 = .ok (.getfield 53, 3) := by decide +kernel
theorem d_P_apply_40 : decode b_P_apply 40 = .ok (.invokevirtual 114, 3) := by decide +kernel
theorem d_P_apply_43 : decode b_P_apply 43 = .ok (.putfield 53, 3) := by decide +kernel
theorem d_P_apply_46 : decode b_P_apply 46 = .ok (.aload_n 0, 1) := by decide +kernel
theorem d_P_apply_47 : decode b_P_apply 47 = .ok (.getfield 12, 3) := by decide +kernel
theorem d_P_apply_50 : decode b_P_apply 50 = .ok (.aload_n 0, 1) := by decide +kernel
theorem d_P_apply_51 : decode b_P_apply 51 = .ok (.getfield 53, 3) := by decide +kernel
theorem d_P_apply_54 : decode b_P_apply 54 = .ok (.invokevirtual 118, 3) := by decide +kernel
theorem d_P_apply_57 : decode b_P_apply 57 = .ok (.ireturn, 1) := by decide +kernel
theorem d_P_plan_0 : decode b_P_plan 0 = .ok (.aload_n 0, 1) := by decide +kernel
theorem d_P_plan_1 : decode b_P_plan 1 = .ok (.getfield 21, 3) := by decide +kernel
theorem d_P_plan_4 : decode b_P_plan 4 = .ok (.aload_n 0, 1) := by decide +kernel
theorem d_P_plan_5 : decode b_P_plan 5 = .ok (.getfield 53, 3) := by decide +kernel
theorem d_P_plan_8 : decode b_P_plan 8 = .ok (.invokevirtual 122, 3) := by decide +kernel
theorem d_P_plan_11 : decode b_P_plan 11 = .ok (.aload_n 0, 1) := by decide +kernel
theorem d_P_plan_12 : decode b_P_plan 12 = .ok (.getfield 30, 3) := by decide +kernel
theorem d_P_plan_15 : decode b_P_plan 15 = .ok (.invokevirtual 125, 3) := by decide +kernel
theorem d_P_plan_18 : decode b_P_plan 18 = .ok (.aload_n 0, 1) := by decide +kernel
theorem d_P_plan_19 : decode b_P_plan 19 = .ok (.getfield 21, 3) := by decide +kernel
theorem d_P_plan_22 : decode b_P_plan 22 = .ok (.invokevirtual 128, 3) := by decide +kernel
theorem d_P_plan_25 : decode b_P_plan 25 = .ok (.istore_n 1, 1) := by decide +kernel
theorem d_P_plan_26 : decode b_P_plan 26 = .ok (.iload_n 1, 1) := by decide +kernel
theorem d_P_plan_27 : decode b_P_plan 27 = .ok (.iconst (-1), 1) := by decide +kernel
theorem d_P_plan_28 : decode b_P_plan 28 = .ok (.if_icmp .eq 19, 3) := by decide +kernel
theorem d_P_plan_31 : decode b_P_plan 31 = .ok (.aload_n 0, 1) := by decide +kernel
theorem d_P_plan_32 : decode b_P_plan 32 = .ok (.getfield 21, 3) := by decide +kernel
theorem d_P_plan_35 : decode b_P_plan 35 = .ok (.aload_n 0, 1) := by decide +kernel
theorem d_P_plan_36 : decode b_P_plan 36 = .ok (.getfield 53, 3) := by decide +kernel
theorem d_P_plan_39 : decode b_P_plan 39 = .ok (.iload_n 1, 1) := by decide +kernel
theorem d_P_plan_40 : decode b_P_plan 40 = .ok (.aload_n 0, 1) := by decide +kernel
theorem d_P_plan_41 : decode b_P_plan 41 = .ok (.getfield 30, 3) := by decide +kernel
theorem d_P_plan_44 : decode b_P_plan 44 = .ok (.invokevirtual 132, 3) := by decide +kernel
theorem d_P_plan_47 : decode b_P_plan 47 = .ok (.iload_n 1, 1) := by decide +kernel
theorem d_P_plan_48 : decode b_P_plan 48 = .ok (.ireturn, 1) := by decide +kernel
theorem d_P_length_0 : decode b_P_length 0 = .ok (.aload_n 0, 1) := by decide +kernel
theorem d_P_length_1 : decode b_P_length 1 = .ok (.getfield 30, 3) := by decide +kernel
theorem d_P_length_4 : decode b_P_length 4 = .ok (.getfield 136, 3) := by decide +kernel
theorem d_P_length_7 : decode b_P_length 7 = .ok (.ireturn, 1) := by decide +kernel
theorem d_P_step_0 : decode b_P_step 0 = .ok (.iload_n 1, 1) := by decide +kernel
theorem d_P_step_1 : decode b_P_step 1 = .ok (.ifCond .lt 14, 3) := by decide +kernel
theorem d_P_step_4 : decode b_P_step 4 = .ok (.iload_n 1, 1) := by decide +kernel
theorem d_P_step_5 : decode b_P_step 5 = .ok (.aload_n 0, 1) := by decide +kernel
theorem d_P_step_6 : decode b_P_step 6 = .ok (.getfield 30, 3) := by decide +kernel
theorem d_P_step_9 : decode b_P_step 9 = .ok (.getfield 136, 3) := by decide +kernel
theorem d_P_step_12 : decode b_P_step 12 = .ok (.if_icmp .lt 7, 3) := by decide +kernel
theorem d_P_step_15 : decode b_P_step 15 = .ok (.iconst (-1), 1) := by decide +kernel
theorem d_P_step_16 : decode b_P_step 16 = .ok (.goto 12, 3) := by decide +kernel
theorem d_P_step_19 : decode b_P_step 19 = .ok (.aload_n 0, 1) := by decide +kernel
theorem d_P_step_20 : decode b_P_step 20 = .ok (.getfield 30, 3) := by decide +kernel
theorem d_P_step_23 : decode b_P_step 23 = .ok (.getfield 139, 3) := by decide +kernel
theorem d_P_step_26 : decode b_P_step 26 = .ok (.iload_n 1, 1) := by decide +kernel
theorem d_P_step_27 : decode b_P_step 27 = .ok (.iaload, 1) := by decide +kernel
theorem d_P_step_28 : decode b_P_step 28 = .ok (.ireturn, 1) := by decide +kernel
theorem d_P_states_0 : decode b_P_states 0 = .ok (.aload_n 0, 1) := by decide +kernel
theorem d_P_states_1 : decode b_P_states 1 = .ok (.getfield 21, 3) := by decide +kernel
theorem d_P_states_4 : decode b_P_states 4 = .ok (.aload_n 0, 1) := by decide +kernel
theorem d_P_states_5 : decode b_P_states 5 = .ok (.getfield 53, 3) := by decide +kernel
theorem d_P_states_8 : decode b_P_states 8 = .ok (.invokevirtual 122, 3) := by decide +kernel
theorem d_P_states_11 : decode b_P_states 11 = .ok (.aload_n 0, 1) := by decide +kernel
theorem d_P_states_12 : decode b_P_states 12 = .ok (.getfield 21, 3) := by decide +kernel
theorem d_P_states_15 : decode b_P_states 15 = .ok (.getfield 143, 3) := by decide +kernel
theorem d_P_states_18 : decode b_P_states 18 = .ok (.ireturn, 1) := by decide +kernel
theorem d_P_together_0 : decode b_P_together 0 = .ok (.aload_n 0, 1) := by decide +kernel
theorem d_P_together_1 : decode b_P_together 1 = .ok (.iload_n 1, 1) := by decide +kernel
theorem d_P_together_2 : decode b_P_together 2 = .ok (.invokevirtual 91, 3) := by decide +kernel
theorem d_P_together_5 : decode b_P_together 5 = .ok (.aload_n 0, 1) := by decide +kernel
theorem d_P_together_6 : decode b_P_together 6 = .ok (.iload_n 2, 1) := by decide +kernel
theorem d_P_together_7 : decode b_P_together 7 = .ok (.invokevirtual 91, 3) := by decide +kernel
theorem d_P_together_10 : decode b_P_together 10 = .ok (.aload_n 0, 1) := by decide +kernel
theorem d_P_together_11 : decode b_P_together 11 = .ok (.getfield 21, 3) := by decide +kernel
theorem d_P_together_14 : decode b_P_together 14 = .ok (.aload_n 0, 1) := by decide +kernel
theorem d_P_together_15 : decode b_P_together 15 = .ok (.getfield 53, 3) := by decide +kernel
theorem d_P_together_18 : decode b_P_together 18 = .ok (.invokevirtual 122, 3) := by decide +kernel
theorem d_P_together_21 : decode b_P_together 21 = .ok (.aload_n 0, 1) := by decide +kernel
theorem d_P_together_22 : decode b_P_together 22 = .ok (.getfield 21, 3) := by decide +kernel
theorem d_P_together_25 : decode b_P_together 25 = .ok (.iconst 1, 1) := by decide +kernel
theorem d_P_together_26 : decode b_P_together 26 = .ok (.iload_n 1, 1) := by decide +kernel
theorem d_P_together_27 : decode b_P_together 27 = .ok (.ishl, 1) := by decide +kernel
theorem d_P_together_28 : decode b_P_together 28 = .ok (.iconst 1, 1) := by decide +kernel
theorem d_P_together_29 : decode b_P_together 29 = .ok (.iload_n 2, 1) := by decide +kernel
theorem d_P_together_30 : decode b_P_together 30 = .ok (.ishl, 1) := by decide +kernel
theorem d_P_together_31 : decode b_P_together 31 = .ok (.ior, 1) := by decide +kernel
theorem d_P_together_32 : decode b_P_together 32 = .ok (.invokevirtual 146, 3) := by decide +kernel
theorem d_P_together_35 : decode b_P_together 35 = .ok (.ireturn, 1) := by decide +kernel
theorem d_P_level_0 : decode b_P_level 0 = .ok (.aload_n 0, 1) := by decide +kernel
theorem d_P_level_1 : decode b_P_level 1 = .ok (.iload_n 1, 1) := by decide +kernel
theorem d_P_level_2 : decode b_P_level 2 = .ok (.invokevirtual 91, 3) := by decide +kernel
theorem d_P_level_5 : decode b_P_level 5 = .ok (.aload_n 0, 1) := by decide +kernel
theorem d_P_level_6 : decode b_P_level 6 = .ok (.getfield 40, 3) := by decide +kernel
theorem d_P_level_9 : decode b_P_level 9 = .ok (.aload_n 0, 1) := by decide +kernel
theorem d_P_level_10 : decode b_P_level 10 = .ok (.getfield 53, 3) := by decide +kernel
theorem d_P_level_13 : decode b_P_level 13 = .ok (.aload_n 0, 1) := by decide +kernel
theorem d_P_level_14 : decode b_P_level 14 = .ok (.getfield 12, 3) := by decide +kernel
theorem d_P_level_17 : decode b_P_level 17 = .ok (.getfield 149, 3) := by decide +kernel
theorem d_P_level_20 : decode b_P_level 20 = .ok (.iload_n 2, 1) := by decide +kernel
theorem d_P_level_21 : decode b_P_level 21 = .ok (.iconst 0, 1) := by decide +kernel
theorem d_P_level_22 : decode b_P_level 22 = .ok (.invokevirtual 152, 3) := by decide +kernel
theorem d_P_level_25 : decode b_P_level 25 = .ok (.aload_n 0, 1) := by decide +kernel
theorem d_P_level_26 : decode b_P_level 26 = .ok (.getfield 40, 3) := by decide +kernel
theorem d_P_level_29 : decode b_P_level 29 = .ok (.getfield 156, 3) := by decide +kernel
theorem d_P_level_32 : decode b_P_level 32 = .ok (.iload_n 1, 1) := by decide +kernel
theorem d_P_level_33 : decode b_P_level 33 = .ok (.iaload, 1) := by decide +kernel
theorem d_P_level_34 : decode b_P_level 34 = .ok (.invokestatic 159, 3) := by decide +kernel
theorem d_P_level_37 : decode b_P_level 37 = .ok (.ireturn, 1) := by decide +kernel
theorem d_P_bound_0 : decode b_P_bound 0 = .ok (.aload_n 0, 1) := by decide +kernel
theorem d_P_bound_1 : decode b_P_bound 1 = .ok (.getfield 40, 3) := by decide +kernel
theorem d_P_bound_4 : decode b_P_bound 4 = .ok (.aload_n 0, 1) := by decide +kernel
theorem d_P_bound_5 : decode b_P_bound 5 = .ok (.getfield 53, 3) := by decide +kernel
theorem d_P_bound_8 : decode b_P_bound 8 = .ok (.aload_n 0, 1) := by decide +kernel
theorem d_P_bound_9 : decode b_P_bound 9 = .ok (.getfield 12, 3) := by decide +kernel
theorem d_P_bound_12 : decode b_P_bound 12 = .ok (.getfield 149, 3) := by decide +kernel
theorem d_P_bound_15 : decode b_P_bound 15 = .ok (.iload_n 1, 1) := by decide +kernel
theorem d_P_bound_16 : decode b_P_bound 16 = .ok (.iconst 0, 1) := by decide +kernel
theorem d_P_bound_17 : decode b_P_bound 17 = .ok (.invokevirtual 152, 3) := by decide +kernel
theorem d_P_bound_20 : decode b_P_bound 20 = .ok (.aload_n 0, 1) := by decide +kernel
theorem d_P_bound_21 : decode b_P_bound 21 = .ok (.getfield 40, 3) := by decide +kernel
theorem d_P_bound_24 : decode b_P_bound 24 = .ok (.aload_n 0, 1) := by decide +kernel
theorem d_P_bound_25 : decode b_P_bound 25 = .ok (.getfield 12, 3) := by decide +kernel
theorem d_P_bound_28 : decode b_P_bound 28 = .ok (.getfield 162, 3) := by decide +kernel
theorem d_P_bound_31 : decode b_P_bound 31 = .ok (.iload_n 1, 1) := by decide +kernel
theorem d_P_bound_32 : decode b_P_bound 32 = .ok (.invokevirtual 165, 3) := by decide +kernel
theorem d_P_bound_35 : decode b_P_bound 35 = .ok (.invokestatic 159, 3) := by decide +kernel
theorem d_P_bound_38 : decode b_P_bound 38 = .ok (.ireturn, 1) := by decide +kernel
theorem d_P_cuts_0 : decode b_P_cuts 0 = .ok (.aload_n 0, 1) := by decide +kernel
theorem d_P_cuts_1 : decode b_P_cuts 1 = .ok (.getfield 49, 3) := by decide +kernel
theorem d_P_cuts_4 : decode b_P_cuts 4 = .ok (.aload_n 0, 1) := by decide +kernel
theorem d_P_cuts_5 : decode b_P_cuts 5 = .ok (.getfield 53, 3) := by decide +kernel
theorem d_P_cuts_8 : decode b_P_cuts 8 = .ok (.invokevirtual 169, 3) := by decide +kernel
theorem d_P_cuts_11 : decode b_P_cuts 11 = .ok (.aload_n 0, 1) := by decide +kernel
theorem d_P_cuts_12 : decode b_P_cuts 12 = .ok (.getfield 49, 3) := by decide +kernel
theorem d_P_cuts_15 : decode b_P_cuts 15 = .ok (.getfield 172, 3) := by decide +kernel
theorem d_P_cuts_18 : decode b_P_cuts 18 = .ok (.ireturn, 1) := by decide +kernel
theorem d_P_cut_0 : decode b_P_cut 0 = .ok (.aload_n 0, 1) := by decide +kernel
theorem d_P_cut_1 : decode b_P_cut 1 = .ok (.getfield 49, 3) := by decide +kernel
theorem d_P_cut_4 : decode b_P_cut 4 = .ok (.aload_n 0, 1) := by decide +kernel
theorem d_P_cut_5 : decode b_P_cut 5 = .ok (.getfield 53, 3) := by decide +kernel
theorem d_P_cut_8 : decode b_P_cut 8 = .ok (.invokevirtual 169, 3) := by decide +kernel
theorem d_P_cut_11 : decode b_P_cut 11 = .ok (.iload_n 1, 1) := by decide +kernel
theorem d_P_cut_12 : decode b_P_cut 12 = .ok (.ifCond .lt 14, 3) := by decide +kernel
theorem d_P_cut_15 : decode b_P_cut 15 = .ok (.iload_n 1, 1) := by decide +kernel
theorem d_P_cut_16 : decode b_P_cut 16 = .ok (.aload_n 0, 1) := by decide +kernel
theorem d_P_cut_17 : decode b_P_cut 17 = .ok (.getfield 49, 3) := by decide +kernel
theorem d_P_cut_20 : decode b_P_cut 20 = .ok (.getfield 175, 3) := by decide +kernel
theorem d_P_cut_23 : decode b_P_cut 23 = .ok (.if_icmp .lt 7, 3) := by decide +kernel
theorem d_P_cut_26 : decode b_P_cut 26 = .ok (.iconst 0, 1) := by decide +kernel
theorem d_P_cut_27 : decode b_P_cut 27 = .ok (.goto 12, 3) := by decide +kernel
theorem d_P_cut_30 : decode b_P_cut 30 = .ok (.aload_n 0, 1) := by decide +kernel
theorem d_P_cut_31 : decode b_P_cut 31 = .ok (.getfield 49, 3) := by decide +kernel
theorem d_P_cut_34 : decode b_P_cut 34 = .ok (.getfield 178, 3) := by decide +kernel
theorem d_P_cut_37 : decode b_P_cut 37 = .ok (.iload_n 1, 1) := by decide +kernel
theorem d_P_cut_38 : decode b_P_cut 38 = .ok (.iaload, 1) := by decide +kernel
theorem d_P_cut_39 : decode b_P_cut 39 = .ok (.ireturn, 1) := by decide +kernel
theorem d_P_landmark_0 : decode b_P_landmark 0 = .ok (.aload_n 0, 1) := by decide +kernel
theorem d_P_landmark_1 : decode b_P_landmark 1 = .ok (.iload_n 1, 1) := by decide +kernel
theorem d_P_landmark_2 : decode b_P_landmark 2 = .ok (.invokevirtual 91, 3) := by decide +kernel
theorem d_P_landmark_5 : decode b_P_landmark 5 = .ok (.aload_n 0, 1) := by decide +kernel
theorem d_P_landmark_6 : decode b_P_landmark 6 = .ok (.getfield 53, 3) := by decide +kernel
theorem d_P_landmark_9 : decode b_P_landmark 9 = .ok (.iload_n 1, 1) := by decide +kernel
theorem d_P_landmark_10 : decode b_P_landmark 10 = .ok (.invokestatic 100, 3) := by decide +kernel
theorem d_P_landmark_13 : decode b_P_landmark 13 = .ok (.ifCond .eq 5, 3) := by decide +kernel
theorem d_P_landmark_16 : decode b_P_landmark 16 = .ok (.iconst 1, 1) := by decide +kernel
theorem d_P_landmark_17 : decode b_P_landmark 17 = .ok (.ireturn, 1) := by decide +kernel
theorem d_P_landmark_18 : decode b_P_landmark 18 = .ok (.aload_n 0, 1) := by decide +kernel
theorem d_P_landmark_19 : decode b_P_landmark 19 = .ok (.getfield 40, 3) := by decide +kernel
theorem d_P_landmark_22 : decode b_P_landmark 22 = .ok (.aload_n 0, 1) := by decide +kernel
theorem d_P_landmark_23 : decode b_P_landmark 23 = .ok (.getfield 53, 3) := by decide +kernel
theorem d_P_landmark_26 : decode b_P_landmark 26 = .ok (.aload_n 0, 1) := by decide +kernel
theorem d_P_landmark_27 : decode b_P_landmark 27 = .ok (.getfield 12, 3) := by decide +kernel
theorem d_P_landmark_30 : decode b_P_landmark 30 = .ok (.getfield 149, 3) := by decide +kernel
theorem d_P_landmark_33 : decode b_P_landmark 33 = .ok (.iconst 0, 1) := by decide +kernel
theorem d_P_landmark_34 : decode b_P_landmark 34 = .ok (.aload_n 0, 1) := by decide +kernel
theorem d_P_landmark_35 : decode b_P_landmark 35 = .ok (.getfield 12, 3) := by decide +kernel
theorem d_P_landmark_38 : decode b_P_landmark 38 = .ok (.iload_n 1, 1) := by decide +kernel
theorem d_P_landmark_39 : decode b_P_landmark 39 = .ok (.invokevirtual 181, 3) := by decide +kernel
theorem d_P_landmark_42 : decode b_P_landmark 42 = .ok (.invokevirtual 152, 3) := by decide +kernel
theorem d_P_landmark_45 : decode b_P_landmark 45 = .ok (.aload_n 0, 1) := by decide +kernel
theorem d_P_landmark_46 : decode b_P_landmark 46 = .ok (.getfield 40, 3) := by decide +kernel
theorem d_P_landmark_49 : decode b_P_landmark 49 = .ok (.aload_n 0, 1) := by decide +kernel
theorem d_P_landmark_50 : decode b_P_landmark 50 = .ok (.getfield 12, 3) := by decide +kernel
theorem d_P_landmark_53 : decode b_P_landmark 53 = .ok (.getfield 162, 3) := by decide +kernel
theorem d_P_landmark_56 : decode b_P_landmark 56 = .ok (.iconst 0, 1) := by decide +kernel
theorem d_P_landmark_57 : decode b_P_landmark 57 = .ok (.invokevirtual 165, 3) := by decide +kernel
theorem d_P_landmark_60 : decode b_P_landmark 60 = .ok (.ldc 184, 2) := by decide +kernel
theorem d_P_landmark_62 : decode b_P_landmark 62 = .ok (.if_icmp .ne 7, 3) := by decide +kernel
theorem d_P_landmark_65 : decode b_P_landmark 65 = .ok (.iconst 1, 1) := by decide +kernel
theorem d_P_landmark_66 : decode b_P_landmark 66 = .ok (.goto 4, 3) := by decide +kernel
theorem d_P_landmark_69 : decode b_P_landmark 69 = .ok (.iconst 0, 1) := by decide +kernel
theorem d_P_landmark_70 : decode b_P_landmark 70 = .ok (.ireturn, 1) := by decide +kernel
theorem d_P_draft_0 : decode b_P_draft 0 = .ok (.aload_n 0, 1) := by decide +kernel
theorem d_P_draft_1 : decode b_P_draft 1 = .ok (.iload_n 1, 1) := by decide +kernel
theorem d_P_draft_2 : decode b_P_draft 2 = .ok (.invokevirtual 88, 3) := by decide +kernel
theorem d_P_draft_5 : decode b_P_draft 5 = .ok (.aload_n 0, 1) := by decide +kernel
theorem d_P_draft_6 : decode b_P_draft 6 = .ok (.getfield 34, 3) := by decide +kernel
theorem d_P_draft_9 : decode b_P_draft 9 = .ok (.getfield 136, 3) := by decide +kernel
theorem d_P_draft_12 : decode b_P_draft 12 = .ok (.bipush 24, 2) := by decide +kernel
theorem d_P_draft_14 : decode b_P_draft 14 = .ok (.if_icmp .lt 13, 3) := by decide +kernel
theorem d_P_draft_17 : decode b_P_draft 17 = .ok (.new 60, 3) := by decide +kernel
theorem d_P_draft_20 : decode b_P_draft 20 = .ok (.dup, 1) := by decide +kernel
theorem d_P_draft_21 : decode b_P_draft 21 = .ok (.ldc 185, 2) := by decide +kernel
theorem d_P_draft_23 : decode b_P_draft 23 = .ok (.invokespecial 64, 3) := by decide +kernel
theorem d_P_draft_26 : decode b_P_draft 26 = .ok (.athrow, 1) := by decide +kernel
theorem d_P_draft_27 : decode b_P_draft 27 = .ok (.aload_n 0, 1) := by decide +kernel
theorem d_P_draft_28 : decode b_P_draft 28 = .ok (.getfield 34, 3) := by decide +kernel
theorem d_P_draft_31 : decode b_P_draft 31 = .ok (.iload_n 1, 1) := by decide +kernel
theorem d_P_draft_32 : decode b_P_draft 32 = .ok (.invokevirtual 187, 3) := by decide +kernel
theorem d_P_draft_35 : decode b_P_draft 35 = .ok (.aload_n 0, 1) := by decide +kernel
theorem d_P_draft_36 : decode b_P_draft 36 = .ok (.getfield 34, 3) := by decide +kernel
theorem d_P_draft_39 : decode b_P_draft 39 = .ok (.getfield 136, 3) := by decide +kernel
theorem d_P_draft_42 : decode b_P_draft 42 = .ok (.ireturn, 1) := by decide +kernel
theorem d_P_wipe_0 : decode b_P_wipe 0 = .ok (.aload_n 0, 1) := by decide +kernel
theorem d_P_wipe_1 : decode b_P_wipe 1 = .ok (.getfield 34, 3) := by decide +kernel
theorem d_P_wipe_4 : decode b_P_wipe 4 = .ok (.invokevirtual 125, 3) := by decide +kernel
theorem d_P_wipe_7 : decode b_P_wipe 7 = .ok (.return_, 1) := by decide +kernel
theorem d_P_check_0 : decode b_P_check 0 = .ok (.aload_n 0, 1) := by decide +kernel
theorem d_P_check_1 : decode b_P_check 1 = .ok (.getfield 53, 3) := by decide +kernel
theorem d_P_check_4 : decode b_P_check 4 = .ok (.istore_n 1, 1) := by decide +kernel
theorem d_P_check_5 : decode b_P_check 5 = .ok (.iconst 0, 1) := by decide +kernel
theorem d_P_check_6 : decode b_P_check 6 = .ok (.istore_n 2, 1) := by decide +kernel
theorem d_P_check_7 : decode b_P_check 7 = .ok (.iload_n 2, 1) := by decide +kernel
theorem d_P_check_8 : decode b_P_check 8 = .ok (.aload_n 0, 1) := by decide +kernel
theorem d_P_check_9 : decode b_P_check 9 = .ok (.getfield 34, 3) := by decide +kernel
theorem d_P_check_12 : decode b_P_check 12 = .ok (.getfield 136, 3) := by decide +kernel
theorem d_P_check_15 : decode b_P_check 15 = .ok (.if_icmp .ge 43, 3) := by decide +kernel
theorem d_P_check_18 : decode b_P_check 18 = .ok (.aload_n 0, 1) := by decide +kernel
theorem d_P_check_19 : decode b_P_check 19 = .ok (.getfield 34, 3) := by decide +kernel
theorem d_P_check_22 : decode b_P_check 22 = .ok (.getfield 139, 3) := by decide +kernel
theorem d_P_check_25 : decode b_P_check 25 = .ok (.iload_n 2, 1) := by decide +kernel
theorem d_P_check_26 : decode b_P_check 26 = .ok (.iaload, 1) := by decide +kernel
theorem d_P_check_27 : decode b_P_check 27 = .ok (.istore_n 3, 1) := by decide +kernel
theorem d_P_check_28 : decode b_P_check 28 = .ok (.aload_n 0, 1) := by decide +kernel
theorem d_P_check_29 : decode b_P_check 29 = .ok (.getfield 12, 3) := by decide +kernel
theorem d_P_check_32 : decode b_P_check 32 = .ok (.iload_n 3, 1) := by decide +kernel
theorem d_P_check_33 : decode b_P_check 33 = .ok (.iload_n 1, 1) := by decide +kernel
theorem d_P_check_34 : decode b_P_check 34 = .ok (.invokevirtual 109, 3) := by decide +kernel
theorem d_P_check_37 : decode b_P_check 37 = .ok (.ifCond .ne 5, 3) := by decide +kernel
theorem d_P_check_40 : decode b_P_check 40 = .ok (.iload_n 2, 1) := by decide +kernel
theorem d_P_check_41 : decode b_P_check 41 = .ok (.ireturn, 1) := by decide +kernel
theorem d_P_check_42 : decode b_P_check 42 = .ok (.aload_n 0, 1) := by decide +kernel
theorem d_P_check_43 : decode b_P_check 43 = .ok (.getfield 12, 3) := by decide +kernel
theorem d_P_check_46 : decode b_P_check 46 = .ok (.iload_n 3, 1) := by decide +kernel
theorem d_P_check_47 : decode b_P_check 47 = .ok (.iload_n 1, 1) := by decide +kernel
theorem d_P_check_48 : decode b_P_check 48 = .ok (.invokevirtual 114, 3) := by decide +kernel
theorem d_P_check_51 : decode b_P_check 51 = .ok (.istore_n 1, 1) := by decide +kernel
theorem d_P_check_52 : decode b_P_check 52 = .ok (.iinc 2 1, 3) := by decide +kernel
theorem d_P_check_55 : decode b_P_check 55 = .ok (.goto (-48), 3) := by decide +kernel
theorem d_P_check_58 : decode b_P_check 58 = .ok (.aload_n 0, 1) := by decide +kernel
theorem d_P_check_59 : decode b_P_check 59 = .ok (.getfield 12, 3) := by decide +kernel
theorem d_P_check_62 : decode b_P_check 62 = .ok (.iload_n 1, 1) := by decide +kernel
theorem d_P_check_63 : decode b_P_check 63 = .ok (.invokevirtual 118, 3) := by decide +kernel
theorem d_P_check_66 : decode b_P_check 66 = .ok (.ifCond .eq 7, 3) := by decide +kernel
theorem d_P_check_69 : decode b_P_check 69 = .ok (.iconst (-1), 1) := by decide +kernel
theorem d_P_check_70 : decode b_P_check 70 = .ok (.goto 10, 3) := by decide +kernel
theorem d_P_check_73 : decode b_P_check 73 = .ok (.aload_n 0, 1) := by decide +kernel
theorem d_P_check_74 : decode b_P_check 74 = .ok (.getfield 34, 3) := by decide +kernel
theorem d_P_check_77 : decode b_P_check 77 = .ok (.getfield 136, 3) := by decide +kernel
theorem d_P_check_80 : decode b_P_check 80 = .ok (.ireturn, 1) := by decide +kernel
theorem d_P_cost_0 : decode b_P_cost 0 = .ok (.iconst 0, 1) := by decide +kernel
theorem d_P_cost_1 : decode b_P_cost 1 = .ok (.istore_n 1, 1) := by decide +kernel
theorem d_P_cost_2 : decode b_P_cost 2 = .ok (.iconst 0, 1) := by decide +kernel
theorem d_P_cost_3 : decode b_P_cost 3 = .ok (.istore_n 2, 1) := by decide +kernel
theorem d_P_cost_4 : decode b_P_cost 4 = .ok (.iload_n 2, 1) := by decide +kernel
theorem d_P_cost_5 : decode b_P_cost 5 = .ok (.aload_n 0, 1) := by decide +kernel
theorem d_P_cost_6 : decode b_P_cost 6 = .ok (.getfield 34, 3) := by decide +kernel
theorem d_P_cost_9 : decode b_P_cost 9 = .ok (.getfield 136, 3) := by decide +kernel
theorem d_P_cost_12 : decode b_P_cost 12 = .ok (.if_icmp .ge 29, 3) := by decide +kernel
theorem d_P_cost_15 : decode b_P_cost 15 = .ok (.iload_n 1, 1) := by decide +kernel
theorem d_P_cost_16 : decode b_P_cost 16 = .ok (.aload_n 0, 1) := by decide +kernel
theorem d_P_cost_17 : decode b_P_cost 17 = .ok (.getfield 12, 3) := by decide +kernel
theorem d_P_cost_20 : decode b_P_cost 20 = .ok (.getfield 149, 3) := by decide +kernel
theorem d_P_cost_23 : decode b_P_cost 23 = .ok (.aload_n 0, 1) := by decide +kernel
theorem d_P_cost_24 : decode b_P_cost 24 = .ok (.getfield 34, 3) := by decide +kernel
theorem d_P_cost_27 : decode b_P_cost 27 = .ok (.getfield 139, 3) := by decide +kernel
theorem d_P_cost_30 : decode b_P_cost 30 = .ok (.iload_n 2, 1) := by decide +kernel
theorem d_P_cost_31 : decode b_P_cost 31 = .ok (.iaload, 1) := by decide +kernel
theorem d_P_cost_32 : decode b_P_cost 32 = .ok (.iaload, 1) := by decide +kernel
theorem d_P_cost_33 : decode b_P_cost 33 = .ok (.iadd, 1) := by decide +kernel
theorem d_P_cost_34 : decode b_P_cost 34 = .ok (.istore_n 1, 1) := by decide +kernel
theorem d_P_cost_35 : decode b_P_cost 35 = .ok (.iinc 2 1, 3) := by decide +kernel
theorem d_P_cost_38 : decode b_P_cost 38 = .ok (.goto (-34), 3) := by decide +kernel
theorem d_P_cost_41 : decode b_P_cost 41 = .ok (.iload_n 1, 1) := by decide +kernel
theorem d_P_cost_42 : decode b_P_cost 42 = .ok (.ireturn, 1) := by decide +kernel
theorem d_P_startAnew_0 : decode b_P_startAnew 0 = .ok (.aload_n 0, 1) := by decide +kernel
theorem d_P_startAnew_1 : decode b_P_startAnew 1 = .ok (.getfield 34, 3) := by decide +kernel
theorem d_P_startAnew_4 : decode b_P_startAnew 4 = .ok (.invokevirtual 125, 3) := by decide +kernel
theorem d_P_startAnew_7 : decode b_P_startAnew 7 = .ok (.aload_n 0, 1) := by decide +kernel
theorem d_P_startAnew_8 : decode b_P_startAnew 8 = .ok (.aload_n 0, 1) := by decide +kernel
theorem d_P_startAnew_9 : decode b_P_startAnew 9 = .ok (.getfield 12, 3) := by decide +kernel
theorem d_P_startAnew_12 : decode b_P_startAnew 12 = .ok (.getfield 106, 3) := by decide +kernel
theorem d_P_startAnew_15 : decode b_P_startAnew 15 = .ok (.putfield 53, 3) := by decide +kernel
theorem d_P_startAnew_18 : decode b_P_startAnew 18 = .ok (.return_, 1) := by decide +kernel
theorem d_P_refuseUnknownFact_0 : decode b_P_refuseUnknownFact 0 = .ok (.iload_n 1, 1) := by decide +kernel
theorem d_P_refuseUnknownFact_1 : decode b_P_refuseUnknownFact 1 = .ok (.ifCond .lt 14, 3) := by decide +kernel
theorem d_P_refuseUnknownFact_4 : decode b_P_refuseUnknownFact 4 = .ok (.iload_n 1, 1) := by decide +kernel
theorem d_P_refuseUnknownFact_5 : decode b_P_refuseUnknownFact 5 = .ok (.aload_n 0, 1) := by decide +kernel
theorem d_P_refuseUnknownFact_6 : decode b_P_refuseUnknownFact 6 = .ok (.getfield 12, 3) := by decide +kernel
theorem d_P_refuseUnknownFact_9 : decode b_P_refuseUnknownFact 9 = .ok (.getfield 57, 3) := by decide +kernel
theorem d_P_refuseUnknownFact_12 : decode b_P_refuseUnknownFact 12 = .ok (.if_icmp .lt 13, 3) := by decide +kernel
theorem d_P_refuseUnknownFact_15 : decode b_P_refuseUnknownFact 15 = .ok (.new 190, 3) := by decide +kernel
theorem d_P_refuseUnknownFact_18 : decode b_P_refuseUnknownFact 18 = .ok (.dup, 1) := by decide +kernel
theorem d_P_refuseUnknownFact_19 : decode b_P_refuseUnknownFact 19 = .ok (.ldc 192, 2) := by decide +kernel
theorem d_P_refuseUnknownFact_21 : decode b_P_refuseUnknownFact 21 = .ok (.invokespecial 194, 3) := by decide +kernel
theorem d_P_refuseUnknownFact_24 : decode b_P_refuseUnknownFact 24 = .ok (.athrow, 1) := by decide +kernel
theorem d_P_refuseUnknownFact_25 : decode b_P_refuseUnknownFact 25 = .ok (.return_, 1) := by decide +kernel
theorem d_P_refuseUnknownAction_0 : decode b_P_refuseUnknownAction 0 = .ok (.iload_n 1, 1) := by decide +kernel
theorem d_P_refuseUnknownAction_1 : decode b_P_refuseUnknownAction 1 = .ok (.ifCond .lt 14, 3) := by decide +kernel
theorem d_P_refuseUnknownAction_4 : decode b_P_refuseUnknownAction 4 = .ok (.iload_n 1, 1) := by decide +kernel
theorem d_P_refuseUnknownAction_5 : decode b_P_refuseUnknownAction 5 = .ok (.aload_n 0, 1) := by decide +kernel
theorem d_P_refuseUnknownAction_6 : decode b_P_refuseUnknownAction 6 = .ok (.getfield 12, 3) := by decide +kernel
theorem d_P_refuseUnknownAction_9 : decode b_P_refuseUnknownAction 9 = .ok (.getfield 79, 3) := by decide +kernel
theorem d_P_refuseUnknownAction_12 : decode b_P_refuseUnknownAction 12 = .ok (.if_icmp .lt 13, 3) := by decide +kernel
theorem d_P_refuseUnknownAction_15 : decode b_P_refuseUnknownAction 15 = .ok (.new 190, 3) := by decide +kernel
theorem d_P_refuseUnknownAction_18 : decode b_P_refuseUnknownAction 18 = .ok (.dup, 1) := by decide +kernel
theorem d_P_refuseUnknownAction_19 : decode b_P_refuseUnknownAction 19 = .ok (.ldc 195, 2) := by decide +kernel
theorem d_P_refuseUnknownAction_21 : decode b_P_refuseUnknownAction 21 = .ok (.invokespecial 194, 3) := by decide +kernel
theorem d_P_refuseUnknownAction_24 : decode b_P_refuseUnknownAction 24 = .ok (.athrow, 1) := by decide +kernel
theorem d_P_refuseUnknownAction_25 : decode b_P_refuseUnknownAction 25 = .ok (.return_, 1) := by decide +kernel
theorem d_P_orNone_0 : decode b_P_orNone 0 = .ok (.iload_n 0, 1) := by decide +kernel
theorem d_P_orNone_1 : decode b_P_orNone 1 = .ok (.ldc 184, 2) := by decide +kernel
theorem d_P_orNone_3 : decode b_P_orNone 3 = .ok (.if_icmp .lt 7, 3) := by decide +kernel
theorem d_P_orNone_6 : decode b_P_orNone 6 = .ok (.iconst (-1), 1) := by decide +kernel
theorem d_P_orNone_7 : decode b_P_orNone 7 = .ok (.goto 4, 3) := by decide +kernel
theorem d_P_orNone_10 : decode b_P_orNone 10 = .ok (.iload_n 0, 1) := by decide +kernel
theorem d_P_orNone_11 : decode b_P_orNone 11 = .ok (.ireturn, 1) := by decide +kernel
theorem d_P_has_0 : decode b_P_has 0 = .ok (.iload_n 0, 1) := by decide +kernel
theorem d_P_has_1 : decode b_P_has 1 = .ok (.iload_n 1, 1) := by decide +kernel
theorem d_P_has_2 : decode b_P_has 2 = .ok (.ishr, 1) := by decide +kernel
theorem d_P_has_3 : decode b_P_has 3 = .ok (.iconst 1, 1) := by decide +kernel
theorem d_P_has_4 : decode b_P_has 4 = .ok (.iand, 1) := by decide +kernel
theorem d_P_has_5 : decode b_P_has 5 = .ok (.ifCond .eq 7, 3) := by decide +kernel
theorem d_P_has_8 : decode b_P_has 8 = .ok (.iconst 1, 1) := by decide +kernel
theorem d_P_has_9 : decode b_P_has 9 = .ok (.goto 4, 3) := by decide +kernel
theorem d_P_has_12 : decode b_P_has 12 = .ok (.iconst 0, 1) := by decide +kernel
theorem d_P_has_13 : decode b_P_has 13 = .ok (.ireturn, 1) := by decide +kernel
theorem d_P_hasAll_0 : decode b_P_hasAll 0 = .ok (.iload_n 0, 1) := by decide +kernel
theorem d_P_hasAll_1 : decode b_P_hasAll 1 = .ok (.iload_n 1, 1) := by decide +kernel
theorem d_P_hasAll_2 : decode b_P_hasAll 2 = .ok (.iand, 1) := by decide +kernel
theorem d_P_hasAll_3 : decode b_P_hasAll 3 = .ok (.iload_n 1, 1) := by decide +kernel
theorem d_P_hasAll_4 : decode b_P_hasAll 4 = .ok (.if_icmp .ne 7, 3) := by decide +kernel
theorem d_P_hasAll_7 : decode b_P_hasAll 7 = .ok (.iconst 1, 1) := by decide +kernel
theorem d_P_hasAll_8 : decode b_P_hasAll 8 = .ok (.goto 4, 3) := by decide +kernel
theorem d_P_hasAll_11 : decode b_P_hasAll 11 = .ok (.iconst 0, 1) := by decide +kernel
theorem d_P_hasAll_12 : decode b_P_hasAll 12 = .ok (.ireturn, 1) := by decide +kernel
