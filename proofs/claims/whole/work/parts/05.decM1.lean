theorem d_M_init_0 : decode b_M_init 0 = .ok (.aload_n 0, 1) := by decide +kernel
theorem d_M_init_1 : decode b_M_init 1 = .ok (.invokespecial 1, 3) := by decide +kernel
theorem d_M_init_4 : decode b_M_init 4 = .ok (.aload_n 0, 1) := by decide +kernel
theorem d_M_init_5 : decode b_M_init 5 = .ok (.bipush 12, 2) := by decide +kernel
theorem d_M_init_7 : decode b_M_init 7 = .ok (.newarray .int, 2) := by decide +kernel
theorem d_M_init_9 : decode b_M_init 9 = .ok (.putfield 7, 3) := by decide +kernel
theorem d_M_init_12 : decode b_M_init 12 = .ok (.aload_n 0, 1) := by decide +kernel
theorem d_M_init_13 : decode b_M_init 13 = .ok (.bipush 12, 2) := by decide +kernel
theorem d_M_init_15 : decode b_M_init 15 = .ok (.newarray .int, 2) := by decide +kernel
theorem d_M_init_17 : decode b_M_init 17 = .ok (.putfield 13, 3) := by decide +kernel
theorem d_M_init_20 : decode b_M_init 20 = .ok (.aload_n 0, 1) := by decide +kernel
theorem d_M_init_21 : decode b_M_init 21 = .ok (.bipush 12, 2) := by decide +kernel
theorem d_M_init_23 : decode b_M_init 23 = .ok (.newarray .int, 2) := by decide +kernel
theorem d_M_init_25 : decode b_M_init 25 = .ok (.putfield 16, 3) := by decide +kernel
theorem d_M_init_28 : decode b_M_init 28 = .ok (.aload_n 0, 1) := by decide +kernel
theorem d_M_init_29 : decode b_M_init 29 = .ok (.bipush 12, 2) := by decide +kernel
theorem d_M_init_31 : decode b_M_init 31 = .ok (.newarray .int, 2) := by decide +kernel
theorem d_M_init_33 : decode b_M_init 33 = .ok (.putfield 19, 3) := by decide +kernel
theorem d_M_init_36 : decode b_M_init 36 = .ok (.aload_n 0, 1) := by decide +kernel
theorem d_M_init_37 : decode b_M_init 37 = .ok (.sipush 1024, 3) := by decide +kernel
theorem d_M_init_40 : decode b_M_init 40 = .ok (.newarray .int, 2) := by decide +kernel
theorem d_M_init_42 : decode b_M_init 42 = .ok (.putfield 22, 3) := by decide +kernel
theorem d_M_init_45 : decode b_M_init 45 = .ok (.aload_n 0, 1) := by decide +kernel
theorem d_M_init_46 : decode b_M_init 46 = .ok (.bipush 24, 2) := by decide +kernel
theorem d_M_init_48 : decode b_M_init 48 = .ok (.newarray .int, 2) := by decide +kernel
theorem d_M_init_50 : decode b_M_init 50 = .ok (.putfield 25, 3) := by decide +kernel
theorem d_M_init_53 : decode b_M_init 53 = .ok (.aload_n 0, 1) := by decide +kernel
theorem d_M_init_54 : decode b_M_init 54 = .ok (.sipush 1024, 3) := by decide +kernel
theorem d_M_init_57 : decode b_M_init 57 = .ok (.newarray .int, 2) := by decide +kernel
theorem d_M_init_59 : decode b_M_init 59 = .ok (.putfield 28, 3) := by decide +kernel
theorem d_M_init_62 : decode b_M_init 62 = .ok (.aload_n 0, 1) := by decide +kernel
theorem d_M_init_63 : decode b_M_init 63 = .ok (.sipush 1024, 3) := by decide +kernel
theorem d_M_init_66 : decode b_M_init 66 = .ok (.newarray .boolean, 2) := by decide +kernel
theorem d_M_init_68 : decode b_M_init 68 = .ok (.putfield 31, 3) := by decide +kernel
theorem d_M_init_71 : decode b_M_init 71 = .ok (.aload_n 0, 1) := by decide +kernel
theorem d_M_init_72 : decode b_M_init 72 = .ok (.bipush 12, 2) := by decide +kernel
theorem d_M_init_74 : decode b_M_init 74 = .ok (.newarray .int, 2) := by decide +kernel
theorem d_M_init_76 : decode b_M_init 76 = .ok (.putfield 35, 3) := by decide +kernel
theorem d_M_init_79 : decode b_M_init 79 = .ok (.aload_n 0, 1) := by decide +kernel
theorem d_M_init_80 : decode b_M_init 80 = .ok (.bipush 10, 2) := by decide +kernel
theorem d_M_init_82 : decode b_M_init 82 = .ok (.newarray .int, 2) := by decide +kernel
theorem d_M_init_84 : decode b_M_init 84 = .ok (.putfield 38, 3) := by decide +kernel
theorem d_M_init_87 : decode b_M_init 87 = .ok (.aload_n 0, 1) := by decide +kernel
theorem d_M_init_88 : decode b_M_init 88 = .ok (.sipush 128, 3) := by decide +kernel
theorem d_M_init_91 : decode b_M_init 91 = .ok (.newarray .int, 2) := by decide +kernel
theorem d_M_init_93 : decode b_M_init 93 = .ok (.putfield 41, 3) := by decide +kernel
theorem d_M_init_96 : decode b_M_init 96 = .ok (.return_, 1) := by decide +kernel
theorem d_M_thrown_0 : decode b_M_thrown 0 = .ok (.aload_n 0, 1) := by decide +kernel
theorem d_M_thrown_1 : decode b_M_thrown 1 = .ok (.getfield 44, 3) := by decide +kernel
theorem d_M_thrown_4 : decode b_M_thrown 4 = .ok (.ireturn, 1) := by decide +kernel
theorem d_M_noFact_0 : decode b_M_noFact 0 = .ok (.iload_n 1, 1) := by decide +kernel
theorem d_M_noFact_1 : decode b_M_noFact 1 = .ok (.ifCond .lt 11, 3) := by decide +kernel
theorem d_M_noFact_4 : decode b_M_noFact 4 = .ok (.iload_n 1, 1) := by decide +kernel
theorem d_M_noFact_5 : decode b_M_noFact 5 = .ok (.aload_n 0, 1) := by decide +kernel
theorem d_M_noFact_6 : decode b_M_noFact 6 = .ok (.getfield 48, 3) := by decide +kernel
theorem d_M_noFact_9 : decode b_M_noFact 9 = .ok (.if_icmp .lt 7, 3) := by decide +kernel
theorem d_M_noFact_12 : decode b_M_noFact 12 = .ok (.iconst 1, 1) := by decide +kernel
theorem d_M_noFact_13 : decode b_M_noFact 13 = .ok (.goto 4, 3) := by decide +kernel
theorem d_M_noFact_16 : decode b_M_noFact 16 = .ok (.iconst 0, 1) := by decide +kernel
theorem d_M_noFact_17 : decode b_M_noFact 17 = .ok (.ireturn, 1) := by decide +kernel
theorem d_M_noAction_0 : decode b_M_noAction 0 = .ok (.iload_n 1, 1) := by decide +kernel
theorem d_M_noAction_1 : decode b_M_noAction 1 = .ok (.ifCond .lt 11, 3) := by decide +kernel
theorem d_M_noAction_4 : decode b_M_noAction 4 = .ok (.iload_n 1, 1) := by decide +kernel
theorem d_M_noAction_5 : decode b_M_noAction 5 = .ok (.aload_n 0, 1) := by decide +kernel
theorem d_M_noAction_6 : decode b_M_noAction 6 = .ok (.getfield 51, 3) := by decide +kernel
theorem d_M_noAction_9 : decode b_M_noAction 9 = .ok (.if_icmp .lt 7, 3) := by decide +kernel
theorem d_M_noAction_12 : decode b_M_noAction 12 = .ok (.iconst 1, 1) := by decide +kernel
theorem d_M_noAction_13 : decode b_M_noAction 13 = .ok (.goto 4, 3) := by decide +kernel
theorem d_M_noAction_16 : decode b_M_noAction 16 = .ok (.iconst 0, 1) := by decide +kernel
theorem d_M_noAction_17 : decode b_M_noAction 17 = .ok (.ireturn, 1) := by decide +kernel
theorem d_M_changed_0 : decode b_M_changed 0 = .ok (.aload_n 0, 1) := by decide +kernel
theorem d_M_changed_1 : decode b_M_changed 1 = .ok (.iconst 0, 1) := by decide +kernel
theorem d_M_changed_2 : decode b_M_changed 2 = .ok (.putfield 54, 3) := by decide +kernel
theorem d_M_changed_5 : decode b_M_changed 5 = .ok (.aload_n 0, 1) := by decide +kernel
theorem d_M_changed_6 : decode b_M_changed 6 = .ok (.aload_n 0, 1) := by decide +kernel
theorem d_M_changed_7 : decode b_M_changed 7 = .ok (.getfield 57, 3) := by decide +kernel
theorem d_M_changed_10 : decode b_M_changed 10 = .ok (.putfield 60, 3) := by decide +kernel
theorem d_M_changed_13 : decode b_M_changed 13 = .ok (.return_, 1) := by decide +kernel
theorem d_M_fact_0 : decode b_M_fact 0 = .ok (.aload_n 0, 1) := by decide +kernel
theorem d_M_fact_1 : decode b_M_fact 1 = .ok (.aload_n 0, 1) := by decide +kernel
theorem d_M_fact_2 : decode b_M_fact 2 = .ok (.getfield 48, 3) := by decide +kernel
theorem d_M_fact_5 : decode b_M_fact 5 = .ok (.bipush 10, 2) := by decide +kernel
theorem d_M_fact_7 : decode b_M_fact 7 = .ok (.if_icmp .ne 7, 3) := by decide +kernel
theorem d_M_fact_10 : decode b_M_fact 10 = .ok (.iconst 1, 1) := by decide +kernel
theorem d_M_fact_11 : decode b_M_fact 11 = .ok (.goto 4, 3) := by decide +kernel
theorem d_M_fact_14 : decode b_M_fact 14 = .ok (.iconst 0, 1) := by decide +kernel
theorem d_M_fact_15 : decode b_M_fact 15 = .ok (.putfield 44, 3) := by decide +kernel
theorem d_M_fact_18 : decode b_M_fact 18 = .ok (.aload_n 0, 1) := by decide +kernel
theorem d_M_fact_19 : decode b_M_fact 19 = .ok (.getfield 44, 3) := by decide +kernel
theorem d_M_fact_22 : decode b_M_fact 22 = .ok (.ifCond .le 5, 3) := by decide +kernel
theorem d_M_fact_25 : decode b_M_fact 25 = .ok (.iconst 0, 1) := by decide +kernel
theorem d_M_fact_26 : decode b_M_fact 26 = .ok (.ireturn, 1) := by decide +kernel
theorem d_M_fact_27 : decode b_M_fact 27 = .ok (.iconst 1, 1) := by decide +kernel
theorem d_M_fact_28 : decode b_M_fact 28 = .ok (.aload_n 0, 1) := by decide +kernel
theorem d_M_fact_29 : decode b_M_fact 29 = .ok (.getfield 48, 3) := by decide +kernel
theorem d_M_fact_32 : decode b_M_fact 32 = .ok (.ishl, 1) := by decide +kernel
theorem d_M_fact_33 : decode b_M_fact 33 = .ok (.istore_n 3, 1) := by decide +kernel
theorem d_M_fact_34 : decode b_M_fact 34 = .ok (.aload_n 0, 1) := by decide +kernel
theorem d_M_fact_35 : decode b_M_fact 35 = .ok (.iload_n 1, 1) := by decide +kernel
theorem d_M_fact_36 : decode b_M_fact 36 = .ok (.ifCond .eq 12, 3) := by decide +kernel
theorem d_M_fact_39 : decode b_M_fact 39 = .ok (.aload_n 0, 1) := by decide +kernel
theorem d_M_fact_40 : decode b_M_fact 40 = .ok (.getfield 57, 3) := by decide +kernel
theorem d_M_fact_43 : decode b_M_fact 43 = .ok (.iload_n 3, 1) := by decide +kernel
theorem d_M_fact_44 : decode b_M_fact 44 = .ok (.ior, 1) := by decide +kernel
theorem d_M_fact_45 : decode b_M_fact 45 = .ok (.goto 7, 3) := by decide +kernel
theorem d_M_fact_48 : decode b_M_fact 48 = .ok (.aload_n 0, 1) := by decide +kernel
theorem d_M_fact_49 : decode b_M_fact 49 = .ok (.getfield 57, 3) := by decide +kernel
theorem d_M_fact_52 : decode b_M_fact 52 = .ok (.putfield 57, 3) := by decide +kernel
theorem d_M_fact_55 : decode b_M_fact 55 = .ok (.aload_n 0, 1) := by decide +kernel
theorem d_M_fact_56 : decode b_M_fact 56 = .ok (.iload_n 2, 1) := by decide +kernel
theorem d_M_fact_57 : decode b_M_fact 57 = .ok (.ifCond .eq 12, 3) := by decide +kernel
theorem d_M_fact_60 : decode b_M_fact 60 = .ok (.aload_n 0, 1) := by decide +kernel
theorem d_M_fact_61 : decode b_M_fact 61 = .ok (.getfield 63, 3) := by decide +kernel
theorem d_M_fact_64 : decode b_M_fact 64 = .ok (.iload_n 3, 1) := by decide +kernel
theorem d_M_fact_65 : decode b_M_fact 65 = .ok (.ior, 1) := by decide +kernel
theorem d_M_fact_66 : decode b_M_fact 66 = .ok (.goto 7, 3) := by decide +kernel
theorem d_M_fact_69 : decode b_M_fact 69 = .ok (.aload_n 0, 1) := by decide +kernel
theorem d_M_fact_70 : decode b_M_fact 70 = .ok (.getfield 63, 3) := by decide +kernel
theorem d_M_fact_73 : decode b_M_fact 73 = .ok (.putfield 63, 3) := by decide +kernel
theorem d_M_fact_76 : decode b_M_fact 76 = .ok (.aload_n 0, 1) := by decide +kernel
theorem d_M_fact_77 : decode b_M_fact 77 = .ok (.dup, 1) := by decide +kernel
theorem d_M_fact_78 : decode b_M_fact 78 = .ok (.getfield 48, 3) := by decide +kernel
theorem d_M_fact_81 : decode b_M_fact 81 = .ok (.iconst 1, 1) := by decide +kernel
theorem d_M_fact_82 : decode b_M_fact 82 = .ok (.iadd, 1) := by decide +kernel
theorem d_M_fact_83 : decode b_M_fact 83 = .ok (.putfield 48, 3) := by decide +kernel
theorem d_M_fact_86 : decode b_M_fact 86 = .ok (.aload_n 0, 1) := by decide +kernel
theorem d_M_fact_87 : decode b_M_fact 87 = .ok (.invokevirtual 66, 3) := by decide +kernel
theorem d_M_fact_90 : decode b_M_fact 90 = .ok (.aload_n 0, 1) := by decide +kernel
theorem d_M_fact_91 : decode b_M_fact 91 = .ok (.getfield 48, 3) := by decide +kernel
theorem d_M_fact_94 : decode b_M_fact 94 = .ok (.iconst 1, 1) := by decide +kernel
theorem d_M_fact_95 : decode b_M_fact 95 = .ok (.isub, 1) := by decide +kernel
theorem d_M_fact_96 : decode b_M_fact 96 = .ok (.ireturn, 1) := by decide +kernel
theorem d_M_action_0 : decode b_M_action 0 = .ok (.aload_n 0, 1) := by decide +kernel
theorem d_M_action_1 : decode b_M_action 1 = .ok (.iload_n 1, 1) := by decide +kernel
theorem d_M_action_2 : decode b_M_action 2 = .ok (.iconst 1, 1) := by decide +kernel
theorem d_M_action_3 : decode b_M_action 3 = .ok (.if_icmp .lt 9, 3) := by decide +kernel
theorem d_M_action_6 : decode b_M_action 6 = .ok (.iload_n 1, 1) := by decide +kernel
theorem d_M_action_7 : decode b_M_action 7 = .ok (.bipush 9, 2) := by decide +kernel
theorem d_M_action_9 : decode b_M_action 9 = .ok (.if_icmp .le 7, 3) := by decide +kernel
theorem d_M_action_12 : decode b_M_action 12 = .ok (.iconst 1, 1) := by decide +kernel
theorem d_M_action_13 : decode b_M_action 13 = .ok (.goto 17, 3) := by decide +kernel
theorem d_M_action_16 : decode b_M_action 16 = .ok (.aload_n 0, 1) := by decide +kernel
theorem d_M_action_17 : decode b_M_action 17 = .ok (.getfield 51, 3) := by decide +kernel
theorem d_M_action_20 : decode b_M_action 20 = .ok (.bipush 12, 2) := by decide +kernel
theorem d_M_action_22 : decode b_M_action 22 = .ok (.if_icmp .ne 7, 3) := by decide +kernel
theorem d_M_action_25 : decode b_M_action 25 = .ok (.iconst 2, 1) := by decide +kernel
theorem d_M_action_26 : decode b_M_action 26 = .ok (.goto 4, 3) := by decide +kernel
theorem d_M_action_29 : decode b_M_action 29 = .ok (.iconst 0, 1) := by decide +kernel
theorem d_M_action_30 : decode b_M_action 30 = .ok (.putfield 44, 3) := by decide +kernel
theorem d_M_action_33 : decode b_M_action 33 = .ok (.aload_n 0, 1) := by decide +kernel
theorem d_M_action_34 : decode b_M_action 34 = .ok (.getfield 44, 3) := by decide +kernel
theorem d_M_action_37 : decode b_M_action 37 = .ok (.ifCond .le 5, 3) := by decide +kernel
theorem d_M_action_40 : decode b_M_action 40 = .ok (.iconst 0, 1) := by decide +kernel
theorem d_M_action_41 : decode b_M_action 41 = .ok (.ireturn, 1) := by decide +kernel
theorem d_M_action_42 : decode b_M_action 42 = .ok (.aload_n 0, 1) := by decide +kernel
theorem d_M_action_43 : decode b_M_action 43 = .ok (.getfield 7, 3) := by decide +kernel
theorem d_M_action_46 : decode b_M_action 46 = .ok (.aload_n 0, 1) := by decide +kernel
theorem d_M_action_47 : decode b_M_action 47 = .ok (.getfield 51, 3) := by decide +kernel
theorem d_M_action_50 : decode b_M_action 50 = .ok (.iload_n 1, 1) := by decide +kernel
theorem d_M_action_51 : decode b_M_action 51 = .ok (.iastore, 1) := by decide +kernel
theorem d_M_action_52 : decode b_M_action 52 = .ok (.aload_n 0, 1) := by decide +kernel
theorem d_M_action_53 : decode b_M_action 53 = .ok (.getfield 13, 3) := by decide +kernel
theorem d_M_action_56 : decode b_M_action 56 = .ok (.aload_n 0, 1) := by decide +kernel
theorem d_M_action_57 : decode b_M_action 57 = .ok (.getfield 51, 3) := by decide +kernel
theorem d_M_action_60 : decode b_M_action 60 = .ok (.iconst 0, 1) := by decide +kernel
theorem d_M_action_61 : decode b_M_action 61 = .ok (.iastore, 1) := by decide +kernel
theorem d_M_action_62 : decode b_M_action 62 = .ok (.aload_n 0, 1) := by decide +kernel
theorem d_M_action_63 : decode b_M_action 63 = .ok (.getfield 16, 3) := by decide +kernel
theorem d_M_action_66 : decode b_M_action 66 = .ok (.aload_n 0, 1) := by decide +kernel
theorem d_M_action_67 : decode b_M_action 67 = .ok (.getfield 51, 3) := by decide +kernel
theorem d_M_action_70 : decode b_M_action 70 = .ok (.iconst 0, 1) := by decide +kernel
theorem d_M_action_71 : decode b_M_action 71 = .ok (.iastore, 1) := by decide +kernel
theorem d_M_action_72 : decode b_M_action 72 = .ok (.aload_n 0, 1) := by decide +kernel
theorem d_M_action_73 : decode b_M_action 73 = .ok (.getfield 19, 3) := by decide +kernel
theorem d_M_action_76 : decode b_M_action 76 = .ok (.aload_n 0, 1) := by decide +kernel
theorem d_M_action_77 : decode b_M_action 77 = .ok (.getfield 51, 3) := by decide +kernel
theorem d_M_action_80 : decode b_M_action 80 = .ok (.iconst 0, 1) := by decide +kernel
theorem d_M_action_81 : decode b_M_action 81 = .ok (.iastore, 1) := by decide +kernel
theorem d_M_action_82 : decode b_M_action 82 = .ok (.aload_n 0, 1) := by decide +kernel
theorem d_M_action_83 : decode b_M_action 83 = .ok (.dup, 1) := by decide +kernel
theorem d_M_action_84 : decode b_M_action 84 = .ok (.getfield 51, 3) := by decide +kernel
theorem d_M_action_87 : decode b_M_action 87 = .ok (.iconst 1, 1) := by decide +kernel
theorem d_M_action_88 : decode b_M_action 88 = .ok (.iadd, 1) := by decide +kernel
theorem d_M_action_89 : decode b_M_action 89 = .ok (.putfield 51, 3) := by decide +kernel
theorem d_M_action_92 : decode b_M_action 92 = .ok (.aload_n 0, 1) := by decide +kernel
theorem d_M_action_93 : decode b_M_action 93 = .ok (.invokevirtual 66, 3) := by decide +kernel
theorem d_M_action_96 : decode b_M_action 96 = .ok (.aload_n 0, 1) := by decide +kernel
theorem d_M_action_97 : decode b_M_action 97 = .ok (.getfield 51, 3) := by decide +kernel
theorem d_M_action_100 : decode b_M_action 100 = .ok (.iconst 1, 1) := by decide +kernel
theorem d_M_action_101 : decode b_M_action 101 = .ok (.isub, 1) := by decide +kernel
theorem d_M_action_102 : decode b_M_action 102 = .ok (.ireturn, 1) := by decide +kernel
theorem d_M_link_0 : decode b_M_link 0 = .ok (.aload_n 0, 1) := by decide +kernel
theorem d_M_link_1 : decode b_M_link 1 = .ok (.aload_n 0, 1) := by decide +kernel
theorem d_M_link_2 : decode b_M_link 2 = .ok (.iload_n 2, 1) := by decide +kernel
theorem d_M_link_3 : decode b_M_link 3 = .ok (.invokevirtual 69, 3) := by decide +kernel
theorem d_M_link_6 : decode b_M_link 6 = .ok (.ifCond .ne 11, 3) := by decide +kernel
theorem d_M_link_9 : decode b_M_link 9 = .ok (.aload_n 0, 1) := by decide +kernel
theorem d_M_link_10 : decode b_M_link 10 = .ok (.iload_n 3, 1) := by decide +kernel
theorem d_M_link_11 : decode b_M_link 11 = .ok (.invokevirtual 73, 3) := by decide +kernel
theorem d_M_link_14 : decode b_M_link 14 = .ok (.ifCond .eq 7, 3) := by decide +kernel
theorem d_M_link_17 : decode b_M_link 17 = .ok (.iconst 1, 1) := by decide +kernel
theorem d_M_link_18 : decode b_M_link 18 = .ok (.goto 17, 3) := by decide +kernel
theorem d_M_link_21 : decode b_M_link 21 = .ok (.iload_n 1, 1) := by decide +kernel
theorem d_M_link_22 : decode b_M_link 22 = .ok (.ifCond .lt 8, 3) := by decide +kernel
theorem d_M_link_25 : decode b_M_link 25 = .ok (.iload_n 1, 1) := by decide +kernel
theorem d_M_link_26 : decode b_M_link 26 = .ok (.iconst 2, 1) := by decide +kernel
theorem d_M_link_27 : decode b_M_link 27 = .ok (.if_icmp .le 7, 3) := by decide +kernel
theorem d_M_link_30 : decode b_M_link 30 = .ok (.iconst 2, 1) := by decide +kernel
theorem d_M_link_31 : decode b_M_link 31 = .ok (.goto 4, 3) := by decide +kernel
theorem d_M_link_34 : decode b_M_link 34 = .ok (.iconst 0, 1) := by decide +kernel
theorem d_M_link_35 : decode b_M_link 35 = .ok (.putfield 44, 3) := by decide +kernel
theorem d_M_link_38 : decode b_M_link 38 = .ok (.aload_n 0, 1) := by decide +kernel
theorem d_M_link_39 : decode b_M_link 39 = .ok (.getfield 44, 3) := by decide +kernel
theorem d_M_link_42 : decode b_M_link 42 = .ok (.ifCond .le 4, 3) := by decide +kernel
theorem d_M_link_45 : decode b_M_link 45 = .ok (.return_, 1) := by decide +kernel
theorem d_M_link_46 : decode b_M_link 46 = .ok (.iconst 1, 1) := by decide +kernel
theorem d_M_link_47 : decode b_M_link 47 = .ok (.iload_n 3, 1) := by decide +kernel
theorem d_M_link_48 : decode b_M_link 48 = .ok (.ishl, 1) := by decide +kernel
theorem d_M_link_49 : decode b_M_link 49 = .ok (.istore 4, 2) := by decide +kernel
theorem d_M_link_51 : decode b_M_link 51 = .ok (.iload_n 1, 1) := by decide +kernel
theorem d_M_link_52 : decode b_M_link 52 = .ok (.ifCond .ne 12, 3) := by decide +kernel
theorem d_M_link_55 : decode b_M_link 55 = .ok (.aload_n 0, 1) := by decide +kernel
theorem d_M_link_56 : decode b_M_link 56 = .ok (.getfield 13, 3) := by decide +kernel
theorem d_M_link_59 : decode b_M_link 59 = .ok (.iload_n 2, 1) := by decide +kernel
theorem d_M_link_60 : decode b_M_link 60 = .ok (.iaload, 1) := by decide +kernel
theorem d_M_link_61 : decode b_M_link 61 = .ok (.goto 23, 3) := by decide +kernel
theorem d_M_link_64 : decode b_M_link 64 = .ok (.iload_n 1, 1) := by decide +kernel
theorem d_M_link_65 : decode b_M_link 65 = .ok (.iconst 1, 1) := by decide +kernel
theorem d_M_link_66 : decode b_M_link 66 = .ok (.if_icmp .ne 12, 3) := by decide +kernel
theorem d_M_link_69 : decode b_M_link 69 = .ok (.aload_n 0, 1) := by decide +kernel
theorem d_M_link_70 : decode b_M_link 70 = .ok (.getfield 16, 3) := by decide +kernel
theorem d_M_link_73 : decode b_M_link 73 = .ok (.iload_n 2, 1) := by decide +kernel
theorem d_M_link_74 : decode b_M_link 74 = .ok (.iaload, 1) := by decide +kernel
theorem d_M_link_75 : decode b_M_link 75 = .ok (.goto 9, 3) := by decide +kernel
theorem d_M_link_78 : decode b_M_link 78 = .ok (.aload_n 0, 1) := by decide +kernel
theorem d_M_link_79 : decode b_M_link 79 = .ok (.getfield 19, 3) := by decide +kernel
theorem d_M_link_82 : decode b_M_link 82 = .ok (.iload_n 2, 1) := by decide +kernel
theorem d_M_link_83 : decode b_M_link 83 = .ok (.iaload, 1) := by decide +kernel
theorem d_M_link_84 : decode b_M_link 84 = .ok (.istore 5, 2) := by decide +kernel
theorem d_M_link_86 : decode b_M_link 86 = .ok (.iload 5, 2) := by decide +kernel
theorem d_M_link_88 : decode b_M_link 88 = .ok (.iload 4, 2) := by decide +kernel
theorem d_M_link_90 : decode b_M_link 90 = .ok (.iand, 1) := by decide +kernel
theorem d_M_link_91 : decode b_M_link 91 = .ok (.ifCond .eq 9, 3) := by decide +kernel
theorem d_M_link_94 : decode b_M_link 94 = .ok (.aload_n 0, 1) := by decide +kernel
theorem d_M_link_95 : decode b_M_link 95 = .ok (.iconst 3, 1) := by decide +kernel
theorem d_M_link_96 : decode b_M_link 96 = .ok (.putfield 44, 3) := by decide +kernel
theorem d_M_link_99 : decode b_M_link 99 = .ok (.return_, 1) := by decide +kernel
theorem d_M_link_100 : decode b_M_link 100 = .ok (.iload_n 1, 1) := by decide +kernel
theorem d_M_link_101 : decode b_M_link 101 = .ok (.ifCond .ne 17, 3) := by decide +kernel
theorem d_M_link_104 : decode b_M_link 104 = .ok (.aload_n 0, 1) := by decide +kernel
theorem d_M_link_105 : decode b_M_link 105 = .ok (.getfield 13, 3) := by decide +kernel
theorem d_M_link_108 : decode b_M_link 108 = .ok (.iload_n 2, 1) := by decide +kernel
theorem d_M_link_109 : decode b_M_link 109 = .ok (.iload 5, 2) := by decide +kernel
theorem d_M_link_111 : decode b_M_link 111 = .ok (.iload 4, 2) := by decide +kernel
theorem d_M_link_113 : decode b_M_link 113 = .ok (.ior, 1) := by decide +kernel
theorem d_M_link_114 : decode b_M_link 114 = .ok (.iastore, 1) := by decide +kernel
theorem d_M_link_115 : decode b_M_link 115 = .ok (.goto 33, 3) := by decide +kernel
theorem d_M_link_118 : decode b_M_link 118 = .ok (.iload_n 1, 1) := by decide +kernel
theorem d_M_link_119 : decode b_M_link 119 = .ok (.iconst 1, 1) := by decide +kernel
theorem d_M_link_120 : decode b_M_link 120 = .ok (.if_icmp .ne 17, 3) := by decide +kernel
theorem d_M_link_123 : decode b_M_link 123 = .ok (.aload_n 0, 1) := by decide +kernel
theorem d_M_link_124 : decode b_M_link 124 = .ok (.getfield 16, 3) := by decide +kernel
theorem d_M_link_127 : decode b_M_link 127 = .ok (.iload_n 2, 1) := by decide +kernel
theorem d_M_link_128 : decode b_M_link 128 = .ok (.iload 5, 2) := by decide +kernel
theorem d_M_link_130 : decode b_M_link 130 = .ok (.iload 4, 2) := by decide +kernel
theorem d_M_link_132 : decode b_M_link 132 = .ok (.ior, 1) := by decide +kernel
theorem d_M_link_133 : decode b_M_link 133 = .ok (.iastore, 1) := by decide +kernel
theorem d_M_link_134 : decode b_M_link 134 = .ok (.goto 14, 3) := by decide +kernel
theorem d_M_link_137 : decode b_M_link 137 = .ok (.aload_n 0, 1) := by decide +kernel
theorem d_M_link_138 : decode b_M_link 138 = .ok (.getfield 19, 3) := by decide +kernel
theorem d_M_link_141 : decode b_M_link 141 = .ok (.iload_n 2, 1) := by decide +kernel
theorem d_M_link_142 : decode b_M_link 142 = .ok (.iload 5, 2) := by decide +kernel
theorem d_M_link_144 : decode b_M_link 144 = .ok (.iload 4, 2) := by decide +kernel
theorem d_M_link_146 : decode b_M_link 146 = .ok (.ior, 1) := by decide +kernel
theorem d_M_link_147 : decode b_M_link 147 = .ok (.iastore, 1) := by decide +kernel
theorem d_M_link_148 : decode b_M_link 148 = .ok (.aload_n 0, 1) := by decide +kernel
theorem d_M_link_149 : decode b_M_link 149 = .ok (.invokevirtual 66, 3) := by decide +kernel
theorem d_M_link_152 : decode b_M_link 152 = .ok (.return_, 1) := by decide +kernel
theorem d_M_can_0 : decode b_M_can 0 = .ok (.aload_n 0, 1) := by decide +kernel
theorem d_M_can_1 : decode b_M_can 1 = .ok (.getfield 13, 3) := by decide +kernel
theorem d_M_can_4 : decode b_M_can 4 = .ok (.iload_n 1, 1) := by decide +kernel
theorem d_M_can_5 : decode b_M_can 5 = .ok (.iaload, 1) := by decide +kernel
theorem d_M_can_6 : decode b_M_can 6 = .ok (.iload_n 2, 1) := by decide +kernel
theorem d_M_can_7 : decode b_M_can 7 = .ok (.iconst (-1), 1) := by decide +kernel
theorem d_M_can_8 : decode b_M_can 8 = .ok (.ixor, 1) := by decide +kernel
theorem d_M_can_9 : decode b_M_can 9 = .ok (.iand, 1) := by decide +kernel
theorem d_M_can_10 : decode b_M_can 10 = .ok (.ifCond .ne 7, 3) := by decide +kernel
theorem d_M_can_13 : decode b_M_can 13 = .ok (.iconst 1, 1) := by decide +kernel
theorem d_M_can_14 : decode b_M_can 14 = .ok (.goto 4, 3) := by decide +kernel
theorem d_M_can_17 : decode b_M_can 17 = .ok (.iconst 0, 1) := by decide +kernel
theorem d_M_can_18 : decode b_M_can 18 = .ok (.ireturn, 1) := by decide +kernel
theorem d_M_after_0 : decode b_M_after 0 = .ok (.iload_n 2, 1) := by decide +kernel
theorem d_M_after_1 : decode b_M_after 1 = .ok (.aload_n 0, 1) := by decide +kernel
theorem d_M_after_2 : decode b_M_after 2 = .ok (.getfield 19, 3) := by decide +kernel
theorem d_M_after_5 : decode b_M_after 5 = .ok (.iload_n 1, 1) := by decide +kernel
theorem d_M_after_6 : decode b_M_after 6 = .ok (.iaload, 1) := by decide +kernel
theorem d_M_after_7 : decode b_M_after 7 = .ok (.iconst (-1), 1) := by decide +kernel
theorem d_M_after_8 : decode b_M_after 8 = .ok (.ixor, 1) := by decide +kernel
theorem d_M_after_9 : decode b_M_after 9 = .ok (.iand, 1) := by decide +kernel
theorem d_M_after_10 : decode b_M_after 10 = .ok (.aload_n 0, 1) := by decide +kernel
theorem d_M_after_11 : decode b_M_after 11 = .ok (.getfield 16, 3) := by decide +kernel
theorem d_M_after_14 : decode b_M_after 14 = .ok (.iload_n 1, 1) := by decide +kernel
theorem d_M_after_15 : decode b_M_after 15 = .ok (.iaload, 1) := by decide +kernel
theorem d_M_after_16 : decode b_M_after 16 = .ok (.ior, 1) := by decide +kernel
theorem d_M_after_17 : decode b_M_after 17 = .ok (.ireturn, 1) := by decide +kernel
theorem d_M_isMet_0 : decode b_M_isMet 0 = .ok (.aload_n 0, 1) := by decide +kernel
theorem d_M_isMet_1 : decode b_M_isMet 1 = .ok (.getfield 63, 3) := by decide +kernel
theorem d_M_isMet_4 : decode b_M_isMet 4 = .ok (.iload_n 1, 1) := by decide +kernel
theorem d_M_isMet_5 : decode b_M_isMet 5 = .ok (.iconst (-1), 1) := by decide +kernel
theorem d_M_isMet_6 : decode b_M_isMet 6 = .ok (.ixor, 1) := by decide +kernel
theorem d_M_isMet_7 : decode b_M_isMet 7 = .ok (.iand, 1) := by decide +kernel
theorem d_M_isMet_8 : decode b_M_isMet 8 = .ok (.ifCond .ne 7, 3) := by decide +kernel
theorem d_M_isMet_11 : decode b_M_isMet 11 = .ok (.iconst 1, 1) := by decide +kernel
theorem d_M_isMet_12 : decode b_M_isMet 12 = .ok (.goto 4, 3) := by decide +kernel
theorem d_M_isMet_15 : decode b_M_isMet 15 = .ok (.iconst 0, 1) := by decide +kernel
theorem d_M_isMet_16 : decode b_M_isMet 16 = .ok (.ireturn, 1) := by decide +kernel
theorem d_M_reset_0 : decode b_M_reset 0 = .ok (.aload_n 0, 1) := by decide +kernel
theorem d_M_reset_1 : decode b_M_reset 1 = .ok (.iconst 0, 1) := by decide +kernel
theorem d_M_reset_2 : decode b_M_reset 2 = .ok (.putfield 44, 3) := by decide +kernel
theorem d_M_reset_5 : decode b_M_reset 5 = .ok (.aload_n 0, 1) := by decide +kernel
theorem d_M_reset_6 : decode b_M_reset 6 = .ok (.aload_n 0, 1) := by decide +kernel
theorem d_M_reset_7 : decode b_M_reset 7 = .ok (.getfield 57, 3) := by decide +kernel
theorem d_M_reset_10 : decode b_M_reset 10 = .ok (.putfield 60, 3) := by decide +kernel
theorem d_M_reset_13 : decode b_M_reset 13 = .ok (.return_, 1) := by decide +kernel
theorem d_M_holds_0 : decode b_M_holds 0 = .ok (.aload_n 0, 1) := by decide +kernel
theorem d_M_holds_1 : decode b_M_holds 1 = .ok (.aload_n 0, 1) := by decide +kernel
theorem d_M_holds_2 : decode b_M_holds 2 = .ok (.iload_n 1, 1) := by decide +kernel
theorem d_M_holds_3 : decode b_M_holds 3 = .ok (.invokevirtual 73, 3) := by decide +kernel
theorem d_M_holds_6 : decode b_M_holds 6 = .ok (.ifCond .eq 7, 3) := by decide +kernel
theorem d_M_holds_9 : decode b_M_holds 9 = .ok (.iconst 1, 1) := by decide +kernel
theorem d_M_holds_10 : decode b_M_holds 10 = .ok (.goto 4, 3) := by decide +kernel
theorem d_M_holds_13 : decode b_M_holds 13 = .ok (.iconst 0, 1) := by decide +kernel
theorem d_M_holds_14 : decode b_M_holds 14 = .ok (.putfield 44, 3) := by decide +kernel
theorem d_M_holds_17 : decode b_M_holds 17 = .ok (.aload_n 0, 1) := by decide +kernel
theorem d_M_holds_18 : decode b_M_holds 18 = .ok (.getfield 44, 3) := by decide +kernel
theorem d_M_holds_21 : decode b_M_holds 21 = .ok (.ifCond .ne 19, 3) := by decide +kernel
theorem d_M_holds_24 : decode b_M_holds 24 = .ok (.aload_n 0, 1) := by decide +kernel
theorem d_M_holds_25 : decode b_M_holds 25 = .ok (.getfield 60, 3) := by decide +kernel
theorem d_M_holds_28 : decode b_M_holds 28 = .ok (.iload_n 1, 1) := by decide +kernel
theorem d_M_holds_29 : decode b_M_holds 29 = .ok (.ishr, 1) := by decide +kernel
theorem d_M_holds_30 : decode b_M_holds 30 = .ok (.iconst 1, 1) := by decide +kernel
theorem d_M_holds_31 : decode b_M_holds 31 = .ok (.iand, 1) := by decide +kernel
theorem d_M_holds_32 : decode b_M_holds 32 = .ok (.iconst 1, 1) := by decide +kernel
theorem d_M_holds_33 : decode b_M_holds 33 = .ok (.if_icmp .ne 7, 3) := by decide +kernel
theorem d_M_holds_36 : decode b_M_holds 36 = .ok (.iconst 1, 1) := by decide +kernel
theorem d_M_holds_37 : decode b_M_holds 37 = .ok (.goto 4, 3) := by decide +kernel
theorem d_M_holds_40 : decode b_M_holds 40 = .ok (.iconst 0, 1) := by decide +kernel
theorem d_M_holds_41 : decode b_M_holds 41 = .ok (.ireturn, 1) := by decide +kernel
theorem d_M_applicable_0 : decode b_M_applicable 0 = .ok (.aload_n 0, 1) := by decide +kernel
theorem d_M_applicable_1 : decode b_M_applicable 1 = .ok (.aload_n 0, 1) := by decide +kernel
theorem d_M_applicable_2 : decode b_M_applicable 2 = .ok (.iload_n 1, 1) := by decide +kernel
theorem d_M_applicable_3 : decode b_M_applicable 3 = .ok (.invokevirtual 69, 3) := by decide +kernel
theorem d_M_applicable_6 : decode b_M_applicable 6 = .ok (.ifCond .eq 7, 3) := by decide +kernel
theorem d_M_applicable_9 : decode b_M_applicable 9 = .ok (.iconst 1, 1) := by decide +kernel
theorem d_M_applicable_10 : decode b_M_applicable 10 = .ok (.goto 4, 3) := by decide +kernel
theorem d_M_applicable_13 : decode b_M_applicable 13 = .ok (.iconst 0, 1) := by decide +kernel
theorem d_M_applicable_14 : decode b_M_applicable 14 = .ok (.putfield 44, 3) := by decide +kernel
theorem d_M_applicable_17 : decode b_M_applicable 17 = .ok (.aload_n 0, 1) := by decide +kernel
theorem d_M_applicable_18 : decode b_M_applicable 18 = .ok (.getfield 44, 3) := by decide +kernel
theorem d_M_applicable_21 : decode b_M_applicable 21 = .ok (.ifCond .ne 19, 3) := by decide +kernel
theorem d_M_applicable_24 : decode b_M_applicable 24 = .ok (.aload_n 0, 1) := by decide +kernel
theorem d_M_applicable_25 : decode b_M_applicable 25 = .ok (.iload_n 1, 1) := by decide +kernel
theorem d_M_applicable_26 : decode b_M_applicable 26 = .ok (.aload_n 0, 1) := by decide +kernel
theorem d_M_applicable_27 : decode b_M_applicable 27 = .ok (.getfield 60, 3) := by decide +kernel
theorem d_M_applicable_30 : decode b_M_applicable 30 = .ok (.invokevirtual 76, 3) := by decide +kernel
theorem d_M_applicable_33 : decode b_M_applicable 33 = .ok (.ifCond .eq 7, 3) := by decide +kernel
theorem d_M_applicable_36 : decode b_M_applicable 36 = .ok (.iconst 1, 1) := by decide +kernel
theorem d_M_applicable_37 : decode b_M_applicable 37 = .ok (.goto 4, 3) := by decide +kernel
theorem d_M_applicable_40 : decode b_M_applicable 40 = .ok (.iconst 0, 1) := by decide +kernel
theorem d_M_applicable_41 : decode b_M_applicable 41 = .ok (.ireturn, 1) := by decide +kernel
theorem d_M_apply_0 : decode b_M_apply 0 = .ok (.aload_n 0, 1) := by decide +kernel
theorem d_M_apply_1 : decode b_M_apply 1 = .ok (.aload_n 0, 1) := by decide +kernel
theorem d_M_apply_2 : decode b_M_apply 2 = .ok (.iload_n 1, 1) := by decide +kernel
theorem d_M_apply_3 : decode b_M_apply 3 = .ok (.invokevirtual 69, 3) := by decide +kernel
theorem d_M_apply_6 : decode b_M_apply 6 = .ok (.ifCond .eq 7, 3) := by decide +kernel
theorem d_M_apply_9 : decode b_M_apply 9 = .ok (.iconst 1, 1) := by decide +kernel
theorem d_M_apply_10 : decode b_M_apply 10 = .ok (.goto 20, 3) := by decide +kernel
theorem d_M_apply_13 : decode b_M_apply 13 = .ok (.aload_n 0, 1) := by decide +kernel
theorem d_M_apply_14 : decode b_M_apply 14 = .ok (.iload_n 1, 1) := by decide +kernel
theorem d_M_apply_15 : decode b_M_apply 15 = .ok (.aload_n 0, 1) := by decide +kernel
theorem d_M_apply_16 : decode b_M_apply 16 = .ok (.getfield 60, 3) := by decide +kernel
theorem d_M_apply_19 : decode b_M_apply 19 = .ok (.invokevirtual 76, 3) := by decide +kernel
theorem d_M_apply_22 : decode b_M_apply 22 = .ok (.ifCond .ne 7, 3) := by decide +kernel
theorem d_M_apply_25 : decode b_M_apply 25 = .ok (.iconst 2, 1) := by decide +kernel
theorem d_M_apply_26 : decode b_M_apply 26 = .ok (.goto 4, 3) := by decide +kernel
theorem d_M_apply_29 : decode b_M_apply 29 = .ok (.iconst 0, 1) := by decide +kernel
theorem d_M_apply_30 : decode b_M_apply 30 = .ok (.putfield 44, 3) := by decide +kernel
theorem d_M_apply_33 : decode b_M_apply 33 = .ok (.aload_n 0, 1) := by decide +kernel
theorem d_M_apply_34 : decode b_M_apply 34 = .ok (.getfield 44, 3) := by decide +kernel
theorem d_M_apply_37 : decode b_M_apply 37 = .ok (.ifCond .le 5, 3) := by decide +kernel
theorem d_M_apply_40 : decode b_M_apply 40 = .ok (.iconst 0, 1) := by decide +kernel
theorem d_M_apply_41 : decode b_M_apply 41 = .ok (.ireturn, 1) := by decide +kernel
theorem d_M_apply_42 : decode b_M_apply 42 = .ok (.aload_n 0, 1) := by decide +kernel
theorem d_M_apply_43 : decode b_M_apply 43 = .ok (.aload_n 0, 1) := by decide +kernel
theorem d_M_apply_44 : decode b_M_apply 44 = .ok (.iload_n 1, 1) := by decide +kernel
theorem d_M_apply_45 : decode b_M_apply 45 = .ok (.aload_n 0, 1) := by decide +kernel
theorem d_M_apply_46 : decode b_M_apply 46 = .ok (.getfield 60, 3) := by decide +kernel
theorem d_M_apply_49 : decode b_M_apply 49 = .ok (.invokevirtual 80, 3) := by decide +kernel
theorem d_M_apply_52 : decode b_M_apply 52 = .ok (.putfield 60, 3) := by decide +kernel
theorem d_M_apply_55 : decode b_M_apply 55 = .ok (.aload_n 0, 1) := by decide +kernel
theorem d_M_apply_56 : decode b_M_apply 56 = .ok (.aload_n 0, 1) := by decide +kernel
theorem d_M_apply_57 : decode b_M_apply 57 = .ok (.getfield 60, 3) := by decide +kernel
theorem d_M_apply_60 : decode b_M_apply 60 = .ok (.invokevirtual 84, 3) := by decide +kernel
theorem d_M_apply_63 : decode b_M_apply 63 = .ok (.ireturn, 1) := by decide +kernel
theorem d_M_findCosts_0 : decode b_M_findCosts 0 = .ok (.iconst 1, 1) := by decide +kernel
theorem d_M_findCosts_1 : decode b_M_findCosts 1 = .ok (.aload_n 0, 1) := by decide +kernel
theorem d_M_findCosts_2 : decode b_M_findCosts 2 = .ok (.getfield 48, 3) := by decide +kernel
theorem d_M_findCosts_5 : decode b_M_findCosts 5 = .ok (.ishl, 1) := by decide +kernel
theorem d_M_findCosts_6 : decode b_M_findCosts 6 = .ok (.istore_n 1, 1) := by decide +kernel
theorem d_M_findCosts_7 : decode b_M_findCosts 7 = .ok (.iconst 0, 1) := by decide +kernel
theorem d_M_findCosts_8 : decode b_M_findCosts 8 = .ok (.istore_n 2, 1) := by decide +kernel
theorem d_M_findCosts_9 : decode b_M_findCosts 9 = .ok (.iload_n 2, 1) := by decide +kernel
theorem d_M_findCosts_10 : decode b_M_findCosts 10 = .ok (.iload_n 1, 1) := by decide +kernel
theorem d_M_findCosts_11 : decode b_M_findCosts 11 = .ok (.if_icmp .ge 29, 3) := by decide +kernel
theorem d_M_findCosts_14 : decode b_M_findCosts 14 = .ok (.aload_n 0, 1) := by decide +kernel
theorem d_M_findCosts_15 : decode b_M_findCosts 15 = .ok (.getfield 28, 3) := by decide +kernel
theorem d_M_findCosts_18 : decode b_M_findCosts 18 = .ok (.iload_n 2, 1) := by decide +kernel
theorem d_M_findCosts_19 : decode b_M_findCosts 19 = .ok (.aload_n 0, 1) := by decide +kernel
theorem d_M_findCosts_20 : decode b_M_findCosts 20 = .ok (.iload_n 2, 1) := by decide +kernel
theorem d_M_findCosts_21 : decode b_M_findCosts 21 = .ok (.invokevirtual 84, 3) := by decide +kernel
theorem d_M_findCosts_24 : decode b_M_findCosts 24 = .ok (.ifCond .eq 7, 3) := by decide +kernel
theorem d_M_findCosts_27 : decode b_M_findCosts 27 = .ok (.iconst 0, 1) := by decide +kernel
theorem d_M_findCosts_28 : decode b_M_findCosts 28 = .ok (.goto 5, 3) := by decide +kernel
theorem d_M_findCosts_31 : decode b_M_findCosts 31 = .ok (.ldc 87, 2) := by decide +kernel
theorem d_M_findCosts_33 : decode b_M_findCosts 33 = .ok (.iastore, 1) := by decide +kernel
theorem d_M_findCosts_34 : decode b_M_findCosts 34 = .ok (.iinc 2 1, 3) := by decide +kernel
theorem d_M_findCosts_37 : decode b_M_findCosts 37 = .ok (.goto (-28), 3) := by decide +kernel
theorem d_M_findCosts_40 : decode b_M_findCosts 40 = .ok (.iconst 1, 1) := by decide +kernel
theorem d_M_findCosts_41 : decode b_M_findCosts 41 = .ok (.istore_n 2, 1) := by decide +kernel
theorem d_M_findCosts_42 : decode b_M_findCosts 42 = .ok (.iload_n 2, 1) := by decide +kernel
theorem d_M_findCosts_43 : decode b_M_findCosts 43 = .ok (.ifCond .eq 106, 3) := by decide +kernel
theorem d_M_findCosts_46 : decode b_M_findCosts 46 = .ok (.iconst 0, 1) := by decide +kernel
theorem d_M_findCosts_47 : decode b_M_findCosts 47 = .ok (.istore_n 2, 1) := by decide +kernel
theorem d_M_findCosts_48 : decode b_M_findCosts 48 = .ok (.iconst 0, 1) := by decide +kernel
theorem d_M_findCosts_49 : decode b_M_findCosts 49 = .ok (.istore_n 3, 1) := by decide +kernel
theorem d_M_findCosts_50 : decode b_M_findCosts 50 = .ok (.iload_n 3, 1) := by decide +kernel
theorem d_M_findCosts_51 : decode b_M_findCosts 51 = .ok (.iload_n 1, 1) := by decide +kernel
theorem d_M_findCosts_52 : decode b_M_findCosts 52 = .ok (.if_icmp .ge 94, 3) := by decide +kernel
theorem d_M_findCosts_55 : decode b_M_findCosts 55 = .ok (.iconst 0, 1) := by decide +kernel
theorem d_M_findCosts_56 : decode b_M_findCosts 56 = .ok (.istore 4, 2) := by decide +kernel
theorem d_M_findCosts_58 : decode b_M_findCosts 58 = .ok (.iload 4, 2) := by decide +kernel
theorem d_M_findCosts_60 : decode b_M_findCosts 60 = .ok (.aload_n 0, 1) := by decide +kernel
theorem d_M_findCosts_61 : decode b_M_findCosts 61 = .ok (.getfield 51, 3) := by decide +kernel
theorem d_M_findCosts_64 : decode b_M_findCosts 64 = .ok (.if_icmp .ge 76, 3) := by decide +kernel
theorem d_M_findCosts_67 : decode b_M_findCosts 67 = .ok (.aload_n 0, 1) := by decide +kernel
theorem d_M_findCosts_68 : decode b_M_findCosts 68 = .ok (.iload 4, 2) := by decide +kernel
theorem d_M_findCosts_70 : decode b_M_findCosts 70 = .ok (.iload_n 3, 1) := by decide +kernel
theorem d_M_findCosts_71 : decode b_M_findCosts 71 = .ok (.invokevirtual 76, 3) := by decide +kernel
theorem d_M_findCosts_74 : decode b_M_findCosts 74 = .ok (.ifCond .eq 60, 3) := by decide +kernel
theorem d_M_findCosts_77 : decode b_M_findCosts 77 = .ok (.aload_n 0, 1) := by decide +kernel
theorem d_M_findCosts_78 : decode b_M_findCosts 78 = .ok (.getfield 7, 3) := by decide +kernel
theorem d_M_findCosts_81 : decode b_M_findCosts 81 = .ok (.iload 4, 2) := by decide +kernel
theorem d_M_findCosts_83 : decode b_M_findCosts 83 = .ok (.iaload, 1) := by decide +kernel
theorem d_M_findCosts_84 : decode b_M_findCosts 84 = .ok (.aload_n 0, 1) := by decide +kernel
theorem d_M_findCosts_85 : decode b_M_findCosts 85 = .ok (.getfield 28, 3) := by decide +kernel
theorem d_M_findCosts_88 : decode b_M_findCosts 88 = .ok (.aload_n 0, 1) := by decide +kernel
theorem d_M_findCosts_89 : decode b_M_findCosts 89 = .ok (.iload 4, 2) := by decide +kernel
theorem d_M_findCosts_91 : decode b_M_findCosts 91 = .ok (.iload_n 3, 1) := by decide +kernel
theorem d_M_findCosts_92 : decode b_M_findCosts 92 = .ok (.invokevirtual 80, 3) := by decide +kernel
theorem d_M_findCosts_95 : decode b_M_findCosts 95 = .ok (.iaload, 1) := by decide +kernel
theorem d_M_findCosts_96 : decode b_M_findCosts 96 = .ok (.iadd, 1) := by decide +kernel
theorem d_M_findCosts_97 : decode b_M_findCosts 97 = .ok (.aload_n 0, 1) := by decide +kernel
theorem d_M_findCosts_98 : decode b_M_findCosts 98 = .ok (.getfield 28, 3) := by decide +kernel
theorem d_M_findCosts_101 : decode b_M_findCosts 101 = .ok (.iload_n 3, 1) := by decide +kernel
theorem d_M_findCosts_102 : decode b_M_findCosts 102 = .ok (.iaload, 1) := by decide +kernel
theorem d_M_findCosts_103 : decode b_M_findCosts 103 = .ok (.if_icmp .ge 31, 3) := by decide +kernel
theorem d_M_findCosts_106 : decode b_M_findCosts 106 = .ok (.aload_n 0, 1) := by decide +kernel
theorem d_M_findCosts_107 : decode b_M_findCosts 107 = .ok (.getfield 28, 3) := by decide +kernel
theorem d_M_findCosts_110 : decode b_M_findCosts 110 = .ok (.iload_n 3, 1) := by decide +kernel
theorem d_M_findCosts_111 : decode b_M_findCosts 111 = .ok (.aload_n 0, 1) := by decide +kernel
theorem d_M_findCosts_112 : decode b_M_findCosts 112 = .ok (.getfield 7, 3) := by decide +kernel
theorem d_M_findCosts_115 : decode b_M_findCosts 115 = .ok (.iload 4, 2) := by decide +kernel
theorem d_M_findCosts_117 : decode b_M_findCosts 117 = .ok (.iaload, 1) := by decide +kernel
theorem d_M_findCosts_118 : decode b_M_findCosts 118 = .ok (.aload_n 0, 1) := by decide +kernel
theorem d_M_findCosts_119 : decode b_M_findCosts 119 = .ok (.getfield 28, 3) := by decide +kernel
theorem d_M_findCosts_122 : decode b_M_findCosts 122 = .ok (.aload_n 0, 1) := by decide +kernel
theorem d_M_findCosts_123 : decode b_M_findCosts 123 = .ok (.iload 4, 2) := by decide +kernel
theorem d_M_findCosts_125 : decode b_M_findCosts 125 = .ok (.iload_n 3, 1) := by decide +kernel
theorem d_M_findCosts_126 : decode b_M_findCosts 126 = .ok (.invokevirtual 80, 3) := by decide +kernel
theorem d_M_findCosts_129 : decode b_M_findCosts 129 = .ok (.iaload, 1) := by decide +kernel
theorem d_M_findCosts_130 : decode b_M_findCosts 130 = .ok (.iadd, 1) := by decide +kernel
theorem d_M_findCosts_131 : decode b_M_findCosts 131 = .ok (.iastore, 1) := by decide +kernel
theorem d_M_findCosts_132 : decode b_M_findCosts 132 = .ok (.iconst 1, 1) := by decide +kernel
theorem d_M_findCosts_133 : decode b_M_findCosts 133 = .ok (.istore_n 2, 1) := by decide +kernel
theorem d_M_findCosts_134 : decode b_M_findCosts 134 = .ok (.iinc 4 1, 3) := by decide +kernel
theorem d_M_findCosts_137 : decode b_M_findCosts 137 = .ok (.goto (-79), 3) := by decide +kernel
theorem d_M_findCosts_140 : decode b_M_findCosts 140 = .ok (.iinc 3 1, 3) := by decide +kernel
theorem d_M_findCosts_143 : decode b_M_findCosts 143 = .ok (.goto (-93), 3) := by decide +kernel
theorem d_M_findCosts_146 : decode b_M_findCosts 146 = .ok (.goto (-104), 3) := by decide +kernel
theorem d_M_findCosts_149 : decode b_M_findCosts 149 = .ok (.return_, 1) := by decide +kernel
theorem d_M_bestAction_0 : decode b_M_bestAction 0 = .ok (.iconst 0, 1) := by decide +kernel
theorem d_M_bestAction_1 : decode b_M_bestAction 1 = .ok (.istore_n 2, 1) := by decide +kernel
theorem d_M_bestAction_2 : decode b_M_bestAction 2 = .ok (.iload_n 2, 1) := by decide +kernel
theorem d_M_bestAction_3 : decode b_M_bestAction 3 = .ok (.aload_n 0, 1) := by decide +kernel
theorem d_M_bestAction_4 : decode b_M_bestAction 4 = .ok (.getfield 51, 3) := by decide +kernel
theorem d_M_bestAction_7 : decode b_M_bestAction 7 = .ok (.if_icmp .ge 47, 3) := by decide +kernel
theorem d_M_bestAction_10 : decode b_M_bestAction 10 = .ok (.aload_n 0, 1) := by decide +kernel
theorem d_M_bestAction_11 : decode b_M_bestAction 11 = .ok (.iload_n 2, 1) := by decide +kernel
theorem d_M_bestAction_12 : decode b_M_bestAction 12 = .ok (.iload_n 1, 1) := by decide +kernel
theorem d_M_bestAction_13 : decode b_M_bestAction 13 = .ok (.invokevirtual 76, 3) := by decide +kernel
theorem d_M_bestAction_16 : decode b_M_bestAction 16 = .ok (.ifCond .eq 32, 3) := by decide +kernel
theorem d_M_bestAction_19 : decode b_M_bestAction 19 = .ok (.aload_n 0, 1) := by decide +kernel
theorem d_M_bestAction_20 : decode b_M_bestAction 20 = .ok (.getfield 7, 3) := by decide +kernel
theorem d_M_bestAction_23 : decode b_M_bestAction 23 = .ok (.iload_n 2, 1) := by decide +kernel
theorem d_M_bestAction_24 : decode b_M_bestAction 24 = .ok (.iaload, 1) := by decide +kernel
theorem d_M_bestAction_25 : decode b_M_bestAction 25 = .ok (.aload_n 0, 1) := by decide +kernel
theorem d_M_bestAction_26 : decode b_M_bestAction 26 = .ok (.getfield 28, 3) := by decide +kernel
theorem d_M_bestAction_29 : decode b_M_bestAction 29 = .ok (.aload_n 0, 1) := by decide +kernel
theorem d_M_bestAction_30 : decode b_M_bestAction 30 = .ok (.iload_n 2, 1) := by decide +kernel
theorem d_M_bestAction_31 : decode b_M_bestAction 31 = .ok (.iload_n 1, 1) := by decide +kernel
theorem d_M_bestAction_32 : decode b_M_bestAction 32 = .ok (.invokevirtual 80, 3) := by decide +kernel
theorem d_M_bestAction_35 : decode b_M_bestAction 35 = .ok (.iaload, 1) := by decide +kernel
theorem d_M_bestAction_36 : decode b_M_bestAction 36 = .ok (.iadd, 1) := by decide +kernel
theorem d_M_bestAction_37 : decode b_M_bestAction 37 = .ok (.aload_n 0, 1) := by decide +kernel
theorem d_M_bestAction_38 : decode b_M_bestAction 38 = .ok (.getfield 28, 3) := by decide +kernel
theorem d_M_bestAction_41 : decode b_M_bestAction 41 = .ok (.iload_n 1, 1) := by decide +kernel
theorem d_M_bestAction_42 : decode b_M_bestAction 42 = .ok (.iaload, 1) := by decide +kernel
theorem d_M_bestAction_43 : decode b_M_bestAction 43 = .ok (.if_icmp .ne 5, 3) := by decide +kernel
theorem d_M_bestAction_46 : decode b_M_bestAction 46 = .ok (.iload_n 2, 1) := by decide +kernel
theorem d_M_bestAction_47 : decode b_M_bestAction 47 = .ok (.ireturn, 1) := by decide +kernel
theorem d_M_bestAction_48 : decode b_M_bestAction 48 = .ok (.iinc 2 1, 3) := by decide +kernel
theorem d_M_bestAction_51 : decode b_M_bestAction 51 = .ok (.goto (-49), 3) := by decide +kernel
theorem d_M_bestAction_54 : decode b_M_bestAction 54 = .ok (.iconst (-1), 1) := by decide +kernel
theorem d_M_bestAction_55 : decode b_M_bestAction 55 = .ok (.ireturn, 1) := by decide +kernel
theorem d_M_plan_0 : decode b_M_plan 0 = .ok (.aload_n 0, 1) := by decide +kernel
theorem d_M_plan_1 : decode b_M_plan 1 = .ok (.iconst 0, 1) := by decide +kernel
theorem d_M_plan_2 : decode b_M_plan 2 = .ok (.putfield 44, 3) := by decide +kernel
theorem d_M_plan_5 : decode b_M_plan 5 = .ok (.aload_n 0, 1) := by decide +kernel
theorem d_M_plan_6 : decode b_M_plan 6 = .ok (.invokevirtual 88, 3) := by decide +kernel
theorem d_M_plan_9 : decode b_M_plan 9 = .ok (.aload_n 0, 1) := by decide +kernel
theorem d_M_plan_10 : decode b_M_plan 10 = .ok (.iconst 0, 1) := by decide +kernel
theorem d_M_plan_11 : decode b_M_plan 11 = .ok (.putfield 91, 3) := by decide +kernel
theorem d_M_plan_14 : decode b_M_plan 14 = .ok (.aload_n 0, 1) := by decide +kernel
theorem d_M_plan_15 : decode b_M_plan 15 = .ok (.getfield 28, 3) := by decide +kernel
theorem d_M_plan_18 : decode b_M_plan 18 = .ok (.aload_n 0, 1) := by decide +kernel
theorem d_M_plan_19 : decode b_M_plan 19 = .ok (.getfield 60, 3) := by decide +kernel
theorem d_M_plan_22 : decode b_M_plan 22 = .ok (.iaload, 1) := by decide +kernel
theorem d_M_plan_23 : decode b_M_plan 23 = .ok (.ldc 87, 2) := by decide +kernel
theorem d_M_plan_25 : decode b_M_plan 25 = .ok (.if_icmp .lt 5, 3) := by decide +kernel
theorem d_M_plan_28 : decode b_M_plan 28 = .ok (.iconst (-1), 1) := by decide +kernel
theorem d_M_plan_29 : decode b_M_plan 29 = .ok (.ireturn, 1) := by decide +kernel
theorem d_M_plan_30 : decode b_M_plan 30 = .ok (.aload_n 0, 1) := by decide +kernel
theorem d_M_plan_31 : decode b_M_plan 31 = .ok (.getfield 60, 3) := by decide +kernel
theorem d_M_plan_34 : decode b_M_plan 34 = .ok (.istore_n 1, 1) := by decide +kernel
theorem d_M_plan_35 : decode b_M_plan 35 = .ok (.aload_n 0, 1) := by decide +kernel
theorem d_M_plan_36 : decode b_M_plan 36 = .ok (.getfield 28, 3) := by decide +kernel
theorem d_M_plan_39 : decode b_M_plan 39 = .ok (.iload_n 1, 1) := by decide +kernel
theorem d_M_plan_40 : decode b_M_plan 40 = .ok (.iaload, 1) := by decide +kernel
theorem d_M_plan_41 : decode b_M_plan 41 = .ok (.ifCond .le 39, 3) := by decide +kernel
theorem d_M_plan_44 : decode b_M_plan 44 = .ok (.aload_n 0, 1) := by decide +kernel
theorem d_M_plan_45 : decode b_M_plan 45 = .ok (.iload_n 1, 1) := by decide +kernel
theorem d_M_plan_46 : decode b_M_plan 46 = .ok (.invokevirtual 94, 3) := by decide +kernel
theorem d_M_plan_49 : decode b_M_plan 49 = .ok (.istore_n 2, 1) := by decide +kernel
theorem d_M_plan_50 : decode b_M_plan 50 = .ok (.aload_n 0, 1) := by decide +kernel
theorem d_M_plan_51 : decode b_M_plan 51 = .ok (.getfield 22, 3) := by decide +kernel
theorem d_M_plan_54 : decode b_M_plan 54 = .ok (.aload_n 0, 1) := by decide +kernel
theorem d_M_plan_55 : decode b_M_plan 55 = .ok (.getfield 91, 3) := by decide +kernel
theorem d_M_plan_58 : decode b_M_plan 58 = .ok (.iload_n 2, 1) := by decide +kernel
theorem d_M_plan_59 : decode b_M_plan 59 = .ok (.iastore, 1) := by decide +kernel
theorem d_M_plan_60 : decode b_M_plan 60 = .ok (.aload_n 0, 1) := by decide +kernel
theorem d_M_plan_61 : decode b_M_plan 61 = .ok (.dup, 1) := by decide +kernel
theorem d_M_plan_62 : decode b_M_plan 62 = .ok (.getfield 91, 3) := by decide +kernel
theorem d_M_plan_65 : decode b_M_plan 65 = .ok (.iconst 1, 1) := by decide +kernel
theorem d_M_plan_66 : decode b_M_plan 66 = .ok (.iadd, 1) := by decide +kernel
theorem d_M_plan_67 : decode b_M_plan 67 = .ok (.putfield 91, 3) := by decide +kernel
theorem d_M_plan_70 : decode b_M_plan 70 = .ok (.aload_n 0, 1) := by decide +kernel
theorem d_M_plan_71 : decode b_M_plan 71 = .ok (.iload_n 2, 1) := by decide +kernel
theorem d_M_plan_72 : decode b_M_plan 72 = .ok (.iload_n 1, 1) := by decide +kernel
theorem d_M_plan_73 : decode b_M_plan 73 = .ok (.invokevirtual 80, 3) := by decide +kernel
theorem d_M_plan_76 : decode b_M_plan 76 = .ok (.istore_n 1, 1) := by decide +kernel
theorem d_M_plan_77 : decode b_M_plan 77 = .ok (.goto (-42), 3) := by decide +kernel
theorem d_M_plan_80 : decode b_M_plan 80 = .ok (.aload_n 0, 1) := by decide +kernel
theorem d_M_plan_81 : decode b_M_plan 81 = .ok (.getfield 28, 3) := by decide +kernel
theorem d_M_plan_84 : decode b_M_plan 84 = .ok (.aload_n 0, 1) := by decide +kernel
theorem d_M_plan_85 : decode b_M_plan 85 = .ok (.getfield 60, 3) := by decide +kernel
theorem d_M_plan_88 : decode b_M_plan 88 = .ok (.iaload, 1) := by decide +kernel
theorem d_M_plan_89 : decode b_M_plan 89 = .ok (.ireturn, 1) := by decide +kernel
theorem d_M_length_0 : decode b_M_length 0 = .ok (.aload_n 0, 1) := by decide +kernel
theorem d_M_length_1 : decode b_M_length 1 = .ok (.iconst 0, 1) := by decide +kernel
theorem d_M_length_2 : decode b_M_length 2 = .ok (.putfield 44, 3) := by decide +kernel
theorem d_M_length_5 : decode b_M_length 5 = .ok (.aload_n 0, 1) := by decide +kernel
theorem d_M_length_6 : decode b_M_length 6 = .ok (.getfield 91, 3) := by decide +kernel
theorem d_M_length_9 : decode b_M_length 9 = .ok (.ireturn, 1) := by decide +kernel
theorem d_M_step_0 : decode b_M_step 0 = .ok (.aload_n 0, 1) := by decide +kernel
theorem d_M_step_1 : decode b_M_step 1 = .ok (.iconst 0, 1) := by decide +kernel
theorem d_M_step_2 : decode b_M_step 2 = .ok (.putfield 44, 3) := by decide +kernel
theorem d_M_step_5 : decode b_M_step 5 = .ok (.iload_n 1, 1) := by decide +kernel
theorem d_M_step_6 : decode b_M_step 6 = .ok (.ifCond .lt 11, 3) := by decide +kernel
theorem d_M_step_9 : decode b_M_step 9 = .ok (.iload_n 1, 1) := by decide +kernel
theorem d_M_step_10 : decode b_M_step 10 = .ok (.aload_n 0, 1) := by decide +kernel
theorem d_M_step_11 : decode b_M_step 11 = .ok (.getfield 91, 3) := by decide +kernel
theorem d_M_step_14 : decode b_M_step 14 = .ok (.if_icmp .lt 7, 3) := by decide +kernel
theorem d_M_step_17 : decode b_M_step 17 = .ok (.iconst (-1), 1) := by decide +kernel
theorem d_M_step_18 : decode b_M_step 18 = .ok (.goto 9, 3) := by decide +kernel
theorem d_M_step_21 : decode b_M_step 21 = .ok (.aload_n 0, 1) := by decide +kernel
theorem d_M_step_22 : decode b_M_step 22 = .ok (.getfield 22, 3) := by decide +kernel
theorem d_M_step_25 : decode b_M_step 25 = .ok (.iload_n 1, 1) := by decide +kernel
theorem d_M_step_26 : decode b_M_step 26 = .ok (.iaload, 1) := by decide +kernel
theorem d_M_step_27 : decode b_M_step 27 = .ok (.ireturn, 1) := by decide +kernel
theorem d_M_comeTo_0 : decode b_M_comeTo 0 = .ok (.iconst 1, 1) := by decide +kernel
theorem d_M_comeTo_1 : decode b_M_comeTo 1 = .ok (.aload_n 0, 1) := by decide +kernel
theorem d_M_comeTo_2 : decode b_M_comeTo 2 = .ok (.getfield 48, 3) := by decide +kernel
theorem d_M_comeTo_5 : decode b_M_comeTo 5 = .ok (.ishl, 1) := by decide +kernel
theorem d_M_comeTo_6 : decode b_M_comeTo 6 = .ok (.istore_n 1, 1) := by decide +kernel
theorem d_M_comeTo_7 : decode b_M_comeTo 7 = .ok (.iconst 0, 1) := by decide +kernel
theorem d_M_comeTo_8 : decode b_M_comeTo 8 = .ok (.istore_n 2, 1) := by decide +kernel
theorem d_M_comeTo_9 : decode b_M_comeTo 9 = .ok (.iload_n 2, 1) := by decide +kernel
theorem d_M_comeTo_10 : decode b_M_comeTo 10 = .ok (.iload_n 1, 1) := by decide +kernel
theorem d_M_comeTo_11 : decode b_M_comeTo 11 = .ok (.if_icmp .ge 28, 3) := by decide +kernel
theorem d_M_comeTo_14 : decode b_M_comeTo 14 = .ok (.aload_n 0, 1) := by decide +kernel
theorem d_M_comeTo_15 : decode b_M_comeTo 15 = .ok (.getfield 31, 3) := by decide +kernel
theorem d_M_comeTo_18 : decode b_M_comeTo 18 = .ok (.iload_n 2, 1) := by decide +kernel
theorem d_M_comeTo_19 : decode b_M_comeTo 19 = .ok (.iload_n 2, 1) := by decide +kernel
theorem d_M_comeTo_20 : decode b_M_comeTo 20 = .ok (.aload_n 0, 1) := by decide +kernel
theorem d_M_comeTo_21 : decode b_M_comeTo 21 = .ok (.getfield 60, 3) := by decide +kernel
theorem d_M_comeTo_24 : decode b_M_comeTo 24 = .ok (.if_icmp .ne 7, 3) := by decide +kernel
theorem d_M_comeTo_27 : decode b_M_comeTo 27 = .ok (.iconst 1, 1) := by decide +kernel
theorem d_M_comeTo_28 : decode b_M_comeTo 28 = .ok (.goto 4, 3) := by decide +kernel
theorem d_M_comeTo_31 : decode b_M_comeTo 31 = .ok (.iconst 0, 1) := by decide +kernel
theorem d_M_comeTo_32 : decode b_M_comeTo 32 = .ok (.bastore, 1) := by decide +kernel
theorem d_M_comeTo_33 : decode b_M_comeTo 33 = .ok (.iinc 2 1, 3) := by decide +kernel
theorem d_M_comeTo_36 : decode b_M_comeTo 36 = .ok (.goto (-27), 3) := by decide +kernel
theorem d_M_comeTo_39 : decode b_M_comeTo 39 = .ok (.iconst 1, 1) := by decide +kernel
theorem d_M_comeTo_40 : decode b_M_comeTo 40 = .ok (.istore_n 2, 1) := by decide +kernel
theorem d_M_comeTo_41 : decode b_M_comeTo 41 = .ok (.iload_n 2, 1) := by decide +kernel
theorem d_M_comeTo_42 : decode b_M_comeTo 42 = .ok (.ifCond .eq 88, 3) := by decide +kernel
theorem d_M_comeTo_45 : decode b_M_comeTo 45 = .ok (.iconst 0, 1) := by decide +kernel
theorem d_M_comeTo_46 : decode b_M_comeTo 46 = .ok (.istore_n 2, 1) := by decide +kernel
theorem d_M_comeTo_47 : decode b_M_comeTo 47 = .ok (.iconst 0, 1) := by decide +kernel
theorem d_M_comeTo_48 : decode b_M_comeTo 48 = .ok (.istore_n 3, 1) := by decide +kernel
theorem d_M_comeTo_49 : decode b_M_comeTo 49 = .ok (.iload_n 3, 1) := by decide +kernel
theorem d_M_comeTo_50 : decode b_M_comeTo 50 = .ok (.iload_n 1, 1) := by decide +kernel
theorem d_M_comeTo_51 : decode b_M_comeTo 51 = .ok (.if_icmp .ge 76, 3) := by decide +kernel
theorem d_M_comeTo_54 : decode b_M_comeTo 54 = .ok (.iconst 0, 1) := by decide +kernel
theorem d_M_comeTo_55 : decode b_M_comeTo 55 = .ok (.istore 4, 2) := by decide +kernel
theorem d_M_comeTo_57 : decode b_M_comeTo 57 = .ok (.iload 4, 2) := by decide +kernel
theorem d_M_comeTo_59 : decode b_M_comeTo 59 = .ok (.aload_n 0, 1) := by decide +kernel
theorem d_M_comeTo_60 : decode b_M_comeTo 60 = .ok (.getfield 51, 3) := by decide +kernel
theorem d_M_comeTo_63 : decode b_M_comeTo 63 = .ok (.if_icmp .ge 58, 3) := by decide +kernel
theorem d_M_comeTo_66 : decode b_M_comeTo 66 = .ok (.aload_n 0, 1) := by decide +kernel
theorem d_M_comeTo_67 : decode b_M_comeTo 67 = .ok (.getfield 31, 3) := by decide +kernel
theorem d_M_comeTo_70 : decode b_M_comeTo 70 = .ok (.iload_n 3, 1) := by decide +kernel
theorem d_M_comeTo_71 : decode b_M_comeTo 71 = .ok (.baload, 1) := by decide +kernel
theorem d_M_comeTo_72 : decode b_M_comeTo 72 = .ok (.ifCond .eq 43, 3) := by decide +kernel
theorem d_M_comeTo_75 : decode b_M_comeTo 75 = .ok (.aload_n 0, 1) := by decide +kernel
theorem d_M_comeTo_76 : decode b_M_comeTo 76 = .ok (.iload 4, 2) := by decide +kernel
theorem d_M_comeTo_78 : decode b_M_comeTo 78 = .ok (.iload_n 3, 1) := by decide +kernel
theorem d_M_comeTo_79 : decode b_M_comeTo 79 = .ok (.invokevirtual 76, 3) := by decide +kernel
theorem d_M_comeTo_82 : decode b_M_comeTo 82 = .ok (.ifCond .eq 33, 3) := by decide +kernel
theorem d_M_comeTo_85 : decode b_M_comeTo 85 = .ok (.aload_n 0, 1) := by decide +kernel
theorem d_M_comeTo_86 : decode b_M_comeTo 86 = .ok (.getfield 31, 3) := by decide +kernel
theorem d_M_comeTo_89 : decode b_M_comeTo 89 = .ok (.aload_n 0, 1) := by decide +kernel
theorem d_M_comeTo_90 : decode b_M_comeTo 90 = .ok (.iload 4, 2) := by decide +kernel
theorem d_M_comeTo_92 : decode b_M_comeTo 92 = .ok (.iload_n 3, 1) := by decide +kernel
theorem d_M_comeTo_93 : decode b_M_comeTo 93 = .ok (.invokevirtual 80, 3) := by decide +kernel
theorem d_M_comeTo_96 : decode b_M_comeTo 96 = .ok (.baload, 1) := by decide +kernel
theorem d_M_comeTo_97 : decode b_M_comeTo 97 = .ok (.ifCond .ne 18, 3) := by decide +kernel
theorem d_M_comeTo_100 : decode b_M_comeTo 100 = .ok (.aload_n 0, 1) := by decide +kernel
theorem d_M_comeTo_101 : decode b_M_comeTo 101 = .ok (.getfield 31, 3) := by decide +kernel
theorem d_M_comeTo_104 : decode b_M_comeTo 104 = .ok (.aload_n 0, 1) := by decide +kernel
theorem d_M_comeTo_105 : decode b_M_comeTo 105 = .ok (.iload 4, 2) := by decide +kernel
theorem d_M_comeTo_107 : decode b_M_comeTo 107 = .ok (.iload_n 3, 1) := by decide +kernel
theorem d_M_comeTo_108 : decode b_M_comeTo 108 = .ok (.invokevirtual 80, 3) := by decide +kernel
theorem d_M_comeTo_111 : decode b_M_comeTo 111 = .ok (.iconst 1, 1) := by decide +kernel
theorem d_M_comeTo_112 : decode b_M_comeTo 112 = .ok (.bastore, 1) := by decide +kernel
theorem d_M_comeTo_113 : decode b_M_comeTo 113 = .ok (.iconst 1, 1) := by decide +kernel
theorem d_M_comeTo_114 : decode b_M_comeTo 114 = .ok (.istore_n 2, 1) := by decide +kernel
theorem d_M_comeTo_115 : decode b_M_comeTo 115 = .ok (.iinc 4 1, 3) := by decide +kernel
theorem d_M_comeTo_118 : decode b_M_comeTo 118 = .ok (.goto (-61), 3) := by decide +kernel
theorem d_M_comeTo_121 : decode b_M_comeTo 121 = .ok (.iinc 3 1, 3) := by decide +kernel
theorem d_M_comeTo_124 : decode b_M_comeTo 124 = .ok (.goto (-75), 3) := by decide +kernel
theorem d_M_comeTo_127 : decode b_M_comeTo 127 = .ok (.goto (-86), 3) := by decide +kernel
theorem d_M_comeTo_130 : decode b_M_comeTo 130 = .ok (.return_, 1) := by decide +kernel
theorem d_M_states_0 : decode b_M_states 0 = .ok (.aload_n 0, 1) := by decide +kernel
theorem d_M_states_1 : decode b_M_states 1 = .ok (.iconst 0, 1) := by decide +kernel
theorem d_M_states_2 : decode b_M_states 2 = .ok (.putfield 44, 3) := by decide +kernel
theorem d_M_states_5 : decode b_M_states 5 = .ok (.aload_n 0, 1) := by decide +kernel
theorem d_M_states_6 : decode b_M_states 6 = .ok (.invokevirtual 98, 3) := by decide +kernel
theorem d_M_states_9 : decode b_M_states 9 = .ok (.iconst 0, 1) := by decide +kernel
theorem d_M_states_10 : decode b_M_states 10 = .ok (.istore_n 1, 1) := by decide +kernel
theorem d_M_states_11 : decode b_M_states 11 = .ok (.iconst 0, 1) := by decide +kernel
theorem d_M_states_12 : decode b_M_states 12 = .ok (.istore_n 2, 1) := by decide +kernel
theorem d_M_states_13 : decode b_M_states 13 = .ok (.iload_n 2, 1) := by decide +kernel
theorem d_M_states_14 : decode b_M_states 14 = .ok (.iconst 1, 1) := by decide +kernel
theorem d_M_states_15 : decode b_M_states 15 = .ok (.aload_n 0, 1) := by decide +kernel
theorem d_M_states_16 : decode b_M_states 16 = .ok (.getfield 48, 3) := by decide +kernel
theorem d_M_states_19 : decode b_M_states 19 = .ok (.ishl, 1) := by decide +kernel
theorem d_M_states_20 : decode b_M_states 20 = .ok (.if_icmp .ge 26, 3) := by decide +kernel
theorem d_M_states_23 : decode b_M_states 23 = .ok (.aload_n 0, 1) := by decide +kernel
theorem d_M_states_24 : decode b_M_states 24 = .ok (.getfield 31, 3) := by decide +kernel
theorem d_M_states_27 : decode b_M_states 27 = .ok (.iload_n 2, 1) := by decide +kernel
theorem d_M_states_28 : decode b_M_states 28 = .ok (.baload, 1) := by decide +kernel
theorem d_M_states_29 : decode b_M_states 29 = .ok (.ifCond .eq 9, 3) := by decide +kernel
theorem d_M_states_32 : decode b_M_states 32 = .ok (.iload_n 1, 1) := by decide +kernel
theorem d_M_states_33 : decode b_M_states 33 = .ok (.iconst 1, 1) := by decide +kernel
theorem d_M_states_34 : decode b_M_states 34 = .ok (.iadd, 1) := by decide +kernel
theorem d_M_states_35 : decode b_M_states 35 = .ok (.goto 4, 3) := by decide +kernel
theorem d_M_states_38 : decode b_M_states 38 = .ok (.iload_n 1, 1) := by decide +kernel
theorem d_M_states_39 : decode b_M_states 39 = .ok (.istore_n 1, 1) := by decide +kernel
theorem d_M_states_40 : decode b_M_states 40 = .ok (.iinc 2 1, 3) := by decide +kernel
theorem d_M_states_43 : decode b_M_states 43 = .ok (.goto (-30), 3) := by decide +kernel
theorem d_M_states_46 : decode b_M_states 46 = .ok (.iload_n 1, 1) := by decide +kernel
theorem d_M_states_47 : decode b_M_states 47 = .ok (.ireturn, 1) := by decide +kernel
theorem d_M_together_0 : decode b_M_together 0 = .ok (.aload_n 0, 1) := by decide +kernel
theorem d_M_together_1 : decode b_M_together 1 = .ok (.aload_n 0, 1) := by decide +kernel
theorem d_M_together_2 : decode b_M_together 2 = .ok (.iload_n 1, 1) := by decide +kernel
theorem d_M_together_3 : decode b_M_together 3 = .ok (.invokevirtual 73, 3) := by decide +kernel
theorem d_M_together_6 : decode b_M_together 6 = .ok (.ifCond .ne 11, 3) := by decide +kernel
theorem d_M_together_9 : decode b_M_together 9 = .ok (.aload_n 0, 1) := by decide +kernel
theorem d_M_together_10 : decode b_M_together 10 = .ok (.iload_n 2, 1) := by decide +kernel
theorem d_M_together_11 : decode b_M_together 11 = .ok (.invokevirtual 73, 3) := by decide +kernel
theorem d_M_together_14 : decode b_M_together 14 = .ok (.ifCond .eq 7, 3) := by decide +kernel
theorem d_M_together_17 : decode b_M_together 17 = .ok (.iconst 1, 1) := by decide +kernel
theorem d_M_together_18 : decode b_M_together 18 = .ok (.goto 4, 3) := by decide +kernel
theorem d_M_together_21 : decode b_M_together 21 = .ok (.iconst 0, 1) := by decide +kernel
theorem d_M_together_22 : decode b_M_together 22 = .ok (.putfield 44, 3) := by decide +kernel
theorem d_M_together_25 : decode b_M_together 25 = .ok (.aload_n 0, 1) := by decide +kernel
theorem d_M_together_26 : decode b_M_together 26 = .ok (.getfield 44, 3) := by decide +kernel
theorem d_M_together_29 : decode b_M_together 29 = .ok (.ifCond .le 5, 3) := by decide +kernel
theorem d_M_together_32 : decode b_M_together 32 = .ok (.iconst 0, 1) := by decide +kernel
theorem d_M_together_33 : decode b_M_together 33 = .ok (.ireturn, 1) := by decide +kernel
theorem d_M_together_34 : decode b_M_together 34 = .ok (.aload_n 0, 1) := by decide +kernel
theorem d_M_together_35 : decode b_M_together 35 = .ok (.invokevirtual 98, 3) := by decide +kernel
theorem d_M_together_38 : decode b_M_together 38 = .ok (.iconst 1, 1) := by decide +kernel
theorem d_M_together_39 : decode b_M_together 39 = .ok (.iload_n 1, 1) := by decide +kernel
theorem d_M_together_40 : decode b_M_together 40 = .ok (.ishl, 1) := by decide +kernel
theorem d_M_together_41 : decode b_M_together 41 = .ok (.iconst 1, 1) := by decide +kernel
theorem d_M_together_42 : decode b_M_together 42 = .ok (.iload_n 2, 1) := by decide +kernel
theorem d_M_together_43 : decode b_M_together 43 = .ok (.ishl, 1) := by decide +kernel
theorem d_M_together_44 : decode b_M_together 44 = .ok (.ior, 1) := by decide +kernel
theorem d_M_together_45 : decode b_M_together 45 = .ok (.istore_n 3, 1) := by decide +kernel
theorem d_M_together_46 : decode b_M_together 46 = .ok (.iconst 0, 1) := by decide +kernel
theorem d_M_together_47 : decode b_M_together 47 = .ok (.istore 4, 2) := by decide +kernel
theorem d_M_together_49 : decode b_M_together 49 = .ok (.iload 4, 2) := by decide +kernel
theorem d_M_together_51 : decode b_M_together 51 = .ok (.iconst 1, 1) := by decide +kernel
theorem d_M_together_52 : decode b_M_together 52 = .ok (.aload_n 0, 1) := by decide +kernel
theorem d_M_together_53 : decode b_M_together 53 = .ok (.getfield 48, 3) := by decide +kernel
theorem d_M_together_56 : decode b_M_together 56 = .ok (.ishl, 1) := by decide +kernel
theorem d_M_together_57 : decode b_M_together 57 = .ok (.if_icmp .ge 29, 3) := by decide +kernel
theorem d_M_together_60 : decode b_M_together 60 = .ok (.aload_n 0, 1) := by decide +kernel
theorem d_M_together_61 : decode b_M_together 61 = .ok (.getfield 31, 3) := by decide +kernel
theorem d_M_together_64 : decode b_M_together 64 = .ok (.iload 4, 2) := by decide +kernel
theorem d_M_together_66 : decode b_M_together 66 = .ok (.baload, 1) := by decide +kernel
theorem d_M_together_67 : decode b_M_together 67 = .ok (.ifCond .eq 13, 3) := by decide +kernel
theorem d_M_together_70 : decode b_M_together 70 = .ok (.iload 4, 2) := by decide +kernel
theorem d_M_together_72 : decode b_M_together 72 = .ok (.iload_n 3, 1) := by decide +kernel
theorem d_M_together_73 : decode b_M_together 73 = .ok (.iand, 1) := by decide +kernel
theorem d_M_together_74 : decode b_M_together 74 = .ok (.iload_n 3, 1) := by decide +kernel
theorem d_M_together_75 : decode b_M_together 75 = .ok (.if_icmp .ne 5, 3) := by decide +kernel
theorem d_M_together_78 : decode b_M_together 78 = .ok (.iconst 1, 1) := by decide +kernel
theorem d_M_together_79 : decode b_M_together 79 = .ok (.ireturn, 1) := by decide +kernel
theorem d_M_together_80 : decode b_M_together 80 = .ok (.iinc 4 1, 3) := by decide +kernel
theorem d_M_together_83 : decode b_M_together 83 = .ok (.goto (-34), 3) := by decide +kernel
theorem d_M_together_86 : decode b_M_together 86 = .ok (.iconst 0, 1) := by decide +kernel
theorem d_M_together_87 : decode b_M_together 87 = .ok (.ireturn, 1) := by decide +kernel
theorem d_M_over_0 : decode b_M_over 0 = .ok (.iconst 0, 1) := by decide +kernel
theorem d_M_over_1 : decode b_M_over 1 = .ok (.istore_n 3, 1) := by decide +kernel
theorem d_M_over_2 : decode b_M_over 2 = .ok (.iconst 0, 1) := by decide +kernel
theorem d_M_over_3 : decode b_M_over 3 = .ok (.istore 4, 2) := by decide +kernel
theorem d_M_over_5 : decode b_M_over 5 = .ok (.iload 4, 2) := by decide +kernel
