theorem kc_P_11 : zd_C gd_T "CutPlanner" 11 y_T_init b_T_init 1 (none) 0 := ⟨wc_T_init, gd_in1 2 (by decide +kernel) (by decide +kernel), ⟨by decide, by decide⟩, by decide +kernel, by decide, Or.inr ⟨"CutPlanner", gd_in1 27 (by decide +kernel) (by decide +kernel)⟩⟩
theorem kf_P_12 : zd_F classes gd_T "CutPlanner" 12 0 0 := ⟨R_P, F_P, 7, rfl, wi_P, by decide, Or.inl (gd_in1 156 (by decide +kernel) (by decide +kernel))⟩
theorem kc_P_18 : zd_C gd_T "CutPlanner" 18 y_S_init b_S_init 2 (none) 1 := ⟨wc_S_init, gd_in1 3 (by decide +kernel) (by decide +kernel), ⟨by decide, by decide⟩, by decide +kernel, by decide, Or.inl (gd_in1 69 (by decide +kernel) (by decide +kernel))⟩
theorem kf_P_21 : zd_F classes gd_T "CutPlanner" 21 0 1 := ⟨R_P, F_P, 7, rfl, wi_P, by decide, Or.inl (gd_in1 157 (by decide +kernel) (by decide +kernel))⟩
theorem kc_P_27 : zd_C gd_T "CutPlanner" 27 y_R_init b_R_init 2 (none) 1 := ⟨wc_R_init, gd_in1 5 (by decide +kernel) (by decide +kernel), ⟨by decide, by decide⟩, by decide +kernel, by decide, Or.inl (gd_in1 98 (by decide +kernel) (by decide +kernel))⟩
theorem kf_P_30 : zd_F classes gd_T "CutPlanner" 30 0 2 := ⟨R_P, F_P, 7, rfl, wi_P, by decide, Or.inl (gd_in1 158 (by decide +kernel) (by decide +kernel))⟩
theorem kf_P_34 : zd_F classes gd_T "CutPlanner" 34 0 3 := ⟨R_P, F_P, 7, rfl, wi_P, by decide, Or.inl (gd_in1 159 (by decide +kernel) (by decide +kernel))⟩
theorem kc_P_39 : zd_C gd_T "CutPlanner" 39 y_V_init b_V_init 2 (none) 1 := ⟨wc_V_init, gd_in1 6 (by decide +kernel) (by decide +kernel), ⟨by decide, by decide⟩, by decide +kernel, by decide, Or.inl (gd_in1 113 (by decide +kernel) (by decide +kernel))⟩
theorem kf_P_40 : zd_F classes gd_T "CutPlanner" 40 0 4 := ⟨R_P, F_P, 7, rfl, wi_P, by decide, Or.inl (gd_in1 160 (by decide +kernel) (by decide +kernel))⟩
theorem kc_P_46 : zd_C gd_T "CutPlanner" 46 y_U_init b_U_init 3 (none) 2 := ⟨wc_U_init, gd_in1 7 (by decide +kernel) (by decide +kernel), ⟨by decide, by decide⟩, by decide +kernel, by decide, Or.inl (gd_in1 127 (by decide +kernel) (by decide +kernel))⟩
theorem kf_P_49 : zd_F classes gd_T "CutPlanner" 49 0 5 := ⟨R_P, F_P, 7, rfl, wi_P, by decide, Or.inl (gd_in1 161 (by decide +kernel) (by decide +kernel))⟩
theorem kf_P_53 : zd_F classes gd_T "CutPlanner" 53 0 6 := ⟨R_P, F_P, 7, rfl, wi_P, by decide, Or.inl (gd_in1 162 (by decide +kernel) (by decide +kernel))⟩
theorem kp_P_53 : zd_FP classes gd_T "CutPlanner" 53 0 6 := ⟨R_P, F_P, 7, ft_P, rfl, wi_P, by decide, Or.inl (gd_in1 162 (by decide +kernel) (by decide +kernel)), to_P, n_P, rfl, by decide +kernel⟩
theorem kf_P_57 : zd_F classes gd_T "CutPlanner" 57 1 2 := ⟨R_T, F_T, 6, rfl, wi_T, by decide, Or.inr ⟨"CutPlanner", gd_in1 42 (by decide +kernel) (by decide +kernel)⟩⟩
theorem kp_P_57 : zd_FP classes gd_T "CutPlanner" 57 1 2 := ⟨R_T, F_T, 6, ft_T, rfl, wi_T, by decide, Or.inr ⟨"CutPlanner", gd_in1 42 (by decide +kernel) (by decide +kernel)⟩, to_T, n_T, rfl, by decide +kernel⟩
theorem kc_P_67 : zd_C gd_T "CutPlanner" 67 y_T_newFact b_T_newFact 4 (some .int) 2 := ⟨wc_T_newFact, gd_in1 2 (by decide +kernel) (by decide +kernel), ⟨by decide, by decide⟩, by decide +kernel, by decide, Or.inl (gd_in2 183 (by decide +kernel) (by decide +kernel))⟩
theorem ki_T_newFact : Cond.instanceMethod y_T_newFact ∈ gd_T := gd_in2 184 (by decide +kernel) (by decide +kernel)
theorem ke_T_newFact : Cond.selects y_T_newFact.cls y_T_newFact y_T_newFact ∈ gd_T := gd_in2 185 (by decide +kernel) (by decide +kernel)
theorem kc_P_71 : zd_C gd_T "CutPlanner" 71 y_P_startAnew b_P_startAnew 1 (none) 0 := ⟨wc_P_startAnew, gd_in1 1 (by decide +kernel) (by decide +kernel), ⟨by decide, by decide⟩, by decide +kernel, by decide, Or.inl (gd_in2 187 (by decide +kernel) (by decide +kernel))⟩
theorem ki_P_startAnew : Cond.instanceMethod y_P_startAnew ∈ gd_T := gd_in2 189 (by decide +kernel) (by decide +kernel)
theorem ke_P_startAnew : Cond.selects y_P_startAnew.cls y_P_startAnew y_P_startAnew ∈ gd_T := gd_sel (n := 7) 13 (by decide +kernel)
theorem kf_P_79 : zd_F classes gd_T "CutPlanner" 79 1 3 := ⟨R_T, F_T, 6, rfl, wi_T, by decide, Or.inr ⟨"CutPlanner", gd_in1 46 (by decide +kernel) (by decide +kernel)⟩⟩
theorem kp_P_79 : zd_FP classes gd_T "CutPlanner" 79 1 3 := ⟨R_T, F_T, 6, ft_T, rfl, wi_T, by decide, Or.inr ⟨"CutPlanner", gd_in1 46 (by decide +kernel) (by decide +kernel)⟩, to_T, n_T, rfl, by decide +kernel⟩
theorem kc_P_84 : zd_C gd_T "CutPlanner" 84 y_T_newAction b_T_newAction 3 (some .int) 1 := ⟨wc_T_newAction, gd_in1 2 (by decide +kernel) (by decide +kernel), ⟨by decide, by decide⟩, by decide +kernel, by decide, Or.inl (gd_in2 216 (by decide +kernel) (by decide +kernel))⟩
theorem ki_T_newAction : Cond.instanceMethod y_T_newAction ∈ gd_T := gd_in2 217 (by decide +kernel) (by decide +kernel)
theorem ke_T_newAction : Cond.selects y_T_newAction.cls y_T_newAction y_T_newAction ∈ gd_T := gd_in2 218 (by decide +kernel) (by decide +kernel)
theorem kc_P_88 : zd_C gd_T "CutPlanner" 88 y_P_refuseUnknownAction b_P_refuseUnknownAction 2 (none) 1 := ⟨wc_P_refuseUnknownAction, gd_in1 1 (by decide +kernel) (by decide +kernel), ⟨by decide, by decide⟩, by decide +kernel, by decide, Or.inl (gd_in2 228 (by decide +kernel) (by decide +kernel))⟩
theorem ki_P_refuseUnknownAction : Cond.instanceMethod y_P_refuseUnknownAction ∈ gd_T := gd_in2 230 (by decide +kernel) (by decide +kernel)
theorem ke_P_refuseUnknownAction : Cond.selects y_P_refuseUnknownAction.cls y_P_refuseUnknownAction y_P_refuseUnknownAction ∈ gd_T := gd_sel (n := 7) 14 (by decide +kernel)
theorem kc_P_91 : zd_C gd_T "CutPlanner" 91 y_P_refuseUnknownFact b_P_refuseUnknownFact 2 (none) 1 := ⟨wc_P_refuseUnknownFact, gd_in1 1 (by decide +kernel) (by decide +kernel), ⟨by decide, by decide⟩, by decide +kernel, by decide, Or.inl (gd_in3 8 (by decide +kernel) (by decide +kernel))⟩
theorem ki_P_refuseUnknownFact : Cond.instanceMethod y_P_refuseUnknownFact ∈ gd_T := gd_in3 10 (by decide +kernel) (by decide +kernel)
theorem ke_P_refuseUnknownFact : Cond.selects y_P_refuseUnknownFact.cls y_P_refuseUnknownFact y_P_refuseUnknownFact ∈ gd_T := gd_sel (n := 7) 15 (by decide +kernel)
theorem kf_P_96 : zd_F classes gd_T "CutPlanner" 96 1 1 := ⟨R_T, F_T, 6, rfl, wi_T, by decide, Or.inr ⟨"CutPlanner", gd_in1 40 (by decide +kernel) (by decide +kernel)⟩⟩
theorem kc_P_100 : zd_C gd_T "CutPlanner" 100 y_P_has b_P_has 2 (some .boolean) 2 := ⟨wc_P_has, gd_in1 1 (by decide +kernel) (by decide +kernel), ⟨by decide, by decide⟩, by decide +kernel, by decide, Or.inl (gd_in3 14 (by decide +kernel) (by decide +kernel))⟩
theorem ks_P_has : Cond.static y_P_has ∈ gd_T := gd_in2 22 (by decide +kernel) (by decide +kernel)
theorem kf_P_106 : zd_F classes gd_T "CutPlanner" 106 1 4 := ⟨R_T, F_T, 6, rfl, wi_T, by decide, Or.inr ⟨"CutPlanner", gd_in1 49 (by decide +kernel) (by decide +kernel)⟩⟩
theorem kp_P_106 : zd_FP classes gd_T "CutPlanner" 106 1 4 := ⟨R_T, F_T, 6, ft_T, rfl, wi_T, by decide, Or.inr ⟨"CutPlanner", gd_in1 49 (by decide +kernel) (by decide +kernel)⟩, to_T, n_T, rfl, by decide +kernel⟩
theorem kc_P_109 : zd_C gd_T "CutPlanner" 109 y_T_allows b_T_allows 3 (some .boolean) 2 := ⟨wc_T_allows, gd_in1 2 (by decide +kernel) (by decide +kernel), ⟨by decide, by decide⟩, by decide +kernel, by decide, Or.inl (gd_in2 100 (by decide +kernel) (by decide +kernel))⟩
theorem ki_T_allows : Cond.instanceMethod y_T_allows ∈ gd_T := gd_in1 207 (by decide +kernel) (by decide +kernel)
theorem ke_T_allows : Cond.selects y_T_allows.cls y_T_allows y_T_allows ∈ gd_T := gd_in1 208 (by decide +kernel) (by decide +kernel)
theorem kc_P_114 : zd_C gd_T "CutPlanner" 114 y_T_after b_T_after 3 (some .int) 2 := ⟨wc_T_after, gd_in1 2 (by decide +kernel) (by decide +kernel), ⟨by decide, by decide⟩, by decide +kernel, by decide, Or.inl (gd_in2 101 (by decide +kernel) (by decide +kernel))⟩
theorem ki_T_after : Cond.instanceMethod y_T_after ∈ gd_T := gd_in1 214 (by decide +kernel) (by decide +kernel)
theorem ke_T_after : Cond.selects y_T_after.cls y_T_after y_T_after ∈ gd_T := gd_in1 215 (by decide +kernel) (by decide +kernel)
theorem kc_P_118 : zd_C gd_T "CutPlanner" 118 y_T_isMet b_T_isMet 2 (some .boolean) 1 := ⟨wc_T_isMet, gd_in1 2 (by decide +kernel) (by decide +kernel), ⟨by decide, by decide⟩, by decide +kernel, by decide, Or.inl (gd_in2 102 (by decide +kernel) (by decide +kernel))⟩
theorem ki_T_isMet : Cond.instanceMethod y_T_isMet ∈ gd_T := gd_in1 226 (by decide +kernel) (by decide +kernel)
theorem ke_T_isMet : Cond.selects y_T_isMet.cls y_T_isMet y_T_isMet ∈ gd_T := gd_in1 227 (by decide +kernel) (by decide +kernel)
theorem kc_P_122 : zd_C gd_T "CutPlanner" 122 y_S_explore b_S_explore 5 (none) 1 := ⟨wc_S_explore, gd_in1 3 (by decide +kernel) (by decide +kernel), ⟨by decide, by decide⟩, by decide +kernel, by decide, Or.inl (gd_in1 186 (by decide +kernel) (by decide +kernel))⟩
theorem ki_S_explore : Cond.instanceMethod y_S_explore ∈ gd_T := gd_in1 187 (by decide +kernel) (by decide +kernel)
theorem ke_S_explore : Cond.selects y_S_explore.cls y_S_explore y_S_explore ∈ gd_T := gd_in1 188 (by decide +kernel) (by decide +kernel)
theorem kc_P_125 : zd_C gd_T "CutPlanner" 125 y_R_empty b_R_empty 1 (none) 0 := ⟨wc_R_empty, gd_in1 5 (by decide +kernel) (by decide +kernel), ⟨by decide, by decide⟩, by decide +kernel, by decide, Or.inl (gd_in1 217 (by decide +kernel) (by decide +kernel))⟩
theorem ki_R_empty : Cond.instanceMethod y_R_empty ∈ gd_T := gd_in1 218 (by decide +kernel) (by decide +kernel)
theorem ke_R_empty : Cond.selects y_R_empty.cls y_R_empty y_R_empty ∈ gd_T := gd_in1 219 (by decide +kernel) (by decide +kernel)
theorem kc_P_128 : zd_C gd_T "CutPlanner" 128 y_S_leastToMet b_S_leastToMet 2 (some .int) 0 := ⟨wc_S_leastToMet, gd_in1 3 (by decide +kernel) (by decide +kernel), ⟨by decide, by decide⟩, by decide +kernel, by decide, Or.inl (gd_in1 221 (by decide +kernel) (by decide +kernel))⟩
theorem ki_S_leastToMet : Cond.instanceMethod y_S_leastToMet ∈ gd_T := gd_in1 222 (by decide +kernel) (by decide +kernel)
theorem ke_S_leastToMet : Cond.selects y_S_leastToMet.cls y_S_leastToMet y_S_leastToMet ∈ gd_T := gd_in1 223 (by decide +kernel) (by decide +kernel)
theorem kc_P_132 : zd_C gd_T "CutPlanner" 132 y_S_writeBest b_S_writeBest 7 (none) 3 := ⟨wc_S_writeBest, gd_in1 3 (by decide +kernel) (by decide +kernel), ⟨by decide, by decide⟩, by decide +kernel, by decide, Or.inl (gd_in1 229 (by decide +kernel) (by decide +kernel))⟩
theorem ki_S_writeBest : Cond.instanceMethod y_S_writeBest ∈ gd_T := gd_in1 230 (by decide +kernel) (by decide +kernel)
theorem ke_S_writeBest : Cond.selects y_S_writeBest.cls y_S_writeBest y_S_writeBest ∈ gd_T := gd_in1 231 (by decide +kernel) (by decide +kernel)
theorem kf_P_136 : zd_F classes gd_T "CutPlanner" 136 2 1 := ⟨R_R, F_R, 2, rfl, wi_R, by decide, Or.inr ⟨"CutPlanner", gd_in1 105 (by decide +kernel) (by decide +kernel)⟩⟩
theorem kp_P_136 : zd_FP classes gd_T "CutPlanner" 136 2 1 := ⟨R_R, F_R, 2, ft_R, rfl, wi_R, by decide, Or.inr ⟨"CutPlanner", gd_in1 105 (by decide +kernel) (by decide +kernel)⟩, to_R, n_R, rfl, by decide +kernel⟩
theorem kf_P_139 : zd_F classes gd_T "CutPlanner" 139 2 0 := ⟨R_R, F_R, 2, rfl, wi_R, by decide, Or.inr ⟨"CutPlanner", gd_in1 103 (by decide +kernel) (by decide +kernel)⟩⟩
theorem kf_P_143 : zd_F classes gd_T "CutPlanner" 143 3 5 := ⟨R_S, F_S, 6, rfl, wi_S, by decide, Or.inr ⟨"CutPlanner", gd_in1 82 (by decide +kernel) (by decide +kernel)⟩⟩
theorem kp_P_143 : zd_FP classes gd_T "CutPlanner" 143 3 5 := ⟨R_S, F_S, 6, ft_S, rfl, wi_S, by decide, Or.inr ⟨"CutPlanner", gd_in1 82 (by decide +kernel) (by decide +kernel)⟩, to_S, n_S, rfl, by decide +kernel⟩
theorem kc_P_146 : zd_C gd_T "CutPlanner" 146 y_S_cameTo b_S_cameTo 3 (some .boolean) 1 := ⟨wc_S_cameTo, gd_in1 3 (by decide +kernel) (by decide +kernel), ⟨by decide, by decide⟩, by decide +kernel, by decide, Or.inl (gd_in3 45 (by decide +kernel) (by decide +kernel))⟩
theorem ki_S_cameTo : Cond.instanceMethod y_S_cameTo ∈ gd_T := gd_in3 46 (by decide +kernel) (by decide +kernel)
theorem ke_S_cameTo : Cond.selects y_S_cameTo.cls y_S_cameTo y_S_cameTo ∈ gd_T := gd_in3 47 (by decide +kernel) (by decide +kernel)
theorem kf_P_149 : zd_F classes gd_T "CutPlanner" 149 1 0 := ⟨R_T, F_T, 6, rfl, wi_T, by decide, Or.inr ⟨"CutPlanner", gd_in1 36 (by decide +kernel) (by decide +kernel)⟩⟩
theorem kc_P_152 : zd_C gd_T "CutPlanner" 152 y_V_measure b_V_measure 9 (none) 4 := ⟨wc_V_measure, gd_in1 6 (by decide +kernel) (by decide +kernel), ⟨by decide, by decide⟩, by decide +kernel, by decide, Or.inl (gd_in2 17 (by decide +kernel) (by decide +kernel))⟩
theorem ki_V_measure : Cond.instanceMethod y_V_measure ∈ gd_T := gd_in2 18 (by decide +kernel) (by decide +kernel)
theorem ke_V_measure : Cond.selects y_V_measure.cls y_V_measure y_V_measure ∈ gd_T := gd_in2 19 (by decide +kernel) (by decide +kernel)
theorem kf_P_156 : zd_F classes gd_T "CutPlanner" 156 4 1 := ⟨R_V, F_V, 2, rfl, wi_V, by decide, Or.inr ⟨"CutPlanner", gd_in1 119 (by decide +kernel) (by decide +kernel)⟩⟩
theorem kc_P_159 : zd_C gd_T "CutPlanner" 159 y_P_orNone b_P_orNone 1 (some .int) 1 := ⟨wc_P_orNone, gd_in1 1 (by decide +kernel) (by decide +kernel), ⟨by decide, by decide⟩, by decide +kernel, by decide, Or.inl (gd_in2 40 (by decide +kernel) (by decide +kernel))⟩
theorem ks_P_orNone : Cond.static y_P_orNone ∈ gd_T := gd_in2 41 (by decide +kernel) (by decide +kernel)
theorem kf_P_162 : zd_F classes gd_T "CutPlanner" 162 1 5 := ⟨R_T, F_T, 6, rfl, wi_T, by decide, Or.inr ⟨"CutPlanner", gd_in1 52 (by decide +kernel) (by decide +kernel)⟩⟩
theorem kp_P_162 : zd_FP classes gd_T "CutPlanner" 162 1 5 := ⟨R_T, F_T, 6, ft_T, rfl, wi_T, by decide, Or.inr ⟨"CutPlanner", gd_in1 52 (by decide +kernel) (by decide +kernel)⟩, to_T, n_T, rfl, by decide +kernel⟩
theorem kc_P_165 : zd_C gd_T "CutPlanner" 165 y_V_joined b_V_joined 5 (some .int) 2 := ⟨wc_V_joined, gd_in1 6 (by decide +kernel) (by decide +kernel), ⟨by decide, by decide⟩, by decide +kernel, by decide, Or.inl (gd_in2 39 (by decide +kernel) (by decide +kernel))⟩
theorem ki_V_joined : Cond.instanceMethod y_V_joined ∈ gd_T := gd_in2 26 (by decide +kernel) (by decide +kernel)
theorem ke_V_joined : Cond.selects y_V_joined.cls y_V_joined y_V_joined ∈ gd_T := gd_in2 27 (by decide +kernel) (by decide +kernel)
theorem kc_P_169 : zd_C gd_T "CutPlanner" 169 y_U_collect b_U_collect 4 (none) 1 := ⟨wc_U_collect, gd_in1 7 (by decide +kernel) (by decide +kernel), ⟨by decide, by decide⟩, by decide +kernel, by decide, Or.inl (gd_in2 48 (by decide +kernel) (by decide +kernel))⟩
theorem ki_U_collect : Cond.instanceMethod y_U_collect ∈ gd_T := gd_in2 49 (by decide +kernel) (by decide +kernel)
theorem ke_U_collect : Cond.selects y_U_collect.cls y_U_collect y_U_collect ∈ gd_T := gd_in2 50 (by decide +kernel) (by decide +kernel)
theorem kf_P_172 : zd_F classes gd_T "CutPlanner" 172 5 6 := ⟨R_U, F_U, 7, rfl, wi_U, by decide, Or.inr ⟨"CutPlanner", gd_in1 140 (by decide +kernel) (by decide +kernel)⟩⟩
theorem kp_P_172 : zd_FP classes gd_T "CutPlanner" 172 5 6 := ⟨R_U, F_U, 7, ft_U, rfl, wi_U, by decide, Or.inr ⟨"CutPlanner", gd_in1 140 (by decide +kernel) (by decide +kernel)⟩, to_U, n_U, rfl, by decide +kernel⟩
theorem kf_P_175 : zd_F classes gd_T "CutPlanner" 175 5 5 := ⟨R_U, F_U, 7, rfl, wi_U, by decide, Or.inr ⟨"CutPlanner", gd_in1 138 (by decide +kernel) (by decide +kernel)⟩⟩
theorem kp_P_175 : zd_FP classes gd_T "CutPlanner" 175 5 5 := ⟨R_U, F_U, 7, ft_U, rfl, wi_U, by decide, Or.inr ⟨"CutPlanner", gd_in1 138 (by decide +kernel) (by decide +kernel)⟩, to_U, n_U, rfl, by decide +kernel⟩
theorem kf_P_178 : zd_F classes gd_T "CutPlanner" 178 5 4 := ⟨R_U, F_U, 7, rfl, wi_U, by decide, Or.inr ⟨"CutPlanner", gd_in1 136 (by decide +kernel) (by decide +kernel)⟩⟩
theorem kc_P_181 : zd_C gd_T "CutPlanner" 181 y_T_addersOf b_T_addersOf 4 (some .int) 1 := ⟨wc_T_addersOf, gd_in1 2 (by decide +kernel) (by decide +kernel), ⟨by decide, by decide⟩, by decide +kernel, by decide, Or.inl (gd_in3 64 (by decide +kernel) (by decide +kernel))⟩
theorem ki_T_addersOf : Cond.instanceMethod y_T_addersOf ∈ gd_T := gd_in3 65 (by decide +kernel) (by decide +kernel)
theorem ke_T_addersOf : Cond.selects y_T_addersOf.cls y_T_addersOf y_T_addersOf ∈ gd_T := gd_in3 66 (by decide +kernel) (by decide +kernel)
theorem kk_P_184 : Cond.constant "CutPlanner" 184 (nI 1000000) ∈ gd_T := gd_in2 43 (by decide +kernel) (by decide +kernel)
theorem kc_P_187 : zd_C gd_T "CutPlanner" 187 y_R_append b_R_append 2 (none) 1 := ⟨wc_R_append, gd_in1 5 (by decide +kernel) (by decide +kernel), ⟨by decide, by decide⟩, by decide +kernel, by decide, Or.inl (gd_in3 77 (by decide +kernel) (by decide +kernel))⟩
theorem ki_R_append : Cond.instanceMethod y_R_append ∈ gd_T := gd_in1 238 (by decide +kernel) (by decide +kernel)
theorem ke_R_append : Cond.selects y_R_append.cls y_R_append y_R_append ∈ gd_T := gd_in1 239 (by decide +kernel) (by decide +kernel)
theorem kf_M_7 : zd_F classes gd_T "CutPlannerModel" 7 6 5 := ⟨R_M, F_M, 21, rfl, wi_M, by decide, Or.inl (gd_in3 89 (by decide +kernel) (by decide +kernel))⟩
theorem kf_M_13 : zd_F classes gd_T "CutPlannerModel" 13 6 6 := ⟨R_M, F_M, 21, rfl, wi_M, by decide, Or.inl (gd_in3 90 (by decide +kernel) (by decide +kernel))⟩
theorem kf_M_16 : zd_F classes gd_T "CutPlannerModel" 16 6 7 := ⟨R_M, F_M, 21, rfl, wi_M, by decide, Or.inl (gd_in3 91 (by decide +kernel) (by decide +kernel))⟩
theorem kf_M_19 : zd_F classes gd_T "CutPlannerModel" 19 6 8 := ⟨R_M, F_M, 21, rfl, wi_M, by decide, Or.inl (gd_in3 92 (by decide +kernel) (by decide +kernel))⟩
theorem kf_M_22 : zd_F classes gd_T "CutPlannerModel" 22 6 11 := ⟨R_M, F_M, 21, rfl, wi_M, by decide, Or.inl (gd_in3 95 (by decide +kernel) (by decide +kernel))⟩
theorem kf_M_25 : zd_F classes gd_T "CutPlannerModel" 25 6 13 := ⟨R_M, F_M, 21, rfl, wi_M, by decide, Or.inl (gd_in3 97 (by decide +kernel) (by decide +kernel))⟩
theorem kf_M_28 : zd_F classes gd_T "CutPlannerModel" 28 6 14 := ⟨R_M, F_M, 21, rfl, wi_M, by decide, Or.inl (gd_in3 98 (by decide +kernel) (by decide +kernel))⟩
theorem kf_M_31 : zd_F classes gd_T "CutPlannerModel" 31 6 15 := ⟨R_M, F_M, 21, rfl, wi_M, by decide, Or.inl (gd_in3 99 (by decide +kernel) (by decide +kernel))⟩
theorem kf_M_35 : zd_F classes gd_T "CutPlannerModel" 35 6 16 := ⟨R_M, F_M, 21, rfl, wi_M, by decide, Or.inl (gd_in3 100 (by decide +kernel) (by decide +kernel))⟩
theorem kf_M_38 : zd_F classes gd_T "CutPlannerModel" 38 6 17 := ⟨R_M, F_M, 21, rfl, wi_M, by decide, Or.inl (gd_in3 101 (by decide +kernel) (by decide +kernel))⟩
theorem kf_M_41 : zd_F classes gd_T "CutPlannerModel" 41 6 19 := ⟨R_M, F_M, 21, rfl, wi_M, by decide, Or.inl (gd_in3 103 (by decide +kernel) (by decide +kernel))⟩
theorem kf_M_44 : zd_F classes gd_T "CutPlannerModel" 44 6 0 := ⟨R_M, F_M, 21, rfl, wi_M, by decide, Or.inl (gd_in3 84 (by decide +kernel) (by decide +kernel))⟩
theorem kp_M_44 : zd_FP classes gd_T "CutPlannerModel" 44 6 0 := ⟨R_M, F_M, 21, ft_M, rfl, wi_M, by decide, Or.inl (gd_in3 84 (by decide +kernel) (by decide +kernel)), to_M, n_M, rfl, by decide +kernel⟩
theorem kf_M_48 : zd_F classes gd_T "CutPlannerModel" 48 6 1 := ⟨R_M, F_M, 21, rfl, wi_M, by decide, Or.inl (gd_in3 85 (by decide +kernel) (by decide +kernel))⟩
theorem kp_M_48 : zd_FP classes gd_T "CutPlannerModel" 48 6 1 := ⟨R_M, F_M, 21, ft_M, rfl, wi_M, by decide, Or.inl (gd_in3 85 (by decide +kernel) (by decide +kernel)), to_M, n_M, rfl, by decide +kernel⟩
theorem kf_M_51 : zd_F classes gd_T "CutPlannerModel" 51 6 4 := ⟨R_M, F_M, 21, rfl, wi_M, by decide, Or.inl (gd_in3 88 (by decide +kernel) (by decide +kernel))⟩
theorem kp_M_51 : zd_FP classes gd_T "CutPlannerModel" 51 6 4 := ⟨R_M, F_M, 21, ft_M, rfl, wi_M, by decide, Or.inl (gd_in3 88 (by decide +kernel) (by decide +kernel)), to_M, n_M, rfl, by decide +kernel⟩
theorem kf_M_54 : zd_F classes gd_T "CutPlannerModel" 54 6 12 := ⟨R_M, F_M, 21, rfl, wi_M, by decide, Or.inl (gd_in3 96 (by decide +kernel) (by decide +kernel))⟩
theorem kp_M_54 : zd_FP classes gd_T "CutPlannerModel" 54 6 12 := ⟨R_M, F_M, 21, ft_M, rfl, wi_M, by decide, Or.inl (gd_in3 96 (by decide +kernel) (by decide +kernel)), to_M, n_M, rfl, by decide +kernel⟩
theorem kf_M_57 : zd_F classes gd_T "CutPlannerModel" 57 6 2 := ⟨R_M, F_M, 21, rfl, wi_M, by decide, Or.inl (gd_in3 86 (by decide +kernel) (by decide +kernel))⟩
theorem kp_M_57 : zd_FP classes gd_T "CutPlannerModel" 57 6 2 := ⟨R_M, F_M, 21, ft_M, rfl, wi_M, by decide, Or.inl (gd_in3 86 (by decide +kernel) (by decide +kernel)), to_M, n_M, rfl, by decide +kernel⟩
theorem kf_M_60 : zd_F classes gd_T "CutPlannerModel" 60 6 9 := ⟨R_M, F_M, 21, rfl, wi_M, by decide, Or.inl (gd_in3 93 (by decide +kernel) (by decide +kernel))⟩
theorem kp_M_60 : zd_FP classes gd_T "CutPlannerModel" 60 6 9 := ⟨R_M, F_M, 21, ft_M, rfl, wi_M, by decide, Or.inl (gd_in3 93 (by decide +kernel) (by decide +kernel)), to_M, n_M, rfl, by decide +kernel⟩
theorem kf_M_63 : zd_F classes gd_T "CutPlannerModel" 63 6 3 := ⟨R_M, F_M, 21, rfl, wi_M, by decide, Or.inl (gd_in3 87 (by decide +kernel) (by decide +kernel))⟩
theorem kp_M_63 : zd_FP classes gd_T "CutPlannerModel" 63 6 3 := ⟨R_M, F_M, 21, ft_M, rfl, wi_M, by decide, Or.inl (gd_in3 87 (by decide +kernel) (by decide +kernel)), to_M, n_M, rfl, by decide +kernel⟩
theorem kc_M_66 : zd_C gd_T "CutPlannerModel" 66 y_M_changed b_M_changed 1 (none) 0 := ⟨wc_M_changed, gd_in1 8 (by decide +kernel) (by decide +kernel), ⟨by decide, by decide⟩, by decide +kernel, by decide, Or.inl (gd_in3 157 (by decide +kernel) (by decide +kernel))⟩
theorem ki_M_changed : Cond.instanceMethod y_M_changed ∈ gd_T := gd_in3 159 (by decide +kernel) (by decide +kernel)
theorem ke_M_changed : Cond.selects y_M_changed.cls y_M_changed y_M_changed ∈ gd_T := gd_sel (n := 21) 16 (by decide +kernel)
theorem kc_M_69 : zd_C gd_T "CutPlannerModel" 69 y_M_noAction b_M_noAction 2 (some .boolean) 1 := ⟨wc_M_noAction, gd_in1 8 (by decide +kernel) (by decide +kernel), ⟨by decide, by decide⟩, by decide +kernel, by decide, Or.inl (gd_in3 169 (by decide +kernel) (by decide +kernel))⟩
theorem ki_M_noAction : Cond.instanceMethod y_M_noAction ∈ gd_T := gd_in3 171 (by decide +kernel) (by decide +kernel)
theorem ke_M_noAction : Cond.selects y_M_noAction.cls y_M_noAction y_M_noAction ∈ gd_T := gd_sel (n := 21) 17 (by decide +kernel)
theorem kc_M_73 : zd_C gd_T "CutPlannerModel" 73 y_M_noFact b_M_noFact 2 (some .boolean) 1 := ⟨wc_M_noFact, gd_in1 8 (by decide +kernel) (by decide +kernel), ⟨by decide, by decide⟩, by decide +kernel, by decide, Or.inl (gd_in3 173 (by decide +kernel) (by decide +kernel))⟩
theorem ki_M_noFact : Cond.instanceMethod y_M_noFact ∈ gd_T := gd_in3 175 (by decide +kernel) (by decide +kernel)
theorem ke_M_noFact : Cond.selects y_M_noFact.cls y_M_noFact y_M_noFact ∈ gd_T := gd_sel (n := 21) 18 (by decide +kernel)
theorem kc_M_76 : zd_C gd_T "CutPlannerModel" 76 y_M_can b_M_can 3 (some .boolean) 2 := ⟨wc_M_can, gd_in1 8 (by decide +kernel) (by decide +kernel), ⟨by decide, by decide⟩, by decide +kernel, by decide, Or.inl (gd_in3 189 (by decide +kernel) (by decide +kernel))⟩
theorem ki_M_can : Cond.instanceMethod y_M_can ∈ gd_T := gd_in3 191 (by decide +kernel) (by decide +kernel)
theorem ke_M_can : Cond.selects y_M_can.cls y_M_can y_M_can ∈ gd_T := gd_sel (n := 21) 19 (by decide +kernel)
theorem kc_M_80 : zd_C gd_T "CutPlannerModel" 80 y_M_after b_M_after 3 (some .int) 2 := ⟨wc_M_after, gd_in1 8 (by decide +kernel) (by decide +kernel), ⟨by decide, by decide⟩, by decide +kernel, by decide, Or.inl (gd_in3 197 (by decide +kernel) (by decide +kernel))⟩
theorem ki_M_after : Cond.instanceMethod y_M_after ∈ gd_T := gd_in3 199 (by decide +kernel) (by decide +kernel)
theorem ke_M_after : Cond.selects y_M_after.cls y_M_after y_M_after ∈ gd_T := gd_sel (n := 21) 20 (by decide +kernel)
theorem kc_M_84 : zd_C gd_T "CutPlannerModel" 84 y_M_isMet b_M_isMet 2 (some .boolean) 1 := ⟨wc_M_isMet, gd_in1 8 (by decide +kernel) (by decide +kernel), ⟨by decide, by decide⟩, by decide +kernel, by decide, Or.inl (gd_in3 201 (by decide +kernel) (by decide +kernel))⟩
theorem ki_M_isMet : Cond.instanceMethod y_M_isMet ∈ gd_T := gd_in3 203 (by decide +kernel) (by decide +kernel)
theorem ke_M_isMet : Cond.selects y_M_isMet.cls y_M_isMet y_M_isMet ∈ gd_T := gd_sel (n := 21) 21 (by decide +kernel)
theorem kk_M_87 : Cond.constant "CutPlannerModel" 87 (nI 1048576) ∈ gd_T := gd_in3 213 (by decide +kernel) (by decide +kernel)
theorem kc_M_88 : zd_C gd_T "CutPlannerModel" 88 y_M_findCosts b_M_findCosts 5 (none) 0 := ⟨wc_M_findCosts, gd_in1 8 (by decide +kernel) (by decide +kernel), ⟨by decide, by decide⟩, by decide +kernel, by decide, Or.inl (gd_in3 209 (by decide +kernel) (by decide +kernel))⟩
theorem ki_M_findCosts : Cond.instanceMethod y_M_findCosts ∈ gd_T := gd_in3 211 (by decide +kernel) (by decide +kernel)
theorem ke_M_findCosts : Cond.selects y_M_findCosts.cls y_M_findCosts y_M_findCosts ∈ gd_T := gd_sel (n := 21) 22 (by decide +kernel)
theorem kf_M_91 : zd_F classes gd_T "CutPlannerModel" 91 6 10 := ⟨R_M, F_M, 21, rfl, wi_M, by decide, Or.inl (gd_in3 94 (by decide +kernel) (by decide +kernel))⟩
theorem kp_M_91 : zd_FP classes gd_T "CutPlannerModel" 91 6 10 := ⟨R_M, F_M, 21, ft_M, rfl, wi_M, by decide, Or.inl (gd_in3 94 (by decide +kernel) (by decide +kernel)), to_M, n_M, rfl, by decide +kernel⟩
theorem kc_M_94 : zd_C gd_T "CutPlannerModel" 94 y_M_bestAction b_M_bestAction 3 (some .int) 1 := ⟨wc_M_bestAction, gd_in1 8 (by decide +kernel) (by decide +kernel), ⟨by decide, by decide⟩, by decide +kernel, by decide, Or.inl (gd_in3 214 (by decide +kernel) (by decide +kernel))⟩
theorem ki_M_bestAction : Cond.instanceMethod y_M_bestAction ∈ gd_T := gd_in3 216 (by decide +kernel) (by decide +kernel)
theorem ke_M_bestAction : Cond.selects y_M_bestAction.cls y_M_bestAction y_M_bestAction ∈ gd_T := gd_sel (n := 21) 23 (by decide +kernel)
theorem kc_M_98 : zd_C gd_T "CutPlannerModel" 98 y_M_comeTo b_M_comeTo 5 (none) 0 := ⟨wc_M_comeTo, gd_in1 8 (by decide +kernel) (by decide +kernel), ⟨by decide, by decide⟩, by decide +kernel, by decide, Or.inl (gd_in3 230 (by decide +kernel) (by decide +kernel))⟩
theorem ki_M_comeTo : Cond.instanceMethod y_M_comeTo ∈ gd_T := gd_in3 232 (by decide +kernel) (by decide +kernel)
theorem ke_M_comeTo : Cond.selects y_M_comeTo.cls y_M_comeTo y_M_comeTo ∈ gd_T := gd_sel (n := 21) 24 (by decide +kernel)
theorem kc_M_101 : zd_C gd_T "CutPlannerModel" 101 y_M_over b_M_over 5 (some .int) 2 := ⟨wc_M_over, gd_in1 8 (by decide +kernel) (by decide +kernel), ⟨by decide, by decide⟩, by decide +kernel, by decide, Or.inl (gd_in4 10 (by decide +kernel) (by decide +kernel))⟩
theorem ki_M_over : Cond.instanceMethod y_M_over ∈ gd_T := gd_in4 12 (by decide +kernel) (by decide +kernel)
theorem ke_M_over : Cond.selects y_M_over.cls y_M_over y_M_over ∈ gd_T := gd_sel (n := 21) 27 (by decide +kernel)
theorem kc_M_105 : zd_C gd_T "CutPlannerModel" 105 y_M_ownRates b_M_ownRates 2 (none) 0 := ⟨wc_M_ownRates, gd_in1 8 (by decide +kernel) (by decide +kernel), ⟨by decide, by decide⟩, by decide +kernel, by decide, Or.inl (gd_in4 2 (by decide +kernel) (by decide +kernel))⟩
theorem ki_M_ownRates : Cond.instanceMethod y_M_ownRates ∈ gd_T := gd_in4 4 (by decide +kernel) (by decide +kernel)
theorem ke_M_ownRates : Cond.selects y_M_ownRates.cls y_M_ownRates y_M_ownRates ∈ gd_T := gd_sel (n := 21) 25 (by decide +kernel)
theorem kc_M_108 : zd_C gd_T "CutPlannerModel" 108 y_M_findLevels b_M_findLevels 7 (none) 2 := ⟨wc_M_findLevels, gd_in1 8 (by decide +kernel) (by decide +kernel), ⟨by decide, by decide⟩, by decide +kernel, by decide, Or.inl (gd_in4 6 (by decide +kernel) (by decide +kernel))⟩
theorem ki_M_findLevels : Cond.instanceMethod y_M_findLevels ∈ gd_T := gd_in4 8 (by decide +kernel) (by decide +kernel)
theorem ke_M_findLevels : Cond.selects y_M_findLevels.cls y_M_findLevels y_M_findLevels ∈ gd_T := gd_sel (n := 21) 26 (by decide +kernel)
theorem kc_M_112 : zd_C gd_T "CutPlannerModel" 112 y_M_told b_M_told 1 (some .int) 1 := ⟨wc_M_told, gd_in1 8 (by decide +kernel) (by decide +kernel), ⟨by decide, by decide⟩, by decide +kernel, by decide, Or.inl (gd_in4 14 (by decide +kernel) (by decide +kernel))⟩
theorem ks_M_told : Cond.static y_M_told ∈ gd_T := gd_in4 15 (by decide +kernel) (by decide +kernel)
theorem kc_M_115 : zd_C gd_T "CutPlannerModel" 115 y_M_base b_M_base 4 (some .int) 1 := ⟨wc_M_base, gd_in1 8 (by decide +kernel) (by decide +kernel), ⟨by decide, by decide⟩, by decide +kernel, by decide, Or.inl (gd_in4 33 (by decide +kernel) (by decide +kernel))⟩
theorem ki_M_base : Cond.instanceMethod y_M_base ∈ gd_T := gd_in4 35 (by decide +kernel) (by decide +kernel)
theorem ke_M_base : Cond.selects y_M_base.cls y_M_base y_M_base ∈ gd_T := gd_sel (n := 21) 30 (by decide +kernel)
theorem kf_M_118 : zd_F classes gd_T "CutPlannerModel" 118 6 18 := ⟨R_M, F_M, 21, rfl, wi_M, by decide, Or.inl (gd_in3 102 (by decide +kernel) (by decide +kernel))⟩
theorem kp_M_118 : zd_FP classes gd_T "CutPlannerModel" 118 6 18 := ⟨R_M, F_M, 21, ft_M, rfl, wi_M, by decide, Or.inl (gd_in3 102 (by decide +kernel) (by decide +kernel)), to_M, n_M, rfl, by decide +kernel⟩
theorem kf_M_121 : zd_F classes gd_T "CutPlannerModel" 121 6 20 := ⟨R_M, F_M, 21, rfl, wi_M, by decide, Or.inl (gd_in3 104 (by decide +kernel) (by decide +kernel))⟩
theorem kp_M_121 : zd_FP classes gd_T "CutPlannerModel" 121 6 20 := ⟨R_M, F_M, 21, ft_M, rfl, wi_M, by decide, Or.inl (gd_in3 104 (by decide +kernel) (by decide +kernel)), to_M, n_M, rfl, by decide +kernel⟩
theorem kc_M_124 : zd_C gd_T "CutPlannerModel" 124 y_M_zone b_M_zone 5 (some .int) 0 := ⟨wc_M_zone, gd_in1 8 (by decide +kernel) (by decide +kernel), ⟨by decide, by decide⟩, by decide +kernel, by decide, Or.inl (gd_in4 29 (by decide +kernel) (by decide +kernel))⟩
theorem ki_M_zone : Cond.instanceMethod y_M_zone ∈ gd_T := gd_in4 31 (by decide +kernel) (by decide +kernel)
theorem ke_M_zone : Cond.selects y_M_zone.cls y_M_zone y_M_zone ∈ gd_T := gd_sel (n := 21) 29 (by decide +kernel)
theorem kc_M_128 : zd_C gd_T "CutPlannerModel" 128 y_M_rest b_M_rest 6 (some .int) 1 := ⟨wc_M_rest, gd_in1 8 (by decide +kernel) (by decide +kernel), ⟨by decide, by decide⟩, by decide +kernel, by decide, Or.inl (gd_in4 37 (by decide +kernel) (by decide +kernel))⟩
theorem ki_M_rest : Cond.instanceMethod y_M_rest ∈ gd_T := gd_in4 39 (by decide +kernel) (by decide +kernel)
theorem ke_M_rest : Cond.selects y_M_rest.cls y_M_rest y_M_rest ∈ gd_T := gd_sel (n := 21) 31 (by decide +kernel)
theorem kc_M_131 : zd_C gd_T "CutPlannerModel" 131 y_M_actionsAcross b_M_actionsAcross 6 (some .int) 2 := ⟨wc_M_actionsAcross, gd_in1 8 (by decide +kernel) (by decide +kernel), ⟨by decide, by decide⟩, by decide +kernel, by decide, Or.inl (gd_in4 41 (by decide +kernel) (by decide +kernel))⟩
theorem ki_M_actionsAcross : Cond.instanceMethod y_M_actionsAcross ∈ gd_T := gd_in4 43 (by decide +kernel) (by decide +kernel)
theorem ke_M_actionsAcross : Cond.selects y_M_actionsAcross.cls y_M_actionsAcross y_M_actionsAcross ∈ gd_T := gd_sel (n := 21) 32 (by decide +kernel)
theorem kc_M_134 : zd_C gd_T "CutPlannerModel" 134 y_M_least b_M_least 4 (some .int) 1 := ⟨wc_M_least, gd_in1 8 (by decide +kernel) (by decide +kernel), ⟨by decide, by decide⟩, by decide +kernel, by decide, Or.inl (gd_in4 45 (by decide +kernel) (by decide +kernel))⟩
theorem ki_M_least : Cond.instanceMethod y_M_least ∈ gd_T := gd_in4 47 (by decide +kernel) (by decide +kernel)
theorem ke_M_least : Cond.selects y_M_least.cls y_M_least y_M_least ∈ gd_T := gd_sel (n := 21) 33 (by decide +kernel)
theorem kc_M_137 : zd_C gd_T "CutPlannerModel" 137 y_M_cutAll b_M_cutAll 6 (none) 0 := ⟨wc_M_cutAll, gd_in1 8 (by decide +kernel) (by decide +kernel), ⟨by decide, by decide⟩, by decide +kernel, by decide, Or.inl (gd_in4 25 (by decide +kernel) (by decide +kernel))⟩
theorem ki_M_cutAll : Cond.instanceMethod y_M_cutAll ∈ gd_T := gd_in4 27 (by decide +kernel) (by decide +kernel)
theorem ke_M_cutAll : Cond.selects y_M_cutAll.cls y_M_cutAll y_M_cutAll ∈ gd_T := gd_sel (n := 21) 28 (by decide +kernel)
theorem kf_U_9 : zd_F classes gd_T "CutPlanner$Cuts" 9 5 2 := ⟨R_U, F_U, 7, rfl, wi_U, by decide, Or.inl (gd_in1 133 (by decide +kernel) (by decide +kernel))⟩
theorem kf_U_15 : zd_F classes gd_T "CutPlanner$Cuts" 15 5 3 := ⟨R_U, F_U, 7, rfl, wi_U, by decide, Or.inl (gd_in1 134 (by decide +kernel) (by decide +kernel))⟩
theorem kf_U_18 : zd_F classes gd_T "CutPlanner$Cuts" 18 5 4 := ⟨R_U, F_U, 7, rfl, wi_U, by decide, Or.inl (gd_in1 135 (by decide +kernel) (by decide +kernel))⟩
theorem kf_U_21 : zd_F classes gd_T "CutPlanner$Cuts" 21 5 0 := ⟨R_U, F_U, 7, rfl, wi_U, by decide, Or.inl (gd_in1 131 (by decide +kernel) (by decide +kernel))⟩
theorem kf_U_25 : zd_F classes gd_T "CutPlanner$Cuts" 25 5 1 := ⟨R_U, F_U, 7, rfl, wi_U, by decide, Or.inl (gd_in1 132 (by decide +kernel) (by decide +kernel))⟩
theorem kf_U_29 : zd_F classes gd_T "CutPlanner$Cuts" 29 1 0 := ⟨R_T, F_T, 6, rfl, wi_T, by decide, Or.inr ⟨"CutPlanner", gd_in1 34 (by decide +kernel) (by decide +kernel)⟩⟩
theorem kf_U_40 : zd_F classes gd_T "CutPlanner$Cuts" 40 5 5 := ⟨R_U, F_U, 7, rfl, wi_U, by decide, Or.inl (gd_in1 137 (by decide +kernel) (by decide +kernel))⟩
theorem kp_U_40 : zd_FP classes gd_T "CutPlanner$Cuts" 40 5 5 := ⟨R_U, F_U, 7, ft_U, rfl, wi_U, by decide, Or.inl (gd_in1 137 (by decide +kernel) (by decide +kernel)), to_U, n_U, rfl, by decide +kernel⟩
theorem kf_U_44 : zd_F classes gd_T "CutPlanner$Cuts" 44 5 6 := ⟨R_U, F_U, 7, rfl, wi_U, by decide, Or.inl (gd_in1 139 (by decide +kernel) (by decide +kernel))⟩
theorem kp_U_44 : zd_FP classes gd_T "CutPlanner$Cuts" 44 5 6 := ⟨R_U, F_U, 7, ft_U, rfl, wi_U, by decide, Or.inl (gd_in1 139 (by decide +kernel) (by decide +kernel)), to_U, n_U, rfl, by decide +kernel⟩
theorem kc_U_47 : zd_C gd_T "CutPlanner$Cuts" 47 y_U_goalHeight b_U_goalHeight 2 (some .int) 1 := ⟨wc_U_goalHeight, gd_in1 7 (by decide +kernel) (by decide +kernel), ⟨by decide, by decide⟩, by decide +kernel, by decide, Or.inl (gd_in2 55 (by decide +kernel) (by decide +kernel))⟩
theorem ki_U_goalHeight : Cond.instanceMethod y_U_goalHeight ∈ gd_T := gd_in2 57 (by decide +kernel) (by decide +kernel)
theorem ke_U_goalHeight : Cond.selects y_U_goalHeight.cls y_U_goalHeight y_U_goalHeight ∈ gd_T := gd_sel (n := 7) 6 (by decide +kernel)
theorem kk_U_51 : Cond.constant "CutPlanner$Cuts" 51 (nI 1000000) ∈ gd_T := gd_in2 61 (by decide +kernel) (by decide +kernel)
theorem kc_U_52 : zd_C gd_T "CutPlanner$Cuts" 52 y_U_nextCut b_U_nextCut 6 (some .int) 1 := ⟨wc_U_nextCut, gd_in1 7 (by decide +kernel) (by decide +kernel), ⟨by decide, by decide⟩, by decide +kernel, by decide, Or.inl (gd_in2 62 (by decide +kernel) (by decide +kernel))⟩
theorem ki_U_nextCut : Cond.instanceMethod y_U_nextCut ∈ gd_T := gd_in2 64 (by decide +kernel) (by decide +kernel)
theorem ke_U_nextCut : Cond.selects y_U_nextCut.cls y_U_nextCut y_U_nextCut ∈ gd_T := gd_sel (n := 7) 7 (by decide +kernel)
theorem kc_U_55 : zd_C gd_T "CutPlanner$Cuts" 55 y_U_pay b_U_pay 4 (some .int) 1 := ⟨wc_U_pay, gd_in1 7 (by decide +kernel) (by decide +kernel), ⟨by decide, by decide⟩, by decide +kernel, by decide, Or.inl (gd_in2 83 (by decide +kernel) (by decide +kernel))⟩
theorem ki_U_pay : Cond.instanceMethod y_U_pay ∈ gd_T := gd_in2 85 (by decide +kernel) (by decide +kernel)
theorem ke_U_pay : Cond.selects y_U_pay.cls y_U_pay y_U_pay ∈ gd_T := gd_sel (n := 7) 11 (by decide +kernel)
theorem kc_U_58 : zd_C gd_T "CutPlanner$Cuts" 58 y_V_measure b_V_measure 9 (none) 4 := ⟨wc_V_measure, gd_in1 6 (by decide +kernel) (by decide +kernel), ⟨by decide, by decide⟩, by decide +kernel, by decide, Or.inl (gd_in2 59 (by decide +kernel) (by decide +kernel))⟩
theorem kf_U_64 : zd_F classes gd_T "CutPlanner$Cuts" 64 1 5 := ⟨R_T, F_T, 6, rfl, wi_T, by decide, Or.inr ⟨"CutPlanner", gd_in1 51 (by decide +kernel) (by decide +kernel)⟩⟩
theorem kp_U_64 : zd_FP classes gd_T "CutPlanner$Cuts" 64 1 5 := ⟨R_T, F_T, 6, ft_T, rfl, wi_T, by decide, Or.inr ⟨"CutPlanner", gd_in1 51 (by decide +kernel) (by decide +kernel)⟩, to_T, n_T, rfl, by decide +kernel⟩
theorem kc_U_67 : zd_C gd_T "CutPlanner$Cuts" 67 y_V_joined b_V_joined 5 (some .int) 2 := ⟨wc_V_joined, gd_in1 6 (by decide +kernel) (by decide +kernel), ⟨by decide, by decide⟩, by decide +kernel, by decide, Or.inl (gd_in2 60 (by decide +kernel) (by decide +kernel))⟩
theorem kf_U_71 : zd_F classes gd_T "CutPlanner$Cuts" 71 1 3 := ⟨R_T, F_T, 6, rfl, wi_T, by decide, Or.inr ⟨"CutPlanner", gd_in1 47 (by decide +kernel) (by decide +kernel)⟩⟩
theorem kp_U_71 : zd_FP classes gd_T "CutPlanner$Cuts" 71 1 3 := ⟨R_T, F_T, 6, ft_T, rfl, wi_T, by decide, Or.inr ⟨"CutPlanner", gd_in1 47 (by decide +kernel) (by decide +kernel)⟩, to_T, n_T, rfl, by decide +kernel⟩
theorem kf_U_74 : zd_F classes gd_T "CutPlanner$Cuts" 74 1 1 := ⟨R_T, F_T, 6, rfl, wi_T, by decide, Or.inr ⟨"CutPlanner", gd_in1 39 (by decide +kernel) (by decide +kernel)⟩⟩
theorem kc_U_78 : zd_C gd_T "CutPlanner$Cuts" 78 y_V_baseOf b_V_baseOf 5 (some .int) 1 := ⟨wc_V_baseOf, gd_in1 6 (by decide +kernel) (by decide +kernel), ⟨by decide, by decide⟩, by decide +kernel, by decide, Or.inl (gd_in2 66 (by decide +kernel) (by decide +kernel))⟩
theorem ki_V_baseOf : Cond.instanceMethod y_V_baseOf ∈ gd_T := gd_in2 67 (by decide +kernel) (by decide +kernel)
theorem ke_V_baseOf : Cond.selects y_V_baseOf.cls y_V_baseOf y_V_baseOf ∈ gd_T := gd_in2 68 (by decide +kernel) (by decide +kernel)
theorem kc_U_81 : zd_C gd_T "CutPlanner$Cuts" 81 y_U_zoneBefore b_U_zoneBefore 7 (some .int) 1 := ⟨wc_U_zoneBefore, gd_in1 7 (by decide +kernel) (by decide +kernel), ⟨by decide, by decide⟩, by decide +kernel, by decide, Or.inl (gd_in2 70 (by decide +kernel) (by decide +kernel))⟩
theorem ki_U_zoneBefore : Cond.instanceMethod y_U_zoneBefore ∈ gd_T := gd_in2 72 (by decide +kernel) (by decide +kernel)
theorem ke_U_zoneBefore : Cond.selects y_U_zoneBefore.cls y_U_zoneBefore y_U_zoneBefore ∈ gd_T := gd_sel (n := 7) 8 (by decide +kernel)
theorem kc_U_84 : zd_C gd_T "CutPlanner$Cuts" 84 y_U_restBehind b_U_restBehind 7 (some .int) 2 := ⟨wc_U_restBehind, gd_in1 7 (by decide +kernel) (by decide +kernel), ⟨by decide, by decide⟩, by decide +kernel, by decide, Or.inl (gd_in2 74 (by decide +kernel) (by decide +kernel))⟩
theorem ki_U_restBehind : Cond.instanceMethod y_U_restBehind ∈ gd_T := gd_in2 76 (by decide +kernel) (by decide +kernel)
theorem ke_U_restBehind : Cond.selects y_U_restBehind.cls y_U_restBehind y_U_restBehind ∈ gd_T := gd_sel (n := 7) 9 (by decide +kernel)
theorem kc_U_88 : zd_C gd_T "CutPlanner$Cuts" 88 y_U_isBasedIn b_U_isBasedIn 3 (some .boolean) 2 := ⟨wc_U_isBasedIn, gd_in1 7 (by decide +kernel) (by decide +kernel), ⟨by decide, by decide⟩, by decide +kernel, by decide, Or.inl (gd_in2 78 (by decide +kernel) (by decide +kernel))⟩
theorem ki_U_isBasedIn : Cond.instanceMethod y_U_isBasedIn ∈ gd_T := gd_in2 80 (by decide +kernel) (by decide +kernel)
theorem ke_U_isBasedIn : Cond.selects y_U_isBasedIn.cls y_U_isBasedIn y_U_isBasedIn ∈ gd_T := gd_sel (n := 7) 10 (by decide +kernel)
theorem kc_U_92 : zd_C gd_T "CutPlanner$Cuts" 92 y_P_has b_P_has 2 (some .boolean) 2 := ⟨wc_P_has, gd_in1 1 (by decide +kernel) (by decide +kernel), ⟨by decide, by decide⟩, by decide +kernel, by decide, Or.inr ⟨"CutPlanner", gd_in2 82 (by decide +kernel) (by decide +kernel)⟩⟩
theorem kf_V_9 : zd_F classes gd_T "CutPlanner$Levels" 9 4 1 := ⟨R_V, F_V, 2, rfl, wi_V, by decide, Or.inl (gd_in1 118 (by decide +kernel) (by decide +kernel))⟩
theorem kf_V_15 : zd_F classes gd_T "CutPlanner$Levels" 15 4 0 := ⟨R_V, F_V, 2, rfl, wi_V, by decide, Or.inl (gd_in1 117 (by decide +kernel) (by decide +kernel))⟩
theorem kc_V_19 : zd_C gd_T "CutPlanner$Levels" 19 y_P_has b_P_has 2 (some .boolean) 2 := ⟨wc_P_has, gd_in1 1 (by decide +kernel) (by decide +kernel), ⟨by decide, by decide⟩, by decide +kernel, by decide, Or.inr ⟨"CutPlanner", gd_in2 21 (by decide +kernel) (by decide +kernel)⟩⟩
theorem kk_V_23 : Cond.constant "CutPlanner$Levels" 23 (nI 1000000) ∈ gd_T := gd_in2 24 (by decide +kernel) (by decide +kernel)
theorem kf_V_24 : zd_F classes gd_T "CutPlanner$Levels" 24 1 3 := ⟨R_T, F_T, 6, rfl, wi_T, by decide, Or.inr ⟨"CutPlanner", gd_in1 44 (by decide +kernel) (by decide +kernel)⟩⟩
theorem kp_V_24 : zd_FP classes gd_T "CutPlanner$Levels" 24 1 3 := ⟨R_T, F_T, 6, ft_T, rfl, wi_T, by decide, Or.inr ⟨"CutPlanner", gd_in1 44 (by decide +kernel) (by decide +kernel)⟩, to_T, n_T, rfl, by decide +kernel⟩
theorem kf_V_30 : zd_F classes gd_T "CutPlanner$Levels" 30 1 1 := ⟨R_T, F_T, 6, rfl, wi_T, by decide, Or.inr ⟨"CutPlanner", gd_in1 38 (by decide +kernel) (by decide +kernel)⟩⟩
theorem kc_V_34 : zd_C gd_T "CutPlanner$Levels" 34 y_V_joined b_V_joined 5 (some .int) 2 := ⟨wc_V_joined, gd_in1 6 (by decide +kernel) (by decide +kernel), ⟨by decide, by decide⟩, by decide +kernel, by decide, Or.inl (gd_in2 25 (by decide +kernel) (by decide +kernel))⟩
theorem kc_V_38 : zd_C gd_T "CutPlanner$Levels" 38 y_V_lower b_V_lower 5 (some .boolean) 2 := ⟨wc_V_lower, gd_in1 6 (by decide +kernel) (by decide +kernel), ⟨by decide, by decide⟩, by decide +kernel, by decide, Or.inl (gd_in2 35 (by decide +kernel) (by decide +kernel))⟩
theorem ki_V_lower : Cond.instanceMethod y_V_lower ∈ gd_T := gd_in2 37 (by decide +kernel) (by decide +kernel)
theorem ke_V_lower : Cond.selects y_V_lower.cls y_V_lower y_V_lower ∈ gd_T := gd_sel (n := 2) 5 (by decide +kernel)
theorem kf_R_7 : zd_F classes gd_T "CutPlanner$Row" 7 2 0 := ⟨R_R, F_R, 2, rfl, wi_R, by decide, Or.inl (gd_in1 102 (by decide +kernel) (by decide +kernel))⟩
theorem kf_R_13 : zd_F classes gd_T "CutPlanner$Row" 13 2 1 := ⟨R_R, F_R, 2, rfl, wi_R, by decide, Or.inl (gd_in1 104 (by decide +kernel) (by decide +kernel))⟩
theorem kp_R_13 : zd_FP classes gd_T "CutPlanner$Row" 13 2 1 := ⟨R_R, F_R, 2, ft_R, rfl, wi_R, by decide, Or.inl (gd_in1 104 (by decide +kernel) (by decide +kernel)), to_R, n_R, rfl, by decide +kernel⟩
theorem kf_S_9 : zd_F classes gd_T "CutPlanner$Search" 9 3 1 := ⟨R_S, F_S, 6, rfl, wi_S, by decide, Or.inl (gd_in1 77 (by decide +kernel) (by decide +kernel))⟩
theorem kf_S_15 : zd_F classes gd_T "CutPlanner$Search" 15 3 2 := ⟨R_S, F_S, 6, rfl, wi_S, by decide, Or.inl (gd_in1 78 (by decide +kernel) (by decide +kernel))⟩
theorem kf_S_18 : zd_F classes gd_T "CutPlanner$Search" 18 3 3 := ⟨R_S, F_S, 6, rfl, wi_S, by decide, Or.inl (gd_in1 79 (by decide +kernel) (by decide +kernel))⟩
theorem kf_S_21 : zd_F classes gd_T "CutPlanner$Search" 21 3 4 := ⟨R_S, F_S, 6, rfl, wi_S, by decide, Or.inl (gd_in1 80 (by decide +kernel) (by decide +kernel))⟩
theorem kf_S_24 : zd_F classes gd_T "CutPlanner$Search" 24 3 0 := ⟨R_S, F_S, 6, rfl, wi_S, by decide, Or.inl (gd_in1 76 (by decide +kernel) (by decide +kernel))⟩
theorem kc_S_34 : zd_C gd_T "CutPlanner$Search" 34 y_S_forget b_S_forget 2 (none) 0 := ⟨wc_S_forget, gd_in1 3 (by decide +kernel) (by decide +kernel), ⟨by decide, by decide⟩, by decide +kernel, by decide, Or.inl (gd_in1 190 (by decide +kernel) (by decide +kernel))⟩
theorem ki_S_forget : Cond.instanceMethod y_S_forget ∈ gd_T := gd_in1 192 (by decide +kernel) (by decide +kernel)
theorem ke_S_forget : Cond.selects y_S_forget.cls y_S_forget y_S_forget ∈ gd_T := gd_sel (n := 6) 0 (by decide +kernel)
theorem kc_S_37 : zd_C gd_T "CutPlanner$Search" 37 y_S_settle b_S_settle 3 (none) 2 := ⟨wc_S_settle, gd_in1 3 (by decide +kernel) (by decide +kernel), ⟨by decide, by decide⟩, by decide +kernel, by decide, Or.inl (gd_in1 194 (by decide +kernel) (by decide +kernel))⟩
theorem ki_S_settle : Cond.instanceMethod y_S_settle ∈ gd_T := gd_in1 196 (by decide +kernel) (by decide +kernel)
theorem ke_S_settle : Cond.selects y_S_settle.cls y_S_settle y_S_settle ∈ gd_T := gd_sel (n := 6) 1 (by decide +kernel)
theorem kc_S_41 : zd_C gd_T "CutPlanner$Search" 41 y_S_lastSpent b_S_lastSpent 1 (some .int) 0 := ⟨wc_S_lastSpent, gd_in1 3 (by decide +kernel) (by decide +kernel), ⟨by decide, by decide⟩, by decide +kernel, by decide, Or.inl (gd_in1 198 (by decide +kernel) (by decide +kernel))⟩
theorem ki_S_lastSpent : Cond.instanceMethod y_S_lastSpent ∈ gd_T := gd_in1 200 (by decide +kernel) (by decide +kernel)
theorem ke_S_lastSpent : Cond.selects y_S_lastSpent.cls y_S_lastSpent y_S_lastSpent ∈ gd_T := gd_sel (n := 6) 2 (by decide +kernel)
theorem kf_S_45 : zd_F classes gd_T "CutPlanner$Search" 45 3 5 := ⟨R_S, F_S, 6, rfl, wi_S, by decide, Or.inl (gd_in1 81 (by decide +kernel) (by decide +kernel))⟩
theorem kp_S_45 : zd_FP classes gd_T "CutPlanner$Search" 45 3 5 := ⟨R_S, F_S, 6, ft_S, rfl, wi_S, by decide, Or.inl (gd_in1 81 (by decide +kernel) (by decide +kernel)), to_S, n_S, rfl, by decide +kernel⟩
theorem kf_S_49 : zd_F classes gd_T "CutPlanner$Search" 49 1 3 := ⟨R_T, F_T, 6, rfl, wi_T, by decide, Or.inr ⟨"CutPlanner", gd_in1 43 (by decide +kernel) (by decide +kernel)⟩⟩
theorem kp_S_49 : zd_FP classes gd_T "CutPlanner$Search" 49 1 3 := ⟨R_T, F_T, 6, ft_T, rfl, wi_T, by decide, Or.inr ⟨"CutPlanner", gd_in1 43 (by decide +kernel) (by decide +kernel)⟩, to_T, n_T, rfl, by decide +kernel⟩
theorem kf_S_54 : zd_F classes gd_T "CutPlanner$Search" 54 1 0 := ⟨R_T, F_T, 6, rfl, wi_T, by decide, Or.inr ⟨"CutPlanner", gd_in1 35 (by decide +kernel) (by decide +kernel)⟩⟩
theorem kc_S_57 : zd_C gd_T "CutPlanner$Search" 57 y_S_spread b_S_spread 6 (none) 3 := ⟨wc_S_spread, gd_in1 3 (by decide +kernel) (by decide +kernel), ⟨by decide, by decide⟩, by decide +kernel, by decide, Or.inl (gd_in1 202 (by decide +kernel) (by decide +kernel))⟩
theorem ki_S_spread : Cond.instanceMethod y_S_spread ∈ gd_T := gd_in1 204 (by decide +kernel) (by decide +kernel)
theorem ke_S_spread : Cond.selects y_S_spread.cls y_S_spread y_S_spread ∈ gd_T := gd_sel (n := 6) 3 (by decide +kernel)
theorem kc_S_61 : zd_C gd_T "CutPlanner$Search" 61 y_P_hasAll b_P_hasAll 2 (some .boolean) 2 := ⟨wc_P_hasAll, gd_in1 1 (by decide +kernel) (by decide +kernel), ⟨by decide, by decide⟩, by decide +kernel, by decide, Or.inr ⟨"CutPlanner", gd_in3 49 (by decide +kernel) (by decide +kernel)⟩⟩
theorem ks_P_hasAll : Cond.static y_P_hasAll ∈ gd_T := gd_in1 211 (by decide +kernel) (by decide +kernel)
theorem kc_S_65 : zd_C gd_T "CutPlanner$Search" 65 y_T_isMet b_T_isMet 2 (some .boolean) 1 := ⟨wc_T_isMet, gd_in1 2 (by decide +kernel) (by decide +kernel), ⟨by decide, by decide⟩, by decide +kernel, by decide, Or.inl (gd_in1 225 (by decide +kernel) (by decide +kernel))⟩
theorem kc_S_69 : zd_C gd_T "CutPlanner$Search" 69 y_S_leastOnward b_S_leastOnward 4 (some .int) 1 := ⟨wc_S_leastOnward, gd_in1 3 (by decide +kernel) (by decide +kernel), ⟨by decide, by decide⟩, by decide +kernel, by decide, Or.inl (gd_in1 233 (by decide +kernel) (by decide +kernel))⟩
theorem ki_S_leastOnward : Cond.instanceMethod y_S_leastOnward ∈ gd_T := gd_in1 235 (by decide +kernel) (by decide +kernel)
theorem ke_S_leastOnward : Cond.selects y_S_leastOnward.cls y_S_leastOnward y_S_leastOnward ∈ gd_T := gd_sel (n := 6) 4 (by decide +kernel)
theorem kc_S_73 : zd_C gd_T "CutPlanner$Search" 73 y_R_append b_R_append 2 (none) 1 := ⟨wc_R_append, gd_in1 5 (by decide +kernel) (by decide +kernel), ⟨by decide, by decide⟩, by decide +kernel, by decide, Or.inl (gd_in1 237 (by decide +kernel) (by decide +kernel))⟩
theorem kc_S_79 : zd_C gd_T "CutPlanner$Search" 79 y_T_after b_T_after 3 (some .int) 2 := ⟨wc_T_after, gd_in1 2 (by decide +kernel) (by decide +kernel), ⟨by decide, by decide⟩, by decide +kernel, by decide, Or.inl (gd_in1 213 (by decide +kernel) (by decide +kernel))⟩
theorem kc_S_83 : zd_C gd_T "CutPlanner$Search" 83 y_T_allows b_T_allows 3 (some .boolean) 2 := ⟨wc_T_allows, gd_in1 2 (by decide +kernel) (by decide +kernel), ⟨by decide, by decide⟩, by decide +kernel, by decide, Or.inl (gd_in1 206 (by decide +kernel) (by decide +kernel))⟩
theorem kf_T_9 : zd_F classes gd_T "CutPlanner$Task" 9 1 0 := ⟨R_T, F_T, 6, rfl, wi_T, by decide, Or.inl (gd_in1 33 (by decide +kernel) (by decide +kernel))⟩
theorem kf_T_17 : zd_F classes gd_T "CutPlanner$Task" 17 1 1 := ⟨R_T, F_T, 6, rfl, wi_T, by decide, Or.inl (gd_in1 37 (by decide +kernel) (by decide +kernel))⟩
theorem kf_T_20 : zd_F classes gd_T "CutPlanner$Task" 20 1 2 := ⟨R_T, F_T, 6, rfl, wi_T, by decide, Or.inl (gd_in1 41 (by decide +kernel) (by decide +kernel))⟩
theorem kp_T_20 : zd_FP classes gd_T "CutPlanner$Task" 20 1 2 := ⟨R_T, F_T, 6, ft_T, rfl, wi_T, by decide, Or.inl (gd_in1 41 (by decide +kernel) (by decide +kernel)), to_T, n_T, rfl, by decide +kernel⟩
theorem kf_T_24 : zd_F classes gd_T "CutPlanner$Task" 24 1 4 := ⟨R_T, F_T, 6, rfl, wi_T, by decide, Or.inl (gd_in1 48 (by decide +kernel) (by decide +kernel))⟩
theorem kp_T_24 : zd_FP classes gd_T "CutPlanner$Task" 24 1 4 := ⟨R_T, F_T, 6, ft_T, rfl, wi_T, by decide, Or.inl (gd_in1 48 (by decide +kernel) (by decide +kernel)), to_T, n_T, rfl, by decide +kernel⟩
theorem kf_T_27 : zd_F classes gd_T "CutPlanner$Task" 27 1 5 := ⟨R_T, F_T, 6, rfl, wi_T, by decide, Or.inl (gd_in1 50 (by decide +kernel) (by decide +kernel))⟩
theorem kp_T_27 : zd_FP classes gd_T "CutPlanner$Task" 27 1 5 := ⟨R_T, F_T, 6, ft_T, rfl, wi_T, by decide, Or.inl (gd_in1 50 (by decide +kernel) (by decide +kernel)), to_T, n_T, rfl, by decide +kernel⟩
theorem kf_T_30 : zd_F classes gd_T "CutPlanner$Task" 30 1 3 := ⟨R_T, F_T, 6, rfl, wi_T, by decide, Or.inl (gd_in1 45 (by decide +kernel) (by decide +kernel))⟩
theorem kp_T_30 : zd_FP classes gd_T "CutPlanner$Task" 30 1 3 := ⟨R_T, F_T, 6, ft_T, rfl, wi_T, by decide, Or.inl (gd_in1 45 (by decide +kernel) (by decide +kernel)), to_T, n_T, rfl, by decide +kernel⟩
theorem kc_T_33 : zd_C gd_T "CutPlanner$Task" 33 y_P_hasAll b_P_hasAll 2 (some .boolean) 2 := ⟨wc_P_hasAll, gd_in1 1 (by decide +kernel) (by decide +kernel), ⟨by decide, by decide⟩, by decide +kernel, by decide, Or.inr ⟨"CutPlanner", gd_in1 210 (by decide +kernel) (by decide +kernel)⟩⟩
theorem kc_T_37 : zd_C gd_T "CutPlanner$Task" 37 y_P_has b_P_has 2 (some .boolean) 2 := ⟨wc_P_has, gd_in1 1 (by decide +kernel) (by decide +kernel), ⟨by decide, by decide⟩, by decide +kernel, by decide, Or.inr ⟨"CutPlanner", gd_in3 68 (by decide +kernel) (by decide +kernel)⟩⟩
theorem kc_L_7 : zd_C gd_T "CutPlannerLaw" 7 y_P_fact b_P_fact 4 (some .int) 2 := ⟨wc_P_fact, gd_in1 1 (by decide +kernel) (by decide +kernel), ⟨by decide, by decide⟩, by decide +kernel, by decide, Or.inl (gd_in2 111 (by decide +kernel) (by decide +kernel))⟩
theorem ki_P_fact : Cond.instanceMethod y_P_fact ∈ gd_T := gd_in2 112 (by decide +kernel) (by decide +kernel)
theorem ke_P_fact : Cond.selects y_P_fact.cls y_P_fact y_P_fact ∈ gd_T := gd_in2 113 (by decide +kernel) (by decide +kernel)
theorem kc_L_15 : zd_C gd_T "CutPlannerLaw" 15 y_P_action b_P_action 3 (some .int) 1 := ⟨wc_P_action, gd_in1 1 (by decide +kernel) (by decide +kernel), ⟨by decide, by decide⟩, by decide +kernel, by decide, Or.inl (gd_in2 195 (by decide +kernel) (by decide +kernel))⟩
theorem ki_P_action : Cond.instanceMethod y_P_action ∈ gd_T := gd_in2 196 (by decide +kernel) (by decide +kernel)
theorem ke_P_action : Cond.selects y_P_action.cls y_P_action y_P_action ∈ gd_T := gd_in2 197 (by decide +kernel) (by decide +kernel)
theorem kc_L_21 : zd_C gd_T "CutPlannerLaw" 21 y_P_link b_P_link 4 (none) 3 := ⟨wc_P_link, gd_in1 1 (by decide +kernel) (by decide +kernel), ⟨by decide, by decide⟩, by decide +kernel, by decide, Or.inl (gd_in2 224 (by decide +kernel) (by decide +kernel))⟩
theorem ki_P_link : Cond.instanceMethod y_P_link ∈ gd_T := gd_in2 225 (by decide +kernel) (by decide +kernel)
theorem ke_P_link : Cond.selects y_P_link.cls y_P_link y_P_link ∈ gd_T := gd_in2 226 (by decide +kernel) (by decide +kernel)
theorem kc_L_27 : zd_C gd_T "CutPlannerLaw" 27 y_P_holds b_P_holds 2 (some .boolean) 1 := ⟨wc_P_holds, gd_in1 1 (by decide +kernel) (by decide +kernel), ⟨by decide, by decide⟩, by decide +kernel, by decide, Or.inl (gd_in3 19 (by decide +kernel) (by decide +kernel))⟩
theorem ki_P_holds : Cond.instanceMethod y_P_holds ∈ gd_T := gd_in3 20 (by decide +kernel) (by decide +kernel)
theorem ke_P_holds : Cond.selects y_P_holds.cls y_P_holds y_P_holds ∈ gd_T := gd_in3 21 (by decide +kernel) (by decide +kernel)
theorem kc_L_31 : zd_C gd_T "CutPlannerLaw" 31 y_P_applicable b_P_applicable 2 (some .boolean) 1 := ⟨wc_P_applicable, gd_in1 1 (by decide +kernel) (by decide +kernel), ⟨by decide, by decide⟩, by decide +kernel, by decide, Or.inl (gd_in3 26 (by decide +kernel) (by decide +kernel))⟩
theorem ki_P_applicable : Cond.instanceMethod y_P_applicable ∈ gd_T := gd_in3 27 (by decide +kernel) (by decide +kernel)
theorem ke_P_applicable : Cond.selects y_P_applicable.cls y_P_applicable y_P_applicable ∈ gd_T := gd_in3 28 (by decide +kernel) (by decide +kernel)
theorem kc_L_34 : zd_C gd_T "CutPlannerLaw" 34 y_P_apply b_P_apply 2 (some .boolean) 1 := ⟨wc_P_apply, gd_in1 1 (by decide +kernel) (by decide +kernel), ⟨by decide, by decide⟩, by decide +kernel, by decide, Or.inl (gd_in3 33 (by decide +kernel) (by decide +kernel))⟩
theorem ki_P_apply : Cond.instanceMethod y_P_apply ∈ gd_T := gd_in3 34 (by decide +kernel) (by decide +kernel)
theorem ke_P_apply : Cond.selects y_P_apply.cls y_P_apply y_P_apply ∈ gd_T := gd_in3 35 (by decide +kernel) (by decide +kernel)
theorem kc_L_37 : zd_C gd_T "CutPlannerLaw" 37 y_P_together b_P_together 3 (some .boolean) 2 := ⟨wc_P_together, gd_in1 1 (by decide +kernel) (by decide +kernel), ⟨by decide, by decide⟩, by decide +kernel, by decide, Or.inl (gd_in3 41 (by decide +kernel) (by decide +kernel))⟩
theorem ki_P_together : Cond.instanceMethod y_P_together ∈ gd_T := gd_in3 42 (by decide +kernel) (by decide +kernel)
theorem ke_P_together : Cond.selects y_P_together.cls y_P_together y_P_together ∈ gd_T := gd_in3 43 (by decide +kernel) (by decide +kernel)
theorem kc_L_41 : zd_C gd_T "CutPlannerLaw" 41 y_P_level b_P_level 3 (some .int) 2 := ⟨wc_P_level, gd_in1 1 (by decide +kernel) (by decide +kernel), ⟨by decide, by decide⟩, by decide +kernel, by decide, Or.inl (gd_in3 53 (by decide +kernel) (by decide +kernel))⟩
theorem ki_P_level : Cond.instanceMethod y_P_level ∈ gd_T := gd_in3 54 (by decide +kernel) (by decide +kernel)
theorem ke_P_level : Cond.selects y_P_level.cls y_P_level y_P_level ∈ gd_T := gd_in3 55 (by decide +kernel) (by decide +kernel)
theorem kc_L_45 : zd_C gd_T "CutPlannerLaw" 45 y_P_landmark b_P_landmark 2 (some .boolean) 1 := ⟨wc_P_landmark, gd_in1 1 (by decide +kernel) (by decide +kernel), ⟨by decide, by decide⟩, by decide +kernel, by decide, Or.inl (gd_in3 60 (by decide +kernel) (by decide +kernel))⟩
theorem ki_P_landmark : Cond.instanceMethod y_P_landmark ∈ gd_T := gd_in3 61 (by decide +kernel) (by decide +kernel)
theorem ke_P_landmark : Cond.selects y_P_landmark.cls y_P_landmark y_P_landmark ∈ gd_T := gd_in3 62 (by decide +kernel) (by decide +kernel)
theorem kc_L_48 : zd_C gd_T "CutPlannerLaw" 48 y_P_draft b_P_draft 2 (some .int) 1 := ⟨wc_P_draft, gd_in1 1 (by decide +kernel) (by decide +kernel), ⟨by decide, by decide⟩, by decide +kernel, by decide, Or.inl (gd_in3 72 (by decide +kernel) (by decide +kernel))⟩
theorem ki_P_draft : Cond.instanceMethod y_P_draft ∈ gd_T := gd_in3 73 (by decide +kernel) (by decide +kernel)
theorem ke_P_draft : Cond.selects y_P_draft.cls y_P_draft y_P_draft ∈ gd_T := gd_in3 74 (by decide +kernel) (by decide +kernel)
