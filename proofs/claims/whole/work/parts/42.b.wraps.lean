/-! The law's methods with handlers. -/
theorem th_Xk : zx_k th_X := fun _ _ hk h => h.keep hk
abbrev ow (k : Nat → ClassId) (o : Nat) (f : Nat → Int64) : va_W := [(o, .inl (k 3, 1, .inr (.inl f)))]
section WR
variable {k : Nat → ClassId} {q : Nat → Nat} {v : Nat → Int32} {r : Nat → Nat → Int32} {o : Nat} {f : Nat → Int64}
theorem kw_fact : Cond.codeWith y_L_fact b_L_fact 5 (some .int) [(0, 10, 13, 13)] ∈ gd_T := gd_in2 109 (by decide +kernel) (by decide +kernel)
set_option maxRecDepth 100000 in
set_option maxHeartbeats 4000000 in
theorem w_fact (l : Launch) (D : va_G) {x y : Int32} {da : Nat} {post1 : Option Value → va_W → Prop} {P : Int32 → (Nat → Int32) → (Nat → Nat → Int32) → Prop} (C : zd_Ct l D classes (wd_ty k) gd_T y_P_fact b_P_fact 4 (some .int) (zd_rm da) [.ref (q 0), .int x, .int y] (wd k q v r (ow k o f)) post1) (hda : da ≤ 6) (hr : ∀ v1 w1, post1 v1 w1 → ∃ (n : Int32) (v2 : Nat → Int32) (r2 : Nat → Nat → Int32), P n v2 r2 ∧ v1 = some (.int n) ∧ w1 = wd k q v2 r2 (ow k o f)) : zx_Ct l D classes (wd_ty k) gd_T y_L_fact (.codeWith y_L_fact b_L_fact 5 (some .int) [(0, 10, 13, 13)]) (zx_rm 8 1 6) [.ref (q 0), .int x, .int y, .ref o] (wd k q v r (ow k o f)) (fun v1 w1 => ∃ (n : Int32) (v2 : Nat → Int32) (r2 : Nat → Nat → Int32), P n v2 r2 ∧ v1 = some (.int (nI 0)) ∧ w1 = wd k q v2 r2 (ow k o (vp_updL f 0 n.toInt64))) 1 6 th_X := by
  refine zx_metW gd_all th_Xk (by decide) rfl (Nat.le_of_ble_eq_true rfl) ⟨by decide, by decide⟩ (fun Zf X => ?_)
  show Zf 0 0 (wd k q v r (ow k o f)) [some (.ref (q 0)), some (.int x), some (.int y), some (.ref o), none] 0 []
  have E := X.E (nc := 0) (ns := 0) (by decide) (by decide)
  refine zd_aload_n E (pc := 0) d_L_fact_0 rfl ?_
  refine zd_iconst E (pc := 1) (v := (nI 0)) d_L_fact_1 (by decide) ?_
  refine zd_aload_n E (pc := 2) d_L_fact_2 rfl ?_
  refine zd_iload_n E (pc := 3) d_L_fact_3 rfl ?_
  refine zd_iload_n E (pc := 4) d_L_fact_4 rfl ?_
  refine zd_callVR E (pc := 5) d_L_fact_5 kc_L_7 rfl ki_P_fact ke_P_fact 0 rfl rfl C (show da + 1 ≤ 8 ∧ 40 * (da + 1) ≤ 320 by omega) rfl (Nat.le_of_ble_eq_true rfl) (fun v1 ws1 hv1 => ?_)
  obtain ⟨n, v2, r2, hP, rfl, rfl⟩ := hr _ _ hv1
  refine zd_i2l E (pc := 8) d_L_fact_8 ?_
  refine zd_last E (pc := 9) d_L_fact_9 34 rfl (t0 := 3) rfl (ws1 := wd k q v2 r2 (ow k o (vp_updL f 0 n.toInt64))) rfl ?_
  refine zd_goto E (pc := 10) 17 d_L_fact_10 (by decide) ?_
  refine zd_iconst E (pc := 17) (v := (nI 0)) d_L_fact_17 (by decide) ?_
  exact zd_iret E (pc := 18) d_L_fact_18 ⟨n, v2, r2, hP, rfl, rfl⟩
theorem kwl_fact : Cond.methodLink "CutPlannerLaw" 7 y_P_fact ∈ gd_T := gd_in2 111 (by decide +kernel) (by decide +kernel)
set_option maxRecDepth 100000 in
set_option maxHeartbeats 4000000 in
theorem w_fact_S (l : Launch) (D : va_G) {x y : Int32} (C : th_Ct l D classes (wd_ty k) gd_T y_P_fact b_P_fact 4 (some .int) (th_rm 7) [.ref (q 0), .int x, .int y] (wd k q v r (ow k o f)) th_S) : zx_Ct l D classes (wd_ty k) gd_T y_L_fact (.codeWith y_L_fact b_L_fact 5 (some .int) [(0, 10, 13, 13)]) (zx_rm 8 1 6) [.ref (q 0), .int x, .int y, .ref o] (wd k q v r (ow k o f)) (zd_is (some (.int (nI 1))) (wd k q v r (ow k o f))) 1 6 th_X := by
  refine zx_metW gd_all th_Xk (by decide) rfl (Nat.le_of_ble_eq_true rfl) ⟨by decide, by decide⟩ (fun Zf X => ?_)
  show Zf 0 0 (wd k q v r (ow k o f)) [some (.ref (q 0)), some (.int x), some (.int y), some (.ref o), none] 0 []
  have E := X.E (nc := 0) (ns := 0) (by decide) (by decide)
  refine zd_aload_n E (pc := 0) d_L_fact_0 rfl ?_
  refine zd_iconst E (pc := 1) (v := (nI 0)) d_L_fact_1 (by decide) ?_
  refine zd_aload_n E (pc := 2) d_L_fact_2 rfl ?_
  refine zd_iload_n E (pc := 3) d_L_fact_3 rfl ?_
  refine zd_iload_n E (pc := 4) d_L_fact_4 rfl ?_
  refine zx_catch X (pc := 5) (hpc := 13) d_L_fact_5 kc_L_7 kwl_fact rfl ki_P_fact ke_P_fact 0 rfl rfl (fun _ h => h) C ⟨by decide, by decide⟩ (by decide) (by decide) rfl (Nat.le_of_ble_eq_true rfl) (by decide +kernel) ⟨by decide, by decide, by decide, th_S, th_clSL, Or.inl ⟨rfl, rfl⟩⟩ (fun x => ?_)
  have E1 := X.E (nc := 0 + 1) (ns := 0 + 6) (by decide) (by decide)
  refine zd_astore E1 (pc := 13) d_L_fact_13 (by decide) ?_
  refine zd_iconst E1 (pc := 15) (v := (nI 1)) d_L_fact_15 (by decide) ?_
  exact zd_iret E1 (pc := 16) d_L_fact_16 ⟨rfl, rfl⟩
theorem kw_action : Cond.codeWith y_L_action b_L_action 4 (some .int) [(0, 9, 12, 19), (0, 9, 15, 13)] ∈ gd_T := gd_in2 193 (by decide +kernel) (by decide +kernel)
set_option maxRecDepth 100000 in
set_option maxHeartbeats 4000000 in
theorem w_action (l : Launch) (D : va_G) {x : Int32} {da : Nat} {post1 : Option Value → va_W → Prop} {P : Int32 → (Nat → Int32) → (Nat → Nat → Int32) → Prop} (C : zd_Ct l D classes (wd_ty k) gd_T y_P_action b_P_action 3 (some .int) (zd_rm da) [.ref (q 0), .int x] (wd k q v r (ow k o f)) post1) (hda : da ≤ 6) (hr : ∀ v1 w1, post1 v1 w1 → ∃ (n : Int32) (v2 : Nat → Int32) (r2 : Nat → Nat → Int32), P n v2 r2 ∧ v1 = some (.int n) ∧ w1 = wd k q v2 r2 (ow k o f)) : zx_Ct l D classes (wd_ty k) gd_T y_L_action (.codeWith y_L_action b_L_action 4 (some .int) [(0, 9, 12, 19), (0, 9, 15, 13)]) (zx_rm 8 1 6) [.ref (q 0), .int x, .ref o] (wd k q v r (ow k o f)) (fun v1 w1 => ∃ (n : Int32) (v2 : Nat → Int32) (r2 : Nat → Nat → Int32), P n v2 r2 ∧ v1 = some (.int (nI 0)) ∧ w1 = wd k q v2 r2 (ow k o (vp_updL f 0 n.toInt64))) 1 6 th_X := by
  refine zx_metW gd_all th_Xk (by decide) rfl (Nat.le_of_ble_eq_true rfl) ⟨by decide, by decide⟩ (fun Zf X => ?_)
  show Zf 0 0 (wd k q v r (ow k o f)) [some (.ref (q 0)), some (.int x), some (.ref o), none] 0 []
  have E := X.E (nc := 0) (ns := 0) (by decide) (by decide)
  refine zd_aload_n E (pc := 0) d_L_action_0 rfl ?_
  refine zd_iconst E (pc := 1) (v := (nI 0)) d_L_action_1 (by decide) ?_
  refine zd_aload_n E (pc := 2) d_L_action_2 rfl ?_
  refine zd_iload_n E (pc := 3) d_L_action_3 rfl ?_
  refine zd_callVR E (pc := 4) d_L_action_4 kc_L_15 rfl ki_P_action ke_P_action 0 rfl rfl C (show da + 1 ≤ 8 ∧ 40 * (da + 1) ≤ 320 by omega) rfl (Nat.le_of_ble_eq_true rfl) (fun v1 ws1 hv1 => ?_)
  obtain ⟨n, v2, r2, hP, rfl, rfl⟩ := hr _ _ hv1
  refine zd_i2l E (pc := 7) d_L_action_7 ?_
  refine zd_last E (pc := 8) d_L_action_8 34 rfl (t0 := 3) rfl (ws1 := wd k q v2 r2 (ow k o (vp_updL f 0 n.toInt64))) rfl ?_
  refine zd_goto E (pc := 9) 18 d_L_action_9 (by decide) ?_
  refine zd_iconst E (pc := 18) (v := (nI 0)) d_L_action_18 (by decide) ?_
  exact zd_iret E (pc := 19) d_L_action_19 ⟨n, v2, r2, hP, rfl, rfl⟩
theorem kwl_action : Cond.methodLink "CutPlannerLaw" 15 y_P_action ∈ gd_T := gd_in2 195 (by decide +kernel) (by decide +kernel)
set_option maxRecDepth 100000 in
set_option maxHeartbeats 4000000 in
theorem w_action_A (l : Launch) (D : va_G) {x : Int32} (C : th_Ct l D classes (wd_ty k) gd_T y_P_action b_P_action 3 (some .int) (th_rm 7) [.ref (q 0), .int x] (wd k q v r (ow k o f)) th_A) : zx_Ct l D classes (wd_ty k) gd_T y_L_action (.codeWith y_L_action b_L_action 4 (some .int) [(0, 9, 12, 19), (0, 9, 15, 13)]) (zx_rm 8 1 6) [.ref (q 0), .int x, .ref o] (wd k q v r (ow k o f)) (zd_is (some (.int (nI 1))) (wd k q v r (ow k o f))) 1 6 th_X := by
  refine zx_metW gd_all th_Xk (by decide) rfl (Nat.le_of_ble_eq_true rfl) ⟨by decide, by decide⟩ (fun Zf X => ?_)
  show Zf 0 0 (wd k q v r (ow k o f)) [some (.ref (q 0)), some (.int x), some (.ref o), none] 0 []
  have E := X.E (nc := 0) (ns := 0) (by decide) (by decide)
  refine zd_aload_n E (pc := 0) d_L_action_0 rfl ?_
  refine zd_iconst E (pc := 1) (v := (nI 0)) d_L_action_1 (by decide) ?_
  refine zd_aload_n E (pc := 2) d_L_action_2 rfl ?_
  refine zd_iload_n E (pc := 3) d_L_action_3 rfl ?_
  refine zx_catch X (pc := 4) (hpc := 12) d_L_action_4 kc_L_15 kwl_action rfl ki_P_action ke_P_action 0 rfl rfl (fun _ h => h) C ⟨by decide, by decide⟩ (by decide) (by decide) rfl (Nat.le_of_ble_eq_true rfl) (by decide +kernel) ⟨by decide, by decide, by decide, th_A, th_clAL, Or.inl ⟨rfl, rfl⟩⟩ (fun x => ?_)
  have E1 := X.E (nc := 0 + 1) (ns := 0 + 6) (by decide) (by decide)
  refine zd_astore_n E1 (pc := 12) d_L_action_12 (by decide) ?_
  refine zd_iconst E1 (pc := 13) (v := (nI 1)) d_L_action_13 (by decide) ?_
  exact zd_iret E1 (pc := 14) d_L_action_14 ⟨rfl, rfl⟩
set_option maxRecDepth 100000 in
set_option maxHeartbeats 4000000 in
theorem w_action_S (l : Launch) (D : va_G) {x : Int32} (C : th_Ct l D classes (wd_ty k) gd_T y_P_action b_P_action 3 (some .int) (th_rm 7) [.ref (q 0), .int x] (wd k q v r (ow k o f)) th_S) : zx_Ct l D classes (wd_ty k) gd_T y_L_action (.codeWith y_L_action b_L_action 4 (some .int) [(0, 9, 12, 19), (0, 9, 15, 13)]) (zx_rm 8 1 6) [.ref (q 0), .int x, .ref o] (wd k q v r (ow k o f)) (zd_is (some (.int (nI 2))) (wd k q v r (ow k o f))) 1 6 th_X := by
  refine zx_metW gd_all th_Xk (by decide) rfl (Nat.le_of_ble_eq_true rfl) ⟨by decide, by decide⟩ (fun Zf X => ?_)
  show Zf 0 0 (wd k q v r (ow k o f)) [some (.ref (q 0)), some (.int x), some (.ref o), none] 0 []
  have E := X.E (nc := 0) (ns := 0) (by decide) (by decide)
  refine zd_aload_n E (pc := 0) d_L_action_0 rfl ?_
  refine zd_iconst E (pc := 1) (v := (nI 0)) d_L_action_1 (by decide) ?_
  refine zd_aload_n E (pc := 2) d_L_action_2 rfl ?_
  refine zd_iload_n E (pc := 3) d_L_action_3 rfl ?_
  refine zx_catch X (pc := 4) (hpc := 15) d_L_action_4 kc_L_15 kwl_action rfl ki_P_action ke_P_action 0 rfl rfl (fun _ h => h) C ⟨by decide, by decide⟩ (by decide) (by decide) rfl (Nat.le_of_ble_eq_true rfl) (by decide +kernel) ⟨by decide, by decide, by decide, th_A, th_clAL, Or.inr ⟨by decide +kernel, ⟨by decide, by decide, by decide, th_S, th_clSL, Or.inl ⟨rfl, rfl⟩⟩⟩⟩ (fun x => ?_)
  have E1 := X.E (nc := 0 + 1) (ns := 0 + 6) (by decide) (by decide)
  refine zd_astore_n E1 (pc := 15) d_L_action_15 (by decide) ?_
  refine zd_iconst E1 (pc := 16) (v := (nI 2)) d_L_action_16 (by decide) ?_
  exact zd_iret E1 (pc := 17) d_L_action_17 ⟨rfl, rfl⟩
theorem kw_link : Cond.codeWith y_L_link b_L_link 5 (some .int) [(0, 7, 10, 25), (0, 7, 14, 19), (0, 7, 18, 13)] ∈ gd_T := gd_in2 222 (by decide +kernel) (by decide +kernel)
set_option maxRecDepth 100000 in
set_option maxHeartbeats 4000000 in
theorem w_link (l : Launch) (D : va_G) {x y z : Int32} {da : Nat} {post1 : Option Value → va_W → Prop} {P : (Nat → Int32) → (Nat → Nat → Int32) → Prop} (C : zd_Ct l D classes (wd_ty k) gd_T y_P_link b_P_link 4 (none) (zd_rm da) [.ref (q 0), .int x, .int y, .int z] (wd k q v r (ow k o f)) post1) (hda : da ≤ 6) (hr : ∀ v1 w1, post1 v1 w1 → ∃ (v2 : Nat → Int32) (r2 : Nat → Nat → Int32), P v2 r2 ∧ v1 = none ∧ w1 = wd k q v2 r2 (ow k o f)) : zx_Ct l D classes (wd_ty k) gd_T y_L_link (.codeWith y_L_link b_L_link 5 (some .int) [(0, 7, 10, 25), (0, 7, 14, 19), (0, 7, 18, 13)]) (zx_rm 8 1 6) [.ref (q 0), .int x, .int y, .int z] (wd k q v r (ow k o f)) (fun v1 w1 => ∃ (v2 : Nat → Int32) (r2 : Nat → Nat → Int32), P v2 r2 ∧ v1 = some (.int (nI 0)) ∧ w1 = wd k q v2 r2 (ow k o f)) 1 6 th_X := by
  refine zx_metW gd_all th_Xk (by decide) rfl (Nat.le_of_ble_eq_true rfl) ⟨by decide, by decide⟩ (fun Zf X => ?_)
  show Zf 0 0 (wd k q v r (ow k o f)) [some (.ref (q 0)), some (.int x), some (.int y), some (.int z), none] 0 []
  have E := X.E (nc := 0) (ns := 0) (by decide) (by decide)
  refine zd_aload_n E (pc := 0) d_L_link_0 rfl ?_
  refine zd_iload_n E (pc := 1) d_L_link_1 rfl ?_
  refine zd_iload_n E (pc := 2) d_L_link_2 rfl ?_
  refine zd_iload_n E (pc := 3) d_L_link_3 rfl ?_
  refine zd_callVR E (pc := 4) d_L_link_4 kc_L_21 rfl ki_P_link ke_P_link 0 rfl rfl C (show da + 1 ≤ 8 ∧ 40 * (da + 1) ≤ 320 by omega) rfl (Nat.le_of_ble_eq_true rfl) (fun v1 ws1 hv1 => ?_)
  obtain ⟨v2, r2, hP, rfl, rfl⟩ := hr _ _ hv1
  refine zd_goto E (pc := 7) 22 d_L_link_7 (by decide) ?_
  refine zd_iconst E (pc := 22) (v := (nI 0)) d_L_link_22 (by decide) ?_
  exact zd_iret E (pc := 23) d_L_link_23 ⟨v2, r2, hP, rfl, rfl⟩
theorem kwl_link : Cond.methodLink "CutPlannerLaw" 21 y_P_link ∈ gd_T := gd_in2 224 (by decide +kernel) (by decide +kernel)
set_option maxRecDepth 100000 in
set_option maxHeartbeats 4000000 in
theorem w_link_I (l : Launch) (D : va_G) {x y z : Int32} (C : th_Ct l D classes (wd_ty k) gd_T y_P_link b_P_link 4 (none) (th_rm 7) [.ref (q 0), .int x, .int y, .int z] (wd k q v r (ow k o f)) th_I) : zx_Ct l D classes (wd_ty k) gd_T y_L_link (.codeWith y_L_link b_L_link 5 (some .int) [(0, 7, 10, 25), (0, 7, 14, 19), (0, 7, 18, 13)]) (zx_rm 8 1 6) [.ref (q 0), .int x, .int y, .int z] (wd k q v r (ow k o f)) (zd_is (some (.int (nI 1))) (wd k q v r (ow k o f))) 1 6 th_X := by
  refine zx_metW gd_all th_Xk (by decide) rfl (Nat.le_of_ble_eq_true rfl) ⟨by decide, by decide⟩ (fun Zf X => ?_)
  show Zf 0 0 (wd k q v r (ow k o f)) [some (.ref (q 0)), some (.int x), some (.int y), some (.int z), none] 0 []
  have E := X.E (nc := 0) (ns := 0) (by decide) (by decide)
  refine zd_aload_n E (pc := 0) d_L_link_0 rfl ?_
  refine zd_iload_n E (pc := 1) d_L_link_1 rfl ?_
  refine zd_iload_n E (pc := 2) d_L_link_2 rfl ?_
  refine zd_iload_n E (pc := 3) d_L_link_3 rfl ?_
  refine zx_catch X (pc := 4) (hpc := 10) d_L_link_4 kc_L_21 kwl_link rfl ki_P_link ke_P_link 0 rfl rfl (fun _ h => h) C ⟨by decide, by decide⟩ (by decide) (by decide) rfl (Nat.le_of_ble_eq_true rfl) (by decide +kernel) ⟨by decide, by decide, by decide, th_I, th_clIL, Or.inl ⟨rfl, rfl⟩⟩ (fun x => ?_)
  have E1 := X.E (nc := 0 + 1) (ns := 0 + 6) (by decide) (by decide)
  refine zd_astore E1 (pc := 10) d_L_link_10 (by decide) ?_
  refine zd_iconst E1 (pc := 12) (v := (nI 1)) d_L_link_12 (by decide) ?_
  exact zd_iret E1 (pc := 13) d_L_link_13 ⟨rfl, rfl⟩
set_option maxRecDepth 100000 in
set_option maxHeartbeats 4000000 in
theorem w_link_A (l : Launch) (D : va_G) {x y z : Int32} (C : th_Ct l D classes (wd_ty k) gd_T y_P_link b_P_link 4 (none) (th_rm 7) [.ref (q 0), .int x, .int y, .int z] (wd k q v r (ow k o f)) th_A) : zx_Ct l D classes (wd_ty k) gd_T y_L_link (.codeWith y_L_link b_L_link 5 (some .int) [(0, 7, 10, 25), (0, 7, 14, 19), (0, 7, 18, 13)]) (zx_rm 8 1 6) [.ref (q 0), .int x, .int y, .int z] (wd k q v r (ow k o f)) (zd_is (some (.int (nI 2))) (wd k q v r (ow k o f))) 1 6 th_X := by
  refine zx_metW gd_all th_Xk (by decide) rfl (Nat.le_of_ble_eq_true rfl) ⟨by decide, by decide⟩ (fun Zf X => ?_)
  show Zf 0 0 (wd k q v r (ow k o f)) [some (.ref (q 0)), some (.int x), some (.int y), some (.int z), none] 0 []
  have E := X.E (nc := 0) (ns := 0) (by decide) (by decide)
  refine zd_aload_n E (pc := 0) d_L_link_0 rfl ?_
  refine zd_iload_n E (pc := 1) d_L_link_1 rfl ?_
  refine zd_iload_n E (pc := 2) d_L_link_2 rfl ?_
  refine zd_iload_n E (pc := 3) d_L_link_3 rfl ?_
  refine zx_catch X (pc := 4) (hpc := 14) d_L_link_4 kc_L_21 kwl_link rfl ki_P_link ke_P_link 0 rfl rfl (fun _ h => h) C ⟨by decide, by decide⟩ (by decide) (by decide) rfl (Nat.le_of_ble_eq_true rfl) (by decide +kernel) ⟨by decide, by decide, by decide, th_I, th_clIL, Or.inr ⟨by decide +kernel, ⟨by decide, by decide, by decide, th_A, th_clAL, Or.inl ⟨rfl, rfl⟩⟩⟩⟩ (fun x => ?_)
  have E1 := X.E (nc := 0 + 1) (ns := 0 + 6) (by decide) (by decide)
  refine zd_astore E1 (pc := 14) d_L_link_14 (by decide) ?_
  refine zd_iconst E1 (pc := 16) (v := (nI 2)) d_L_link_16 (by decide) ?_
  exact zd_iret E1 (pc := 17) d_L_link_17 ⟨rfl, rfl⟩
set_option maxRecDepth 100000 in
set_option maxHeartbeats 4000000 in
theorem w_link_S (l : Launch) (D : va_G) {x y z : Int32} (C : th_Ct l D classes (wd_ty k) gd_T y_P_link b_P_link 4 (none) (th_rm 7) [.ref (q 0), .int x, .int y, .int z] (wd k q v r (ow k o f)) th_S) : zx_Ct l D classes (wd_ty k) gd_T y_L_link (.codeWith y_L_link b_L_link 5 (some .int) [(0, 7, 10, 25), (0, 7, 14, 19), (0, 7, 18, 13)]) (zx_rm 8 1 6) [.ref (q 0), .int x, .int y, .int z] (wd k q v r (ow k o f)) (zd_is (some (.int (nI 3))) (wd k q v r (ow k o f))) 1 6 th_X := by
  refine zx_metW gd_all th_Xk (by decide) rfl (Nat.le_of_ble_eq_true rfl) ⟨by decide, by decide⟩ (fun Zf X => ?_)
  show Zf 0 0 (wd k q v r (ow k o f)) [some (.ref (q 0)), some (.int x), some (.int y), some (.int z), none] 0 []
  have E := X.E (nc := 0) (ns := 0) (by decide) (by decide)
  refine zd_aload_n E (pc := 0) d_L_link_0 rfl ?_
  refine zd_iload_n E (pc := 1) d_L_link_1 rfl ?_
  refine zd_iload_n E (pc := 2) d_L_link_2 rfl ?_
  refine zd_iload_n E (pc := 3) d_L_link_3 rfl ?_
  refine zx_catch X (pc := 4) (hpc := 18) d_L_link_4 kc_L_21 kwl_link rfl ki_P_link ke_P_link 0 rfl rfl (fun _ h => h) C ⟨by decide, by decide⟩ (by decide) (by decide) rfl (Nat.le_of_ble_eq_true rfl) (by decide +kernel) ⟨by decide, by decide, by decide, th_I, th_clIL, Or.inr ⟨by decide +kernel, ⟨by decide, by decide, by decide, th_A, th_clAL, Or.inr ⟨by decide +kernel, ⟨by decide, by decide, by decide, th_S, th_clSL, Or.inl ⟨rfl, rfl⟩⟩⟩⟩⟩⟩ (fun x => ?_)
  have E1 := X.E (nc := 0 + 1) (ns := 0 + 6) (by decide) (by decide)
  refine zd_astore E1 (pc := 18) d_L_link_18 (by decide) ?_
  refine zd_iconst E1 (pc := 20) (v := (nI 3)) d_L_link_20 (by decide) ?_
  exact zd_iret E1 (pc := 21) d_L_link_21 ⟨rfl, rfl⟩
theorem kw_holds : Cond.codeWith y_L_holds b_L_holds 4 (some .int) [(0, 16, 19, 25)] ∈ gd_T := gd_in3 18 (by decide +kernel) (by decide +kernel)
set_option maxRecDepth 100000 in
set_option maxHeartbeats 4000000 in
theorem w_holds (l : Launch) (D : va_G) {x : Int32} {da : Nat} {post1 : Option Value → va_W → Prop} {P : Int32 → (Nat → Int32) → (Nat → Nat → Int32) → Prop} (C : zd_Ct l D classes (wd_ty k) gd_T y_P_holds b_P_holds 2 (some .boolean) (zd_rm da) [.ref (q 0), .int x] (wd k q v r (ow k o f)) post1) (hda : da ≤ 6) (hr : ∀ v1 w1, post1 v1 w1 → ∃ (n : Int32) (v2 : Nat → Int32) (r2 : Nat → Nat → Int32), P n v2 r2 ∧ v1 = some (.int n) ∧ w1 = wd k q v2 r2 (ow k o f)) : zx_Ct l D classes (wd_ty k) gd_T y_L_holds (.codeWith y_L_holds b_L_holds 4 (some .int) [(0, 16, 19, 25)]) (zx_rm 8 1 6) [.ref (q 0), .int x, .ref o] (wd k q v r (ow k o f)) (fun v1 w1 => ∃ (n : Int32) (v2 : Nat → Int32) (r2 : Nat → Nat → Int32), P n v2 r2 ∧ v1 = some (.int (nI 0)) ∧ w1 = wd k q v2 r2 (ow k o (vp_updL f 0 (if n = 0 then 0 else 1)))) 1 6 th_X := by
  refine zx_metW gd_all th_Xk (by decide) rfl (Nat.le_of_ble_eq_true rfl) ⟨by decide, by decide⟩ (fun Zf X => ?_)
  show Zf 0 0 (wd k q v r (ow k o f)) [some (.ref (q 0)), some (.int x), some (.ref o), none] 0 []
  have E := X.E (nc := 0) (ns := 0) (by decide) (by decide)
  refine zd_aload_n E (pc := 0) d_L_holds_0 rfl ?_
  refine zd_iconst E (pc := 1) (v := (nI 0)) d_L_holds_1 (by decide) ?_
  refine zd_aload_n E (pc := 2) d_L_holds_2 rfl ?_
  refine zd_iload_n E (pc := 3) d_L_holds_3 rfl ?_
  refine zd_callVR E (pc := 4) d_L_holds_4 kc_L_27 rfl ki_P_holds ke_P_holds 0 rfl rfl C (show da + 1 ≤ 8 ∧ 40 * (da + 1) ≤ 320 by omega) rfl (Nat.le_of_ble_eq_true rfl) (fun v1 ws1 hv1 => ?_)
  obtain ⟨n, v2, r2, hP, rfl, rfl⟩ := hr _ _ hv1
  have fin : ∀ xx : Int64, xx = (if n = 0 then 0 else 1) → Zf 0 0 (wd k q v2 r2 (ow k o f)) [some (.ref (q 0)), some (.int x), some (.ref o), none] 15 [.long xx, .int (nI 0), .ref o] := by
    intro xx hx
    subst hx
    refine zd_last E (pc := 15) d_L_holds_15 34 rfl (t0 := 3) rfl (ws1 := wd k q v2 r2 (ow k o (vp_updL f 0 (if n = 0 then 0 else 1)))) rfl ?_
    refine zd_goto E (pc := 16) 22 d_L_holds_16 (by decide) ?_
    refine zd_iconst E (pc := 22) (v := (nI 0)) d_L_holds_22 (by decide) ?_
    exact zd_iret E (pc := 23) d_L_holds_23 ⟨n, v2, r2, hP, rfl, rfl⟩
  refine zd_if_eq E (pc := 7) 14 d_L_holds_7 (by decide) (fun h => ?_) (fun h => ?_)
  · refine zd_lconst E (pc := 14) (v := 0) d_L_holds_14 (by decide) ?_
    exact fin 0 (by rw [if_pos h])
  · refine zd_lconst E (pc := 10) (v := 1) d_L_holds_10 (by decide) ?_
    refine zd_goto E (pc := 11) 15 d_L_holds_11 (by decide) ?_
    exact fin 1 (by rw [if_neg h])
theorem kwl_holds : Cond.methodLink "CutPlannerLaw" 27 y_P_holds ∈ gd_T := gd_in3 19 (by decide +kernel) (by decide +kernel)
set_option maxRecDepth 100000 in
set_option maxHeartbeats 4000000 in
theorem w_holds_I (l : Launch) (D : va_G) {x : Int32} (C : th_Ct l D classes (wd_ty k) gd_T y_P_holds b_P_holds 2 (some .boolean) (th_rm 7) [.ref (q 0), .int x] (wd k q v r (ow k o f)) th_I) : zx_Ct l D classes (wd_ty k) gd_T y_L_holds (.codeWith y_L_holds b_L_holds 4 (some .int) [(0, 16, 19, 25)]) (zx_rm 8 1 6) [.ref (q 0), .int x, .ref o] (wd k q v r (ow k o f)) (zd_is (some (.int (nI 1))) (wd k q v r (ow k o f))) 1 6 th_X := by
  refine zx_metW gd_all th_Xk (by decide) rfl (Nat.le_of_ble_eq_true rfl) ⟨by decide, by decide⟩ (fun Zf X => ?_)
  show Zf 0 0 (wd k q v r (ow k o f)) [some (.ref (q 0)), some (.int x), some (.ref o), none] 0 []
  have E := X.E (nc := 0) (ns := 0) (by decide) (by decide)
  refine zd_aload_n E (pc := 0) d_L_holds_0 rfl ?_
  refine zd_iconst E (pc := 1) (v := (nI 0)) d_L_holds_1 (by decide) ?_
  refine zd_aload_n E (pc := 2) d_L_holds_2 rfl ?_
  refine zd_iload_n E (pc := 3) d_L_holds_3 rfl ?_
  refine zx_catch X (pc := 4) (hpc := 19) d_L_holds_4 kc_L_27 kwl_holds rfl ki_P_holds ke_P_holds 0 rfl rfl (fun _ h => h) C ⟨by decide, by decide⟩ (by decide) (by decide) rfl (Nat.le_of_ble_eq_true rfl) (by decide +kernel) ⟨by decide, by decide, by decide, th_I, th_clIL, Or.inl ⟨rfl, rfl⟩⟩ (fun x => ?_)
  have E1 := X.E (nc := 0 + 1) (ns := 0 + 6) (by decide) (by decide)
  refine zd_astore_n E1 (pc := 19) d_L_holds_19 (by decide) ?_
  refine zd_iconst E1 (pc := 20) (v := (nI 1)) d_L_holds_20 (by decide) ?_
  exact zd_iret E1 (pc := 21) d_L_holds_21 ⟨rfl, rfl⟩
theorem kw_applicable : Cond.codeWith y_L_applicable b_L_applicable 4 (some .int) [(0, 16, 19, 25)] ∈ gd_T := gd_in3 25 (by decide +kernel) (by decide +kernel)
set_option maxRecDepth 100000 in
set_option maxHeartbeats 4000000 in
theorem w_applicable (l : Launch) (D : va_G) {x : Int32} {da : Nat} {post1 : Option Value → va_W → Prop} {P : Int32 → (Nat → Int32) → (Nat → Nat → Int32) → Prop} (C : zd_Ct l D classes (wd_ty k) gd_T y_P_applicable b_P_applicable 2 (some .boolean) (zd_rm da) [.ref (q 0), .int x] (wd k q v r (ow k o f)) post1) (hda : da ≤ 6) (hr : ∀ v1 w1, post1 v1 w1 → ∃ (n : Int32) (v2 : Nat → Int32) (r2 : Nat → Nat → Int32), P n v2 r2 ∧ v1 = some (.int n) ∧ w1 = wd k q v2 r2 (ow k o f)) : zx_Ct l D classes (wd_ty k) gd_T y_L_applicable (.codeWith y_L_applicable b_L_applicable 4 (some .int) [(0, 16, 19, 25)]) (zx_rm 8 1 6) [.ref (q 0), .int x, .ref o] (wd k q v r (ow k o f)) (fun v1 w1 => ∃ (n : Int32) (v2 : Nat → Int32) (r2 : Nat → Nat → Int32), P n v2 r2 ∧ v1 = some (.int (nI 0)) ∧ w1 = wd k q v2 r2 (ow k o (vp_updL f 0 (if n = 0 then 0 else 1)))) 1 6 th_X := by
  refine zx_metW gd_all th_Xk (by decide) rfl (Nat.le_of_ble_eq_true rfl) ⟨by decide, by decide⟩ (fun Zf X => ?_)
  show Zf 0 0 (wd k q v r (ow k o f)) [some (.ref (q 0)), some (.int x), some (.ref o), none] 0 []
  have E := X.E (nc := 0) (ns := 0) (by decide) (by decide)
  refine zd_aload_n E (pc := 0) d_L_applicable_0 rfl ?_
  refine zd_iconst E (pc := 1) (v := (nI 0)) d_L_applicable_1 (by decide) ?_
  refine zd_aload_n E (pc := 2) d_L_applicable_2 rfl ?_
  refine zd_iload_n E (pc := 3) d_L_applicable_3 rfl ?_
  refine zd_callVR E (pc := 4) d_L_applicable_4 kc_L_31 rfl ki_P_applicable ke_P_applicable 0 rfl rfl C (show da + 1 ≤ 8 ∧ 40 * (da + 1) ≤ 320 by omega) rfl (Nat.le_of_ble_eq_true rfl) (fun v1 ws1 hv1 => ?_)
  obtain ⟨n, v2, r2, hP, rfl, rfl⟩ := hr _ _ hv1
  have fin : ∀ xx : Int64, xx = (if n = 0 then 0 else 1) → Zf 0 0 (wd k q v2 r2 (ow k o f)) [some (.ref (q 0)), some (.int x), some (.ref o), none] 15 [.long xx, .int (nI 0), .ref o] := by
    intro xx hx
    subst hx
    refine zd_last E (pc := 15) d_L_applicable_15 34 rfl (t0 := 3) rfl (ws1 := wd k q v2 r2 (ow k o (vp_updL f 0 (if n = 0 then 0 else 1)))) rfl ?_
    refine zd_goto E (pc := 16) 22 d_L_applicable_16 (by decide) ?_
    refine zd_iconst E (pc := 22) (v := (nI 0)) d_L_applicable_22 (by decide) ?_
    exact zd_iret E (pc := 23) d_L_applicable_23 ⟨n, v2, r2, hP, rfl, rfl⟩
  refine zd_if_eq E (pc := 7) 14 d_L_applicable_7 (by decide) (fun h => ?_) (fun h => ?_)
  · refine zd_lconst E (pc := 14) (v := 0) d_L_applicable_14 (by decide) ?_
    exact fin 0 (by rw [if_pos h])
  · refine zd_lconst E (pc := 10) (v := 1) d_L_applicable_10 (by decide) ?_
    refine zd_goto E (pc := 11) 15 d_L_applicable_11 (by decide) ?_
    exact fin 1 (by rw [if_neg h])
theorem kwl_applicable : Cond.methodLink "CutPlannerLaw" 31 y_P_applicable ∈ gd_T := gd_in3 26 (by decide +kernel) (by decide +kernel)
set_option maxRecDepth 100000 in
set_option maxHeartbeats 4000000 in
theorem w_applicable_I (l : Launch) (D : va_G) {x : Int32} (C : th_Ct l D classes (wd_ty k) gd_T y_P_applicable b_P_applicable 2 (some .boolean) (th_rm 7) [.ref (q 0), .int x] (wd k q v r (ow k o f)) th_I) : zx_Ct l D classes (wd_ty k) gd_T y_L_applicable (.codeWith y_L_applicable b_L_applicable 4 (some .int) [(0, 16, 19, 25)]) (zx_rm 8 1 6) [.ref (q 0), .int x, .ref o] (wd k q v r (ow k o f)) (zd_is (some (.int (nI 1))) (wd k q v r (ow k o f))) 1 6 th_X := by
  refine zx_metW gd_all th_Xk (by decide) rfl (Nat.le_of_ble_eq_true rfl) ⟨by decide, by decide⟩ (fun Zf X => ?_)
  show Zf 0 0 (wd k q v r (ow k o f)) [some (.ref (q 0)), some (.int x), some (.ref o), none] 0 []
  have E := X.E (nc := 0) (ns := 0) (by decide) (by decide)
  refine zd_aload_n E (pc := 0) d_L_applicable_0 rfl ?_
  refine zd_iconst E (pc := 1) (v := (nI 0)) d_L_applicable_1 (by decide) ?_
  refine zd_aload_n E (pc := 2) d_L_applicable_2 rfl ?_
  refine zd_iload_n E (pc := 3) d_L_applicable_3 rfl ?_
  refine zx_catch X (pc := 4) (hpc := 19) d_L_applicable_4 kc_L_31 kwl_applicable rfl ki_P_applicable ke_P_applicable 0 rfl rfl (fun _ h => h) C ⟨by decide, by decide⟩ (by decide) (by decide) rfl (Nat.le_of_ble_eq_true rfl) (by decide +kernel) ⟨by decide, by decide, by decide, th_I, th_clIL, Or.inl ⟨rfl, rfl⟩⟩ (fun x => ?_)
  have E1 := X.E (nc := 0 + 1) (ns := 0 + 6) (by decide) (by decide)
  refine zd_astore_n E1 (pc := 19) d_L_applicable_19 (by decide) ?_
  refine zd_iconst E1 (pc := 20) (v := (nI 1)) d_L_applicable_20 (by decide) ?_
  exact zd_iret E1 (pc := 21) d_L_applicable_21 ⟨rfl, rfl⟩
theorem kw_apply : Cond.codeWith y_L_apply b_L_apply 4 (some .int) [(0, 16, 19, 25), (0, 16, 22, 13)] ∈ gd_T := gd_in3 32 (by decide +kernel) (by decide +kernel)
set_option maxRecDepth 100000 in
set_option maxHeartbeats 4000000 in
theorem w_apply (l : Launch) (D : va_G) {x : Int32} {da : Nat} {post1 : Option Value → va_W → Prop} {P : Int32 → (Nat → Int32) → (Nat → Nat → Int32) → Prop} (C : zd_Ct l D classes (wd_ty k) gd_T y_P_apply b_P_apply 2 (some .boolean) (zd_rm da) [.ref (q 0), .int x] (wd k q v r (ow k o f)) post1) (hda : da ≤ 6) (hr : ∀ v1 w1, post1 v1 w1 → ∃ (n : Int32) (v2 : Nat → Int32) (r2 : Nat → Nat → Int32), P n v2 r2 ∧ v1 = some (.int n) ∧ w1 = wd k q v2 r2 (ow k o f)) : zx_Ct l D classes (wd_ty k) gd_T y_L_apply (.codeWith y_L_apply b_L_apply 4 (some .int) [(0, 16, 19, 25), (0, 16, 22, 13)]) (zx_rm 8 1 6) [.ref (q 0), .int x, .ref o] (wd k q v r (ow k o f)) (fun v1 w1 => ∃ (n : Int32) (v2 : Nat → Int32) (r2 : Nat → Nat → Int32), P n v2 r2 ∧ v1 = some (.int (nI 0)) ∧ w1 = wd k q v2 r2 (ow k o (vp_updL f 0 (if n = 0 then 0 else 1)))) 1 6 th_X := by
  refine zx_metW gd_all th_Xk (by decide) rfl (Nat.le_of_ble_eq_true rfl) ⟨by decide, by decide⟩ (fun Zf X => ?_)
  show Zf 0 0 (wd k q v r (ow k o f)) [some (.ref (q 0)), some (.int x), some (.ref o), none] 0 []
  have E := X.E (nc := 0) (ns := 0) (by decide) (by decide)
  refine zd_aload_n E (pc := 0) d_L_apply_0 rfl ?_
  refine zd_iconst E (pc := 1) (v := (nI 0)) d_L_apply_1 (by decide) ?_
  refine zd_aload_n E (pc := 2) d_L_apply_2 rfl ?_
  refine zd_iload_n E (pc := 3) d_L_apply_3 rfl ?_
  refine zd_callVR E (pc := 4) d_L_apply_4 kc_L_34 rfl ki_P_apply ke_P_apply 0 rfl rfl C (show da + 1 ≤ 8 ∧ 40 * (da + 1) ≤ 320 by omega) rfl (Nat.le_of_ble_eq_true rfl) (fun v1 ws1 hv1 => ?_)
  obtain ⟨n, v2, r2, hP, rfl, rfl⟩ := hr _ _ hv1
  have fin : ∀ xx : Int64, xx = (if n = 0 then 0 else 1) → Zf 0 0 (wd k q v2 r2 (ow k o f)) [some (.ref (q 0)), some (.int x), some (.ref o), none] 15 [.long xx, .int (nI 0), .ref o] := by
    intro xx hx
    subst hx
    refine zd_last E (pc := 15) d_L_apply_15 34 rfl (t0 := 3) rfl (ws1 := wd k q v2 r2 (ow k o (vp_updL f 0 (if n = 0 then 0 else 1)))) rfl ?_
    refine zd_goto E (pc := 16) 25 d_L_apply_16 (by decide) ?_
    refine zd_iconst E (pc := 25) (v := (nI 0)) d_L_apply_25 (by decide) ?_
    exact zd_iret E (pc := 26) d_L_apply_26 ⟨n, v2, r2, hP, rfl, rfl⟩
  refine zd_if_eq E (pc := 7) 14 d_L_apply_7 (by decide) (fun h => ?_) (fun h => ?_)
  · refine zd_lconst E (pc := 14) (v := 0) d_L_apply_14 (by decide) ?_
    exact fin 0 (by rw [if_pos h])
  · refine zd_lconst E (pc := 10) (v := 1) d_L_apply_10 (by decide) ?_
    refine zd_goto E (pc := 11) 15 d_L_apply_11 (by decide) ?_
    exact fin 1 (by rw [if_neg h])
theorem kwl_apply : Cond.methodLink "CutPlannerLaw" 34 y_P_apply ∈ gd_T := gd_in3 33 (by decide +kernel) (by decide +kernel)
set_option maxRecDepth 100000 in
set_option maxHeartbeats 4000000 in
theorem w_apply_I (l : Launch) (D : va_G) {x : Int32} (C : th_Ct l D classes (wd_ty k) gd_T y_P_apply b_P_apply 2 (some .boolean) (th_rm 7) [.ref (q 0), .int x] (wd k q v r (ow k o f)) th_I) : zx_Ct l D classes (wd_ty k) gd_T y_L_apply (.codeWith y_L_apply b_L_apply 4 (some .int) [(0, 16, 19, 25), (0, 16, 22, 13)]) (zx_rm 8 1 6) [.ref (q 0), .int x, .ref o] (wd k q v r (ow k o f)) (zd_is (some (.int (nI 1))) (wd k q v r (ow k o f))) 1 6 th_X := by
  refine zx_metW gd_all th_Xk (by decide) rfl (Nat.le_of_ble_eq_true rfl) ⟨by decide, by decide⟩ (fun Zf X => ?_)
  show Zf 0 0 (wd k q v r (ow k o f)) [some (.ref (q 0)), some (.int x), some (.ref o), none] 0 []
  have E := X.E (nc := 0) (ns := 0) (by decide) (by decide)
  refine zd_aload_n E (pc := 0) d_L_apply_0 rfl ?_
  refine zd_iconst E (pc := 1) (v := (nI 0)) d_L_apply_1 (by decide) ?_
  refine zd_aload_n E (pc := 2) d_L_apply_2 rfl ?_
  refine zd_iload_n E (pc := 3) d_L_apply_3 rfl ?_
  refine zx_catch X (pc := 4) (hpc := 19) d_L_apply_4 kc_L_34 kwl_apply rfl ki_P_apply ke_P_apply 0 rfl rfl (fun _ h => h) C ⟨by decide, by decide⟩ (by decide) (by decide) rfl (Nat.le_of_ble_eq_true rfl) (by decide +kernel) ⟨by decide, by decide, by decide, th_I, th_clIL, Or.inl ⟨rfl, rfl⟩⟩ (fun x => ?_)
  have E1 := X.E (nc := 0 + 1) (ns := 0 + 6) (by decide) (by decide)
  refine zd_astore_n E1 (pc := 19) d_L_apply_19 (by decide) ?_
  refine zd_iconst E1 (pc := 20) (v := (nI 1)) d_L_apply_20 (by decide) ?_
  exact zd_iret E1 (pc := 21) d_L_apply_21 ⟨rfl, rfl⟩
set_option maxRecDepth 100000 in
set_option maxHeartbeats 4000000 in
theorem w_apply_S (l : Launch) (D : va_G) {x : Int32} (C : th_Ct l D classes (wd_ty k) gd_T y_P_apply b_P_apply 2 (some .boolean) (th_rm 7) [.ref (q 0), .int x] (wd k q v r (ow k o f)) th_S) : zx_Ct l D classes (wd_ty k) gd_T y_L_apply (.codeWith y_L_apply b_L_apply 4 (some .int) [(0, 16, 19, 25), (0, 16, 22, 13)]) (zx_rm 8 1 6) [.ref (q 0), .int x, .ref o] (wd k q v r (ow k o f)) (zd_is (some (.int (nI 2))) (wd k q v r (ow k o f))) 1 6 th_X := by
  refine zx_metW gd_all th_Xk (by decide) rfl (Nat.le_of_ble_eq_true rfl) ⟨by decide, by decide⟩ (fun Zf X => ?_)
  show Zf 0 0 (wd k q v r (ow k o f)) [some (.ref (q 0)), some (.int x), some (.ref o), none] 0 []
  have E := X.E (nc := 0) (ns := 0) (by decide) (by decide)
  refine zd_aload_n E (pc := 0) d_L_apply_0 rfl ?_
  refine zd_iconst E (pc := 1) (v := (nI 0)) d_L_apply_1 (by decide) ?_
  refine zd_aload_n E (pc := 2) d_L_apply_2 rfl ?_
  refine zd_iload_n E (pc := 3) d_L_apply_3 rfl ?_
  refine zx_catch X (pc := 4) (hpc := 22) d_L_apply_4 kc_L_34 kwl_apply rfl ki_P_apply ke_P_apply 0 rfl rfl (fun _ h => h) C ⟨by decide, by decide⟩ (by decide) (by decide) rfl (Nat.le_of_ble_eq_true rfl) (by decide +kernel) ⟨by decide, by decide, by decide, th_I, th_clIL, Or.inr ⟨by decide +kernel, ⟨by decide, by decide, by decide, th_S, th_clSL, Or.inl ⟨rfl, rfl⟩⟩⟩⟩ (fun x => ?_)
  have E1 := X.E (nc := 0 + 1) (ns := 0 + 6) (by decide) (by decide)
  refine zd_astore_n E1 (pc := 22) d_L_apply_22 (by decide) ?_
  refine zd_iconst E1 (pc := 23) (v := (nI 2)) d_L_apply_23 (by decide) ?_
  exact zd_iret E1 (pc := 24) d_L_apply_24 ⟨rfl, rfl⟩
theorem kw_together : Cond.codeWith y_L_together b_L_together 5 (some .int) [(0, 17, 20, 25)] ∈ gd_T := gd_in3 40 (by decide +kernel) (by decide +kernel)
set_option maxRecDepth 100000 in
set_option maxHeartbeats 4000000 in
theorem w_together (l : Launch) (D : va_G) {x y : Int32} {da : Nat} {post1 : Option Value → va_W → Prop} {P : Int32 → (Nat → Int32) → (Nat → Nat → Int32) → Prop} (C : zd_Ct l D classes (wd_ty k) gd_T y_P_together b_P_together 3 (some .boolean) (zd_rm da) [.ref (q 0), .int x, .int y] (wd k q v r (ow k o f)) post1) (hda : da ≤ 6) (hr : ∀ v1 w1, post1 v1 w1 → ∃ (n : Int32) (v2 : Nat → Int32) (r2 : Nat → Nat → Int32), P n v2 r2 ∧ v1 = some (.int n) ∧ w1 = wd k q v2 r2 (ow k o f)) : zx_Ct l D classes (wd_ty k) gd_T y_L_together (.codeWith y_L_together b_L_together 5 (some .int) [(0, 17, 20, 25)]) (zx_rm 8 1 6) [.ref (q 0), .int x, .int y, .ref o] (wd k q v r (ow k o f)) (fun v1 w1 => ∃ (n : Int32) (v2 : Nat → Int32) (r2 : Nat → Nat → Int32), P n v2 r2 ∧ v1 = some (.int (nI 0)) ∧ w1 = wd k q v2 r2 (ow k o (vp_updL f 0 (if n = 0 then 0 else 1)))) 1 6 th_X := by
  refine zx_metW gd_all th_Xk (by decide) rfl (Nat.le_of_ble_eq_true rfl) ⟨by decide, by decide⟩ (fun Zf X => ?_)
  show Zf 0 0 (wd k q v r (ow k o f)) [some (.ref (q 0)), some (.int x), some (.int y), some (.ref o), none] 0 []
  have E := X.E (nc := 0) (ns := 0) (by decide) (by decide)
  refine zd_aload_n E (pc := 0) d_L_together_0 rfl ?_
  refine zd_iconst E (pc := 1) (v := (nI 0)) d_L_together_1 (by decide) ?_
  refine zd_aload_n E (pc := 2) d_L_together_2 rfl ?_
  refine zd_iload_n E (pc := 3) d_L_together_3 rfl ?_
  refine zd_iload_n E (pc := 4) d_L_together_4 rfl ?_
  refine zd_callVR E (pc := 5) d_L_together_5 kc_L_37 rfl ki_P_together ke_P_together 0 rfl rfl C (show da + 1 ≤ 8 ∧ 40 * (da + 1) ≤ 320 by omega) rfl (Nat.le_of_ble_eq_true rfl) (fun v1 ws1 hv1 => ?_)
  obtain ⟨n, v2, r2, hP, rfl, rfl⟩ := hr _ _ hv1
  have fin : ∀ xx : Int64, xx = (if n = 0 then 0 else 1) → Zf 0 0 (wd k q v2 r2 (ow k o f)) [some (.ref (q 0)), some (.int x), some (.int y), some (.ref o), none] 16 [.long xx, .int (nI 0), .ref o] := by
    intro xx hx
    subst hx
    refine zd_last E (pc := 16) d_L_together_16 34 rfl (t0 := 3) rfl (ws1 := wd k q v2 r2 (ow k o (vp_updL f 0 (if n = 0 then 0 else 1)))) rfl ?_
    refine zd_goto E (pc := 17) 24 d_L_together_17 (by decide) ?_
    refine zd_iconst E (pc := 24) (v := (nI 0)) d_L_together_24 (by decide) ?_
    exact zd_iret E (pc := 25) d_L_together_25 ⟨n, v2, r2, hP, rfl, rfl⟩
  refine zd_if_eq E (pc := 8) 15 d_L_together_8 (by decide) (fun h => ?_) (fun h => ?_)
  · refine zd_lconst E (pc := 15) (v := 0) d_L_together_15 (by decide) ?_
    exact fin 0 (by rw [if_pos h])
  · refine zd_lconst E (pc := 11) (v := 1) d_L_together_11 (by decide) ?_
    refine zd_goto E (pc := 12) 16 d_L_together_12 (by decide) ?_
    exact fin 1 (by rw [if_neg h])
theorem kwl_together : Cond.methodLink "CutPlannerLaw" 37 y_P_together ∈ gd_T := gd_in3 41 (by decide +kernel) (by decide +kernel)
set_option maxRecDepth 100000 in
set_option maxHeartbeats 4000000 in
theorem w_together_I (l : Launch) (D : va_G) {x y : Int32} (C : th_Ct l D classes (wd_ty k) gd_T y_P_together b_P_together 3 (some .boolean) (th_rm 7) [.ref (q 0), .int x, .int y] (wd k q v r (ow k o f)) th_I) : zx_Ct l D classes (wd_ty k) gd_T y_L_together (.codeWith y_L_together b_L_together 5 (some .int) [(0, 17, 20, 25)]) (zx_rm 8 1 6) [.ref (q 0), .int x, .int y, .ref o] (wd k q v r (ow k o f)) (zd_is (some (.int (nI 1))) (wd k q v r (ow k o f))) 1 6 th_X := by
  refine zx_metW gd_all th_Xk (by decide) rfl (Nat.le_of_ble_eq_true rfl) ⟨by decide, by decide⟩ (fun Zf X => ?_)
  show Zf 0 0 (wd k q v r (ow k o f)) [some (.ref (q 0)), some (.int x), some (.int y), some (.ref o), none] 0 []
  have E := X.E (nc := 0) (ns := 0) (by decide) (by decide)
  refine zd_aload_n E (pc := 0) d_L_together_0 rfl ?_
  refine zd_iconst E (pc := 1) (v := (nI 0)) d_L_together_1 (by decide) ?_
  refine zd_aload_n E (pc := 2) d_L_together_2 rfl ?_
  refine zd_iload_n E (pc := 3) d_L_together_3 rfl ?_
  refine zd_iload_n E (pc := 4) d_L_together_4 rfl ?_
  refine zx_catch X (pc := 5) (hpc := 20) d_L_together_5 kc_L_37 kwl_together rfl ki_P_together ke_P_together 0 rfl rfl (fun _ h => h) C ⟨by decide, by decide⟩ (by decide) (by decide) rfl (Nat.le_of_ble_eq_true rfl) (by decide +kernel) ⟨by decide, by decide, by decide, th_I, th_clIL, Or.inl ⟨rfl, rfl⟩⟩ (fun x => ?_)
  have E1 := X.E (nc := 0 + 1) (ns := 0 + 6) (by decide) (by decide)
  refine zd_astore E1 (pc := 20) d_L_together_20 (by decide) ?_
  refine zd_iconst E1 (pc := 22) (v := (nI 1)) d_L_together_22 (by decide) ?_
  exact zd_iret E1 (pc := 23) d_L_together_23 ⟨rfl, rfl⟩
theorem kw_level : Cond.codeWith y_L_level b_L_level 5 (some .int) [(0, 10, 13, 25)] ∈ gd_T := gd_in3 52 (by decide +kernel) (by decide +kernel)
set_option maxRecDepth 100000 in
set_option maxHeartbeats 4000000 in
theorem w_level (l : Launch) (D : va_G) {x y : Int32} {da : Nat} {post1 : Option Value → va_W → Prop} {P : Int32 → (Nat → Int32) → (Nat → Nat → Int32) → Prop} (C : zd_Ct l D classes (wd_ty k) gd_T y_P_level b_P_level 3 (some .int) (zd_rm da) [.ref (q 0), .int x, .int y] (wd k q v r (ow k o f)) post1) (hda : da ≤ 6) (hr : ∀ v1 w1, post1 v1 w1 → ∃ (n : Int32) (v2 : Nat → Int32) (r2 : Nat → Nat → Int32), P n v2 r2 ∧ v1 = some (.int n) ∧ w1 = wd k q v2 r2 (ow k o f)) : zx_Ct l D classes (wd_ty k) gd_T y_L_level (.codeWith y_L_level b_L_level 5 (some .int) [(0, 10, 13, 25)]) (zx_rm 8 1 6) [.ref (q 0), .int x, .int y, .ref o] (wd k q v r (ow k o f)) (fun v1 w1 => ∃ (n : Int32) (v2 : Nat → Int32) (r2 : Nat → Nat → Int32), P n v2 r2 ∧ v1 = some (.int (nI 0)) ∧ w1 = wd k q v2 r2 (ow k o (vp_updL f 0 n.toInt64))) 1 6 th_X := by
  refine zx_metW gd_all th_Xk (by decide) rfl (Nat.le_of_ble_eq_true rfl) ⟨by decide, by decide⟩ (fun Zf X => ?_)
  show Zf 0 0 (wd k q v r (ow k o f)) [some (.ref (q 0)), some (.int x), some (.int y), some (.ref o), none] 0 []
  have E := X.E (nc := 0) (ns := 0) (by decide) (by decide)
  refine zd_aload_n E (pc := 0) d_L_level_0 rfl ?_
  refine zd_iconst E (pc := 1) (v := (nI 0)) d_L_level_1 (by decide) ?_
  refine zd_aload_n E (pc := 2) d_L_level_2 rfl ?_
  refine zd_iload_n E (pc := 3) d_L_level_3 rfl ?_
  refine zd_iload_n E (pc := 4) d_L_level_4 rfl ?_
  refine zd_callVR E (pc := 5) d_L_level_5 kc_L_41 rfl ki_P_level ke_P_level 0 rfl rfl C (show da + 1 ≤ 8 ∧ 40 * (da + 1) ≤ 320 by omega) rfl (Nat.le_of_ble_eq_true rfl) (fun v1 ws1 hv1 => ?_)
  obtain ⟨n, v2, r2, hP, rfl, rfl⟩ := hr _ _ hv1
  refine zd_i2l E (pc := 8) d_L_level_8 ?_
  refine zd_last E (pc := 9) d_L_level_9 34 rfl (t0 := 3) rfl (ws1 := wd k q v2 r2 (ow k o (vp_updL f 0 n.toInt64))) rfl ?_
  refine zd_goto E (pc := 10) 17 d_L_level_10 (by decide) ?_
  refine zd_iconst E (pc := 17) (v := (nI 0)) d_L_level_17 (by decide) ?_
  exact zd_iret E (pc := 18) d_L_level_18 ⟨n, v2, r2, hP, rfl, rfl⟩
theorem kwl_level : Cond.methodLink "CutPlannerLaw" 41 y_P_level ∈ gd_T := gd_in3 53 (by decide +kernel) (by decide +kernel)
set_option maxRecDepth 100000 in
set_option maxHeartbeats 4000000 in
theorem w_level_I (l : Launch) (D : va_G) {x y : Int32} (C : th_Ct l D classes (wd_ty k) gd_T y_P_level b_P_level 3 (some .int) (th_rm 7) [.ref (q 0), .int x, .int y] (wd k q v r (ow k o f)) th_I) : zx_Ct l D classes (wd_ty k) gd_T y_L_level (.codeWith y_L_level b_L_level 5 (some .int) [(0, 10, 13, 25)]) (zx_rm 8 1 6) [.ref (q 0), .int x, .int y, .ref o] (wd k q v r (ow k o f)) (zd_is (some (.int (nI 1))) (wd k q v r (ow k o f))) 1 6 th_X := by
  refine zx_metW gd_all th_Xk (by decide) rfl (Nat.le_of_ble_eq_true rfl) ⟨by decide, by decide⟩ (fun Zf X => ?_)
  show Zf 0 0 (wd k q v r (ow k o f)) [some (.ref (q 0)), some (.int x), some (.int y), some (.ref o), none] 0 []
  have E := X.E (nc := 0) (ns := 0) (by decide) (by decide)
  refine zd_aload_n E (pc := 0) d_L_level_0 rfl ?_
  refine zd_iconst E (pc := 1) (v := (nI 0)) d_L_level_1 (by decide) ?_
  refine zd_aload_n E (pc := 2) d_L_level_2 rfl ?_
  refine zd_iload_n E (pc := 3) d_L_level_3 rfl ?_
  refine zd_iload_n E (pc := 4) d_L_level_4 rfl ?_
  refine zx_catch X (pc := 5) (hpc := 13) d_L_level_5 kc_L_41 kwl_level rfl ki_P_level ke_P_level 0 rfl rfl (fun _ h => h) C ⟨by decide, by decide⟩ (by decide) (by decide) rfl (Nat.le_of_ble_eq_true rfl) (by decide +kernel) ⟨by decide, by decide, by decide, th_I, th_clIL, Or.inl ⟨rfl, rfl⟩⟩ (fun x => ?_)
  have E1 := X.E (nc := 0 + 1) (ns := 0 + 6) (by decide) (by decide)
  refine zd_astore E1 (pc := 13) d_L_level_13 (by decide) ?_
  refine zd_iconst E1 (pc := 15) (v := (nI 1)) d_L_level_15 (by decide) ?_
  exact zd_iret E1 (pc := 16) d_L_level_16 ⟨rfl, rfl⟩
theorem kw_landmark : Cond.codeWith y_L_landmark b_L_landmark 4 (some .int) [(0, 16, 19, 25)] ∈ gd_T := gd_in3 59 (by decide +kernel) (by decide +kernel)
set_option maxRecDepth 100000 in
set_option maxHeartbeats 4000000 in
theorem w_landmark (l : Launch) (D : va_G) {x : Int32} {da : Nat} {post1 : Option Value → va_W → Prop} {P : Int32 → (Nat → Int32) → (Nat → Nat → Int32) → Prop} (C : zd_Ct l D classes (wd_ty k) gd_T y_P_landmark b_P_landmark 2 (some .boolean) (zd_rm da) [.ref (q 0), .int x] (wd k q v r (ow k o f)) post1) (hda : da ≤ 6) (hr : ∀ v1 w1, post1 v1 w1 → ∃ (n : Int32) (v2 : Nat → Int32) (r2 : Nat → Nat → Int32), P n v2 r2 ∧ v1 = some (.int n) ∧ w1 = wd k q v2 r2 (ow k o f)) : zx_Ct l D classes (wd_ty k) gd_T y_L_landmark (.codeWith y_L_landmark b_L_landmark 4 (some .int) [(0, 16, 19, 25)]) (zx_rm 8 1 6) [.ref (q 0), .int x, .ref o] (wd k q v r (ow k o f)) (fun v1 w1 => ∃ (n : Int32) (v2 : Nat → Int32) (r2 : Nat → Nat → Int32), P n v2 r2 ∧ v1 = some (.int (nI 0)) ∧ w1 = wd k q v2 r2 (ow k o (vp_updL f 0 (if n = 0 then 0 else 1)))) 1 6 th_X := by
  refine zx_metW gd_all th_Xk (by decide) rfl (Nat.le_of_ble_eq_true rfl) ⟨by decide, by decide⟩ (fun Zf X => ?_)
  show Zf 0 0 (wd k q v r (ow k o f)) [some (.ref (q 0)), some (.int x), some (.ref o), none] 0 []
  have E := X.E (nc := 0) (ns := 0) (by decide) (by decide)
  refine zd_aload_n E (pc := 0) d_L_landmark_0 rfl ?_
  refine zd_iconst E (pc := 1) (v := (nI 0)) d_L_landmark_1 (by decide) ?_
  refine zd_aload_n E (pc := 2) d_L_landmark_2 rfl ?_
  refine zd_iload_n E (pc := 3) d_L_landmark_3 rfl ?_
  refine zd_callVR E (pc := 4) d_L_landmark_4 kc_L_45 rfl ki_P_landmark ke_P_landmark 0 rfl rfl C (show da + 1 ≤ 8 ∧ 40 * (da + 1) ≤ 320 by omega) rfl (Nat.le_of_ble_eq_true rfl) (fun v1 ws1 hv1 => ?_)
  obtain ⟨n, v2, r2, hP, rfl, rfl⟩ := hr _ _ hv1
  have fin : ∀ xx : Int64, xx = (if n = 0 then 0 else 1) → Zf 0 0 (wd k q v2 r2 (ow k o f)) [some (.ref (q 0)), some (.int x), some (.ref o), none] 15 [.long xx, .int (nI 0), .ref o] := by
    intro xx hx
    subst hx
    refine zd_last E (pc := 15) d_L_landmark_15 34 rfl (t0 := 3) rfl (ws1 := wd k q v2 r2 (ow k o (vp_updL f 0 (if n = 0 then 0 else 1)))) rfl ?_
    refine zd_goto E (pc := 16) 22 d_L_landmark_16 (by decide) ?_
    refine zd_iconst E (pc := 22) (v := (nI 0)) d_L_landmark_22 (by decide) ?_
    exact zd_iret E (pc := 23) d_L_landmark_23 ⟨n, v2, r2, hP, rfl, rfl⟩
  refine zd_if_eq E (pc := 7) 14 d_L_landmark_7 (by decide) (fun h => ?_) (fun h => ?_)
  · refine zd_lconst E (pc := 14) (v := 0) d_L_landmark_14 (by decide) ?_
    exact fin 0 (by rw [if_pos h])
  · refine zd_lconst E (pc := 10) (v := 1) d_L_landmark_10 (by decide) ?_
    refine zd_goto E (pc := 11) 15 d_L_landmark_11 (by decide) ?_
    exact fin 1 (by rw [if_neg h])
theorem kwl_landmark : Cond.methodLink "CutPlannerLaw" 45 y_P_landmark ∈ gd_T := gd_in3 60 (by decide +kernel) (by decide +kernel)
set_option maxRecDepth 100000 in
set_option maxHeartbeats 4000000 in
theorem w_landmark_I (l : Launch) (D : va_G) {x : Int32} (C : th_Ct l D classes (wd_ty k) gd_T y_P_landmark b_P_landmark 2 (some .boolean) (th_rm 7) [.ref (q 0), .int x] (wd k q v r (ow k o f)) th_I) : zx_Ct l D classes (wd_ty k) gd_T y_L_landmark (.codeWith y_L_landmark b_L_landmark 4 (some .int) [(0, 16, 19, 25)]) (zx_rm 8 1 6) [.ref (q 0), .int x, .ref o] (wd k q v r (ow k o f)) (zd_is (some (.int (nI 1))) (wd k q v r (ow k o f))) 1 6 th_X := by
  refine zx_metW gd_all th_Xk (by decide) rfl (Nat.le_of_ble_eq_true rfl) ⟨by decide, by decide⟩ (fun Zf X => ?_)
  show Zf 0 0 (wd k q v r (ow k o f)) [some (.ref (q 0)), some (.int x), some (.ref o), none] 0 []
  have E := X.E (nc := 0) (ns := 0) (by decide) (by decide)
  refine zd_aload_n E (pc := 0) d_L_landmark_0 rfl ?_
  refine zd_iconst E (pc := 1) (v := (nI 0)) d_L_landmark_1 (by decide) ?_
  refine zd_aload_n E (pc := 2) d_L_landmark_2 rfl ?_
  refine zd_iload_n E (pc := 3) d_L_landmark_3 rfl ?_
  refine zx_catch X (pc := 4) (hpc := 19) d_L_landmark_4 kc_L_45 kwl_landmark rfl ki_P_landmark ke_P_landmark 0 rfl rfl (fun _ h => h) C ⟨by decide, by decide⟩ (by decide) (by decide) rfl (Nat.le_of_ble_eq_true rfl) (by decide +kernel) ⟨by decide, by decide, by decide, th_I, th_clIL, Or.inl ⟨rfl, rfl⟩⟩ (fun x => ?_)
  have E1 := X.E (nc := 0 + 1) (ns := 0 + 6) (by decide) (by decide)
  refine zd_astore_n E1 (pc := 19) d_L_landmark_19 (by decide) ?_
  refine zd_iconst E1 (pc := 20) (v := (nI 1)) d_L_landmark_20 (by decide) ?_
  exact zd_iret E1 (pc := 21) d_L_landmark_21 ⟨rfl, rfl⟩
theorem kw_draft : Cond.codeWith y_L_draft b_L_draft 4 (some .int) [(0, 9, 12, 25), (0, 9, 15, 13)] ∈ gd_T := gd_in3 71 (by decide +kernel) (by decide +kernel)
set_option maxRecDepth 100000 in
set_option maxHeartbeats 4000000 in
theorem w_draft (l : Launch) (D : va_G) {x : Int32} {da : Nat} {post1 : Option Value → va_W → Prop} {P : Int32 → (Nat → Int32) → (Nat → Nat → Int32) → Prop} (C : zd_Ct l D classes (wd_ty k) gd_T y_P_draft b_P_draft 2 (some .int) (zd_rm da) [.ref (q 0), .int x] (wd k q v r (ow k o f)) post1) (hda : da ≤ 6) (hr : ∀ v1 w1, post1 v1 w1 → ∃ (n : Int32) (v2 : Nat → Int32) (r2 : Nat → Nat → Int32), P n v2 r2 ∧ v1 = some (.int n) ∧ w1 = wd k q v2 r2 (ow k o f)) : zx_Ct l D classes (wd_ty k) gd_T y_L_draft (.codeWith y_L_draft b_L_draft 4 (some .int) [(0, 9, 12, 25), (0, 9, 15, 13)]) (zx_rm 8 1 6) [.ref (q 0), .int x, .ref o] (wd k q v r (ow k o f)) (fun v1 w1 => ∃ (n : Int32) (v2 : Nat → Int32) (r2 : Nat → Nat → Int32), P n v2 r2 ∧ v1 = some (.int (nI 0)) ∧ w1 = wd k q v2 r2 (ow k o (vp_updL f 0 n.toInt64))) 1 6 th_X := by
  refine zx_metW gd_all th_Xk (by decide) rfl (Nat.le_of_ble_eq_true rfl) ⟨by decide, by decide⟩ (fun Zf X => ?_)
  show Zf 0 0 (wd k q v r (ow k o f)) [some (.ref (q 0)), some (.int x), some (.ref o), none] 0 []
  have E := X.E (nc := 0) (ns := 0) (by decide) (by decide)
  refine zd_aload_n E (pc := 0) d_L_draft_0 rfl ?_
  refine zd_iconst E (pc := 1) (v := (nI 0)) d_L_draft_1 (by decide) ?_
  refine zd_aload_n E (pc := 2) d_L_draft_2 rfl ?_
  refine zd_iload_n E (pc := 3) d_L_draft_3 rfl ?_
  refine zd_callVR E (pc := 4) d_L_draft_4 kc_L_48 rfl ki_P_draft ke_P_draft 0 rfl rfl C (show da + 1 ≤ 8 ∧ 40 * (da + 1) ≤ 320 by omega) rfl (Nat.le_of_ble_eq_true rfl) (fun v1 ws1 hv1 => ?_)
  obtain ⟨n, v2, r2, hP, rfl, rfl⟩ := hr _ _ hv1
  refine zd_i2l E (pc := 7) d_L_draft_7 ?_
  refine zd_last E (pc := 8) d_L_draft_8 34 rfl (t0 := 3) rfl (ws1 := wd k q v2 r2 (ow k o (vp_updL f 0 n.toInt64))) rfl ?_
  refine zd_goto E (pc := 9) 18 d_L_draft_9 (by decide) ?_
  refine zd_iconst E (pc := 18) (v := (nI 0)) d_L_draft_18 (by decide) ?_
  exact zd_iret E (pc := 19) d_L_draft_19 ⟨n, v2, r2, hP, rfl, rfl⟩
theorem kwl_draft : Cond.methodLink "CutPlannerLaw" 48 y_P_draft ∈ gd_T := gd_in3 72 (by decide +kernel) (by decide +kernel)
set_option maxRecDepth 100000 in
set_option maxHeartbeats 4000000 in
theorem w_draft_I (l : Launch) (D : va_G) {x : Int32} (C : th_Ct l D classes (wd_ty k) gd_T y_P_draft b_P_draft 2 (some .int) (th_rm 7) [.ref (q 0), .int x] (wd k q v r (ow k o f)) th_I) : zx_Ct l D classes (wd_ty k) gd_T y_L_draft (.codeWith y_L_draft b_L_draft 4 (some .int) [(0, 9, 12, 25), (0, 9, 15, 13)]) (zx_rm 8 1 6) [.ref (q 0), .int x, .ref o] (wd k q v r (ow k o f)) (zd_is (some (.int (nI 1))) (wd k q v r (ow k o f))) 1 6 th_X := by
  refine zx_metW gd_all th_Xk (by decide) rfl (Nat.le_of_ble_eq_true rfl) ⟨by decide, by decide⟩ (fun Zf X => ?_)
  show Zf 0 0 (wd k q v r (ow k o f)) [some (.ref (q 0)), some (.int x), some (.ref o), none] 0 []
  have E := X.E (nc := 0) (ns := 0) (by decide) (by decide)
  refine zd_aload_n E (pc := 0) d_L_draft_0 rfl ?_
  refine zd_iconst E (pc := 1) (v := (nI 0)) d_L_draft_1 (by decide) ?_
  refine zd_aload_n E (pc := 2) d_L_draft_2 rfl ?_
  refine zd_iload_n E (pc := 3) d_L_draft_3 rfl ?_
  refine zx_catch X (pc := 4) (hpc := 12) d_L_draft_4 kc_L_48 kwl_draft rfl ki_P_draft ke_P_draft 0 rfl rfl (fun _ h => h) C ⟨by decide, by decide⟩ (by decide) (by decide) rfl (Nat.le_of_ble_eq_true rfl) (by decide +kernel) ⟨by decide, by decide, by decide, th_I, th_clIL, Or.inl ⟨rfl, rfl⟩⟩ (fun x => ?_)
  have E1 := X.E (nc := 0 + 1) (ns := 0 + 6) (by decide) (by decide)
  refine zd_astore_n E1 (pc := 12) d_L_draft_12 (by decide) ?_
  refine zd_iconst E1 (pc := 13) (v := (nI 1)) d_L_draft_13 (by decide) ?_
  exact zd_iret E1 (pc := 14) d_L_draft_14 ⟨rfl, rfl⟩
set_option maxRecDepth 100000 in
set_option maxHeartbeats 4000000 in
theorem w_draft_S (l : Launch) (D : va_G) {x : Int32} (C : th_Ct l D classes (wd_ty k) gd_T y_P_draft b_P_draft 2 (some .int) (th_rm 7) [.ref (q 0), .int x] (wd k q v r (ow k o f)) th_S) : zx_Ct l D classes (wd_ty k) gd_T y_L_draft (.codeWith y_L_draft b_L_draft 4 (some .int) [(0, 9, 12, 25), (0, 9, 15, 13)]) (zx_rm 8 1 6) [.ref (q 0), .int x, .ref o] (wd k q v r (ow k o f)) (zd_is (some (.int (nI 2))) (wd k q v r (ow k o f))) 1 6 th_X := by
  refine zx_metW gd_all th_Xk (by decide) rfl (Nat.le_of_ble_eq_true rfl) ⟨by decide, by decide⟩ (fun Zf X => ?_)
  show Zf 0 0 (wd k q v r (ow k o f)) [some (.ref (q 0)), some (.int x), some (.ref o), none] 0 []
  have E := X.E (nc := 0) (ns := 0) (by decide) (by decide)
  refine zd_aload_n E (pc := 0) d_L_draft_0 rfl ?_
  refine zd_iconst E (pc := 1) (v := (nI 0)) d_L_draft_1 (by decide) ?_
  refine zd_aload_n E (pc := 2) d_L_draft_2 rfl ?_
  refine zd_iload_n E (pc := 3) d_L_draft_3 rfl ?_
  refine zx_catch X (pc := 4) (hpc := 15) d_L_draft_4 kc_L_48 kwl_draft rfl ki_P_draft ke_P_draft 0 rfl rfl (fun _ h => h) C ⟨by decide, by decide⟩ (by decide) (by decide) rfl (Nat.le_of_ble_eq_true rfl) (by decide +kernel) ⟨by decide, by decide, by decide, th_I, th_clIL, Or.inr ⟨by decide +kernel, ⟨by decide, by decide, by decide, th_S, th_clSL, Or.inl ⟨rfl, rfl⟩⟩⟩⟩ (fun x => ?_)
  have E1 := X.E (nc := 0 + 1) (ns := 0 + 6) (by decide) (by decide)
  refine zd_astore_n E1 (pc := 15) d_L_draft_15 (by decide) ?_
  refine zd_iconst E1 (pc := 16) (v := (nI 2)) d_L_draft_16 (by decide) ?_
  exact zd_iret E1 (pc := 17) d_L_draft_17 ⟨rfl, rfl⟩
end WR
