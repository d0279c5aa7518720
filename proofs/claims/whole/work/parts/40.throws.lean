/-! The class where it refuses. -/
theorem kl_88 : Cond.methodLink "CutPlanner" 88 y_P_refuseUnknownAction ∈ gd_T := gd_in2 228 (by decide +kernel) (by decide +kernel)
theorem kl_91 : Cond.methodLink "CutPlanner" 91 y_P_refuseUnknownFact ∈ gd_T := gd_in3 8 (by decide +kernel) (by decide +kernel)
section TT
variable {k : Nat → ClassId} {q : Nat → Nat} {v : Nat → Int32} {r : Nat → Nat → Int32} {ex : va_W} {nf na fi go : Nat} {co ne ad dr : Nat → Nat}
set_option maxRecDepth 100000 in
set_option maxHeartbeats 4000000 in
theorem o_P_has (l : Launch) (D : va_G) (tys : List (ClassId × FieldType)) (ws : va_W) {S j : Nat} (hS : S < 2 ^ 31) (hj : j < 32) : zr_Ct l D classes tys gd_T y_P_has b_P_has 2 (some .boolean) (zd_rm 0) [.int (nI S), .int (nI j)] ws (zd_is (some (.int (nI (if S.testBit j = true then 1 else 0)))) ws) := by
  refine zr_met gd_all (by decide) rfl (Nat.le_of_ble_eq_true rfl) (fun Z E => ?_)
  show Z ws [some (.int (nI S)), some (.int (nI j))] 0 []
  refine zr_iload_n E (pc := 0) d_P_has_0 rfl ?_
  refine zr_iload_n E (pc := 1) d_P_has_1 rfl ?_
  refine zr_ishr E (pc := 2) d_P_has_2 ?_
  refine zr_iconst E (pc := 3) (v := (nI 1)) d_P_has_3 (by decide) ?_
  refine zr_iand E (pc := 4) d_P_has_4 ?_
  rw [bm_has hS hj]
  refine zr_bf_eq E (pc := 5) 12 d_P_has_5 (by decide) (fun h => ?_) (fun h => ?_)
  · refine zr_iconst E (pc := 12) (v := (nI 0)) d_P_has_12 (by decide) ?_
    exact zr_zret E (pc := 13) d_P_has_13 (by decide) ⟨by rw [if_neg h], rfl⟩
  · refine zr_iconst E (pc := 8) (v := (nI 1)) d_P_has_8 (by decide) ?_
    refine zr_goto E (pc := 9) 13 d_P_has_9 (by decide) ?_
    exact zr_zret E (pc := 13) d_P_has_13 (by decide) ⟨by rw [if_pos h], rfl⟩
set_option maxRecDepth 100000 in
set_option maxHeartbeats 4000000 in
theorem o_P_hasAll (l : Launch) (D : va_G) (tys : List (ClassId × FieldType)) (ws : va_W) {S M : Nat} (hM : M < 2 ^ 31) : zr_Ct l D classes tys gd_T y_P_hasAll b_P_hasAll 2 (some .boolean) (zd_rm 0) [.int (nI S), .int (nI M)] ws (zd_is (some (.int (nI (if S &&& M = M then 1 else 0)))) ws) := by
  refine zr_met gd_all (by decide) rfl (Nat.le_of_ble_eq_true rfl) (fun Z E => ?_)
  show Z ws [some (.int (nI S)), some (.int (nI M))] 0 []
  have hle : S &&& M ≤ M := Nat.and_le_right
  refine zr_iload_n E (pc := 0) d_P_hasAll_0 rfl ?_
  refine zr_iload_n E (pc := 1) d_P_hasAll_1 rfl ?_
  refine zr_iand E (pc := 2) d_P_hasAll_2 ?_
  rw [bm_and]
  refine zr_iload_n E (pc := 3) d_P_hasAll_3 rfl ?_
  refine zr_nc_ne E (pc := 4) 11 d_P_hasAll_4 (by decide) ((by omega)) ((by omega)) (fun h => ?_) (fun h => ?_)
  · refine zr_iconst E (pc := 11) (v := (nI 0)) d_P_hasAll_11 (by decide) ?_
    exact zr_zret E (pc := 12) d_P_hasAll_12 (by decide) ⟨by rw [if_neg h], rfl⟩
  · refine zr_iconst E (pc := 7) (v := (nI 1)) d_P_hasAll_7 (by decide) ?_
    refine zr_goto E (pc := 8) 12 d_P_hasAll_8 (by decide) ?_
    exact zr_zret E (pc := 12) d_P_hasAll_12 (by decide) ⟨by rw [if_pos h], rfl⟩
set_option maxRecDepth 100000 in
set_option maxHeartbeats 4000000 in
theorem o_T_allows (l : Launch) (D : va_G) {s a : Nat} {ne : Nat → Nat} (ha : a < 12) (hne : ∀ i, i < 12 → r 4 i = nI (ne i) ∧ ne i < 2 ^ 31) : zr_Ct l D classes (wd_ty k) gd_T y_T_allows b_T_allows 3 (some .boolean) (zd_rm 1) [.ref (q 1), .int (nI a), .int (nI s)] (wd k q v r ex) (zd_is (some (.int (nI (if s &&& ne a = ne a then 1 else 0)))) (wd k q v r ex)) := by
  refine zr_met gd_all (by decide) rfl (Nat.le_of_ble_eq_true rfl) (fun Z E => ?_)
  show Z (wd k q v r ex) [some (.ref (q 1)), some (.int (nI a)), some (.int (nI s))] 0 []
  refine zr_iload_n E (pc := 0) d_T_allows_0 rfl ?_
  refine zr_aload_n E (pc := 1) d_T_allows_1 rfl ?_
  refine zr_get E (pc := 2) d_T_allows_2 kf_T_17 1 rfl rfl ?_
  refine zr_iconst E (pc := 5) (v := (nI 0)) d_T_allows_5 (by decide) ?_
  refine zr_aald E (pc := 6) d_T_allows_6 3 rfl (t0 := 2) rfl rfl (0) (rfl) (by decide) (by decide) rfl ?_
  refine zr_iload_n E (pc := 7) d_T_allows_7 rfl ?_
  refine zr_iald E (pc := 8) d_T_allows_8 4 rfl (t0 := 0) rfl (a) (rfl) (ha) (by decide) ?_
  rw [(hne a ha).1]
  refine zr_callS E (pc := 9) d_T_allows_9 kc_T_33 rfl ks_P_hasAll (o_P_hasAll l D _ _ (S := s) (hne a ha).2) ⟨by decide, by decide⟩ rfl (Nat.le_of_ble_eq_true rfl) (fun v1 ws1 hv1 => ?_)
  obtain ⟨rfl, rfl⟩ := hv1
  exact zr_zret E (pc := 12) d_T_allows_12 (by split <;> decide) ⟨rfl, rfl⟩
set_option maxRecDepth 100000 in
set_option maxHeartbeats 4000000 in
theorem o_P_refuseUnknownFact (l : Launch) (D : va_G) {x n : Nat} (hv : v (if "Fact" = "Fact" then 0 else 1) = nI n) (hx : x < n) (hn : n < 100) : zr_Ct l D classes (wd_ty k) gd_T y_P_refuseUnknownFact b_P_refuseUnknownFact 2 none (zd_rm 0) [.ref (q 0), .int (nI x)] (wd k q v r ex) (zd_is none (wd k q v r ex)) := by
  refine zr_met gd_all (by decide) rfl (Nat.le_of_ble_eq_true rfl) (fun Z E => ?_)
  show Z (wd k q v r ex) [some (.ref (q 0)), some (.int (nI x))] 0 []
  have hv : v 0 = nI n := hv
  refine zr_iload_n E (pc := 0) d_P_refuseUnknownFact_0 rfl ?_
  refine zr_if_lt E (pc := 1) 15 d_P_refuseUnknownFact_1 (by decide) (fun h0 => ?_) (fun h0 => ?_)
  · exact absurd h0 (nI_pos (by omega))
  · refine zr_iload_n E (pc := 4) d_P_refuseUnknownFact_4 rfl ?_
    refine zr_aload_n E (pc := 5) d_P_refuseUnknownFact_5 rfl ?_
    refine zr_get E (pc := 6) d_P_refuseUnknownFact_6 kf_P_12 0 rfl rfl ?_
    refine zr_get E (pc := 9) d_P_refuseUnknownFact_9 kf_P_57 1 rfl rfl ?_
    rw [hv]
    refine zr_nc_lt E (pc := 12) 25 d_P_refuseUnknownFact_12 (by decide) ((by omega)) ((by omega)) (fun hq => ?_) (fun hq => ?_)
    · exact zr_vret E (pc := 25) d_P_refuseUnknownFact_25 ⟨rfl, rfl⟩
    · omega
set_option maxRecDepth 100000 in
set_option maxHeartbeats 4000000 in
theorem e_P_refuseUnknownFact (l : Launch) (hl : l.stackTraces = false) (D : va_G) (x : Int32) {n : Nat} (hv : v (if "Fact" = "Fact" then 0 else 1) = nI n) (hx : x < 0 ∨ nI n ≤ x) : th_Ct l D classes (wd_ty k) gd_T y_P_refuseUnknownFact b_P_refuseUnknownFact 2 none (th_rm 6) [.ref (q 0), .int x] (wd k q v r ex) th_I := by
  refine th_met gd_all (by decide) rfl (Nat.le_of_ble_eq_true rfl) (fun Z T0 => ?_)
  have E := T0.R
  show Z (wd k q v r ex) [some (.ref (q 0)), some (.int x)] 0 []
  have hv : v 0 = nI n := hv
  refine zr_iload_n E (pc := 0) d_P_refuseUnknownFact_0 rfl ?_
  refine zr_if_lt E (pc := 1) 15 d_P_refuseUnknownFact_1 (by decide) (fun h0 => ?_) (fun h0 => ?_)
  · exact th_throw T0 hl (pc := 15) (tx := "no such fact") d_P_refuseUnknownFact_15 d_P_refuseUnknownFact_18 d_P_refuseUnknownFact_19 d_P_refuseUnknownFact_21 d_P_refuseUnknownFact_24 th_clI th_insI th_iniI (by decide) th_fitI th_fits th_atI (by decide)
  · refine zr_iload_n E (pc := 4) d_P_refuseUnknownFact_4 rfl ?_
    refine zr_aload_n E (pc := 5) d_P_refuseUnknownFact_5 rfl ?_
    refine zr_get E (pc := 6) d_P_refuseUnknownFact_6 kf_P_12 0 rfl rfl ?_
    refine zr_get E (pc := 9) d_P_refuseUnknownFact_9 kf_P_57 1 rfl rfl ?_
    rw [hv]
    refine zr_ic_lt E (pc := 12) 25 d_P_refuseUnknownFact_12 (by decide) (fun h1 => ?_) (fun h1 => ?_)
    · rcases hx with z | z
      · exact absurd z h0
      · exact absurd h1 (by rw [Int32.lt_iff_toInt_lt]; rw [Int32.le_iff_toInt_le] at z; omega)
    · exact th_throw T0 hl (pc := 15) (tx := "no such fact") d_P_refuseUnknownFact_15 d_P_refuseUnknownFact_18 d_P_refuseUnknownFact_19 d_P_refuseUnknownFact_21 d_P_refuseUnknownFact_24 th_clI th_insI th_iniI (by decide) th_fitI th_fits th_atI (by decide)
set_option maxRecDepth 100000 in
set_option maxHeartbeats 4000000 in
theorem o_P_refuseUnknownAction (l : Launch) (D : va_G) {x n : Nat} (hv : v (if "Action" = "Fact" then 0 else 1) = nI n) (hx : x < n) (hn : n < 100) : zr_Ct l D classes (wd_ty k) gd_T y_P_refuseUnknownAction b_P_refuseUnknownAction 2 none (zd_rm 0) [.ref (q 0), .int (nI x)] (wd k q v r ex) (zd_is none (wd k q v r ex)) := by
  refine zr_met gd_all (by decide) rfl (Nat.le_of_ble_eq_true rfl) (fun Z E => ?_)
  show Z (wd k q v r ex) [some (.ref (q 0)), some (.int (nI x))] 0 []
  have hv : v 1 = nI n := hv
  refine zr_iload_n E (pc := 0) d_P_refuseUnknownAction_0 rfl ?_
  refine zr_if_lt E (pc := 1) 15 d_P_refuseUnknownAction_1 (by decide) (fun h0 => ?_) (fun h0 => ?_)
  · exact absurd h0 (nI_pos (by omega))
  · refine zr_iload_n E (pc := 4) d_P_refuseUnknownAction_4 rfl ?_
    refine zr_aload_n E (pc := 5) d_P_refuseUnknownAction_5 rfl ?_
    refine zr_get E (pc := 6) d_P_refuseUnknownAction_6 kf_P_12 0 rfl rfl ?_
    refine zr_get E (pc := 9) d_P_refuseUnknownAction_9 kf_P_79 1 rfl rfl ?_
    rw [hv]
    refine zr_nc_lt E (pc := 12) 25 d_P_refuseUnknownAction_12 (by decide) ((by omega)) ((by omega)) (fun hq => ?_) (fun hq => ?_)
    · exact zr_vret E (pc := 25) d_P_refuseUnknownAction_25 ⟨rfl, rfl⟩
    · omega
set_option maxRecDepth 100000 in
set_option maxHeartbeats 4000000 in
theorem e_P_refuseUnknownAction (l : Launch) (hl : l.stackTraces = false) (D : va_G) (x : Int32) {n : Nat} (hv : v (if "Action" = "Fact" then 0 else 1) = nI n) (hx : x < 0 ∨ nI n ≤ x) : th_Ct l D classes (wd_ty k) gd_T y_P_refuseUnknownAction b_P_refuseUnknownAction 2 none (th_rm 6) [.ref (q 0), .int x] (wd k q v r ex) th_I := by
  refine th_met gd_all (by decide) rfl (Nat.le_of_ble_eq_true rfl) (fun Z T0 => ?_)
  have E := T0.R
  show Z (wd k q v r ex) [some (.ref (q 0)), some (.int x)] 0 []
  have hv : v 1 = nI n := hv
  refine zr_iload_n E (pc := 0) d_P_refuseUnknownAction_0 rfl ?_
  refine zr_if_lt E (pc := 1) 15 d_P_refuseUnknownAction_1 (by decide) (fun h0 => ?_) (fun h0 => ?_)
  · exact th_throw T0 hl (pc := 15) (tx := "no such action") d_P_refuseUnknownAction_15 d_P_refuseUnknownAction_18 d_P_refuseUnknownAction_19 d_P_refuseUnknownAction_21 d_P_refuseUnknownAction_24 th_clI th_insI th_iniI (by decide) th_fitI th_fits th_atI (by decide)
  · refine zr_iload_n E (pc := 4) d_P_refuseUnknownAction_4 rfl ?_
    refine zr_aload_n E (pc := 5) d_P_refuseUnknownAction_5 rfl ?_
    refine zr_get E (pc := 6) d_P_refuseUnknownAction_6 kf_P_12 0 rfl rfl ?_
    refine zr_get E (pc := 9) d_P_refuseUnknownAction_9 kf_P_79 1 rfl rfl ?_
    rw [hv]
    refine zr_ic_lt E (pc := 12) 25 d_P_refuseUnknownAction_12 (by decide) (fun h1 => ?_) (fun h1 => ?_)
    · rcases hx with z | z
      · exact absurd z h0
      · exact absurd h1 (by rw [Int32.lt_iff_toInt_lt]; rw [Int32.le_iff_toInt_le] at z; omega)
    · exact th_throw T0 hl (pc := 15) (tx := "no such action") d_P_refuseUnknownAction_15 d_P_refuseUnknownAction_18 d_P_refuseUnknownAction_19 d_P_refuseUnknownAction_21 d_P_refuseUnknownAction_24 th_clI th_insI th_iniI (by decide) th_fitI th_fits th_atI (by decide)
set_option maxRecDepth 100000 in
set_option maxHeartbeats 4000000 in
theorem e_P_fact (l : Launch) (hl : l.stackTraces = false) (D : va_G) (x y : Int32) (h0 : v 0 = nI 10) : th_Ct l D classes (wd_ty k) gd_T y_P_fact b_P_fact 4 (some .int) (th_rm 7) [.ref (q 0), .int x, .int y] (wd k q v r ex) th_S := by
  refine th_met gd_all (by decide) rfl (Nat.le_of_ble_eq_true rfl) (fun Z T0 => ?_)
  have E := T0.R
  show Z (wd k q v r ex) [some (.ref (q 0)), some (.int x), some (.int y), none] 0 []
  refine zr_aload_n E (pc := 0) d_P_fact_0 rfl ?_
  refine zr_get E (pc := 1) d_P_fact_1 kf_P_12 0 rfl rfl ?_
  refine zr_get E (pc := 4) d_P_fact_4 kf_P_57 1 rfl rfl ?_
  rw [h0]
  refine zr_bipush E (pc := 7) (v := (nI 10)) d_P_fact_7 (by decide) ?_
  refine zr_nc_lt E (pc := 9) 22 d_P_fact_9 (by decide) ((by decide)) ((by decide)) (fun hq => ?_) (fun hq => ?_)
  · omega
  · exact th_throw T0 hl (pc := 12) (tx := "no room for another fact") d_P_fact_12 d_P_fact_15 d_P_fact_16 d_P_fact_18 d_P_fact_21 th_clS th_insS th_iniS (by decide) th_fitS th_fits th_atS (by decide)
set_option maxRecDepth 100000 in
set_option maxHeartbeats 4000000 in
theorem e_P_action1 (l : Launch) (hl : l.stackTraces = false) (D : va_G) (x : Int32) (hx : x < nI 1 ∨ nI 9 < x) : th_Ct l D classes (wd_ty k) gd_T y_P_action b_P_action 3 (some .int) (th_rm 7) [.ref (q 0), .int x] (wd k q v r ex) th_A := by
  refine th_met gd_all (by decide) rfl (Nat.le_of_ble_eq_true rfl) (fun Z T0 => ?_)
  have E := T0.R
  show Z (wd k q v r ex) [some (.ref (q 0)), some (.int x), none] 0 []
  refine zr_iload_n E (pc := 0) d_P_action_0 rfl ?_
  refine zr_iconst E (pc := 1) (v := (nI 1)) d_P_action_1 (by decide) ?_
  refine zr_ic_lt E (pc := 2) 11 d_P_action_2 (by decide) (fun h0 => ?_) (fun h0 => ?_)
  · exact th_throw T0 hl (pc := 11) (tx := "a cost is 1 to 9") d_P_action_11 d_P_action_14 d_P_action_15 d_P_action_17 d_P_action_20 th_clA th_insA th_iniA (by decide) th_fitA th_fits th_atA (by decide)
  · refine zr_iload_n E (pc := 5) d_P_action_5 rfl ?_
    refine zr_bipush E (pc := 6) (v := (nI 9)) d_P_action_6 (by decide) ?_
    refine zr_ic_le E (pc := 8) 21 d_P_action_8 (by decide) (fun h1 => ?_) (fun h1 => ?_)
    · rcases hx with z | z
      · exact absurd z h0
      · exact absurd h1 (by rw [Int32.le_iff_toInt_le]; rw [Int32.lt_iff_toInt_lt] at z; omega)
    · exact th_throw T0 hl (pc := 11) (tx := "a cost is 1 to 9") d_P_action_11 d_P_action_14 d_P_action_15 d_P_action_17 d_P_action_20 th_clA th_insA th_iniA (by decide) th_fitA th_fits th_atA (by decide)
set_option maxRecDepth 100000 in
set_option maxHeartbeats 4000000 in
theorem e_P_action2 (l : Launch) (hl : l.stackTraces = false) (D : va_G) {p : Nat} (hp1 : 1 ≤ p) (hp9 : p ≤ 9) (h1 : v 1 = nI 12) : th_Ct l D classes (wd_ty k) gd_T y_P_action b_P_action 3 (some .int) (th_rm 7) [.ref (q 0), .int (nI p)] (wd k q v r ex) th_S := by
  refine th_met gd_all (by decide) rfl (Nat.le_of_ble_eq_true rfl) (fun Z T0 => ?_)
  have E := T0.R
  show Z (wd k q v r ex) [some (.ref (q 0)), some (.int (nI p)), none] 0 []
  refine zr_iload_n E (pc := 0) d_P_action_0 rfl ?_
  refine zr_iconst E (pc := 1) (v := (nI 1)) d_P_action_1 (by decide) ?_
  refine zr_nc_lt E (pc := 2) 11 d_P_action_2 (by decide) ((by omega)) ((by decide)) (fun h0 => ?_) (fun h0 => ?_)
  · omega
  · refine zr_iload_n E (pc := 5) d_P_action_5 rfl ?_
    refine zr_bipush E (pc := 6) (v := (nI 9)) d_P_action_6 (by decide) ?_
    refine zr_nc_le E (pc := 8) 21 d_P_action_8 (by decide) ((by omega)) ((by decide)) (fun h9 => ?_) (fun h9 => ?_)
    · refine zr_aload_n E (pc := 21) d_P_action_21 rfl ?_
      refine zr_get E (pc := 22) d_P_action_22 kf_P_12 0 rfl rfl ?_
      refine zr_get E (pc := 25) d_P_action_25 kf_P_79 1 rfl rfl ?_
      rw [h1]
      refine zr_bipush E (pc := 28) (v := (nI 12)) d_P_action_28 (by decide) ?_
      refine zr_nc_lt E (pc := 30) 43 d_P_action_30 (by decide) ((by decide)) ((by decide)) (fun hq => ?_) (fun hq => ?_)
      · omega
      · exact th_throw T0 hl (pc := 33) (tx := "no room for another action") d_P_action_33 d_P_action_36 d_P_action_37 d_P_action_39 d_P_action_42 th_clS th_insS th_iniS (by decide) th_fitS th_fits th_atS (by decide)
    · omega
set_option maxRecDepth 100000 in
set_option maxHeartbeats 4000000 in
theorem e_P_link1 (l : Launch) (hl : l.stackTraces = false) (D : va_G) (w x y : Int32) (t : tk_C v r nf na fi go co ne ad dr) (hb : (x < 0 ∨ nI na ≤ x) ∨ (y < 0 ∨ nI nf ≤ y)) : th_Ct l D classes (wd_ty k) gd_T y_P_link b_P_link 4 none (th_rm 7) [.ref (q 0), .int w, .int x, .int y] (wd k q v r ex) th_I := by
  refine th_met gd_all (by decide) rfl (Nat.le_of_ble_eq_true rfl) (fun Z T0 => ?_)
  have E := T0.R
  have hna := t.hna.2
  show Z (wd k q v r ex) [some (.ref (q 0)), some (.int w), some (.int x), some (.int y)] 0 []
  by_cases hx : x < 0 ∨ nI na ≤ x
  · refine zr_aload_n E (pc := 0) d_P_link_0 rfl ?_
    refine zr_iload_n E (pc := 1) d_P_link_1 rfl ?_
    exact th_pass T0 (pc := 2) d_P_link_2 kc_P_88 (kl_88) rfl ki_P_refuseUnknownAction ke_P_refuseUnknownAction 0 rfl rfl (e_P_refuseUnknownAction l hl D x t.hna.1 hx) ⟨by decide, by decide, by decide, by decide⟩ rfl (Nat.le_of_ble_eq_true rfl)
  · obtain ⟨a, ha, rfl⟩ : ∃ a : Nat, a < na ∧ x = nI a := by
      rcases pk_ix x (n := na) (by omega) with z | z | z
      · exact absurd (Or.inl z) hx
      · exact absurd (Or.inr z) hx
      · exact z
    have hy := hb.resolve_left hx
    refine zr_aload_n E (pc := 0) d_P_link_0 rfl ?_
    refine zr_iload_n E (pc := 1) d_P_link_1 rfl ?_
    refine zr_callV E (pc := 2) d_P_link_2 kc_P_88 rfl ki_P_refuseUnknownAction ke_P_refuseUnknownAction 0 rfl rfl (o_P_refuseUnknownAction l D t.hna.1 ha (by omega)) ⟨by decide, by decide⟩ rfl (Nat.le_of_ble_eq_true rfl) (fun v1 ws1 hv1 => ?_)
    obtain ⟨rfl, rfl⟩ := hv1
    refine zr_aload_n E (pc := 5) d_P_link_5 rfl ?_
    refine zr_iload_n E (pc := 6) d_P_link_6 rfl ?_
    exact th_pass T0 (pc := 7) d_P_link_7 kc_P_91 (kl_91) rfl ki_P_refuseUnknownFact ke_P_refuseUnknownFact 0 rfl rfl (e_P_refuseUnknownFact l hl D y t.1.1 hy) ⟨by decide, by decide, by decide, by decide⟩ rfl (Nat.le_of_ble_eq_true rfl)
set_option maxRecDepth 100000 in
set_option maxHeartbeats 4000000 in
theorem e_P_link2 (l : Launch) (hl : l.stackTraces = false) (D : va_G) (w : Int32) {a f : Nat} (t : tk_C v r nf na fi go co ne ad dr) (ha : a < na) (hf : f < nf) (hw : w < 0 ∨ nI 2 < w) : th_Ct l D classes (wd_ty k) gd_T y_P_link b_P_link 4 none (th_rm 7) [.ref (q 0), .int w, .int (nI a), .int (nI f)] (wd k q v r ex) th_A := by
  refine th_met gd_all (by decide) rfl (Nat.le_of_ble_eq_true rfl) (fun Z T0 => ?_)
  have E := T0.R
  have hna := t.hna.2
  have hnf := t.2.2.1.1
  show Z (wd k q v r ex) [some (.ref (q 0)), some (.int w), some (.int (nI a)), some (.int (nI f))] 0 []
  refine zr_aload_n E (pc := 0) d_P_link_0 rfl ?_
  refine zr_iload_n E (pc := 1) d_P_link_1 rfl ?_
  refine zr_callV E (pc := 2) d_P_link_2 kc_P_88 rfl ki_P_refuseUnknownAction ke_P_refuseUnknownAction 0 rfl rfl (o_P_refuseUnknownAction l D t.hna.1 ha (by omega)) ⟨by decide, by decide⟩ rfl (Nat.le_of_ble_eq_true rfl) (fun v1 ws1 hv1 => ?_)
  obtain ⟨rfl, rfl⟩ := hv1
  refine zr_aload_n E (pc := 5) d_P_link_5 rfl ?_
  refine zr_iload_n E (pc := 6) d_P_link_6 rfl ?_
  refine zr_callV E (pc := 7) d_P_link_7 kc_P_91 rfl ki_P_refuseUnknownFact ke_P_refuseUnknownFact 0 rfl rfl (o_P_refuseUnknownFact l D t.1.1 hf (by omega)) ⟨by decide, by decide⟩ rfl (Nat.le_of_ble_eq_true rfl) (fun v1 ws1 hv1 => ?_)
  obtain ⟨rfl, rfl⟩ := hv1
  refine zr_iload_n E (pc := 10) d_P_link_10 rfl ?_
  refine zr_if_lt E (pc := 11) 19 d_P_link_11 (by decide) (fun h0 => ?_) (fun h0 => ?_)
  · exact th_throw T0 hl (pc := 19) (tx := "a kind is 0, 1 or 2") d_P_link_19 d_P_link_22 d_P_link_23 d_P_link_25 d_P_link_28 th_clA th_insA th_iniA (by decide) th_fitA th_fits th_atA (by decide)
  · refine zr_iload_n E (pc := 14) d_P_link_14 rfl ?_
    refine zr_iconst E (pc := 15) (v := (nI 3)) d_P_link_15 (by decide) ?_
    refine zr_ic_lt E (pc := 16) 29 d_P_link_16 (by decide) (fun h1 => ?_) (fun h1 => ?_)
    · rcases hw with z | z
      · exact absurd z h0
      · exfalso
        rw [Int32.lt_iff_toInt_lt] at h1 z
        have e2 : (nI 2).toInt = 2 := rfl
        have e3 : (nI 3).toInt = 3 := rfl
        omega
    · exact th_throw T0 hl (pc := 19) (tx := "a kind is 0, 1 or 2") d_P_link_19 d_P_link_22 d_P_link_23 d_P_link_25 d_P_link_28 th_clA th_insA th_iniA (by decide) th_fitA th_fits th_atA (by decide)
set_option maxRecDepth 100000 in
set_option maxHeartbeats 4000000 in
theorem e_P_link3_0 (l : Launch) (hl : l.stackTraces = false) (D : va_G) {a f : Nat} {m : Nat → Nat} (t : tk_C v r nf na fi go co ne ad dr) (ha : a < na) (hf : f < nf) (hm : ∀ i, i < 12 → r (4 + 0) i = nI (m i) ∧ m i < 2 ^ 31) (hyes : (m a).testBit f = true) : th_Ct l D classes (wd_ty k) gd_T y_P_link b_P_link 4 none (th_rm 7) [.ref (q 0), .int (nI 0), .int (nI a), .int (nI f)] (wd k q v r ex) th_S := by
  refine th_met gd_all (by decide) rfl (Nat.le_of_ble_eq_true rfl) (fun Z T0 => ?_)
  have E := T0.R
  have hna := t.hna.2
  have hnf := t.2.2.1.1
  obtain ⟨m1, m2⟩ := hm a (by omega)
  show Z (wd k q v r ex) [some (.ref (q 0)), some (.int (nI 0)), some (.int (nI a)), some (.int (nI f))] 0 []
  refine zr_aload_n E (pc := 0) d_P_link_0 rfl ?_
  refine zr_iload_n E (pc := 1) d_P_link_1 rfl ?_
  refine zr_callV E (pc := 2) d_P_link_2 kc_P_88 rfl ki_P_refuseUnknownAction ke_P_refuseUnknownAction 0 rfl rfl (o_P_refuseUnknownAction l D t.hna.1 ha (by omega)) ⟨by decide, by decide⟩ rfl (Nat.le_of_ble_eq_true rfl) (fun v1 ws1 hv1 => ?_)
  obtain ⟨rfl, rfl⟩ := hv1
  refine zr_aload_n E (pc := 5) d_P_link_5 rfl ?_
  refine zr_iload_n E (pc := 6) d_P_link_6 rfl ?_
  refine zr_callV E (pc := 7) d_P_link_7 kc_P_91 rfl ki_P_refuseUnknownFact ke_P_refuseUnknownFact 0 rfl rfl (o_P_refuseUnknownFact l D t.1.1 hf (by omega)) ⟨by decide, by decide⟩ rfl (Nat.le_of_ble_eq_true rfl) (fun v1 ws1 hv1 => ?_)
  obtain ⟨rfl, rfl⟩ := hv1
  refine zr_iload_n E (pc := 10) d_P_link_10 rfl ?_
  refine zr_if_lt E (pc := 11) 19 d_P_link_11 (by decide) (fun h0 => ?_) (fun h0 => ?_)
  · exact absurd h0 (by decide)
  · refine zr_iload_n E (pc := 14) d_P_link_14 rfl ?_
    refine zr_iconst E (pc := 15) (v := (nI 3)) d_P_link_15 (by decide) ?_
    refine zr_nc_lt E (pc := 16) 29 d_P_link_16 (by decide) ((by decide)) ((by decide)) (fun hq => ?_) (fun hq => ?_)
    · refine zr_aload_n E (pc := 29) d_P_link_29 rfl ?_
      refine zr_get E (pc := 30) d_P_link_30 kf_P_12 0 rfl rfl ?_
      refine zr_get E (pc := 33) d_P_link_33 kf_P_96 1 rfl rfl ?_
      refine zr_iload_n E (pc := 36) d_P_link_36 rfl ?_
      refine zr_aald E (pc := 37) d_P_link_37 3 rfl (t0 := 2) rfl rfl (0) (rfl) (by decide) (by decide) rfl ?_
      refine zr_iload_n E (pc := 38) d_P_link_38 rfl ?_
      refine zr_iald E (pc := 39) d_P_link_39 4 rfl (t0 := 0) rfl (a) (rfl) ((by omega)) (by decide) ?_
      show Z (wd k q v r ex) _ 40 [.int (r (4 + 0) a)]
      rw [m1]
      refine zr_iload_n E (pc := 40) d_P_link_40 rfl ?_
      refine zr_callS E (pc := 41) d_P_link_41 kc_P_100 rfl ks_P_has (o_P_has l D _ _ m2 (show f < 32 by omega)) ⟨by decide, by decide⟩ rfl (Nat.le_of_ble_eq_true rfl) (fun v1 ws1 hv1 => ?_)
      obtain ⟨rfl, rfl⟩ := hv1
      refine zr_bf_eq E (pc := 44) 57 d_P_link_44 (by decide) (fun hb => ?_) (fun hb => ?_)
      · exact absurd hyes hb
      · exact th_throw T0 hl (pc := 47) (tx := "linked already") d_P_link_47 d_P_link_50 d_P_link_51 d_P_link_53 d_P_link_56 th_clS th_insS th_iniS (by decide) th_fitS th_fits th_atS (by decide)
    · omega
set_option maxRecDepth 100000 in
set_option maxHeartbeats 4000000 in
theorem e_P_link3_1 (l : Launch) (hl : l.stackTraces = false) (D : va_G) {a f : Nat} {m : Nat → Nat} (t : tk_C v r nf na fi go co ne ad dr) (ha : a < na) (hf : f < nf) (hm : ∀ i, i < 12 → r (4 + 1) i = nI (m i) ∧ m i < 2 ^ 31) (hyes : (m a).testBit f = true) : th_Ct l D classes (wd_ty k) gd_T y_P_link b_P_link 4 none (th_rm 7) [.ref (q 0), .int (nI 1), .int (nI a), .int (nI f)] (wd k q v r ex) th_S := by
  refine th_met gd_all (by decide) rfl (Nat.le_of_ble_eq_true rfl) (fun Z T0 => ?_)
  have E := T0.R
  have hna := t.hna.2
  have hnf := t.2.2.1.1
  obtain ⟨m1, m2⟩ := hm a (by omega)
  show Z (wd k q v r ex) [some (.ref (q 0)), some (.int (nI 1)), some (.int (nI a)), some (.int (nI f))] 0 []
  refine zr_aload_n E (pc := 0) d_P_link_0 rfl ?_
  refine zr_iload_n E (pc := 1) d_P_link_1 rfl ?_
  refine zr_callV E (pc := 2) d_P_link_2 kc_P_88 rfl ki_P_refuseUnknownAction ke_P_refuseUnknownAction 0 rfl rfl (o_P_refuseUnknownAction l D t.hna.1 ha (by omega)) ⟨by decide, by decide⟩ rfl (Nat.le_of_ble_eq_true rfl) (fun v1 ws1 hv1 => ?_)
  obtain ⟨rfl, rfl⟩ := hv1
  refine zr_aload_n E (pc := 5) d_P_link_5 rfl ?_
  refine zr_iload_n E (pc := 6) d_P_link_6 rfl ?_
  refine zr_callV E (pc := 7) d_P_link_7 kc_P_91 rfl ki_P_refuseUnknownFact ke_P_refuseUnknownFact 0 rfl rfl (o_P_refuseUnknownFact l D t.1.1 hf (by omega)) ⟨by decide, by decide⟩ rfl (Nat.le_of_ble_eq_true rfl) (fun v1 ws1 hv1 => ?_)
  obtain ⟨rfl, rfl⟩ := hv1
  refine zr_iload_n E (pc := 10) d_P_link_10 rfl ?_
  refine zr_if_lt E (pc := 11) 19 d_P_link_11 (by decide) (fun h0 => ?_) (fun h0 => ?_)
  · exact absurd h0 (by decide)
  · refine zr_iload_n E (pc := 14) d_P_link_14 rfl ?_
    refine zr_iconst E (pc := 15) (v := (nI 3)) d_P_link_15 (by decide) ?_
    refine zr_nc_lt E (pc := 16) 29 d_P_link_16 (by decide) ((by decide)) ((by decide)) (fun hq => ?_) (fun hq => ?_)
    · refine zr_aload_n E (pc := 29) d_P_link_29 rfl ?_
      refine zr_get E (pc := 30) d_P_link_30 kf_P_12 0 rfl rfl ?_
      refine zr_get E (pc := 33) d_P_link_33 kf_P_96 1 rfl rfl ?_
      refine zr_iload_n E (pc := 36) d_P_link_36 rfl ?_
      refine zr_aald E (pc := 37) d_P_link_37 3 rfl (t0 := 2) rfl rfl (1) (rfl) (by decide) (by decide) rfl ?_
      refine zr_iload_n E (pc := 38) d_P_link_38 rfl ?_
      refine zr_iald E (pc := 39) d_P_link_39 5 rfl (t0 := 0) rfl (a) (rfl) ((by omega)) (by decide) ?_
      show Z (wd k q v r ex) _ 40 [.int (r (4 + 1) a)]
      rw [m1]
      refine zr_iload_n E (pc := 40) d_P_link_40 rfl ?_
      refine zr_callS E (pc := 41) d_P_link_41 kc_P_100 rfl ks_P_has (o_P_has l D _ _ m2 (show f < 32 by omega)) ⟨by decide, by decide⟩ rfl (Nat.le_of_ble_eq_true rfl) (fun v1 ws1 hv1 => ?_)
      obtain ⟨rfl, rfl⟩ := hv1
      refine zr_bf_eq E (pc := 44) 57 d_P_link_44 (by decide) (fun hb => ?_) (fun hb => ?_)
      · exact absurd hyes hb
      · exact th_throw T0 hl (pc := 47) (tx := "linked already") d_P_link_47 d_P_link_50 d_P_link_51 d_P_link_53 d_P_link_56 th_clS th_insS th_iniS (by decide) th_fitS th_fits th_atS (by decide)
    · omega
set_option maxRecDepth 100000 in
set_option maxHeartbeats 4000000 in
theorem e_P_link3_2 (l : Launch) (hl : l.stackTraces = false) (D : va_G) {a f : Nat} {m : Nat → Nat} (t : tk_C v r nf na fi go co ne ad dr) (ha : a < na) (hf : f < nf) (hm : ∀ i, i < 12 → r (4 + 2) i = nI (m i) ∧ m i < 2 ^ 31) (hyes : (m a).testBit f = true) : th_Ct l D classes (wd_ty k) gd_T y_P_link b_P_link 4 none (th_rm 7) [.ref (q 0), .int (nI 2), .int (nI a), .int (nI f)] (wd k q v r ex) th_S := by
  refine th_met gd_all (by decide) rfl (Nat.le_of_ble_eq_true rfl) (fun Z T0 => ?_)
  have E := T0.R
  have hna := t.hna.2
  have hnf := t.2.2.1.1
  obtain ⟨m1, m2⟩ := hm a (by omega)
  show Z (wd k q v r ex) [some (.ref (q 0)), some (.int (nI 2)), some (.int (nI a)), some (.int (nI f))] 0 []
  refine zr_aload_n E (pc := 0) d_P_link_0 rfl ?_
  refine zr_iload_n E (pc := 1) d_P_link_1 rfl ?_
  refine zr_callV E (pc := 2) d_P_link_2 kc_P_88 rfl ki_P_refuseUnknownAction ke_P_refuseUnknownAction 0 rfl rfl (o_P_refuseUnknownAction l D t.hna.1 ha (by omega)) ⟨by decide, by decide⟩ rfl (Nat.le_of_ble_eq_true rfl) (fun v1 ws1 hv1 => ?_)
  obtain ⟨rfl, rfl⟩ := hv1
  refine zr_aload_n E (pc := 5) d_P_link_5 rfl ?_
  refine zr_iload_n E (pc := 6) d_P_link_6 rfl ?_
  refine zr_callV E (pc := 7) d_P_link_7 kc_P_91 rfl ki_P_refuseUnknownFact ke_P_refuseUnknownFact 0 rfl rfl (o_P_refuseUnknownFact l D t.1.1 hf (by omega)) ⟨by decide, by decide⟩ rfl (Nat.le_of_ble_eq_true rfl) (fun v1 ws1 hv1 => ?_)
  obtain ⟨rfl, rfl⟩ := hv1
  refine zr_iload_n E (pc := 10) d_P_link_10 rfl ?_
  refine zr_if_lt E (pc := 11) 19 d_P_link_11 (by decide) (fun h0 => ?_) (fun h0 => ?_)
  · exact absurd h0 (by decide)
  · refine zr_iload_n E (pc := 14) d_P_link_14 rfl ?_
    refine zr_iconst E (pc := 15) (v := (nI 3)) d_P_link_15 (by decide) ?_
    refine zr_nc_lt E (pc := 16) 29 d_P_link_16 (by decide) ((by decide)) ((by decide)) (fun hq => ?_) (fun hq => ?_)
    · refine zr_aload_n E (pc := 29) d_P_link_29 rfl ?_
      refine zr_get E (pc := 30) d_P_link_30 kf_P_12 0 rfl rfl ?_
      refine zr_get E (pc := 33) d_P_link_33 kf_P_96 1 rfl rfl ?_
      refine zr_iload_n E (pc := 36) d_P_link_36 rfl ?_
      refine zr_aald E (pc := 37) d_P_link_37 3 rfl (t0 := 2) rfl rfl (2) (rfl) (by decide) (by decide) rfl ?_
      refine zr_iload_n E (pc := 38) d_P_link_38 rfl ?_
      refine zr_iald E (pc := 39) d_P_link_39 6 rfl (t0 := 0) rfl (a) (rfl) ((by omega)) (by decide) ?_
      show Z (wd k q v r ex) _ 40 [.int (r (4 + 2) a)]
      rw [m1]
      refine zr_iload_n E (pc := 40) d_P_link_40 rfl ?_
      refine zr_callS E (pc := 41) d_P_link_41 kc_P_100 rfl ks_P_has (o_P_has l D _ _ m2 (show f < 32 by omega)) ⟨by decide, by decide⟩ rfl (Nat.le_of_ble_eq_true rfl) (fun v1 ws1 hv1 => ?_)
      obtain ⟨rfl, rfl⟩ := hv1
      refine zr_bf_eq E (pc := 44) 57 d_P_link_44 (by decide) (fun hb => ?_) (fun hb => ?_)
      · exact absurd hyes hb
      · exact th_throw T0 hl (pc := 47) (tx := "linked already") d_P_link_47 d_P_link_50 d_P_link_51 d_P_link_53 d_P_link_56 th_clS th_insS th_iniS (by decide) th_fitS th_fits th_atS (by decide)
    · omega
set_option maxRecDepth 100000 in
set_option maxHeartbeats 4000000 in
theorem e_P_holds (l : Launch) (hl : l.stackTraces = false) (D : va_G) (x : Int32) (t : tk_C v r nf na fi go co ne ad dr) (hx : x < 0 ∨ nI nf ≤ x) : th_Ct l D classes (wd_ty k) gd_T y_P_holds b_P_holds 2 (some .boolean) (th_rm 7) [.ref (q 0), .int x] (wd k q v r ex) th_I := by
  refine th_met gd_all (by decide) rfl (Nat.le_of_ble_eq_true rfl) (fun Z T0 => ?_)
  have E := T0.R
  show Z (wd k q v r ex) [some (.ref (q 0)), some (.int x)] 0 []
  refine zr_aload_n E (pc := 0) d_P_holds_0 rfl ?_
  refine zr_iload_n E (pc := 1) d_P_holds_1 rfl ?_
  exact th_pass T0 (pc := 2) d_P_holds_2 kc_P_91 (kl_91) rfl ki_P_refuseUnknownFact ke_P_refuseUnknownFact 0 rfl rfl (e_P_refuseUnknownFact l hl D x t.1.1 hx) ⟨by decide, by decide, by decide, by decide⟩ rfl (Nat.le_of_ble_eq_true rfl)
set_option maxRecDepth 100000 in
set_option maxHeartbeats 4000000 in
theorem e_P_level (l : Launch) (hl : l.stackTraces = false) (D : va_G) (x y : Int32) (t : tk_C v r nf na fi go co ne ad dr) (hx : x < 0 ∨ nI nf ≤ x) : th_Ct l D classes (wd_ty k) gd_T y_P_level b_P_level 3 (some .int) (th_rm 7) [.ref (q 0), .int x, .int y] (wd k q v r ex) th_I := by
  refine th_met gd_all (by decide) rfl (Nat.le_of_ble_eq_true rfl) (fun Z T0 => ?_)
  have E := T0.R
  show Z (wd k q v r ex) [some (.ref (q 0)), some (.int x), some (.int y)] 0 []
  refine zr_aload_n E (pc := 0) d_P_level_0 rfl ?_
  refine zr_iload_n E (pc := 1) d_P_level_1 rfl ?_
  exact th_pass T0 (pc := 2) d_P_level_2 kc_P_91 (kl_91) rfl ki_P_refuseUnknownFact ke_P_refuseUnknownFact 0 rfl rfl (e_P_refuseUnknownFact l hl D x t.1.1 hx) ⟨by decide, by decide, by decide, by decide⟩ rfl (Nat.le_of_ble_eq_true rfl)
set_option maxRecDepth 100000 in
set_option maxHeartbeats 4000000 in
theorem e_P_landmark (l : Launch) (hl : l.stackTraces = false) (D : va_G) (x : Int32) (t : tk_C v r nf na fi go co ne ad dr) (hx : x < 0 ∨ nI nf ≤ x) : th_Ct l D classes (wd_ty k) gd_T y_P_landmark b_P_landmark 2 (some .boolean) (th_rm 7) [.ref (q 0), .int x] (wd k q v r ex) th_I := by
  refine th_met gd_all (by decide) rfl (Nat.le_of_ble_eq_true rfl) (fun Z T0 => ?_)
  have E := T0.R
  show Z (wd k q v r ex) [some (.ref (q 0)), some (.int x)] 0 []
  refine zr_aload_n E (pc := 0) d_P_landmark_0 rfl ?_
  refine zr_iload_n E (pc := 1) d_P_landmark_1 rfl ?_
  exact th_pass T0 (pc := 2) d_P_landmark_2 kc_P_91 (kl_91) rfl ki_P_refuseUnknownFact ke_P_refuseUnknownFact 0 rfl rfl (e_P_refuseUnknownFact l hl D x t.1.1 hx) ⟨by decide, by decide, by decide, by decide⟩ rfl (Nat.le_of_ble_eq_true rfl)
set_option maxRecDepth 100000 in
set_option maxHeartbeats 4000000 in
theorem e_P_applicable (l : Launch) (hl : l.stackTraces = false) (D : va_G) (x : Int32) (t : tk_C v r nf na fi go co ne ad dr) (hx : x < 0 ∨ nI na ≤ x) : th_Ct l D classes (wd_ty k) gd_T y_P_applicable b_P_applicable 2 (some .boolean) (th_rm 7) [.ref (q 0), .int x] (wd k q v r ex) th_I := by
  refine th_met gd_all (by decide) rfl (Nat.le_of_ble_eq_true rfl) (fun Z T0 => ?_)
  have E := T0.R
  show Z (wd k q v r ex) [some (.ref (q 0)), some (.int x)] 0 []
  refine zr_aload_n E (pc := 0) d_P_applicable_0 rfl ?_
  refine zr_iload_n E (pc := 1) d_P_applicable_1 rfl ?_
  exact th_pass T0 (pc := 2) d_P_applicable_2 kc_P_88 (kl_88) rfl ki_P_refuseUnknownAction ke_P_refuseUnknownAction 0 rfl rfl (e_P_refuseUnknownAction l hl D x t.hna.1 hx) ⟨by decide, by decide, by decide, by decide⟩ rfl (Nat.le_of_ble_eq_true rfl)
set_option maxRecDepth 100000 in
set_option maxHeartbeats 4000000 in
theorem e_P_apply1 (l : Launch) (hl : l.stackTraces = false) (D : va_G) (x : Int32) (t : tk_C v r nf na fi go co ne ad dr) (hx : x < 0 ∨ nI na ≤ x) : th_Ct l D classes (wd_ty k) gd_T y_P_apply b_P_apply 2 (some .boolean) (th_rm 7) [.ref (q 0), .int x] (wd k q v r ex) th_I := by
  refine th_met gd_all (by decide) rfl (Nat.le_of_ble_eq_true rfl) (fun Z T0 => ?_)
  have E := T0.R
  show Z (wd k q v r ex) [some (.ref (q 0)), some (.int x)] 0 []
  refine zr_aload_n E (pc := 0) d_P_apply_0 rfl ?_
  refine zr_iload_n E (pc := 1) d_P_apply_1 rfl ?_
  exact th_pass T0 (pc := 2) d_P_apply_2 kc_P_88 (kl_88) rfl ki_P_refuseUnknownAction ke_P_refuseUnknownAction 0 rfl rfl (e_P_refuseUnknownAction l hl D x t.hna.1 hx) ⟨by decide, by decide, by decide, by decide⟩ rfl (Nat.le_of_ble_eq_true rfl)
set_option maxRecDepth 100000 in
set_option maxHeartbeats 4000000 in
theorem e_P_draft1 (l : Launch) (hl : l.stackTraces = false) (D : va_G) (x : Int32) (t : tk_C v r nf na fi go co ne ad dr) (hx : x < 0 ∨ nI na ≤ x) : th_Ct l D classes (wd_ty k) gd_T y_P_draft b_P_draft 2 (some .int) (th_rm 7) [.ref (q 0), .int x] (wd k q v r ex) th_I := by
  refine th_met gd_all (by decide) rfl (Nat.le_of_ble_eq_true rfl) (fun Z T0 => ?_)
  have E := T0.R
  show Z (wd k q v r ex) [some (.ref (q 0)), some (.int x)] 0 []
  refine zr_aload_n E (pc := 0) d_P_draft_0 rfl ?_
  refine zr_iload_n E (pc := 1) d_P_draft_1 rfl ?_
  exact th_pass T0 (pc := 2) d_P_draft_2 kc_P_88 (kl_88) rfl ki_P_refuseUnknownAction ke_P_refuseUnknownAction 0 rfl rfl (e_P_refuseUnknownAction l hl D x t.hna.1 hx) ⟨by decide, by decide, by decide, by decide⟩ rfl (Nat.le_of_ble_eq_true rfl)
set_option maxRecDepth 100000 in
set_option maxHeartbeats 4000000 in
theorem e_P_apply2 (l : Launch) (hl : l.stackTraces = false) (D : va_G) {a s : Nat} (t : tk_C v r nf na fi go co ne ad dr) (hs : v 9 = nI s) (ha : a < na) (hno : ¬ s &&& ne a = ne a) : th_Ct l D classes (wd_ty k) gd_T y_P_apply b_P_apply 2 (some .boolean) (th_rm 7) [.ref (q 0), .int (nI a)] (wd k q v r ex) th_S := by
  refine th_met gd_all (by decide) rfl (Nat.le_of_ble_eq_true rfl) (fun Z T0 => ?_)
  have E := T0.R
  have hna := t.hna.2
  show Z (wd k q v r ex) [some (.ref (q 0)), some (.int (nI a))] 0 []
  refine zr_aload_n E (pc := 0) d_P_apply_0 rfl ?_
  refine zr_iload_n E (pc := 1) d_P_apply_1 rfl ?_
  refine zr_callV E (pc := 2) d_P_apply_2 kc_P_88 rfl ki_P_refuseUnknownAction ke_P_refuseUnknownAction 0 rfl rfl (o_P_refuseUnknownAction l D t.hna.1 ha (by omega)) ⟨by decide, by decide⟩ rfl (Nat.le_of_ble_eq_true rfl) (fun v1 ws1 hv1 => ?_)
  obtain ⟨rfl, rfl⟩ := hv1
  refine zr_aload_n E (pc := 5) d_P_apply_5 rfl ?_
  refine zr_get E (pc := 6) d_P_apply_6 kf_P_12 0 rfl rfl ?_
  refine zr_iload_n E (pc := 9) d_P_apply_9 rfl ?_
  refine zr_aload_n E (pc := 10) d_P_apply_10 rfl ?_
  refine zr_get E (pc := 11) d_P_apply_11 kf_P_53 0 rfl rfl ?_
  rw [hs]
  refine zr_callV E (pc := 14) d_P_apply_14 kc_P_109 rfl ki_T_allows ke_T_allows 1 rfl rfl (o_T_allows l D (show a < 12 by omega) t.hne) ⟨by decide, by decide⟩ rfl (Nat.le_of_ble_eq_true rfl) (fun v1 ws1 hv1 => ?_)
  obtain ⟨rfl, rfl⟩ := hv1
  refine zr_bf_ne E (pc := 17) 30 d_P_apply_17 (by decide) (fun hb => ?_) (fun hb => ?_)
  · exact absurd hb hno
  · exact th_throw T0 hl (pc := 20) (tx := "not applicable") d_P_apply_20 d_P_apply_23 d_P_apply_24 d_P_apply_26 d_P_apply_29 th_clS th_insS th_iniS (by decide) th_fitS th_fits th_atS (by decide)
set_option maxRecDepth 100000 in
set_option maxHeartbeats 4000000 in
theorem e_P_draft2 (l : Launch) (hl : l.stackTraces = false) (D : va_G) {a : Nat} (t : tk_C v r nf na fi go co ne ad dr) (ha : a < na) (hv : v 6 = nI 24) : th_Ct l D classes (wd_ty k) gd_T y_P_draft b_P_draft 2 (some .int) (th_rm 7) [.ref (q 0), .int (nI a)] (wd k q v r ex) th_S := by
  refine th_met gd_all (by decide) rfl (Nat.le_of_ble_eq_true rfl) (fun Z T0 => ?_)
  have E := T0.R
  have hna := t.hna.2
  show Z (wd k q v r ex) [some (.ref (q 0)), some (.int (nI a))] 0 []
  refine zr_aload_n E (pc := 0) d_P_draft_0 rfl ?_
  refine zr_iload_n E (pc := 1) d_P_draft_1 rfl ?_
  refine zr_callV E (pc := 2) d_P_draft_2 kc_P_88 rfl ki_P_refuseUnknownAction ke_P_refuseUnknownAction 0 rfl rfl (o_P_refuseUnknownAction l D t.hna.1 ha (by omega)) ⟨by decide, by decide⟩ rfl (Nat.le_of_ble_eq_true rfl) (fun v1 ws1 hv1 => ?_)
  obtain ⟨rfl, rfl⟩ := hv1
  refine zr_aload_n E (pc := 5) d_P_draft_5 rfl ?_
  refine zr_get E (pc := 6) d_P_draft_6 kf_P_34 0 rfl rfl ?_
  refine zr_get E (pc := 9) d_P_draft_9 kf_P_136 14 rfl rfl ?_
  rw [hv]
  refine zr_bipush E (pc := 12) (v := (nI 24)) d_P_draft_12 (by decide) ?_
  refine zr_nc_lt E (pc := 14) 27 d_P_draft_14 (by decide) ((by decide)) ((by decide)) (fun hq => ?_) (fun hq => ?_)
  · omega
  · exact th_throw T0 hl (pc := 17) (tx := "the draft is full") d_P_draft_17 d_P_draft_20 d_P_draft_21 d_P_draft_23 d_P_draft_26 th_clS th_insS th_iniS (by decide) th_fitS th_fits th_atS (by decide)
set_option maxRecDepth 100000 in
set_option maxHeartbeats 4000000 in
theorem e_P_together (l : Launch) (hl : l.stackTraces = false) (D : va_G) (x y : Int32) (t : tk_C v r nf na fi go co ne ad dr) (hb : (x < 0 ∨ nI nf ≤ x) ∨ (y < 0 ∨ nI nf ≤ y)) : th_Ct l D classes (wd_ty k) gd_T y_P_together b_P_together 3 (some .boolean) (th_rm 7) [.ref (q 0), .int x, .int y] (wd k q v r ex) th_I := by
  refine th_met gd_all (by decide) rfl (Nat.le_of_ble_eq_true rfl) (fun Z T0 => ?_)
  have E := T0.R
  have hnf := t.2.2.1.1
  show Z (wd k q v r ex) [some (.ref (q 0)), some (.int x), some (.int y)] 0 []
  by_cases hx : x < 0 ∨ nI nf ≤ x
  · refine zr_aload_n E (pc := 0) d_P_together_0 rfl ?_
    refine zr_iload_n E (pc := 1) d_P_together_1 rfl ?_
    exact th_pass T0 (pc := 2) d_P_together_2 kc_P_91 (kl_91) rfl ki_P_refuseUnknownFact ke_P_refuseUnknownFact 0 rfl rfl (e_P_refuseUnknownFact l hl D x t.1.1 hx) ⟨by decide, by decide, by decide, by decide⟩ rfl (Nat.le_of_ble_eq_true rfl)
  · obtain ⟨a, ha, rfl⟩ : ∃ a : Nat, a < nf ∧ x = nI a := by
      rcases pk_ix x (n := nf) (by omega) with z | z | z
      · exact absurd (Or.inl z) hx
      · exact absurd (Or.inr z) hx
      · exact z
    have hy := hb.resolve_left hx
    refine zr_aload_n E (pc := 0) d_P_together_0 rfl ?_
    refine zr_iload_n E (pc := 1) d_P_together_1 rfl ?_
    refine zr_callV E (pc := 2) d_P_together_2 kc_P_91 rfl ki_P_refuseUnknownFact ke_P_refuseUnknownFact 0 rfl rfl (o_P_refuseUnknownFact l D t.1.1 ha (by omega)) ⟨by decide, by decide⟩ rfl (Nat.le_of_ble_eq_true rfl) (fun v1 ws1 hv1 => ?_)
    obtain ⟨rfl, rfl⟩ := hv1
    refine zr_aload_n E (pc := 5) d_P_together_5 rfl ?_
    refine zr_iload_n E (pc := 6) d_P_together_6 rfl ?_
    exact th_pass T0 (pc := 7) d_P_together_7 kc_P_91 (kl_91) rfl ki_P_refuseUnknownFact ke_P_refuseUnknownFact 0 rfl rfl (e_P_refuseUnknownFact l hl D y t.1.1 hy) ⟨by decide, by decide, by decide, by decide⟩ rfl (Nat.le_of_ble_eq_true rfl)
end TT
