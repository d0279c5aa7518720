/-! Contracts of the class's methods, where they don't refuse: the task's writes, and what each call answers and does. -/
section PB
variable {k : Nat → ClassId} {q : Nat → Nat} {v : Nat → Int32} {r : Nat → Nat → Int32} {ex : va_W} {nf na fi go : Nat} {co ne ad dr : Nat → Nat}
set_option maxRecDepth 100000 in
set_option maxHeartbeats 4000000 in
theorem c_T_newFact (l : Launch) (D : va_G) {b1 b2 : Bool} (t : tk_C v r nf na fi go co ne ad dr) : zd_Ct l D classes (wd_ty k) gd_T y_T_newFact b_T_newFact 4 (some .int) (zd_rm 0) [.ref (q 1), .int (nI (bm_b b1)), .int (nI (bm_b b2))] (wd k q v r ex)
    (fun v1 w1 => ∃ v2 : Nat → Int32, (∀ i, i ≠ 0 → i ≠ 2 → i ≠ 3 → v2 i = v i) ∧ v2 0 = nI (nf + 1) ∧ v2 2 = nI (if b1 = true then fi ||| 2 ^ nf else fi) ∧ v2 3 = nI (if b2 = true then go ||| 2 ^ nf else go) ∧ v1 = some (.int (nI nf)) ∧ w1 = wd k q v2 r ex) := by
  refine zd_met gd_all (by decide) rfl (Nat.le_of_ble_eq_true rfl) (fun Z E => ?_)
  show Z (wd k q v r ex) [some (.ref (q 1)), some (.int (nI (bm_b b1))), some (.int (nI (bm_b b2))), none] 0 []
  obtain ⟨⟨h0, h1, h2, h3⟩, -, ⟨hnf, -⟩, -⟩ := t
  have p3 : ∀ v2 : Nat → Int32, (∀ i, i ≠ 0 → i ≠ 2 → i ≠ 3 → v2 i = v i) → v2 0 = nI nf → v2 2 = nI (if b1 = true then fi ||| 2 ^ nf else fi) → v2 3 = nI (if b2 = true then go ||| 2 ^ nf else go) → Z (wd k q v2 r ex) [some (.ref (q 1)), some (.int (nI (bm_b b1))), some (.int (nI (bm_b b2))), some (.int (nI nf))] 37 [] := by
    intro v2 hf g0 g2 g3
    refine zd_aload_n E (pc := 37) d_T_newFact_37 rfl ?_
    refine zd_dup E (pc := 38) d_T_newFact_38 rfl ?_
    refine zd_get E (pc := 39) d_T_newFact_39 kf_T_20 1 rfl rfl ?_
    rw [g0]
    refine zd_iconst E (pc := 42) (v := (nI 1)) d_T_newFact_42 (by decide) ?_
    refine zd_iadd E (pc := 43) d_T_newFact_43 ?_
    rw [nI_add]
    refine zd_put E (pc := 44) d_T_newFact_44 kp_T_20 1 rfl (Nat.le_of_ble_eq_true rfl) (ws1 := wd k q (upd v2 0 (nI (nf + 1))) r ex) rfl ?_
    refine zd_iload_n E (pc := 47) d_T_newFact_47 rfl ?_
    exact zd_iret E (pc := 48) d_T_newFact_48 ⟨upd v2 0 (nI (nf + 1)), fun i a b c => by rw [pk_un a]; exact hf i a b c, pk_us, by rw [pk_un (by decide)]; exact g2, by rw [pk_un (by decide)]; exact g3, rfl, rfl⟩
  have p2 : ∀ v2 : Nat → Int32, (∀ i, i ≠ 0 → i ≠ 2 → i ≠ 3 → v2 i = v i) → v2 0 = nI nf → v2 2 = nI (if b1 = true then fi ||| 2 ^ nf else fi) → v2 3 = nI go → Z (wd k q v2 r ex) [some (.ref (q 1)), some (.int (nI (bm_b b1))), some (.int (nI (bm_b b2))), some (.int (nI nf))] 21 [] := by
    intro v2 hf g0 g2 g3
    refine zd_iload_n E (pc := 21) d_T_newFact_21 rfl ?_
    refine zd_bf_eq E (pc := 22) 37 d_T_newFact_22 (by decide) (fun hb => ?_) (fun hb => ?_)
    · exact p3 v2 hf g0 g2 (by rw [if_neg hb]; exact g3)
    · refine zd_aload_n E (pc := 25) d_T_newFact_25 rfl ?_
      refine zd_dup E (pc := 26) d_T_newFact_26 rfl ?_
      refine zd_get E (pc := 27) d_T_newFact_27 kf_T_27 1 rfl rfl ?_
      rw [g3]
      refine zd_iconst E (pc := 30) (v := (nI 1)) d_T_newFact_30 (by decide) ?_
      refine zd_iload_n E (pc := 31) d_T_newFact_31 rfl ?_
      refine zd_ishl E (pc := 32) d_T_newFact_32 ?_
      rw [bm_one (by omega)]
      refine zd_ior E (pc := 33) d_T_newFact_33 ?_
      rw [bm_or]
      refine zd_put E (pc := 34) d_T_newFact_34 kp_T_27 1 rfl (Nat.le_of_ble_eq_true rfl) (ws1 := wd k q (upd v2 3 (nI (go ||| 2 ^ nf))) r ex) rfl ?_
      exact p3 _ (fun i a b c => by rw [pk_un c]; exact hf i a b c) (by rw [pk_un (by decide)]; exact g0) (by rw [pk_un (by decide)]; exact g2) (by rw [pk_us, if_pos hb])
  refine zd_aload_n E (pc := 0) d_T_newFact_0 rfl ?_
  refine zd_get E (pc := 1) d_T_newFact_1 kf_T_20 1 rfl rfl ?_
  rw [h0]
  refine zd_istore_n E (pc := 4) d_T_newFact_4 (by decide) ?_
  refine zd_iload_n E (pc := 5) d_T_newFact_5 rfl ?_
  refine zd_bf_eq E (pc := 6) 21 d_T_newFact_6 (by decide) (fun hb => ?_) (fun hb => ?_)
  · exact p2 v (fun _ _ _ _ => rfl) h0 (by rw [if_neg hb]; exact h2) h3
  · refine zd_aload_n E (pc := 9) d_T_newFact_9 rfl ?_
    refine zd_dup E (pc := 10) d_T_newFact_10 rfl ?_
    refine zd_get E (pc := 11) d_T_newFact_11 kf_T_24 1 rfl rfl ?_
    rw [h2]
    refine zd_iconst E (pc := 14) (v := (nI 1)) d_T_newFact_14 (by decide) ?_
    refine zd_iload_n E (pc := 15) d_T_newFact_15 rfl ?_
    refine zd_ishl E (pc := 16) d_T_newFact_16 ?_
    rw [bm_one (by omega)]
    refine zd_ior E (pc := 17) d_T_newFact_17 ?_
    rw [bm_or]
    refine zd_put E (pc := 18) d_T_newFact_18 kp_T_24 1 rfl (Nat.le_of_ble_eq_true rfl) (ws1 := wd k q (upd v 2 (nI (fi ||| 2 ^ nf))) r ex) rfl ?_
    exact p2 _ (fun i a b c => pk_un b) (by rw [pk_un (by decide)]; exact h0) (by rw [pk_us, if_pos hb]) (by rw [pk_un (by decide)]; exact h3)
set_option maxRecDepth 100000 in
set_option maxHeartbeats 4000000 in
theorem c_T_newAction (l : Launch) (D : va_G) {p : Nat} (t : tk_C v r nf na fi go co ne ad dr) (hn : na < 12) : zd_Ct l D classes (wd_ty k) gd_T y_T_newAction b_T_newAction 3 (some .int) (zd_rm 0) [.ref (q 1), .int (nI p)] (wd k q v r ex) (zd_is (some (.int (nI na))) (wd k q (upd v 1 (nI (na + 1))) (va_up r 2 (upd (r 2) na (nI p))) ex)) := by
  refine zd_met gd_all (by decide) rfl (Nat.le_of_ble_eq_true rfl) (fun Z E => ?_)
  show Z (wd k q v r ex) [some (.ref (q 1)), some (.int (nI p)), none] 0 []
  have h1 := t.hna.1
  refine zd_aload_n E (pc := 0) d_T_newAction_0 rfl ?_
  refine zd_get E (pc := 1) d_T_newAction_1 kf_T_30 1 rfl rfl ?_
  rw [h1]
  refine zd_istore_n E (pc := 4) d_T_newAction_4 (by decide) ?_
  refine zd_aload_n E (pc := 5) d_T_newAction_5 rfl ?_
  refine zd_get E (pc := 6) d_T_newAction_6 kf_T_9 1 rfl rfl ?_
  refine zd_iload_n E (pc := 9) d_T_newAction_9 rfl ?_
  refine zd_iload_n E (pc := 10) d_T_newAction_10 rfl ?_
  refine zd_iast E (pc := 11) d_T_newAction_11 2 rfl (t0 := 0) rfl (na) (rfl) (hn) (by decide) (ws1 := wd k q v (va_up r 2 (upd (r 2) na (nI p))) ex) rfl ?_
  refine zd_aload_n E (pc := 12) d_T_newAction_12 rfl ?_
  refine zd_dup E (pc := 13) d_T_newAction_13 rfl ?_
  refine zd_get E (pc := 14) d_T_newAction_14 kf_T_30 1 rfl rfl ?_
  rw [h1]
  refine zd_iconst E (pc := 17) (v := (nI 1)) d_T_newAction_17 (by decide) ?_
  refine zd_iadd E (pc := 18) d_T_newAction_18 ?_
  rw [nI_add]
  refine zd_put E (pc := 19) d_T_newAction_19 kp_T_30 1 rfl (Nat.le_of_ble_eq_true rfl) (ws1 := wd k q (upd v 1 (nI (na + 1))) (va_up r 2 (upd (r 2) na (nI p))) ex) rfl ?_
  refine zd_iload_n E (pc := 22) d_T_newAction_22 rfl ?_
  exact zd_iret E (pc := 23) d_T_newAction_23 ⟨rfl, rfl⟩
set_option maxRecDepth 100000 in
set_option maxHeartbeats 4000000 in
theorem c_T_addersOf (l : Launch) (D : va_G) {f : Nat} (t : tk_C v r nf na fi go co ne ad dr) (hf : f < 32) : zd_Ct l D classes (wd_ty k) gd_T y_T_addersOf b_T_addersOf 4 (some .int) (zd_rm 1) [.ref (q 1), .int (nI f)] (wd k q v r ex) (zd_is (some (.int (nI (cu_mk (fun a => (ad a).testBit f) na)))) (wd k q v r ex)) := by
  refine zd_met gd_all (by decide) rfl (Nat.le_of_ble_eq_true rfl) (fun Z E => ?_)
  show Z (wd k q v r ex) [some (.ref (q 1)), some (.int (nI f)), none, none] 0 []
  have hna := t.hna.2
  have loop : ∀ (m a : Nat), a + m = na → Z (wd k q v r ex) [some (.ref (q 1)), some (.int (nI f)), some (.int (nI (cu_mk (fun a => (ad a).testBit f) a))), some (.int (nI a))] 4 [] := by
    intro m
    induction m with
    | zero =>
      intro a ha
      have e : a = na := by omega
      subst e
      refine zd_iload_n E (pc := 4) d_T_addersOf_4 rfl ?_
      refine zd_aload_n E (pc := 5) d_T_addersOf_5 rfl ?_
      refine zd_get E (pc := 6) d_T_addersOf_6 kf_T_30 1 rfl rfl ?_
      rw [t.hna.1]
      refine zd_nc_ge E (pc := 9) 39 d_T_addersOf_9 (by decide) ((by omega)) ((by omega)) (fun hq => ?_) (fun hq => ?_)
      · refine zd_iload_n E (pc := 39) d_T_addersOf_39 rfl ?_
        exact zd_iret E (pc := 40) d_T_addersOf_40 ⟨rfl, rfl⟩
      · omega
    | succ m ih =>
      intro a ha
      have ha12 : a < 12 := by omega
      obtain ⟨a1, a2⟩ := t.had a ha12
      have tail : ∀ x, x = cu_mk (fun a => (ad a).testBit f) (a + 1) → Z (wd k q v r ex) [some (.ref (q 1)), some (.int (nI f)), some (.int (nI x)), some (.int (nI a))] 33 [] := by
        intro x hx
        subst hx
        refine zd_iinc E (pc := 33) d_T_addersOf_33 rfl (bm_inc a) (by decide) ?_
        refine zd_goto E (pc := 36) 4 d_T_addersOf_36 (by decide) ?_
        exact ih (a + 1) (by omega)
      refine zd_iload_n E (pc := 4) d_T_addersOf_4 rfl ?_
      refine zd_aload_n E (pc := 5) d_T_addersOf_5 rfl ?_
      refine zd_get E (pc := 6) d_T_addersOf_6 kf_T_30 1 rfl rfl ?_
      rw [t.hna.1]
      refine zd_nc_ge E (pc := 9) 39 d_T_addersOf_9 (by decide) ((by omega)) ((by omega)) (fun hq => ?_) (fun hq => ?_)
      · omega
      · refine zd_aload_n E (pc := 12) d_T_addersOf_12 rfl ?_
        refine zd_get E (pc := 13) d_T_addersOf_13 kf_T_17 1 rfl rfl ?_
        refine zd_iconst E (pc := 16) (v := (nI 1)) d_T_addersOf_16 (by decide) ?_
        refine zd_aald E (pc := 17) d_T_addersOf_17 3 rfl (t0 := 2) rfl rfl (1) (rfl) (by decide) (by decide) rfl ?_
        refine zd_iload_n E (pc := 18) d_T_addersOf_18 rfl ?_
        refine zd_iald E (pc := 19) d_T_addersOf_19 5 rfl (t0 := 0) rfl (a) (rfl) (ha12) (by decide) ?_
        rw [a1]
        refine zd_iload_n E (pc := 20) d_T_addersOf_20 rfl ?_
        refine zd_callS E (pc := 21) d_T_addersOf_21 kc_T_37 rfl ks_P_has (c_P_has l D _ _ a2 hf) (by decide) rfl (Nat.le_of_ble_eq_true rfl) (fun v1 ws1 hv1 => ?_)
        obtain ⟨rfl, rfl⟩ := hv1
        refine zd_bf_eq E (pc := 24) 33 d_T_addersOf_24 (by decide) (fun hb => ?_) (fun hb => ?_)
        · exact tail _ (by rw [cu_mk, if_neg hb, Nat.or_zero])
        · refine zd_iload_n E (pc := 27) d_T_addersOf_27 rfl ?_
          refine zd_iconst E (pc := 28) (v := (nI 1)) d_T_addersOf_28 (by decide) ?_
          refine zd_iload_n E (pc := 29) d_T_addersOf_29 rfl ?_
          refine zd_ishl E (pc := 30) d_T_addersOf_30 ?_
          rw [bm_one (by omega)]
          refine zd_ior E (pc := 31) d_T_addersOf_31 ?_
          rw [bm_or]
          refine zd_istore_n E (pc := 32) d_T_addersOf_32 (by decide) ?_
          exact tail _ (by rw [cu_mk, if_pos hb])
  refine zd_iconst E (pc := 0) (v := (nI 0)) d_T_addersOf_0 (by decide) ?_
  refine zd_istore_n E (pc := 1) d_T_addersOf_1 (by decide) ?_
  refine zd_iconst E (pc := 2) (v := (nI 0)) d_T_addersOf_2 (by decide) ?_
  refine zd_istore_n E (pc := 3) d_T_addersOf_3 (by decide) ?_
  exact loop na 0 (by omega)
set_option maxRecDepth 100000 in
set_option maxHeartbeats 4000000 in
theorem c_P_startAnew (l : Launch) (D : va_G) : zd_Ct l D classes (wd_ty k) gd_T y_P_startAnew b_P_startAnew 1 none (zd_rm 1) [.ref (q 0)] (wd k q v r ex) (zd_is none (wd k q (upd (upd v 6 (nI 0)) 9 (v 2)) r ex)) := by
  refine zd_met gd_all (by decide) rfl (Nat.le_of_ble_eq_true rfl) (fun Z E => ?_)
  show Z (wd k q v r ex) [some (.ref (q 0))] 0 []
  refine zd_aload_n E (pc := 0) d_P_startAnew_0 rfl ?_
  refine zd_get E (pc := 1) d_P_startAnew_1 kf_P_34 0 rfl rfl ?_
  refine zd_callV E (pc := 4) d_P_startAnew_4 kc_P_125 rfl ki_R_empty ke_R_empty 14 rfl rfl (c_R_empty14 l D) (by decide) rfl (Nat.le_of_ble_eq_true rfl) (fun v1 ws1 hv1 => ?_)
  obtain ⟨rfl, rfl⟩ := hv1
  refine zd_aload_n E (pc := 7) d_P_startAnew_7 rfl ?_
  refine zd_aload_n E (pc := 8) d_P_startAnew_8 rfl ?_
  refine zd_get E (pc := 9) d_P_startAnew_9 kf_P_12 0 rfl rfl ?_
  refine zd_get E (pc := 12) d_P_startAnew_12 kf_P_106 1 rfl rfl ?_
  show Z (wd k q (upd v 6 (nI 0)) r ex) [some (.ref (q 0))] 15 [.int (v 2), .ref (q 0)]
  refine zd_put E (pc := 15) d_P_startAnew_15 kp_P_53 0 rfl (Nat.le_of_ble_eq_true rfl) (ws1 := wd k q (upd (upd v 6 (nI 0)) 9 (v 2)) r ex) rfl ?_
  exact zd_vret E (pc := 18) d_P_startAnew_18 ⟨rfl, rfl⟩
set_option maxRecDepth 100000 in
set_option maxHeartbeats 4000000 in
theorem c_P_refuseUnknownFact (l : Launch) (D : va_G) {x n : Nat} (hv : v (if "Fact" = "Fact" then 0 else 1) = nI n) (hx : x < n) (hn : n < 100) : zd_Ct l D classes (wd_ty k) gd_T y_P_refuseUnknownFact b_P_refuseUnknownFact 2 none (zd_rm 0) [.ref (q 0), .int (nI x)] (wd k q v r ex) (zd_is none (wd k q v r ex)) := by
  refine zd_met gd_all (by decide) rfl (Nat.le_of_ble_eq_true rfl) (fun Z E => ?_)
  show Z (wd k q v r ex) [some (.ref (q 0)), some (.int (nI x))] 0 []
  refine zd_iload_n E (pc := 0) d_P_refuseUnknownFact_0 rfl ?_
  refine zd_if_lt E (pc := 1) 15 d_P_refuseUnknownFact_1 (by decide) (fun h0 => ?_) (fun h0 => ?_)
  · exact absurd h0 (nI_pos (by omega))
  · refine zd_iload_n E (pc := 4) d_P_refuseUnknownFact_4 rfl ?_
    refine zd_aload_n E (pc := 5) d_P_refuseUnknownFact_5 rfl ?_
    refine zd_get E (pc := 6) d_P_refuseUnknownFact_6 kf_P_12 0 rfl rfl ?_
    refine zd_get E (pc := 9) d_P_refuseUnknownFact_9 kf_P_57 1 rfl rfl ?_
    show Z (wd k q v r ex) [some (.ref (q 0)), some (.int (nI x))] 12 [.int (v (if "Fact" = "Fact" then 0 else 1)), .int (nI x)]
    rw [hv]
    refine zd_nc_lt E (pc := 12) 25 d_P_refuseUnknownFact_12 (by decide) ((by omega)) ((by omega)) (fun hq => ?_) (fun hq => ?_)
    · exact zd_vret E (pc := 25) d_P_refuseUnknownFact_25 ⟨rfl, rfl⟩
    · omega
set_option maxRecDepth 100000 in
set_option maxHeartbeats 4000000 in
theorem c_P_refuseUnknownAction (l : Launch) (D : va_G) {x n : Nat} (hv : v (if "Action" = "Fact" then 0 else 1) = nI n) (hx : x < n) (hn : n < 100) : zd_Ct l D classes (wd_ty k) gd_T y_P_refuseUnknownAction b_P_refuseUnknownAction 2 none (zd_rm 0) [.ref (q 0), .int (nI x)] (wd k q v r ex) (zd_is none (wd k q v r ex)) := by
  refine zd_met gd_all (by decide) rfl (Nat.le_of_ble_eq_true rfl) (fun Z E => ?_)
  show Z (wd k q v r ex) [some (.ref (q 0)), some (.int (nI x))] 0 []
  refine zd_iload_n E (pc := 0) d_P_refuseUnknownAction_0 rfl ?_
  refine zd_if_lt E (pc := 1) 15 d_P_refuseUnknownAction_1 (by decide) (fun h0 => ?_) (fun h0 => ?_)
  · exact absurd h0 (nI_pos (by omega))
  · refine zd_iload_n E (pc := 4) d_P_refuseUnknownAction_4 rfl ?_
    refine zd_aload_n E (pc := 5) d_P_refuseUnknownAction_5 rfl ?_
    refine zd_get E (pc := 6) d_P_refuseUnknownAction_6 kf_P_12 0 rfl rfl ?_
    refine zd_get E (pc := 9) d_P_refuseUnknownAction_9 kf_P_79 1 rfl rfl ?_
    show Z (wd k q v r ex) [some (.ref (q 0)), some (.int (nI x))] 12 [.int (v (if "Action" = "Fact" then 0 else 1)), .int (nI x)]
    rw [hv]
    refine zd_nc_lt E (pc := 12) 25 d_P_refuseUnknownAction_12 (by decide) ((by omega)) ((by omega)) (fun hq => ?_) (fun hq => ?_)
    · exact zd_vret E (pc := 25) d_P_refuseUnknownAction_25 ⟨rfl, rfl⟩
    · omega
set_option maxRecDepth 100000 in
set_option maxHeartbeats 4000000 in
theorem c_P_fact (l : Launch) (D : va_G) {b1 b2 : Bool} (t : tk_C v r nf na fi go co ne ad dr) (hn : nf < 10) : zd_Ct l D classes (wd_ty k) gd_T y_P_fact b_P_fact 4 (some .int) (zd_rm 2) [.ref (q 0), .int (nI (bm_b b1)), .int (nI (bm_b b2))] (wd k q v r ex)
    (fun v1 w1 => ∃ v2 : Nat → Int32, (∀ i, i ≠ 0 → i ≠ 2 → i ≠ 3 → i ≠ 6 → i ≠ 9 → v2 i = v i) ∧ v2 0 = nI (nf + 1) ∧ v2 2 = nI (if b1 = true then fi ||| 2 ^ nf else fi) ∧ v2 3 = nI (if b2 = true then go ||| 2 ^ nf else go) ∧ v2 6 = nI 0 ∧ v2 9 = nI (if b1 = true then fi ||| 2 ^ nf else fi) ∧ v1 = some (.int (nI nf)) ∧ w1 = wd k q v2 r ex) := by
  refine zd_met gd_all (by decide) rfl (Nat.le_of_ble_eq_true rfl) (fun Z E => ?_)
  show Z (wd k q v r ex) [some (.ref (q 0)), some (.int (nI (bm_b b1))), some (.int (nI (bm_b b2))), none] 0 []
  have h0 := t.1.1
  refine zd_aload_n E (pc := 0) d_P_fact_0 rfl ?_
  refine zd_get E (pc := 1) d_P_fact_1 kf_P_12 0 rfl rfl ?_
  refine zd_get E (pc := 4) d_P_fact_4 kf_P_57 1 rfl rfl ?_
  rw [h0]
  refine zd_bipush E (pc := 7) (v := (nI 10)) d_P_fact_7 (by decide) ?_
  refine zd_nc_lt E (pc := 9) 22 d_P_fact_9 (by decide) ((by omega)) ((by omega)) (fun hq => ?_) (fun hq => ?_)
  · refine zd_aload_n E (pc := 22) d_P_fact_22 rfl ?_
    refine zd_get E (pc := 23) d_P_fact_23 kf_P_12 0 rfl rfl ?_
    refine zd_iload_n E (pc := 26) d_P_fact_26 rfl ?_
    refine zd_iload_n E (pc := 27) d_P_fact_27 rfl ?_
    refine zd_callV E (pc := 28) d_P_fact_28 kc_P_67 rfl ki_T_newFact ke_T_newFact 1 rfl rfl (c_T_newFact l D t) (by decide) rfl (Nat.le_of_ble_eq_true rfl) (fun v1 ws1 hv1 => ?_)
    obtain ⟨v2, hf, g0, g2, g3, rfl, rfl⟩ := hv1
    refine zd_istore_n E (pc := 31) d_P_fact_31 (by decide) ?_
    refine zd_aload_n E (pc := 32) d_P_fact_32 rfl ?_
    refine zd_callV E (pc := 33) d_P_fact_33 kc_P_71 rfl ki_P_startAnew ke_P_startAnew 0 rfl rfl (c_P_startAnew l D) (by decide) rfl (Nat.le_of_ble_eq_true rfl) (fun v1 ws1 hv1 => ?_)
    obtain ⟨rfl, rfl⟩ := hv1
    refine zd_iload_n E (pc := 36) d_P_fact_36 rfl ?_
    exact zd_iret E (pc := 37) d_P_fact_37 ⟨upd (upd v2 6 (nI 0)) 9 (v2 2), fun i a b c d e => by rw [pk_un e, pk_un d]; exact hf i a b c, by rw [pk_un (by decide), pk_un (by decide)]; exact g0, by rw [pk_un (by decide), pk_un (by decide)]; exact g2, by rw [pk_un (by decide), pk_un (by decide)]; exact g3, by rw [pk_un (by decide), pk_us], by rw [pk_us]; exact g2, rfl, rfl⟩
  · omega
set_option maxRecDepth 100000 in
set_option maxHeartbeats 4000000 in
theorem c_P_action (l : Launch) (D : va_G) {p : Nat} (t : tk_C v r nf na fi go co ne ad dr) (hn : na < 12) (hp1 : 1 ≤ p) (hp9 : p ≤ 9) : zd_Ct l D classes (wd_ty k) gd_T y_P_action b_P_action 3 (some .int) (zd_rm 2) [.ref (q 0), .int (nI p)] (wd k q v r ex)
    (zd_is (some (.int (nI na))) (wd k q (upd (upd (upd v 1 (nI (na + 1))) 6 (nI 0)) 9 (v 2)) (va_up r 2 (upd (r 2) na (nI p))) ex)) := by
  refine zd_met gd_all (by decide) rfl (Nat.le_of_ble_eq_true rfl) (fun Z E => ?_)
  show Z (wd k q v r ex) [some (.ref (q 0)), some (.int (nI p)), none] 0 []
  refine zd_iload_n E (pc := 0) d_P_action_0 rfl ?_
  refine zd_iconst E (pc := 1) (v := (nI 1)) d_P_action_1 (by decide) ?_
  refine zd_nc_lt E (pc := 2) 11 d_P_action_2 (by decide) ((by omega)) ((by omega)) (fun hq => ?_) (fun hq => ?_)
  · omega
  · refine zd_iload_n E (pc := 5) d_P_action_5 rfl ?_
    refine zd_bipush E (pc := 6) (v := (nI 9)) d_P_action_6 (by decide) ?_
    refine zd_nc_le E (pc := 8) 21 d_P_action_8 (by decide) ((by omega)) ((by omega)) (fun hq2 => ?_) (fun hq2 => ?_)
    · refine zd_aload_n E (pc := 21) d_P_action_21 rfl ?_
      refine zd_get E (pc := 22) d_P_action_22 kf_P_12 0 rfl rfl ?_
      refine zd_get E (pc := 25) d_P_action_25 kf_P_79 1 rfl rfl ?_
      rw [t.hna.1]
      refine zd_bipush E (pc := 28) (v := (nI 12)) d_P_action_28 (by decide) ?_
      refine zd_nc_lt E (pc := 30) 43 d_P_action_30 (by decide) ((by omega)) ((by omega)) (fun hq3 => ?_) (fun hq3 => ?_)
      · refine zd_aload_n E (pc := 43) d_P_action_43 rfl ?_
        refine zd_get E (pc := 44) d_P_action_44 kf_P_12 0 rfl rfl ?_
        refine zd_iload_n E (pc := 47) d_P_action_47 rfl ?_
        refine zd_callV E (pc := 48) d_P_action_48 kc_P_84 rfl ki_T_newAction ke_T_newAction 1 rfl rfl (c_T_newAction l D t hn) (by decide) rfl (Nat.le_of_ble_eq_true rfl) (fun v1 ws1 hv1 => ?_)
        obtain ⟨rfl, rfl⟩ := hv1
        refine zd_istore_n E (pc := 51) d_P_action_51 (by decide) ?_
        refine zd_aload_n E (pc := 52) d_P_action_52 rfl ?_
        refine zd_callV E (pc := 53) d_P_action_53 kc_P_71 rfl ki_P_startAnew ke_P_startAnew 0 rfl rfl (c_P_startAnew l D) (by decide) rfl (Nat.le_of_ble_eq_true rfl) (fun v1 ws1 hv1 => ?_)
        obtain ⟨rfl, rfl⟩ := hv1
        refine zd_iload_n E (pc := 56) d_P_action_56 rfl ?_
        exact zd_iret E (pc := 57) d_P_action_57 ⟨rfl, rfl⟩
      · omega
    · omega
set_option maxRecDepth 100000 in
set_option maxHeartbeats 4000000 in
theorem c_P_link0 (l : Launch) (D : va_G) {a f : Nat} {m : Nat → Nat} (t : tk_C v r nf na fi go co ne ad dr) (ha : a < na) (hf : f < nf) (hm : ∀ i, i < 12 → r (4 + 0) i = nI (m i) ∧ m i < 2 ^ 31) (hno : (m a).testBit f = false) : zd_Ct l D classes (wd_ty k) gd_T y_P_link b_P_link 4 none (zd_rm 2) [.ref (q 0), .int (nI 0), .int (nI a), .int (nI f)] (wd k q v r ex)
    (zd_is none (wd k q (upd (upd v 6 (nI 0)) 9 (v 2)) (va_up r (4 + 0) (upd (r (4 + 0)) a (nI (m a ||| 2 ^ f)))) ex)) := by
  refine zd_met gd_all (by decide) rfl (Nat.le_of_ble_eq_true rfl) (fun Z E => ?_)
  show Z (wd k q v r ex) [some (.ref (q 0)), some (.int (nI 0)), some (.int (nI a)), some (.int (nI f))] 0 []
  have hna := t.hna.2
  have hnf := t.2.2.1.1
  obtain ⟨m1, m2⟩ := hm a (by omega)
  refine zd_aload_n E (pc := 0) d_P_link_0 rfl ?_
  refine zd_iload_n E (pc := 1) d_P_link_1 rfl ?_
  refine zd_callV E (pc := 2) d_P_link_2 kc_P_88 rfl ki_P_refuseUnknownAction ke_P_refuseUnknownAction 0 rfl rfl (c_P_refuseUnknownAction l D t.hna.1 ha (by omega)) (by decide) rfl (Nat.le_of_ble_eq_true rfl) (fun v1 ws1 hv1 => ?_)
  obtain ⟨rfl, rfl⟩ := hv1
  refine zd_aload_n E (pc := 5) d_P_link_5 rfl ?_
  refine zd_iload_n E (pc := 6) d_P_link_6 rfl ?_
  refine zd_callV E (pc := 7) d_P_link_7 kc_P_91 rfl ki_P_refuseUnknownFact ke_P_refuseUnknownFact 0 rfl rfl (c_P_refuseUnknownFact l D t.1.1 hf (by omega)) (by decide) rfl (Nat.le_of_ble_eq_true rfl) (fun v1 ws1 hv1 => ?_)
  obtain ⟨rfl, rfl⟩ := hv1
  refine zd_iload_n E (pc := 10) d_P_link_10 rfl ?_
  refine zd_if_lt E (pc := 11) 19 d_P_link_11 (by decide) (fun h0 => ?_) (fun h0 => ?_)
  · exact absurd h0 (by decide)
  · refine zd_iload_n E (pc := 14) d_P_link_14 rfl ?_
    refine zd_iconst E (pc := 15) (v := (nI 3)) d_P_link_15 (by decide) ?_
    refine zd_nc_lt E (pc := 16) 29 d_P_link_16 (by decide) ((by decide)) ((by decide)) (fun hq => ?_) (fun hq => ?_)
    · refine zd_aload_n E (pc := 29) d_P_link_29 rfl ?_
      refine zd_get E (pc := 30) d_P_link_30 kf_P_12 0 rfl rfl ?_
      refine zd_get E (pc := 33) d_P_link_33 kf_P_96 1 rfl rfl ?_
      refine zd_iload_n E (pc := 36) d_P_link_36 rfl ?_
      refine zd_aald E (pc := 37) d_P_link_37 3 rfl (t0 := 2) rfl rfl (0) (rfl) (by decide) (by decide) rfl ?_
      refine zd_iload_n E (pc := 38) d_P_link_38 rfl ?_
      refine zd_iald E (pc := 39) d_P_link_39 4 rfl (t0 := 0) rfl (a) (rfl) ((by omega)) (by decide) ?_
      show Z (wd k q v r ex) _ 40 [.int (r (4 + 0) a)]
      rw [m1]
      refine zd_iload_n E (pc := 40) d_P_link_40 rfl ?_
      refine zd_callS E (pc := 41) d_P_link_41 kc_P_100 rfl ks_P_has (c_P_has l D _ _ m2 (show f < 32 by omega)) (by decide) rfl (Nat.le_of_ble_eq_true rfl) (fun v1 ws1 hv1 => ?_)
      obtain ⟨rfl, rfl⟩ := hv1
      refine zd_bf_eq E (pc := 44) 57 d_P_link_44 (by decide) (fun hb => ?_) (fun hb => ?_)
      · refine zd_aload_n E (pc := 57) d_P_link_57 rfl ?_
        refine zd_get E (pc := 58) d_P_link_58 kf_P_12 0 rfl rfl ?_
        refine zd_get E (pc := 61) d_P_link_61 kf_P_96 1 rfl rfl ?_
        refine zd_iload_n E (pc := 64) d_P_link_64 rfl ?_
        refine zd_aald E (pc := 65) d_P_link_65 3 rfl (t0 := 2) rfl rfl (0) (rfl) (by decide) (by decide) rfl ?_
        refine zd_iload_n E (pc := 66) d_P_link_66 rfl ?_
        refine zd_dup2 E (pc := 67) d_P_link_67 rfl rfl ?_
        refine zd_iald E (pc := 68) d_P_link_68 4 rfl (t0 := 0) rfl (a) (rfl) ((by omega)) (by decide) ?_
        show Z (wd k q v r ex) _ 69 [.int (r (4 + 0) a), .int (nI a), .ref (q (4 + 0))]
        rw [m1]
        refine zd_iconst E (pc := 69) (v := (nI 1)) d_P_link_69 (by decide) ?_
        refine zd_iload_n E (pc := 70) d_P_link_70 rfl ?_
        refine zd_ishl E (pc := 71) d_P_link_71 ?_
        rw [bm_one (by omega)]
        refine zd_ior E (pc := 72) d_P_link_72 ?_
        rw [bm_or]
        refine zd_iast E (pc := 73) d_P_link_73 4 rfl (t0 := 0) rfl (a) (rfl) ((by omega)) (by decide) (ws1 := wd k q v (va_up r (4 + 0) (upd (r (4 + 0)) a (nI (m a ||| 2 ^ f)))) ex) rfl ?_
        refine zd_aload_n E (pc := 74) d_P_link_74 rfl ?_
        refine zd_callV E (pc := 75) d_P_link_75 kc_P_71 rfl ki_P_startAnew ke_P_startAnew 0 rfl rfl (c_P_startAnew l D) (by decide) rfl (Nat.le_of_ble_eq_true rfl) (fun v1 ws1 hv1 => ?_)
        obtain ⟨rfl, rfl⟩ := hv1
        exact zd_vret E (pc := 78) d_P_link_78 ⟨rfl, rfl⟩
      · rw [hno] at hb; cases hb
    · omega
set_option maxRecDepth 100000 in
set_option maxHeartbeats 4000000 in
theorem c_P_link1 (l : Launch) (D : va_G) {a f : Nat} {m : Nat → Nat} (t : tk_C v r nf na fi go co ne ad dr) (ha : a < na) (hf : f < nf) (hm : ∀ i, i < 12 → r (4 + 1) i = nI (m i) ∧ m i < 2 ^ 31) (hno : (m a).testBit f = false) : zd_Ct l D classes (wd_ty k) gd_T y_P_link b_P_link 4 none (zd_rm 2) [.ref (q 0), .int (nI 1), .int (nI a), .int (nI f)] (wd k q v r ex)
    (zd_is none (wd k q (upd (upd v 6 (nI 0)) 9 (v 2)) (va_up r (4 + 1) (upd (r (4 + 1)) a (nI (m a ||| 2 ^ f)))) ex)) := by
  refine zd_met gd_all (by decide) rfl (Nat.le_of_ble_eq_true rfl) (fun Z E => ?_)
  show Z (wd k q v r ex) [some (.ref (q 0)), some (.int (nI 1)), some (.int (nI a)), some (.int (nI f))] 0 []
  have hna := t.hna.2
  have hnf := t.2.2.1.1
  obtain ⟨m1, m2⟩ := hm a (by omega)
  refine zd_aload_n E (pc := 0) d_P_link_0 rfl ?_
  refine zd_iload_n E (pc := 1) d_P_link_1 rfl ?_
  refine zd_callV E (pc := 2) d_P_link_2 kc_P_88 rfl ki_P_refuseUnknownAction ke_P_refuseUnknownAction 0 rfl rfl (c_P_refuseUnknownAction l D t.hna.1 ha (by omega)) (by decide) rfl (Nat.le_of_ble_eq_true rfl) (fun v1 ws1 hv1 => ?_)
  obtain ⟨rfl, rfl⟩ := hv1
  refine zd_aload_n E (pc := 5) d_P_link_5 rfl ?_
  refine zd_iload_n E (pc := 6) d_P_link_6 rfl ?_
  refine zd_callV E (pc := 7) d_P_link_7 kc_P_91 rfl ki_P_refuseUnknownFact ke_P_refuseUnknownFact 0 rfl rfl (c_P_refuseUnknownFact l D t.1.1 hf (by omega)) (by decide) rfl (Nat.le_of_ble_eq_true rfl) (fun v1 ws1 hv1 => ?_)
  obtain ⟨rfl, rfl⟩ := hv1
  refine zd_iload_n E (pc := 10) d_P_link_10 rfl ?_
  refine zd_if_lt E (pc := 11) 19 d_P_link_11 (by decide) (fun h0 => ?_) (fun h0 => ?_)
  · exact absurd h0 (by decide)
  · refine zd_iload_n E (pc := 14) d_P_link_14 rfl ?_
    refine zd_iconst E (pc := 15) (v := (nI 3)) d_P_link_15 (by decide) ?_
    refine zd_nc_lt E (pc := 16) 29 d_P_link_16 (by decide) ((by decide)) ((by decide)) (fun hq => ?_) (fun hq => ?_)
    · refine zd_aload_n E (pc := 29) d_P_link_29 rfl ?_
      refine zd_get E (pc := 30) d_P_link_30 kf_P_12 0 rfl rfl ?_
      refine zd_get E (pc := 33) d_P_link_33 kf_P_96 1 rfl rfl ?_
      refine zd_iload_n E (pc := 36) d_P_link_36 rfl ?_
      refine zd_aald E (pc := 37) d_P_link_37 3 rfl (t0 := 2) rfl rfl (1) (rfl) (by decide) (by decide) rfl ?_
      refine zd_iload_n E (pc := 38) d_P_link_38 rfl ?_
      refine zd_iald E (pc := 39) d_P_link_39 5 rfl (t0 := 0) rfl (a) (rfl) ((by omega)) (by decide) ?_
      show Z (wd k q v r ex) _ 40 [.int (r (4 + 1) a)]
      rw [m1]
      refine zd_iload_n E (pc := 40) d_P_link_40 rfl ?_
      refine zd_callS E (pc := 41) d_P_link_41 kc_P_100 rfl ks_P_has (c_P_has l D _ _ m2 (show f < 32 by omega)) (by decide) rfl (Nat.le_of_ble_eq_true rfl) (fun v1 ws1 hv1 => ?_)
      obtain ⟨rfl, rfl⟩ := hv1
      refine zd_bf_eq E (pc := 44) 57 d_P_link_44 (by decide) (fun hb => ?_) (fun hb => ?_)
      · refine zd_aload_n E (pc := 57) d_P_link_57 rfl ?_
        refine zd_get E (pc := 58) d_P_link_58 kf_P_12 0 rfl rfl ?_
        refine zd_get E (pc := 61) d_P_link_61 kf_P_96 1 rfl rfl ?_
        refine zd_iload_n E (pc := 64) d_P_link_64 rfl ?_
        refine zd_aald E (pc := 65) d_P_link_65 3 rfl (t0 := 2) rfl rfl (1) (rfl) (by decide) (by decide) rfl ?_
        refine zd_iload_n E (pc := 66) d_P_link_66 rfl ?_
        refine zd_dup2 E (pc := 67) d_P_link_67 rfl rfl ?_
        refine zd_iald E (pc := 68) d_P_link_68 5 rfl (t0 := 0) rfl (a) (rfl) ((by omega)) (by decide) ?_
        show Z (wd k q v r ex) _ 69 [.int (r (4 + 1) a), .int (nI a), .ref (q (4 + 1))]
        rw [m1]
        refine zd_iconst E (pc := 69) (v := (nI 1)) d_P_link_69 (by decide) ?_
        refine zd_iload_n E (pc := 70) d_P_link_70 rfl ?_
        refine zd_ishl E (pc := 71) d_P_link_71 ?_
        rw [bm_one (by omega)]
        refine zd_ior E (pc := 72) d_P_link_72 ?_
        rw [bm_or]
        refine zd_iast E (pc := 73) d_P_link_73 5 rfl (t0 := 0) rfl (a) (rfl) ((by omega)) (by decide) (ws1 := wd k q v (va_up r (4 + 1) (upd (r (4 + 1)) a (nI (m a ||| 2 ^ f)))) ex) rfl ?_
        refine zd_aload_n E (pc := 74) d_P_link_74 rfl ?_
        refine zd_callV E (pc := 75) d_P_link_75 kc_P_71 rfl ki_P_startAnew ke_P_startAnew 0 rfl rfl (c_P_startAnew l D) (by decide) rfl (Nat.le_of_ble_eq_true rfl) (fun v1 ws1 hv1 => ?_)
        obtain ⟨rfl, rfl⟩ := hv1
        exact zd_vret E (pc := 78) d_P_link_78 ⟨rfl, rfl⟩
      · rw [hno] at hb; cases hb
    · omega
set_option maxRecDepth 100000 in
set_option maxHeartbeats 4000000 in
theorem c_P_link2 (l : Launch) (D : va_G) {a f : Nat} {m : Nat → Nat} (t : tk_C v r nf na fi go co ne ad dr) (ha : a < na) (hf : f < nf) (hm : ∀ i, i < 12 → r (4 + 2) i = nI (m i) ∧ m i < 2 ^ 31) (hno : (m a).testBit f = false) : zd_Ct l D classes (wd_ty k) gd_T y_P_link b_P_link 4 none (zd_rm 2) [.ref (q 0), .int (nI 2), .int (nI a), .int (nI f)] (wd k q v r ex)
    (zd_is none (wd k q (upd (upd v 6 (nI 0)) 9 (v 2)) (va_up r (4 + 2) (upd (r (4 + 2)) a (nI (m a ||| 2 ^ f)))) ex)) := by
  refine zd_met gd_all (by decide) rfl (Nat.le_of_ble_eq_true rfl) (fun Z E => ?_)
  show Z (wd k q v r ex) [some (.ref (q 0)), some (.int (nI 2)), some (.int (nI a)), some (.int (nI f))] 0 []
  have hna := t.hna.2
  have hnf := t.2.2.1.1
  obtain ⟨m1, m2⟩ := hm a (by omega)
  refine zd_aload_n E (pc := 0) d_P_link_0 rfl ?_
  refine zd_iload_n E (pc := 1) d_P_link_1 rfl ?_
  refine zd_callV E (pc := 2) d_P_link_2 kc_P_88 rfl ki_P_refuseUnknownAction ke_P_refuseUnknownAction 0 rfl rfl (c_P_refuseUnknownAction l D t.hna.1 ha (by omega)) (by decide) rfl (Nat.le_of_ble_eq_true rfl) (fun v1 ws1 hv1 => ?_)
  obtain ⟨rfl, rfl⟩ := hv1
  refine zd_aload_n E (pc := 5) d_P_link_5 rfl ?_
  refine zd_iload_n E (pc := 6) d_P_link_6 rfl ?_
  refine zd_callV E (pc := 7) d_P_link_7 kc_P_91 rfl ki_P_refuseUnknownFact ke_P_refuseUnknownFact 0 rfl rfl (c_P_refuseUnknownFact l D t.1.1 hf (by omega)) (by decide) rfl (Nat.le_of_ble_eq_true rfl) (fun v1 ws1 hv1 => ?_)
  obtain ⟨rfl, rfl⟩ := hv1
  refine zd_iload_n E (pc := 10) d_P_link_10 rfl ?_
  refine zd_if_lt E (pc := 11) 19 d_P_link_11 (by decide) (fun h0 => ?_) (fun h0 => ?_)
  · exact absurd h0 (by decide)
  · refine zd_iload_n E (pc := 14) d_P_link_14 rfl ?_
    refine zd_iconst E (pc := 15) (v := (nI 3)) d_P_link_15 (by decide) ?_
    refine zd_nc_lt E (pc := 16) 29 d_P_link_16 (by decide) ((by decide)) ((by decide)) (fun hq => ?_) (fun hq => ?_)
    · refine zd_aload_n E (pc := 29) d_P_link_29 rfl ?_
      refine zd_get E (pc := 30) d_P_link_30 kf_P_12 0 rfl rfl ?_
      refine zd_get E (pc := 33) d_P_link_33 kf_P_96 1 rfl rfl ?_
      refine zd_iload_n E (pc := 36) d_P_link_36 rfl ?_
      refine zd_aald E (pc := 37) d_P_link_37 3 rfl (t0 := 2) rfl rfl (2) (rfl) (by decide) (by decide) rfl ?_
      refine zd_iload_n E (pc := 38) d_P_link_38 rfl ?_
      refine zd_iald E (pc := 39) d_P_link_39 6 rfl (t0 := 0) rfl (a) (rfl) ((by omega)) (by decide) ?_
      show Z (wd k q v r ex) _ 40 [.int (r (4 + 2) a)]
      rw [m1]
      refine zd_iload_n E (pc := 40) d_P_link_40 rfl ?_
      refine zd_callS E (pc := 41) d_P_link_41 kc_P_100 rfl ks_P_has (c_P_has l D _ _ m2 (show f < 32 by omega)) (by decide) rfl (Nat.le_of_ble_eq_true rfl) (fun v1 ws1 hv1 => ?_)
      obtain ⟨rfl, rfl⟩ := hv1
      refine zd_bf_eq E (pc := 44) 57 d_P_link_44 (by decide) (fun hb => ?_) (fun hb => ?_)
      · refine zd_aload_n E (pc := 57) d_P_link_57 rfl ?_
        refine zd_get E (pc := 58) d_P_link_58 kf_P_12 0 rfl rfl ?_
        refine zd_get E (pc := 61) d_P_link_61 kf_P_96 1 rfl rfl ?_
        refine zd_iload_n E (pc := 64) d_P_link_64 rfl ?_
        refine zd_aald E (pc := 65) d_P_link_65 3 rfl (t0 := 2) rfl rfl (2) (rfl) (by decide) (by decide) rfl ?_
        refine zd_iload_n E (pc := 66) d_P_link_66 rfl ?_
        refine zd_dup2 E (pc := 67) d_P_link_67 rfl rfl ?_
        refine zd_iald E (pc := 68) d_P_link_68 6 rfl (t0 := 0) rfl (a) (rfl) ((by omega)) (by decide) ?_
        show Z (wd k q v r ex) _ 69 [.int (r (4 + 2) a), .int (nI a), .ref (q (4 + 2))]
        rw [m1]
        refine zd_iconst E (pc := 69) (v := (nI 1)) d_P_link_69 (by decide) ?_
        refine zd_iload_n E (pc := 70) d_P_link_70 rfl ?_
        refine zd_ishl E (pc := 71) d_P_link_71 ?_
        rw [bm_one (by omega)]
        refine zd_ior E (pc := 72) d_P_link_72 ?_
        rw [bm_or]
        refine zd_iast E (pc := 73) d_P_link_73 6 rfl (t0 := 0) rfl (a) (rfl) ((by omega)) (by decide) (ws1 := wd k q v (va_up r (4 + 2) (upd (r (4 + 2)) a (nI (m a ||| 2 ^ f)))) ex) rfl ?_
        refine zd_aload_n E (pc := 74) d_P_link_74 rfl ?_
        refine zd_callV E (pc := 75) d_P_link_75 kc_P_71 rfl ki_P_startAnew ke_P_startAnew 0 rfl rfl (c_P_startAnew l D) (by decide) rfl (Nat.le_of_ble_eq_true rfl) (fun v1 ws1 hv1 => ?_)
        obtain ⟨rfl, rfl⟩ := hv1
        exact zd_vret E (pc := 78) d_P_link_78 ⟨rfl, rfl⟩
      · rw [hno] at hb; cases hb
    · omega
set_option maxRecDepth 100000 in
set_option maxHeartbeats 4000000 in
theorem c_P_reset (l : Launch) (D : va_G) : zd_Ct l D classes (wd_ty k) gd_T y_P_reset b_P_reset 1 none (zd_rm 0) [.ref (q 0)] (wd k q v r ex) (zd_is none (wd k q (upd v 9 (v 2)) r ex)) := by
  refine zd_met gd_all (by decide) rfl (Nat.le_of_ble_eq_true rfl) (fun Z E => ?_)
  show Z (wd k q v r ex) [some (.ref (q 0))] 0 []
  refine zd_aload_n E (pc := 0) d_P_reset_0 rfl ?_
  refine zd_aload_n E (pc := 1) d_P_reset_1 rfl ?_
  refine zd_get E (pc := 2) d_P_reset_2 kf_P_12 0 rfl rfl ?_
  refine zd_get E (pc := 5) d_P_reset_5 kf_P_106 1 rfl rfl ?_
  refine zd_put E (pc := 8) d_P_reset_8 kp_P_53 0 rfl (Nat.le_of_ble_eq_true rfl) (ws1 := wd k q (upd v 9 (v 2)) r ex) rfl ?_
  exact zd_vret E (pc := 11) d_P_reset_11 ⟨rfl, rfl⟩
set_option maxRecDepth 100000 in
set_option maxHeartbeats 4000000 in
theorem c_P_holds (l : Launch) (D : va_G) {f s : Nat} (t : tk_C v r nf na fi go co ne ad dr) (hs : v 9 = nI s) (hs2 : s < 1024) (hf : f < nf) : zd_Ct l D classes (wd_ty k) gd_T y_P_holds b_P_holds 2 (some .boolean) (zd_rm 1) [.ref (q 0), .int (nI f)] (wd k q v r ex) (zd_is (some (.int (nI (if s.testBit f = true then 1 else 0)))) (wd k q v r ex)) := by
  refine zd_met gd_all (by decide) rfl (Nat.le_of_ble_eq_true rfl) (fun Z E => ?_)
  show Z (wd k q v r ex) [some (.ref (q 0)), some (.int (nI f))] 0 []
  have hnf := t.2.2.1.1
  refine zd_aload_n E (pc := 0) d_P_holds_0 rfl ?_
  refine zd_iload_n E (pc := 1) d_P_holds_1 rfl ?_
  refine zd_callV E (pc := 2) d_P_holds_2 kc_P_91 rfl ki_P_refuseUnknownFact ke_P_refuseUnknownFact 0 rfl rfl (c_P_refuseUnknownFact l D t.1.1 hf (by omega)) (by decide) rfl (Nat.le_of_ble_eq_true rfl) (fun v1 ws1 hv1 => ?_)
  obtain ⟨rfl, rfl⟩ := hv1
  refine zd_aload_n E (pc := 5) d_P_holds_5 rfl ?_
  refine zd_get E (pc := 6) d_P_holds_6 kf_P_53 0 rfl rfl ?_
  rw [hs]
  refine zd_iload_n E (pc := 9) d_P_holds_9 rfl ?_
  refine zd_callS E (pc := 10) d_P_holds_10 kc_P_100 rfl ks_P_has (c_P_has l D _ _ (show s < 2 ^ 31 by omega) (show f < 32 by omega)) (by decide) rfl (Nat.le_of_ble_eq_true rfl) (fun v1 ws1 hv1 => ?_)
  obtain ⟨rfl, rfl⟩ := hv1
  exact zd_zret E (pc := 13) d_P_holds_13 (by split <;> decide) ⟨rfl, rfl⟩
set_option maxRecDepth 100000 in
set_option maxHeartbeats 4000000 in
theorem c_P_applicable (l : Launch) (D : va_G) {a s : Nat} (t : tk_C v r nf na fi go co ne ad dr) (hs : v 9 = nI s) (ha : a < na) : zd_Ct l D classes (wd_ty k) gd_T y_P_applicable b_P_applicable 2 (some .boolean) (zd_rm 2) [.ref (q 0), .int (nI a)] (wd k q v r ex) (zd_is (some (.int (nI (if s &&& ne a = ne a then 1 else 0)))) (wd k q v r ex)) := by
  refine zd_met gd_all (by decide) rfl (Nat.le_of_ble_eq_true rfl) (fun Z E => ?_)
  show Z (wd k q v r ex) [some (.ref (q 0)), some (.int (nI a))] 0 []
  have hna := t.hna.2
  refine zd_aload_n E (pc := 0) d_P_applicable_0 rfl ?_
  refine zd_iload_n E (pc := 1) d_P_applicable_1 rfl ?_
  refine zd_callV E (pc := 2) d_P_applicable_2 kc_P_88 rfl ki_P_refuseUnknownAction ke_P_refuseUnknownAction 0 rfl rfl (c_P_refuseUnknownAction l D t.hna.1 ha (by omega)) (by decide) rfl (Nat.le_of_ble_eq_true rfl) (fun v1 ws1 hv1 => ?_)
  obtain ⟨rfl, rfl⟩ := hv1
  refine zd_aload_n E (pc := 5) d_P_applicable_5 rfl ?_
  refine zd_get E (pc := 6) d_P_applicable_6 kf_P_12 0 rfl rfl ?_
  refine zd_iload_n E (pc := 9) d_P_applicable_9 rfl ?_
  refine zd_aload_n E (pc := 10) d_P_applicable_10 rfl ?_
  refine zd_get E (pc := 11) d_P_applicable_11 kf_P_53 0 rfl rfl ?_
  rw [hs]
  refine zd_callV E (pc := 14) d_P_applicable_14 kc_P_109 rfl ki_T_allows ke_T_allows 1 rfl rfl (c_T_allows l D (show a < 12 by omega) t.hne) (by decide) rfl (Nat.le_of_ble_eq_true rfl) (fun v1 ws1 hv1 => ?_)
  obtain ⟨rfl, rfl⟩ := hv1
  exact zd_zret E (pc := 17) d_P_applicable_17 (by split <;> decide) ⟨rfl, rfl⟩
set_option maxRecDepth 100000 in
set_option maxHeartbeats 4000000 in
theorem c_P_apply (l : Launch) (D : va_G) {a s : Nat} (t : tk_C v r nf na fi go co ne ad dr) (hs : v 9 = nI s) (ha : a < na) (hcan : s &&& ne a = ne a) : zd_Ct l D classes (wd_ty k) gd_T y_P_apply b_P_apply 2 (some .boolean) (zd_rm 2) [.ref (q 0), .int (nI a)] (wd k q v r ex) (zd_is (some (.int (nI (if tk_af ad dr a s &&& go = go then 1 else 0)))) (wd k q (upd v 9 (nI (tk_af ad dr a s))) r ex)) := by
  refine zd_met gd_all (by decide) rfl (Nat.le_of_ble_eq_true rfl) (fun Z E => ?_)
  show Z (wd k q v r ex) [some (.ref (q 0)), some (.int (nI a))] 0 []
  have hna := t.hna.2
  have ha12 : a < 12 := by omega
  refine zd_aload_n E (pc := 0) d_P_apply_0 rfl ?_
  refine zd_iload_n E (pc := 1) d_P_apply_1 rfl ?_
  refine zd_callV E (pc := 2) d_P_apply_2 kc_P_88 rfl ki_P_refuseUnknownAction ke_P_refuseUnknownAction 0 rfl rfl (c_P_refuseUnknownAction l D t.hna.1 ha (by omega)) (by decide) rfl (Nat.le_of_ble_eq_true rfl) (fun v1 ws1 hv1 => ?_)
  obtain ⟨rfl, rfl⟩ := hv1
  refine zd_aload_n E (pc := 5) d_P_apply_5 rfl ?_
  refine zd_get E (pc := 6) d_P_apply_6 kf_P_12 0 rfl rfl ?_
  refine zd_iload_n E (pc := 9) d_P_apply_9 rfl ?_
  refine zd_aload_n E (pc := 10) d_P_apply_10 rfl ?_
  refine zd_get E (pc := 11) d_P_apply_11 kf_P_53 0 rfl rfl ?_
  rw [hs]
  refine zd_callV E (pc := 14) d_P_apply_14 kc_P_109 rfl ki_T_allows ke_T_allows 1 rfl rfl (c_T_allows l D ha12 t.hne) (by decide) rfl (Nat.le_of_ble_eq_true rfl) (fun v1 ws1 hv1 => ?_)
  obtain ⟨rfl, rfl⟩ := hv1
  refine zd_bf_ne E (pc := 17) 30 d_P_apply_17 (by decide) (fun hb => ?_) (fun hb => ?_)
  · refine zd_aload_n E (pc := 30) d_P_apply_30 rfl ?_
    refine zd_aload_n E (pc := 31) d_P_apply_31 rfl ?_
    refine zd_get E (pc := 32) d_P_apply_32 kf_P_12 0 rfl rfl ?_
    refine zd_iload_n E (pc := 35) d_P_apply_35 rfl ?_
    refine zd_aload_n E (pc := 36) d_P_apply_36 rfl ?_
    refine zd_get E (pc := 37) d_P_apply_37 kf_P_53 0 rfl rfl ?_
    rw [hs]
    refine zd_callV E (pc := 40) d_P_apply_40 kc_P_114 rfl ki_T_after ke_T_after 1 rfl rfl (c_T_after l D ha12 t.had0 t.hdr0) (by decide) rfl (Nat.le_of_ble_eq_true rfl) (fun v1 ws1 hv1 => ?_)
    obtain ⟨rfl, rfl⟩ := hv1
    refine zd_put E (pc := 43) d_P_apply_43 kp_P_53 0 rfl (Nat.le_of_ble_eq_true rfl) (ws1 := wd k q (upd v 9 (nI (tk_af ad dr a s))) r ex) rfl ?_
    refine zd_aload_n E (pc := 46) d_P_apply_46 rfl ?_
    refine zd_get E (pc := 47) d_P_apply_47 kf_P_12 0 rfl rfl ?_
    refine zd_aload_n E (pc := 50) d_P_apply_50 rfl ?_
    refine zd_get E (pc := 51) d_P_apply_51 kf_P_53 0 rfl rfl ?_
    show Z (wd k q (upd v 9 (nI (tk_af ad dr a s))) r ex) _ 54 [.int (nI (tk_af ad dr a s)), .ref (q 1)]
    refine zd_callV E (pc := 54) d_P_apply_54 kc_P_118 rfl ki_T_isMet ke_T_isMet 1 rfl rfl (c_T_isMet l D (v := upd v 9 (nI (tk_af ad dr a s))) t.hgo.1 t.hgo.2) (by decide) rfl (Nat.le_of_ble_eq_true rfl) (fun v1 ws1 hv1 => ?_)
    obtain ⟨rfl, rfl⟩ := hv1
    exact zd_zret E (pc := 57) d_P_apply_57 (by split <;> decide) ⟨rfl, rfl⟩
  · exact absurd hcan hb
end PB
