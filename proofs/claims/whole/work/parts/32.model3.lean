/-! The reference: holds, applicable, apply, draft, check, cost. -/
section M3
variable {k : Nat → ClassId} {q : Nat → Nat} {v : Nat → Int32} {r : Nat → Nat → Int32} {ex : va_W} {nf na fi go : Nat} {co ne ad dr : Nat → Nat}
set_option maxRecDepth 100000 in
set_option maxHeartbeats 4000000 in
theorem c_M_holds (l : Launch) (D : va_G) {f s : Nat} (t : tk_M v r nf na fi go co ne ad dr) (hs : v 15 = nI s) (hs2 : s < 1024) (hf : f < nf) : zd_Ct l D classes (wd_ty k) gd_T y_M_holds b_M_holds 2 (some .boolean) (zd_rm 1) [.ref (q 22), .int (nI f)] (wd k q v r ex) (zd_is (some (.int (nI (if s.testBit f = true then 1 else 0)))) (wd k q (upd v 10 (nI 0)) r ex)) := by
  refine zd_met gd_all (by decide) rfl (Nat.le_of_ble_eq_true rfl) (fun Z E => ?_)
  show Z (wd k q v r ex) [some (.ref (q 22)), some (.int (nI f))] 0 []
  have hnf := t.2.2.1.1
  refine zd_aload_n E (pc := 0) d_M_holds_0 rfl ?_
  refine zd_aload_n E (pc := 1) d_M_holds_1 rfl ?_
  refine zd_iload_n E (pc := 2) d_M_holds_2 rfl ?_
  refine zd_callV E (pc := 3) d_M_holds_3 kc_M_73 rfl ki_M_noFact ke_M_noFact 22 rfl rfl (c_M_noFact l D _ t.1.1 (by omega)) (by decide) rfl (Nat.le_of_ble_eq_true rfl) (fun v1 ws1 hv1 => ?_)
  obtain ⟨b, hc, rfl, rfl⟩ := hv1
  refine zd_bf_eq E (pc := 6) 13 d_M_holds_6 (by decide) (fun h0 => ?_) (fun h0 => ?_)
  · refine zd_iconst E (pc := 13) (v := (nI 0)) d_M_holds_13 (by decide) ?_
    refine zd_put E (pc := 14) d_M_holds_14 kp_M_44 22 rfl (Nat.le_of_ble_eq_true rfl) (ws1 := wd k q (upd v 10 (nI 0)) r ex) rfl ?_
    refine zd_aload_n E (pc := 17) d_M_holds_17 rfl ?_
    refine zd_get E (pc := 18) d_M_holds_18 kf_M_44 22 rfl rfl ?_
    refine zd_if_ne E (pc := 21) 40 d_M_holds_21 (by decide) (fun h1 => ?_) (fun h1 => ?_)
    · exact absurd (show nI 0 = 0 by decide) h1
    · refine zd_aload_n E (pc := 24) d_M_holds_24 rfl ?_
      refine zd_get E (pc := 25) d_M_holds_25 kf_M_60 22 rfl rfl ?_
      show Z (wd k q (upd v 10 (nI 0)) r ex) _ 28 [.int (v 15)]
      rw [hs]
      refine zd_iload_n E (pc := 28) d_M_holds_28 rfl ?_
      refine zd_ishr E (pc := 29) d_M_holds_29 ?_
      refine zd_iconst E (pc := 30) (v := (nI 1)) d_M_holds_30 (by decide) ?_
      refine zd_iand E (pc := 31) d_M_holds_31 ?_
      rw [bm_has (show s < 2 ^ 31 by omega) (show f < 32 by omega)]
      refine zd_iconst E (pc := 32) (v := (nI 1)) d_M_holds_32 (by decide) ?_
      refine zd_ic_ne E (pc := 33) 40 d_M_holds_33 (by decide) (fun h2 => ?_) (fun h2 => ?_)
      · refine zd_iconst E (pc := 40) (v := (nI 0)) d_M_holds_40 (by decide) ?_
        exact zd_zret E (pc := 41) d_M_holds_41 (by decide) ⟨by
          by_cases z : s.testBit f = true
          · rw [if_pos z] at h2; exact absurd rfl h2
          · rw [if_neg z], rfl⟩
      · refine zd_iconst E (pc := 36) (v := (nI 1)) d_M_holds_36 (by decide) ?_
        refine zd_goto E (pc := 37) 41 d_M_holds_37 (by decide) ?_
        exact zd_zret E (pc := 41) d_M_holds_41 (by decide) ⟨by
          by_cases z : s.testBit f = true
          · rw [if_pos z]
          · rw [if_neg z] at h2; exact absurd (Classical.not_not.mp h2) (by decide), rfl⟩
  · rcases hc with ⟨z, -⟩ | ⟨-, z⟩
    · rw [z] at h0; cases h0
    · exact absurd rfl (bm_out z (by omega) hf)
set_option maxRecDepth 100000 in
set_option maxHeartbeats 4000000 in
theorem c_M_holds1 (l : Launch) (D : va_G) (x : Int32) (t : tk_M v r nf na fi go co ne ad dr) (hx : x < 0 ∨ nI (if "holds" = "holds" then nf else na) ≤ x) : zd_Ct l D classes (wd_ty k) gd_T y_M_holds b_M_holds 2 (some .boolean) (zd_rm 1) [.ref (q 22), .int x] (wd k q v r ex) (zd_is (some (.int (nI 0))) (wd k q (upd v 10 (nI 1)) r ex)) := by
  refine zd_met gd_all (by decide) rfl (Nat.le_of_ble_eq_true rfl) (fun Z E => ?_)
  show Z (wd k q v r ex) [some (.ref (q 22)), some (.int x)] 0 []
  have hnf := t.2.2.1.1
  have hna := t.hna.2
  refine zd_aload_n E (pc := 0) d_M_holds_0 rfl ?_
  refine zd_aload_n E (pc := 1) d_M_holds_1 rfl ?_
  refine zd_iload_n E (pc := 2) d_M_holds_2 rfl ?_
  refine zd_callV E (pc := 3) d_M_holds_3 kc_M_73 rfl ki_M_noFact ke_M_noFact 22 rfl rfl (c_M_noFact l D _ t.1.1 (by omega)) (by decide) rfl (Nat.le_of_ble_eq_true rfl) (fun v1 ws1 hv1 => ?_)
  obtain ⟨b, hc, rfl, rfl⟩ := hv1
  refine zd_bf_eq E (pc := 6) 13 d_M_holds_6 (by decide) (fun h0 => ?_) (fun h0 => ?_)
  · rcases hc with ⟨-, j, hj, rfl⟩ | ⟨z, -⟩
    · exact absurd rfl (bm_out (n := nf) hx (by omega) hj)
    · exact absurd z h0
  · refine zd_iconst E (pc := 9) (v := (nI 1)) d_M_holds_9 (by decide) ?_
    refine zd_goto E (pc := 10) 14 d_M_holds_10 (by decide) ?_
    refine zd_put E (pc := 14) d_M_holds_14 kp_M_44 22 rfl (Nat.le_of_ble_eq_true rfl) (ws1 := wd k q (upd v 10 (nI 1)) r ex) rfl ?_
    refine zd_aload_n E (pc := 17) d_M_holds_17 rfl ?_
    refine zd_get E (pc := 18) d_M_holds_18 kf_M_44 22 rfl rfl ?_
    refine zd_if_ne E (pc := 21) 40 d_M_holds_21 (by decide) (fun h1 => ?_) (fun h1 => ?_)
    · refine zd_iconst E (pc := 40) (v := (nI 0)) d_M_holds_40 (by decide) ?_
      exact zd_zret E (pc := 41) d_M_holds_41 (by decide) ⟨rfl, rfl⟩
    · exact absurd (Classical.not_not.mp h1) (show ¬ nI 1 = 0 by decide)
set_option maxRecDepth 100000 in
set_option maxHeartbeats 4000000 in
theorem c_M_applicable1 (l : Launch) (D : va_G) (x : Int32) (t : tk_M v r nf na fi go co ne ad dr) (hx : x < 0 ∨ nI (if "applicable" = "holds" then nf else na) ≤ x) : zd_Ct l D classes (wd_ty k) gd_T y_M_applicable b_M_applicable 2 (some .boolean) (zd_rm 1) [.ref (q 22), .int x] (wd k q v r ex) (zd_is (some (.int (nI 0))) (wd k q (upd v 10 (nI 1)) r ex)) := by
  refine zd_met gd_all (by decide) rfl (Nat.le_of_ble_eq_true rfl) (fun Z E => ?_)
  show Z (wd k q v r ex) [some (.ref (q 22)), some (.int x)] 0 []
  have hnf := t.2.2.1.1
  have hna := t.hna.2
  refine zd_aload_n E (pc := 0) d_M_applicable_0 rfl ?_
  refine zd_aload_n E (pc := 1) d_M_applicable_1 rfl ?_
  refine zd_iload_n E (pc := 2) d_M_applicable_2 rfl ?_
  refine zd_callV E (pc := 3) d_M_applicable_3 kc_M_69 rfl ki_M_noAction ke_M_noAction 22 rfl rfl (c_M_noAction l D _ t.hna.1 (by omega)) (by decide) rfl (Nat.le_of_ble_eq_true rfl) (fun v1 ws1 hv1 => ?_)
  obtain ⟨b, hc, rfl, rfl⟩ := hv1
  refine zd_bf_eq E (pc := 6) 13 d_M_applicable_6 (by decide) (fun h0 => ?_) (fun h0 => ?_)
  · rcases hc with ⟨-, j, hj, rfl⟩ | ⟨z, -⟩
    · exact absurd rfl (bm_out (n := na) hx (by omega) hj)
    · exact absurd z h0
  · refine zd_iconst E (pc := 9) (v := (nI 1)) d_M_applicable_9 (by decide) ?_
    refine zd_goto E (pc := 10) 14 d_M_applicable_10 (by decide) ?_
    refine zd_put E (pc := 14) d_M_applicable_14 kp_M_44 22 rfl (Nat.le_of_ble_eq_true rfl) (ws1 := wd k q (upd v 10 (nI 1)) r ex) rfl ?_
    refine zd_aload_n E (pc := 17) d_M_applicable_17 rfl ?_
    refine zd_get E (pc := 18) d_M_applicable_18 kf_M_44 22 rfl rfl ?_
    refine zd_if_ne E (pc := 21) 40 d_M_applicable_21 (by decide) (fun h1 => ?_) (fun h1 => ?_)
    · refine zd_iconst E (pc := 40) (v := (nI 0)) d_M_applicable_40 (by decide) ?_
      exact zd_zret E (pc := 41) d_M_applicable_41 (by decide) ⟨rfl, rfl⟩
    · exact absurd (Classical.not_not.mp h1) (show ¬ nI 1 = 0 by decide)
set_option maxRecDepth 100000 in
set_option maxHeartbeats 4000000 in
theorem c_M_applicable (l : Launch) (D : va_G) {a s : Nat} (t : tk_M v r nf na fi go co ne ad dr) (hs : v 15 = nI s) (ha : a < na) : zd_Ct l D classes (wd_ty k) gd_T y_M_applicable b_M_applicable 2 (some .boolean) (zd_rm 1) [.ref (q 22), .int (nI a)] (wd k q v r ex) (zd_is (some (.int (nI (bm_b (tk_can ne a s))))) (wd k q (upd v 10 (nI 0)) r ex)) := by
  refine zd_met gd_all (by decide) rfl (Nat.le_of_ble_eq_true rfl) (fun Z E => ?_)
  show Z (wd k q v r ex) [some (.ref (q 22)), some (.int (nI a))] 0 []
  have hna := t.hna.2
  refine zd_aload_n E (pc := 0) d_M_applicable_0 rfl ?_
  refine zd_aload_n E (pc := 1) d_M_applicable_1 rfl ?_
  refine zd_iload_n E (pc := 2) d_M_applicable_2 rfl ?_
  refine zd_callV E (pc := 3) d_M_applicable_3 kc_M_69 rfl ki_M_noAction ke_M_noAction 22 rfl rfl (c_M_noAction l D _ t.hna.1 (by omega)) (by decide) rfl (Nat.le_of_ble_eq_true rfl) (fun v1 ws1 hv1 => ?_)
  obtain ⟨b, hc, rfl, rfl⟩ := hv1
  refine zd_bf_eq E (pc := 6) 13 d_M_applicable_6 (by decide) (fun h0 => ?_) (fun h0 => ?_)
  · refine zd_iconst E (pc := 13) (v := (nI 0)) d_M_applicable_13 (by decide) ?_
    refine zd_put E (pc := 14) d_M_applicable_14 kp_M_44 22 rfl (Nat.le_of_ble_eq_true rfl) (ws1 := wd k q (upd v 10 (nI 0)) r ex) rfl ?_
    refine zd_aload_n E (pc := 17) d_M_applicable_17 rfl ?_
    refine zd_get E (pc := 18) d_M_applicable_18 kf_M_44 22 rfl rfl ?_
    refine zd_if_ne E (pc := 21) 40 d_M_applicable_21 (by decide) (fun h1 => ?_) (fun h1 => ?_)
    · exact absurd (show nI 0 = 0 by decide) h1
    · refine zd_aload_n E (pc := 24) d_M_applicable_24 rfl ?_
      refine zd_iload_n E (pc := 25) d_M_applicable_25 rfl ?_
      refine zd_aload_n E (pc := 26) d_M_applicable_26 rfl ?_
      refine zd_get E (pc := 27) d_M_applicable_27 kf_M_60 22 rfl rfl ?_
      show Z (wd k q (upd v 10 (nI 0)) r ex) _ 30 [.int (v 15), .int (nI a), .ref (q 22)]
      rw [hs]
      refine zd_callV E (pc := 30) d_M_applicable_30 kc_M_76 rfl ki_M_can ke_M_can 22 rfl rfl (c_M_can l D (v := upd v 10 (nI 0)) (tk_mfr t rfl rfl rfl rfl rfl rfl rfl rfl) (show a < 12 by omega)) (by decide) rfl (Nat.le_of_ble_eq_true rfl) (fun v1 ws1 hv1 => ?_)
      obtain ⟨rfl, rfl⟩ := hv1
      refine zd_bf_eq E (pc := 33) 40 d_M_applicable_33 (by decide) (fun h2 => ?_) (fun h2 => ?_)
      · refine zd_iconst E (pc := 40) (v := (nI 0)) d_M_applicable_40 (by decide) ?_
        exact zd_zret E (pc := 41) d_M_applicable_41 (by decide) ⟨by rw [ts_f h2]; rfl, rfl⟩
      · refine zd_iconst E (pc := 36) (v := (nI 1)) d_M_applicable_36 (by decide) ?_
        refine zd_goto E (pc := 37) 41 d_M_applicable_37 (by decide) ?_
        exact zd_zret E (pc := 41) d_M_applicable_41 (by decide) ⟨by rw [h2]; rfl, rfl⟩
  · rcases hc with ⟨z, -⟩ | ⟨-, z⟩
    · rw [z] at h0; cases h0
    · exact absurd rfl (bm_out z (by omega) ha)
set_option maxRecDepth 100000 in
set_option maxHeartbeats 4000000 in
theorem c_M_apply1 (l : Launch) (D : va_G) (x : Int32) (t : tk_M v r nf na fi go co ne ad dr) (hx : x < 0 ∨ nI na ≤ x) : zd_Ct l D classes (wd_ty k) gd_T y_M_apply b_M_apply 2 (some .boolean) (zd_rm 1) [.ref (q 22), .int x] (wd k q v r ex) (zd_is (some (.int (nI 0))) (wd k q (upd v 10 (nI 1)) r ex)) := by
  refine zd_met gd_all (by decide) rfl (Nat.le_of_ble_eq_true rfl) (fun Z E => ?_)
  show Z (wd k q v r ex) [some (.ref (q 22)), some (.int x)] 0 []
  have hna := t.hna.2
  refine zd_aload_n E (pc := 0) d_M_apply_0 rfl ?_
  refine zd_aload_n E (pc := 1) d_M_apply_1 rfl ?_
  refine zd_iload_n E (pc := 2) d_M_apply_2 rfl ?_
  refine zd_callV E (pc := 3) d_M_apply_3 kc_M_69 rfl ki_M_noAction ke_M_noAction 22 rfl rfl (c_M_noAction l D _ t.hna.1 (by omega)) (by decide) rfl (Nat.le_of_ble_eq_true rfl) (fun v1 ws1 hv1 => ?_)
  obtain ⟨b, hc, rfl, rfl⟩ := hv1
  refine zd_bf_eq E (pc := 6) 13 d_M_apply_6 (by decide) (fun h0 => ?_) (fun h0 => ?_)
  · rcases hc with ⟨-, j, hj, rfl⟩ | ⟨z, -⟩
    · exact absurd rfl (bm_out hx (by omega) hj)
    · exact absurd z h0
  · refine zd_iconst E (pc := 9) (v := (nI 1)) d_M_apply_9 (by decide) ?_
    refine zd_goto E (pc := 10) 30 d_M_apply_10 (by decide) ?_
    refine zd_put E (pc := 30) d_M_apply_30 kp_M_44 22 rfl (Nat.le_of_ble_eq_true rfl) (ws1 := wd k q (upd v 10 (nI 1)) r ex) rfl ?_
    refine zd_aload_n E (pc := 33) d_M_apply_33 rfl ?_
    refine zd_get E (pc := 34) d_M_apply_34 kf_M_44 22 rfl rfl ?_
    refine zd_if_le E (pc := 37) 42 d_M_apply_37 (by decide) (fun h1 => ?_) (fun h1 => ?_)
    · exact absurd h1 bm_1ne0
    · refine zd_iconst E (pc := 40) (v := (nI 0)) d_M_apply_40 (by decide) ?_
      exact zd_zret E (pc := 41) d_M_apply_41 (by decide) ⟨rfl, rfl⟩
set_option maxRecDepth 100000 in
set_option maxHeartbeats 4000000 in
theorem c_M_apply (l : Launch) (D : va_G) {a s : Nat} (t : tk_M v r nf na fi go co ne ad dr) (hs : v 15 = nI s) (ha : a < na) : zd_Ct l D classes (wd_ty k) gd_T y_M_apply b_M_apply 2 (some .boolean) (zd_rm 1) [.ref (q 22), .int (nI a)] (wd k q v r ex)
    (fun v1 w1 => (tk_can ne a s = false ∧ v1 = some (.int (nI 0)) ∧ w1 = wd k q (upd v 10 (nI 2)) r ex) ∨ (tk_can ne a s = true ∧ v1 = some (.int (nI (bm_b (tk_met go (tk_af ad dr a s))))) ∧ w1 = wd k q (upd (upd v 10 (nI 0)) 15 (nI (tk_af ad dr a s))) r ex)) := by
  refine zd_met gd_all (by decide) rfl (Nat.le_of_ble_eq_true rfl) (fun Z E => ?_)
  show Z (wd k q v r ex) [some (.ref (q 22)), some (.int (nI a))] 0 []
  have hna := t.hna.2
  have ha12 : a < 12 := by omega
  refine zd_aload_n E (pc := 0) d_M_apply_0 rfl ?_
  refine zd_aload_n E (pc := 1) d_M_apply_1 rfl ?_
  refine zd_iload_n E (pc := 2) d_M_apply_2 rfl ?_
  refine zd_callV E (pc := 3) d_M_apply_3 kc_M_69 rfl ki_M_noAction ke_M_noAction 22 rfl rfl (c_M_noAction l D _ t.hna.1 (by omega)) (by decide) rfl (Nat.le_of_ble_eq_true rfl) (fun v1 ws1 hv1 => ?_)
  obtain ⟨b, hc, rfl, rfl⟩ := hv1
  refine zd_bf_eq E (pc := 6) 13 d_M_apply_6 (by decide) (fun h0 => ?_) (fun h0 => ?_)
  · refine zd_aload_n E (pc := 13) d_M_apply_13 rfl ?_
    refine zd_iload_n E (pc := 14) d_M_apply_14 rfl ?_
    refine zd_aload_n E (pc := 15) d_M_apply_15 rfl ?_
    refine zd_get E (pc := 16) d_M_apply_16 kf_M_60 22 rfl rfl ?_
    rw [hs]
    refine zd_callV E (pc := 19) d_M_apply_19 kc_M_76 rfl ki_M_can ke_M_can 22 rfl rfl (c_M_can l D t ha12) (by decide) rfl (Nat.le_of_ble_eq_true rfl) (fun v1 ws1 hv1 => ?_)
    obtain ⟨rfl, rfl⟩ := hv1
    refine zd_bf_ne E (pc := 22) 29 d_M_apply_22 (by decide) (fun h2 => ?_) (fun h2 => ?_)
    · refine zd_iconst E (pc := 29) (v := (nI 0)) d_M_apply_29 (by decide) ?_
      refine zd_put E (pc := 30) d_M_apply_30 kp_M_44 22 rfl (Nat.le_of_ble_eq_true rfl) (ws1 := wd k q (upd v 10 (nI 0)) r ex) rfl ?_
      refine zd_aload_n E (pc := 33) d_M_apply_33 rfl ?_
      refine zd_get E (pc := 34) d_M_apply_34 kf_M_44 22 rfl rfl ?_
      refine zd_if_le E (pc := 37) 42 d_M_apply_37 (by decide) (fun h1 => ?_) (fun h1 => ?_)
      · refine zd_aload_n E (pc := 42) d_M_apply_42 rfl ?_
        refine zd_aload_n E (pc := 43) d_M_apply_43 rfl ?_
        refine zd_iload_n E (pc := 44) d_M_apply_44 rfl ?_
        refine zd_aload_n E (pc := 45) d_M_apply_45 rfl ?_
        refine zd_get E (pc := 46) d_M_apply_46 kf_M_60 22 rfl rfl ?_
        show Z (wd k q (upd v 10 (nI 0)) r ex) _ 49 [.int (v 15), .int (nI a), .ref (q 22), .ref (q 22)]
        rw [hs]
        refine zd_callV E (pc := 49) d_M_apply_49 kc_M_80 rfl ki_M_after ke_M_after 22 rfl rfl (c_M_after l D (v := upd v 10 (nI 0)) (tk_mfr t rfl rfl rfl rfl rfl rfl rfl rfl) ha12) (by decide) rfl (Nat.le_of_ble_eq_true rfl) (fun v1 ws1 hv1 => ?_)
        obtain ⟨rfl, rfl⟩ := hv1
        refine zd_put E (pc := 52) d_M_apply_52 kp_M_60 22 rfl (Nat.le_of_ble_eq_true rfl) (ws1 := wd k q (upd (upd v 10 (nI 0)) 15 (nI (tk_af ad dr a s))) r ex) rfl ?_
        refine zd_aload_n E (pc := 55) d_M_apply_55 rfl ?_
        refine zd_aload_n E (pc := 56) d_M_apply_56 rfl ?_
        refine zd_get E (pc := 57) d_M_apply_57 kf_M_60 22 rfl rfl ?_
        show Z (wd k q (upd (upd v 10 (nI 0)) 15 (nI (tk_af ad dr a s))) r ex) _ 60 [.int (nI (tk_af ad dr a s)), .ref (q 22)]
        refine zd_callV E (pc := 60) d_M_apply_60 kc_M_84 rfl ki_M_isMet ke_M_isMet 22 rfl rfl (c_M_isMet l D (v := upd (upd v 10 (nI 0)) 15 (nI (tk_af ad dr a s))) (tk_mfr t rfl rfl rfl rfl rfl rfl rfl rfl)) (by decide) rfl (Nat.le_of_ble_eq_true rfl) (fun v1 ws1 hv1 => ?_)
        obtain ⟨rfl, rfl⟩ := hv1
        exact zd_zret E (pc := 63) d_M_apply_63 (bm_zn _) (Or.inr ⟨h2, rfl, rfl⟩)
      · exact absurd (show nI 0 ≤ 0 by decide) h1
    · refine zd_iconst E (pc := 25) (v := (nI 2)) d_M_apply_25 (by decide) ?_
      refine zd_goto E (pc := 26) 30 d_M_apply_26 (by decide) ?_
      refine zd_put E (pc := 30) d_M_apply_30 kp_M_44 22 rfl (Nat.le_of_ble_eq_true rfl) (ws1 := wd k q (upd v 10 (nI 2)) r ex) rfl ?_
      refine zd_aload_n E (pc := 33) d_M_apply_33 rfl ?_
      refine zd_get E (pc := 34) d_M_apply_34 kf_M_44 22 rfl rfl ?_
      refine zd_if_le E (pc := 37) 42 d_M_apply_37 (by decide) (fun h1 => ?_) (fun h1 => ?_)
      · exact absurd h1 (show ¬ nI 2 ≤ 0 by decide)
      · refine zd_iconst E (pc := 40) (v := (nI 0)) d_M_apply_40 (by decide) ?_
        exact zd_zret E (pc := 41) d_M_apply_41 (by decide) (Or.inl ⟨ts_f h2, rfl, rfl⟩)
  · rcases hc with ⟨z, -⟩ | ⟨-, z⟩
    · rw [z] at h0; cases h0
    · exact absurd rfl (bm_out z (by omega) ha)
set_option maxRecDepth 100000 in
set_option maxHeartbeats 4000000 in
theorem c_M_draft1 (l : Launch) (D : va_G) (x : Int32) (t : tk_M v r nf na fi go co ne ad dr) (hx : x < 0 ∨ nI na ≤ x) : zd_Ct l D classes (wd_ty k) gd_T y_M_draft b_M_draft 2 (some .int) (zd_rm 1) [.ref (q 22), .int x] (wd k q v r ex) (zd_is (some (.int (nI 0))) (wd k q (upd v 10 (nI 1)) r ex)) := by
  refine zd_met gd_all (by decide) rfl (Nat.le_of_ble_eq_true rfl) (fun Z E => ?_)
  show Z (wd k q v r ex) [some (.ref (q 22)), some (.int x)] 0 []
  have hna := t.hna.2
  refine zd_aload_n E (pc := 0) d_M_draft_0 rfl ?_
  refine zd_aload_n E (pc := 1) d_M_draft_1 rfl ?_
  refine zd_iload_n E (pc := 2) d_M_draft_2 rfl ?_
  refine zd_callV E (pc := 3) d_M_draft_3 kc_M_69 rfl ki_M_noAction ke_M_noAction 22 rfl rfl (c_M_noAction l D _ t.hna.1 (by omega)) (by decide) rfl (Nat.le_of_ble_eq_true rfl) (fun v1 ws1 hv1 => ?_)
  obtain ⟨b, hc, rfl, rfl⟩ := hv1
  refine zd_bf_eq E (pc := 6) 13 d_M_draft_6 (by decide) (fun h0 => ?_) (fun h0 => ?_)
  · rcases hc with ⟨-, j, hj, rfl⟩ | ⟨z, -⟩
    · exact absurd rfl (bm_out hx (by omega) hj)
    · exact absurd z h0
  · refine zd_iconst E (pc := 9) (v := (nI 1)) d_M_draft_9 (by decide) ?_
    refine zd_goto E (pc := 10) 27 d_M_draft_10 (by decide) ?_
    refine zd_put E (pc := 27) d_M_draft_27 kp_M_44 22 rfl (Nat.le_of_ble_eq_true rfl) (ws1 := wd k q (upd v 10 (nI 1)) r ex) rfl ?_
    refine zd_aload_n E (pc := 30) d_M_draft_30 rfl ?_
    refine zd_get E (pc := 31) d_M_draft_31 kf_M_44 22 rfl rfl ?_
    refine zd_if_le E (pc := 34) 39 d_M_draft_34 (by decide) (fun h1 => ?_) (fun h1 => ?_)
    · exact absurd h1 bm_1ne0
    · refine zd_iconst E (pc := 37) (v := (nI 0)) d_M_draft_37 (by decide) ?_
      exact zd_iret E (pc := 38) d_M_draft_38 ⟨rfl, rfl⟩
set_option maxRecDepth 100000 in
set_option maxHeartbeats 4000000 in
theorem c_M_draft (l : Launch) (D : va_G) {a n : Nat} (t : tk_M v r nf na fi go co ne ad dr) (ha : a < na) (hv : v 17 = nI n) (hn : n ≤ 24) : zd_Ct l D classes (wd_ty k) gd_T y_M_draft b_M_draft 2 (some .int) (zd_rm 1) [.ref (q 22), .int (nI a)] (wd k q v r ex)
    (fun v1 w1 => (n = 24 ∧ v1 = some (.int (nI 0)) ∧ w1 = wd k q (upd v 10 (nI 2)) r ex) ∨ (n < 24 ∧ v1 = some (.int (nI (n + 1))) ∧ w1 = wd k q (upd (upd v 10 (nI 0)) 17 (nI (n + 1))) (va_up r 28 (upd (r 28) n (nI a))) ex)) := by
  refine zd_met gd_all (by decide) rfl (Nat.le_of_ble_eq_true rfl) (fun Z E => ?_)
  show Z (wd k q v r ex) [some (.ref (q 22)), some (.int (nI a))] 0 []
  have hna := t.hna.2
  refine zd_aload_n E (pc := 0) d_M_draft_0 rfl ?_
  refine zd_aload_n E (pc := 1) d_M_draft_1 rfl ?_
  refine zd_iload_n E (pc := 2) d_M_draft_2 rfl ?_
  refine zd_callV E (pc := 3) d_M_draft_3 kc_M_69 rfl ki_M_noAction ke_M_noAction 22 rfl rfl (c_M_noAction l D _ t.hna.1 (by omega)) (by decide) rfl (Nat.le_of_ble_eq_true rfl) (fun v1 ws1 hv1 => ?_)
  obtain ⟨b, hc, rfl, rfl⟩ := hv1
  refine zd_bf_eq E (pc := 6) 13 d_M_draft_6 (by decide) (fun h0 => ?_) (fun h0 => ?_)
  · refine zd_aload_n E (pc := 13) d_M_draft_13 rfl ?_
    refine zd_get E (pc := 14) d_M_draft_14 kf_M_54 22 rfl rfl ?_
    rw [hv]
    refine zd_bipush E (pc := 17) (v := (nI 24)) d_M_draft_17 (by decide) ?_
    refine zd_nc_ne E (pc := 19) 26 d_M_draft_19 (by decide) ((by omega)) ((by omega)) (fun hq => ?_) (fun hq => ?_)
    · refine zd_iconst E (pc := 26) (v := (nI 0)) d_M_draft_26 (by decide) ?_
      refine zd_put E (pc := 27) d_M_draft_27 kp_M_44 22 rfl (Nat.le_of_ble_eq_true rfl) (ws1 := wd k q (upd v 10 (nI 0)) r ex) rfl ?_
      refine zd_aload_n E (pc := 30) d_M_draft_30 rfl ?_
      refine zd_get E (pc := 31) d_M_draft_31 kf_M_44 22 rfl rfl ?_
      refine zd_if_le E (pc := 34) 39 d_M_draft_34 (by decide) (fun h1 => ?_) (fun h1 => ?_)
      · refine zd_aload_n E (pc := 39) d_M_draft_39 rfl ?_
        refine zd_get E (pc := 40) d_M_draft_40 kf_M_25 22 rfl rfl ?_
        refine zd_aload_n E (pc := 43) d_M_draft_43 rfl ?_
        refine zd_get E (pc := 44) d_M_draft_44 kf_M_54 22 rfl rfl ?_
        show Z (wd k q (upd v 10 (nI 0)) r ex) _ 47 [.int (v 17), .ref (q 28)]
        rw [hv]
        refine zd_iload_n E (pc := 47) d_M_draft_47 rfl ?_
        refine zd_iast E (pc := 48) d_M_draft_48 28 rfl (t0 := 0) rfl (n) (rfl) ((by omega)) (by decide) (ws1 := wd k q (upd v 10 (nI 0)) (va_up r 28 (upd (r 28) n (nI a))) ex) rfl ?_
        refine zd_aload_n E (pc := 49) d_M_draft_49 rfl ?_
        refine zd_dup E (pc := 50) d_M_draft_50 rfl ?_
        refine zd_get E (pc := 51) d_M_draft_51 kf_M_54 22 rfl rfl ?_
        show Z (wd k q (upd v 10 (nI 0)) (va_up r 28 (upd (r 28) n (nI a))) ex) _ 54 [.int (v 17), .ref (q 22)]
        rw [hv]
        refine zd_iconst E (pc := 54) (v := (nI 1)) d_M_draft_54 (by decide) ?_
        refine zd_iadd E (pc := 55) d_M_draft_55 ?_
        rw [nI_add]
        refine zd_put E (pc := 56) d_M_draft_56 kp_M_54 22 rfl (Nat.le_of_ble_eq_true rfl) (ws1 := wd k q (upd (upd v 10 (nI 0)) 17 (nI (n + 1))) (va_up r 28 (upd (r 28) n (nI a))) ex) rfl ?_
        refine zd_aload_n E (pc := 59) d_M_draft_59 rfl ?_
        refine zd_get E (pc := 60) d_M_draft_60 kf_M_54 22 rfl rfl ?_
        exact zd_iret E (pc := 63) d_M_draft_63 (Or.inr ⟨by omega, rfl, rfl⟩)
      · exact absurd (show nI 0 ≤ 0 by decide) h1
    · refine zd_iconst E (pc := 22) (v := (nI 2)) d_M_draft_22 (by decide) ?_
      refine zd_goto E (pc := 23) 27 d_M_draft_23 (by decide) ?_
      refine zd_put E (pc := 27) d_M_draft_27 kp_M_44 22 rfl (Nat.le_of_ble_eq_true rfl) (ws1 := wd k q (upd v 10 (nI 2)) r ex) rfl ?_
      refine zd_aload_n E (pc := 30) d_M_draft_30 rfl ?_
      refine zd_get E (pc := 31) d_M_draft_31 kf_M_44 22 rfl rfl ?_
      refine zd_if_le E (pc := 34) 39 d_M_draft_34 (by decide) (fun h1 => ?_) (fun h1 => ?_)
      · exact absurd h1 (show ¬ nI 2 ≤ 0 by decide)
      · refine zd_iconst E (pc := 37) (v := (nI 0)) d_M_draft_37 (by decide) ?_
        exact zd_iret E (pc := 38) d_M_draft_38 (Or.inl ⟨hq, rfl, rfl⟩)
  · rcases hc with ⟨z, -⟩ | ⟨-, z⟩
    · rw [z] at h0; cases h0
    · exact absurd rfl (bm_out z (by omega) ha)
set_option maxRecDepth 100000 in
set_option maxHeartbeats 4000000 in
theorem c_M_check (l : Launch) (D : va_G) {s n : Nat} {di : Nat → Nat} (t : tk_M v r nf na fi go co ne ad dr) (hs : v 15 = nI s) (hs2 : s < 1024) (hv : v 17 = nI n) (hn : n ≤ 24) (hd : ∀ j, j < n → r 28 j = nI (di j) ∧ di j < na) : zd_Ct l D classes (wd_ty k) gd_T y_M_check b_M_check 3 (some .int) (zd_rm 1) [.ref (q 22)] (wd k q v r ex) (zd_is (some (.int (tk_ck ne ad dr go di n n 0 s))) (wd k q (upd v 10 (nI 0)) r ex)) := by
  refine zd_met gd_all (by decide) rfl (Nat.le_of_ble_eq_true rfl) (fun Z E => ?_)
  show Z (wd k q v r ex) [some (.ref (q 22)), none, none] 0 []
  have hna := t.hna.2
  have t0 : tk_M (upd v 10 (nI 0)) r nf na fi go co ne ad dr := tk_mfr t rfl rfl rfl rfl rfl rfl rfl rfl
  have hv0 : upd v 10 (nI 0) 17 = nI n := hv
  have hs0 : upd v 10 (nI 0) 15 = nI s := hs
  generalize hvv : upd v 10 (nI 0) = v0 at t0 hv0 hs0 E
  have loop : ∀ (m i x : Nat), i + m = n → x < 1024 → tk_ck ne ad dr go di n n 0 s = tk_ck ne ad dr go di n m i x → Z (wd k q v0 r ex) [some (.ref (q 22)), some (.int (nI x)), some (.int (nI i))] 12 [] := by
    intro m
    induction m with
    | zero =>
      intro i x hi hx he
      refine zd_iload_n E (pc := 12) d_M_check_12 rfl ?_
      refine zd_aload_n E (pc := 13) d_M_check_13 rfl ?_
      refine zd_get E (pc := 14) d_M_check_14 kf_M_54 22 rfl rfl ?_
      rw [hv0]
      refine zd_nc_ge E (pc := 17) 54 d_M_check_17 (by decide) ((by omega)) ((by omega)) (fun hq => ?_) (fun hq => ?_)
      · refine zd_aload_n E (pc := 54) d_M_check_54 rfl ?_
        refine zd_iload_n E (pc := 55) d_M_check_55 rfl ?_
        refine zd_callV E (pc := 56) d_M_check_56 kc_M_84 rfl ki_M_isMet ke_M_isMet 22 rfl rfl (c_M_isMet l D t0) (by decide) rfl (Nat.le_of_ble_eq_true rfl) (fun v1 ws1 hv1 => ?_)
        obtain ⟨rfl, rfl⟩ := hv1
        refine zd_bf_eq E (pc := 59) 66 d_M_check_59 (by decide) (fun hb => ?_) (fun hb => ?_)
        · refine zd_aload_n E (pc := 66) d_M_check_66 rfl ?_
          refine zd_get E (pc := 67) d_M_check_67 kf_M_54 22 rfl rfl ?_
          rw [hv0]
          exact zd_iret E (pc := 70) d_M_check_70 ⟨by rw [he, tk_ck, if_neg (by simpa [tk_met] using hb)], rfl⟩
        · refine zd_iconst E (pc := 62) (v := (-1)) d_M_check_62 (by decide) ?_
          refine zd_goto E (pc := 63) 70 d_M_check_63 (by decide) ?_
          exact zd_iret E (pc := 70) d_M_check_70 ⟨by rw [he, tk_ck, if_pos (by simpa [tk_met] using hb)], rfl⟩
      · omega
    | succ m ih =>
      intro i x hi hx he
      obtain ⟨d1, d2⟩ := hd i (by omega)
      have ha12 : di i < 12 := by omega
      refine zd_iload_n E (pc := 12) d_M_check_12 rfl ?_
      refine zd_aload_n E (pc := 13) d_M_check_13 rfl ?_
      refine zd_get E (pc := 14) d_M_check_14 kf_M_54 22 rfl rfl ?_
      rw [hv0]
      refine zd_nc_ge E (pc := 17) 54 d_M_check_17 (by decide) ((by omega)) ((by omega)) (fun hq => ?_) (fun hq => ?_)
      · omega
      · refine zd_aload_n E (pc := 20) d_M_check_20 rfl ?_
        refine zd_aload_n E (pc := 21) d_M_check_21 rfl ?_
        refine zd_get E (pc := 22) d_M_check_22 kf_M_25 22 rfl rfl ?_
        refine zd_iload_n E (pc := 25) d_M_check_25 rfl ?_
        refine zd_iald E (pc := 26) d_M_check_26 28 rfl (t0 := 0) rfl (i) (rfl) ((by omega)) (by decide) ?_
        rw [d1]
        refine zd_iload_n E (pc := 27) d_M_check_27 rfl ?_
        refine zd_callV E (pc := 28) d_M_check_28 kc_M_76 rfl ki_M_can ke_M_can 22 rfl rfl (c_M_can l D t0 ha12) (by decide) rfl (Nat.le_of_ble_eq_true rfl) (fun v1 ws1 hv1 => ?_)
        obtain ⟨rfl, rfl⟩ := hv1
        refine zd_bf_ne E (pc := 31) 36 d_M_check_31 (by decide) (fun hb => ?_) (fun hb => ?_)
        · refine zd_aload_n E (pc := 36) d_M_check_36 rfl ?_
          refine zd_aload_n E (pc := 37) d_M_check_37 rfl ?_
          refine zd_get E (pc := 38) d_M_check_38 kf_M_25 22 rfl rfl ?_
          refine zd_iload_n E (pc := 41) d_M_check_41 rfl ?_
          refine zd_iald E (pc := 42) d_M_check_42 28 rfl (t0 := 0) rfl (i) (rfl) ((by omega)) (by decide) ?_
          rw [d1]
          refine zd_iload_n E (pc := 43) d_M_check_43 rfl ?_
          refine zd_callV E (pc := 44) d_M_check_44 kc_M_80 rfl ki_M_after ke_M_after 22 rfl rfl (c_M_after l D t0 ha12) (by decide) rfl (Nat.le_of_ble_eq_true rfl) (fun v1 ws1 hv1 => ?_)
          obtain ⟨rfl, rfl⟩ := hv1
          refine zd_istore_n E (pc := 47) d_M_check_47 (by decide) ?_
          refine zd_iinc E (pc := 48) d_M_check_48 rfl (bm_inc i) (by decide) ?_
          refine zd_goto E (pc := 51) 12 d_M_check_51 (by decide) ?_
          exact ih (i + 1) (tk_af ad dr (di i) x) (by omega) (t.haf ha12 hx) (by rw [he, tk_ck, if_pos (by simpa [tk_can] using hb)])
        · refine zd_iload_n E (pc := 34) d_M_check_34 rfl ?_
          exact zd_iret E (pc := 35) d_M_check_35 ⟨by rw [he, tk_ck, if_neg (by simpa [tk_can] using hb)], rfl⟩
  refine zd_aload_n E (pc := 0) d_M_check_0 rfl ?_
  refine zd_iconst E (pc := 1) (v := (nI 0)) d_M_check_1 (by decide) ?_
  refine zd_put E (pc := 2) d_M_check_2 kp_M_44 22 rfl (Nat.le_of_ble_eq_true rfl) (ws1 := wd k q (upd v 10 (nI 0)) r ex) rfl ?_
  rw [hvv]
  refine zd_aload_n E (pc := 5) d_M_check_5 rfl ?_
  refine zd_get E (pc := 6) d_M_check_6 kf_M_60 22 rfl rfl ?_
  rw [hs0]
  refine zd_istore_n E (pc := 9) d_M_check_9 (by decide) ?_
  refine zd_iconst E (pc := 10) (v := (nI 0)) d_M_check_10 (by decide) ?_
  refine zd_istore_n E (pc := 11) d_M_check_11 (by decide) ?_
  exact loop n 0 s (by omega) hs2 rfl
set_option maxRecDepth 100000 in
set_option maxHeartbeats 4000000 in
theorem c_M_cost (l : Launch) (D : va_G) {n : Nat} {di : Nat → Nat} (t : tk_M v r nf na fi go co ne ad dr) (hv : v 17 = nI n) (hn : n ≤ 24) (hd : ∀ j, j < n → r 28 j = nI (di j) ∧ di j < na) : zd_Ct l D classes (wd_ty k) gd_T y_M_cost b_M_cost 3 (some .int) (zd_rm 0) [.ref (q 22)] (wd k q v r ex) (zd_is (some (.int (nI (lm_sum (fun j => co (di j)) n)))) (wd k q (upd v 10 (nI 0)) r ex)) := by
  refine zd_met gd_all (by decide) rfl (Nat.le_of_ble_eq_true rfl) (fun Z E => ?_)
  show Z (wd k q v r ex) [some (.ref (q 22)), none, none] 0 []
  have hna := t.hna.2
  have loop : ∀ (m i : Nat), i + m = n → Z (wd k q (upd v 10 (nI 0)) r ex) [some (.ref (q 22)), some (.int (nI (lm_sum (fun j => co (di j)) i))), some (.int (nI i))] 9 [] := by
    intro m
    induction m with
    | zero =>
      intro i hi
      have e : i = n := by omega
      subst e
      refine zd_iload_n E (pc := 9) d_M_cost_9 rfl ?_
      refine zd_aload_n E (pc := 10) d_M_cost_10 rfl ?_
      refine zd_get E (pc := 11) d_M_cost_11 kf_M_54 22 rfl rfl ?_
      show Z (wd k q (upd v 10 (nI 0)) r ex) _ 14 [.int (v 17), .int (nI i)]
      rw [hv]
      refine zd_nc_ge E (pc := 14) 37 d_M_cost_14 (by decide) ((by omega)) ((by omega)) (fun hq => ?_) (fun hq => ?_)
      · refine zd_iload_n E (pc := 37) d_M_cost_37 rfl ?_
        exact zd_iret E (pc := 38) d_M_cost_38 ⟨rfl, rfl⟩
      · omega
    | succ m ih =>
      intro i hi
      obtain ⟨d1, d2⟩ := hd i (by omega)
      have c1 : r 23 (di i) = nI (co (di i)) := (t.hco (di i) (by omega)).1
      refine zd_iload_n E (pc := 9) d_M_cost_9 rfl ?_
      refine zd_aload_n E (pc := 10) d_M_cost_10 rfl ?_
      refine zd_get E (pc := 11) d_M_cost_11 kf_M_54 22 rfl rfl ?_
      show Z (wd k q (upd v 10 (nI 0)) r ex) _ 14 [.int (v 17), .int (nI i)]
      rw [hv]
      refine zd_nc_ge E (pc := 14) 37 d_M_cost_14 (by decide) ((by omega)) ((by omega)) (fun hq => ?_) (fun hq => ?_)
      · omega
      · refine zd_iload_n E (pc := 17) d_M_cost_17 rfl ?_
        refine zd_aload_n E (pc := 18) d_M_cost_18 rfl ?_
        refine zd_get E (pc := 19) d_M_cost_19 kf_M_7 22 rfl rfl ?_
        refine zd_aload_n E (pc := 22) d_M_cost_22 rfl ?_
        refine zd_get E (pc := 23) d_M_cost_23 kf_M_25 22 rfl rfl ?_
        refine zd_iload_n E (pc := 26) d_M_cost_26 rfl ?_
        refine zd_iald E (pc := 27) d_M_cost_27 28 rfl (t0 := 0) rfl (i) (rfl) ((by omega)) (by decide) ?_
        rw [d1]
        refine zd_iald E (pc := 28) d_M_cost_28 23 rfl (t0 := 0) rfl (di i) (rfl) ((by omega)) (by decide) ?_
        rw [c1]
        refine zd_iadd E (pc := 29) d_M_cost_29 ?_
        rw [nI_add]
        refine zd_istore_n E (pc := 30) d_M_cost_30 (by decide) ?_
        refine zd_iinc E (pc := 31) d_M_cost_31 rfl (bm_inc i) (by decide) ?_
        refine zd_goto E (pc := 34) 9 d_M_cost_34 (by decide) ?_
        exact ih (i + 1) (by omega)
  refine zd_aload_n E (pc := 0) d_M_cost_0 rfl ?_
  refine zd_iconst E (pc := 1) (v := (nI 0)) d_M_cost_1 (by decide) ?_
  refine zd_put E (pc := 2) d_M_cost_2 kp_M_44 22 rfl (Nat.le_of_ble_eq_true rfl) (ws1 := wd k q (upd v 10 (nI 0)) r ex) rfl ?_
  refine zd_iconst E (pc := 5) (v := (nI 0)) d_M_cost_5 (by decide) ?_
  refine zd_istore_n E (pc := 6) d_M_cost_6 (by decide) ?_
  refine zd_iconst E (pc := 7) (v := (nI 0)) d_M_cost_7 (by decide) ?_
  refine zd_istore_n E (pc := 8) d_M_cost_8 (by decide) ?_
  exact loop n 0 (by omega)
end M3
