/-! The reference: fact, action, link, holds, applicable, apply, draft, check, cost. -/
theorem bm_1ne0 : ¬ nI 1 ≤ 0 := by decide
/-- a number that is out of the places below n is none of them -/
theorem bm_out {x : Int32} {n j : Nat} (h : x < 0 ∨ nI n ≤ x) (hn : n < 100) (hj : j < n) : x ≠ nI j := by
  rintro rfl
  rcases h with h | h
  · exact nI_pos (by omega) h
  · have := (nI_leI (show n < 2 ^ 31 by omega) (show j < 2 ^ 31 by omega)).mp h
    omega
section M2
variable {k : Nat → ClassId} {q : Nat → Nat} {v : Nat → Int32} {r : Nat → Nat → Int32} {ex : va_W} {nf na fi go : Nat} {co ne ad dr : Nat → Nat}
set_option maxRecDepth 100000 in
set_option maxHeartbeats 4000000 in
theorem c_M_fact (l : Launch) (D : va_G) {b1 b2 : Bool} (t : tk_M v r nf na fi go co ne ad dr) (hn : nf < 10) : zd_Ct l D classes (wd_ty k) gd_T y_M_fact b_M_fact 4 (some .int) (zd_rm 1) [.ref (q 22), .int (nI (bm_b b1)), .int (nI (bm_b b2))] (wd k q v r ex)
    (fun v1 w1 => ∃ v2 : Nat → Int32, (∀ i, i ≠ 10 → i ≠ 11 → i ≠ 12 → i ≠ 13 → i ≠ 15 → i ≠ 17 → v2 i = v i) ∧ v2 10 = nI 0 ∧ v2 11 = nI (nf + 1) ∧ v2 12 = nI (if b1 = true then fi ||| 2 ^ nf else fi) ∧ v2 13 = nI (if b2 = true then go ||| 2 ^ nf else go) ∧ v2 17 = nI 0 ∧ v2 15 = nI (if b1 = true then fi ||| 2 ^ nf else fi) ∧ v1 = some (.int (nI nf)) ∧ w1 = wd k q v2 r ex) := by
  refine zd_met gd_all (by decide) rfl (Nat.le_of_ble_eq_true rfl) (fun Z E => ?_)
  show Z (wd k q v r ex) [some (.ref (q 22)), some (.int (nI (bm_b b1))), some (.int (nI (bm_b b2))), none] 0 []
  obtain ⟨⟨h0, h1, h2, h3⟩, -, ⟨hnf, -⟩, -⟩ := t
  have h0 : v 11 = nI nf := h0
  have h2 : v 12 = nI fi := h2
  have h3 : v 13 = nI go := h3
  have p3 : ∀ v2 : Nat → Int32, (∀ i, i ≠ 10 → i ≠ 12 → i ≠ 13 → v2 i = v i) → v2 10 = nI 0 → v2 12 = nI (if b1 = true then fi ||| 2 ^ nf else fi) → v2 13 = nI (if b2 = true then go ||| 2 ^ nf else go) → Z (wd k q v2 r ex) [some (.ref (q 22)), some (.int (nI (bm_b b1))), some (.int (nI (bm_b b2))), some (.int (nI (2 ^ nf)))] 76 [] := by
    intro v2 hf g10 g12 g13
    have g11 : v2 11 = nI nf := (hf 11 (by decide) (by decide) (by decide)).trans h0
    refine zd_aload_n E (pc := 76) d_M_fact_76 rfl ?_
    refine zd_dup E (pc := 77) d_M_fact_77 rfl ?_
    refine zd_get E (pc := 78) d_M_fact_78 kf_M_48 22 rfl rfl ?_
    rw [g11]
    refine zd_iconst E (pc := 81) (v := (nI 1)) d_M_fact_81 (by decide) ?_
    refine zd_iadd E (pc := 82) d_M_fact_82 ?_
    rw [nI_add]
    refine zd_put E (pc := 83) d_M_fact_83 kp_M_48 22 rfl (Nat.le_of_ble_eq_true rfl) (ws1 := wd k q (upd v2 11 (nI (nf + 1))) r ex) rfl ?_
    refine zd_aload_n E (pc := 86) d_M_fact_86 rfl ?_
    refine zd_callV E (pc := 87) d_M_fact_87 kc_M_66 rfl ki_M_changed ke_M_changed 22 rfl rfl (c_M_changed l D) (by decide) rfl (Nat.le_of_ble_eq_true rfl) (fun v1 ws1 hv1 => ?_)
    obtain ⟨rfl, rfl⟩ := hv1
    refine zd_aload_n E (pc := 90) d_M_fact_90 rfl ?_
    refine zd_get E (pc := 91) d_M_fact_91 kf_M_48 22 rfl rfl ?_
    show Z (wd k q (upd (upd (upd v2 11 (nI (nf + 1))) 17 (nI 0)) 15 (v2 12)) r ex) _ 94 [.int (nI (nf + 1))]
    refine zd_iconst E (pc := 94) (v := (nI 1)) d_M_fact_94 (by decide) ?_
    refine zd_isub E (pc := 95) d_M_fact_95 ?_
    rw [pk_sub (by omega)]
    exact zd_iret E (pc := 96) d_M_fact_96 ⟨upd (upd (upd v2 11 (nI (nf + 1))) 17 (nI 0)) 15 (v2 12), fun i a b c d e f => by rw [pk_un e, pk_un f, pk_un b]; exact hf i a c d, g10, rfl, g12, g13, rfl, g12, rfl, rfl⟩
  have p2 : ∀ v2 : Nat → Int32, (∀ i, i ≠ 10 → i ≠ 12 → i ≠ 13 → v2 i = v i) → v2 10 = nI 0 → v2 12 = nI (if b1 = true then fi ||| 2 ^ nf else fi) → v2 13 = nI go → Z (wd k q v2 r ex) [some (.ref (q 22)), some (.int (nI (bm_b b1))), some (.int (nI (bm_b b2))), some (.int (nI (2 ^ nf)))] 55 [] := by
    intro v2 hf g10 g12 g13
    refine zd_aload_n E (pc := 55) d_M_fact_55 rfl ?_
    refine zd_iload_n E (pc := 56) d_M_fact_56 rfl ?_
    refine zd_bf_eq E (pc := 57) 69 d_M_fact_57 (by decide) (fun hb => ?_) (fun hb => ?_)
    · refine zd_aload_n E (pc := 69) d_M_fact_69 rfl ?_
      refine zd_get E (pc := 70) d_M_fact_70 kf_M_63 22 rfl rfl ?_
      rw [g13]
      refine zd_put E (pc := 73) d_M_fact_73 kp_M_63 22 rfl (Nat.le_of_ble_eq_true rfl) (ws1 := wd k q (upd v2 13 (nI go)) r ex) rfl ?_
      exact p3 _ (fun i a b c => by rw [pk_un c]; exact hf i a b c) g10 g12 (by rw [pk_us, if_neg hb])
    · refine zd_aload_n E (pc := 60) d_M_fact_60 rfl ?_
      refine zd_get E (pc := 61) d_M_fact_61 kf_M_63 22 rfl rfl ?_
      rw [g13]
      refine zd_iload_n E (pc := 64) d_M_fact_64 rfl ?_
      refine zd_ior E (pc := 65) d_M_fact_65 ?_
      rw [bm_or]
      refine zd_goto E (pc := 66) 73 d_M_fact_66 (by decide) ?_
      refine zd_put E (pc := 73) d_M_fact_73 kp_M_63 22 rfl (Nat.le_of_ble_eq_true rfl) (ws1 := wd k q (upd v2 13 (nI (go ||| 2 ^ nf))) r ex) rfl ?_
      exact p3 _ (fun i a b c => by rw [pk_un c]; exact hf i a b c) g10 g12 (by rw [pk_us, if_pos hb])
  have f0 : ∀ i, i ≠ 10 → upd v 10 (nI 0) i = v i := fun i hi => pk_un hi
  refine zd_aload_n E (pc := 0) d_M_fact_0 rfl ?_
  refine zd_aload_n E (pc := 1) d_M_fact_1 rfl ?_
  refine zd_get E (pc := 2) d_M_fact_2 kf_M_48 22 rfl rfl ?_
  rw [h0]
  refine zd_bipush E (pc := 5) (v := (nI 10)) d_M_fact_5 (by decide) ?_
  refine zd_nc_ne E (pc := 7) 14 d_M_fact_7 (by decide) ((by omega)) ((by omega)) (fun hq => ?_) (fun hq => ?_)
  · refine zd_iconst E (pc := 14) (v := (nI 0)) d_M_fact_14 (by decide) ?_
    refine zd_put E (pc := 15) d_M_fact_15 kp_M_44 22 rfl (Nat.le_of_ble_eq_true rfl) (ws1 := wd k q (upd v 10 (nI 0)) r ex) rfl ?_
    refine zd_aload_n E (pc := 18) d_M_fact_18 rfl ?_
    refine zd_get E (pc := 19) d_M_fact_19 kf_M_44 22 rfl rfl ?_
    refine zd_if_le E (pc := 22) 27 d_M_fact_22 (by decide) (fun hc => ?_) (fun hc => ?_)
    · refine zd_iconst E (pc := 27) (v := (nI 1)) d_M_fact_27 (by decide) ?_
      refine zd_aload_n E (pc := 28) d_M_fact_28 rfl ?_
      refine zd_get E (pc := 29) d_M_fact_29 kf_M_48 22 rfl rfl ?_
      show Z (wd k q (upd v 10 (nI 0)) r ex) _ 32 [.int (v 11), .int (nI 1)]
      rw [h0]
      refine zd_ishl E (pc := 32) d_M_fact_32 ?_
      rw [bm_one (by omega)]
      refine zd_istore_n E (pc := 33) d_M_fact_33 (by decide) ?_
      refine zd_aload_n E (pc := 34) d_M_fact_34 rfl ?_
      refine zd_iload_n E (pc := 35) d_M_fact_35 rfl ?_
      refine zd_bf_eq E (pc := 36) 48 d_M_fact_36 (by decide) (fun hb => ?_) (fun hb => ?_)
      · refine zd_aload_n E (pc := 48) d_M_fact_48 rfl ?_
        refine zd_get E (pc := 49) d_M_fact_49 kf_M_57 22 rfl rfl ?_
        show Z (wd k q (upd v 10 (nI 0)) r ex) _ 52 [.int (v 12), .ref (q 22)]
        rw [h2]
        refine zd_put E (pc := 52) d_M_fact_52 kp_M_57 22 rfl (Nat.le_of_ble_eq_true rfl) (ws1 := wd k q (upd (upd v 10 (nI 0)) 12 (nI fi)) r ex) rfl ?_
        exact p2 _ (fun i a b c => by rw [pk_un b, pk_un a]) rfl (by rw [pk_us, if_neg hb]) h3
      · refine zd_aload_n E (pc := 39) d_M_fact_39 rfl ?_
        refine zd_get E (pc := 40) d_M_fact_40 kf_M_57 22 rfl rfl ?_
        show Z (wd k q (upd v 10 (nI 0)) r ex) _ 43 [.int (v 12), .ref (q 22)]
        rw [h2]
        refine zd_iload_n E (pc := 43) d_M_fact_43 rfl ?_
        refine zd_ior E (pc := 44) d_M_fact_44 ?_
        rw [bm_or]
        refine zd_goto E (pc := 45) 52 d_M_fact_45 (by decide) ?_
        refine zd_put E (pc := 52) d_M_fact_52 kp_M_57 22 rfl (Nat.le_of_ble_eq_true rfl) (ws1 := wd k q (upd (upd v 10 (nI 0)) 12 (nI (fi ||| 2 ^ nf))) r ex) rfl ?_
        exact p2 _ (fun i a b c => by rw [pk_un b, pk_un a]) rfl (by rw [pk_us, if_pos hb]) h3
    · exact absurd (show nI 0 ≤ 0 by decide) hc
  · omega
set_option maxRecDepth 100000 in
set_option maxHeartbeats 4000000 in
theorem c_M_fact1 (l : Launch) (D : va_G) (x y : Int32) (h0 : v 11 = nI 10) : zd_Ct l D classes (wd_ty k) gd_T y_M_fact b_M_fact 4 (some .int) (zd_rm 1) [.ref (q 22), .int x, .int y] (wd k q v r ex) (zd_is (some (.int (nI 0))) (wd k q (upd v 10 (nI 1)) r ex)) := by
  refine zd_met gd_all (by decide) rfl (Nat.le_of_ble_eq_true rfl) (fun Z E => ?_)
  show Z (wd k q v r ex) [some (.ref (q 22)), some (.int x), some (.int y), none] 0 []
  refine zd_aload_n E (pc := 0) d_M_fact_0 rfl ?_
  refine zd_aload_n E (pc := 1) d_M_fact_1 rfl ?_
  refine zd_get E (pc := 2) d_M_fact_2 kf_M_48 22 rfl rfl ?_
  rw [h0]
  refine zd_bipush E (pc := 5) (v := (nI 10)) d_M_fact_5 (by decide) ?_
  refine zd_nc_ne E (pc := 7) 14 d_M_fact_7 (by decide) ((by decide)) ((by decide)) (fun hq => ?_) (fun hq => ?_)
  · exact absurd rfl hq
  · refine zd_iconst E (pc := 10) (v := (nI 1)) d_M_fact_10 (by decide) ?_
    refine zd_goto E (pc := 11) 15 d_M_fact_11 (by decide) ?_
    refine zd_put E (pc := 15) d_M_fact_15 kp_M_44 22 rfl (Nat.le_of_ble_eq_true rfl) (ws1 := wd k q (upd v 10 (nI 1)) r ex) rfl ?_
    refine zd_aload_n E (pc := 18) d_M_fact_18 rfl ?_
    refine zd_get E (pc := 19) d_M_fact_19 kf_M_44 22 rfl rfl ?_
    refine zd_if_le E (pc := 22) 27 d_M_fact_22 (by decide) (fun hc => ?_) (fun hc => ?_)
    · exact absurd hc bm_1ne0
    · refine zd_iconst E (pc := 25) (v := (nI 0)) d_M_fact_25 (by decide) ?_
      exact zd_iret E (pc := 26) d_M_fact_26 ⟨rfl, rfl⟩
set_option maxRecDepth 100000 in
set_option maxHeartbeats 4000000 in
theorem c_M_action (l : Launch) (D : va_G) {p : Nat} (t : tk_M v r nf na fi go co ne ad dr) (hn : na < 12) (hp1 : 1 ≤ p) (hp9 : p ≤ 9) : zd_Ct l D classes (wd_ty k) gd_T y_M_action b_M_action 2 (some .int) (zd_rm 1) [.ref (q 22), .int (nI p)] (wd k q v r ex)
    (zd_is (some (.int (nI na))) (wd k q (upd (upd (upd (upd v 10 (nI 0)) 14 (nI (na + 1))) 17 (nI 0)) 15 (v 12)) (va_up (va_up (va_up (va_up r 23 (upd (r 23) na (nI p))) 24 (upd (r 24) na (nI 0))) 25 (upd (r 25) na (nI 0))) 26 (upd (r 26) na (nI 0))) ex)) := by
  refine zd_met gd_all (by decide) rfl (Nat.le_of_ble_eq_true rfl) (fun Z E => ?_)
  show Z (wd k q v r ex) [some (.ref (q 22)), some (.int (nI p))] 0 []
  have h1 : v 14 = nI na := t.hna.1
  refine zd_aload_n E (pc := 0) d_M_action_0 rfl ?_
  refine zd_iload_n E (pc := 1) d_M_action_1 rfl ?_
  refine zd_iconst E (pc := 2) (v := (nI 1)) d_M_action_2 (by decide) ?_
  refine zd_nc_lt E (pc := 3) 12 d_M_action_3 (by decide) ((by omega)) ((by omega)) (fun hq => ?_) (fun hq => ?_)
  · omega
  · refine zd_iload_n E (pc := 6) d_M_action_6 rfl ?_
    refine zd_bipush E (pc := 7) (v := (nI 9)) d_M_action_7 (by decide) ?_
    refine zd_nc_le E (pc := 9) 16 d_M_action_9 (by decide) ((by omega)) ((by omega)) (fun hq2 => ?_) (fun hq2 => ?_)
    · refine zd_aload_n E (pc := 16) d_M_action_16 rfl ?_
      refine zd_get E (pc := 17) d_M_action_17 kf_M_51 22 rfl rfl ?_
      rw [h1]
      refine zd_bipush E (pc := 20) (v := (nI 12)) d_M_action_20 (by decide) ?_
      refine zd_nc_ne E (pc := 22) 29 d_M_action_22 (by decide) ((by omega)) ((by omega)) (fun hq3 => ?_) (fun hq3 => ?_)
      · refine zd_iconst E (pc := 29) (v := (nI 0)) d_M_action_29 (by decide) ?_
        refine zd_put E (pc := 30) d_M_action_30 kp_M_44 22 rfl (Nat.le_of_ble_eq_true rfl) (ws1 := wd k q (upd v 10 (nI 0)) r ex) rfl ?_
        refine zd_aload_n E (pc := 33) d_M_action_33 rfl ?_
        refine zd_get E (pc := 34) d_M_action_34 kf_M_44 22 rfl rfl ?_
        refine zd_if_le E (pc := 37) 42 d_M_action_37 (by decide) (fun hc => ?_) (fun hc => ?_)
        · refine zd_aload_n E (pc := 42) d_M_action_42 rfl ?_
          refine zd_get E (pc := 43) d_M_action_43 kf_M_7 22 rfl rfl ?_
          refine zd_aload_n E (pc := 46) d_M_action_46 rfl ?_
          refine zd_get E (pc := 47) d_M_action_47 kf_M_51 22 rfl rfl ?_
          show Z (wd k q (upd v 10 (nI 0)) r ex) _ 50 [.int (v 14), .ref (q 23)]
          rw [h1]
          refine zd_iload_n E (pc := 50) d_M_action_50 rfl ?_
          refine zd_iast E (pc := 51) d_M_action_51 23 rfl (t0 := 0) rfl (na) (rfl) (hn) (by decide) (ws1 := wd k q (upd v 10 (nI 0)) (va_up r 23 (upd (r 23) na (nI p))) ex) rfl ?_
          refine zd_aload_n E (pc := 52) d_M_action_52 rfl ?_
          refine zd_get E (pc := 53) d_M_action_53 kf_M_13 22 rfl rfl ?_
          refine zd_aload_n E (pc := 56) d_M_action_56 rfl ?_
          refine zd_get E (pc := 57) d_M_action_57 kf_M_51 22 rfl rfl ?_
          show Z (wd k q (upd v 10 (nI 0)) (va_up r 23 (upd (r 23) na (nI p))) ex) _ 60 [.int (v 14), .ref (q 24)]
          rw [h1]
          refine zd_iconst E (pc := 60) (v := (nI 0)) d_M_action_60 (by decide) ?_
          refine zd_iast E (pc := 61) d_M_action_61 24 rfl (t0 := 0) rfl (na) (rfl) (hn) (by decide) (ws1 := wd k q (upd v 10 (nI 0)) (va_up (va_up r 23 (upd (r 23) na (nI p))) 24 (upd (r 24) na (nI 0))) ex) rfl ?_
          refine zd_aload_n E (pc := 62) d_M_action_62 rfl ?_
          refine zd_get E (pc := 63) d_M_action_63 kf_M_16 22 rfl rfl ?_
          refine zd_aload_n E (pc := 66) d_M_action_66 rfl ?_
          refine zd_get E (pc := 67) d_M_action_67 kf_M_51 22 rfl rfl ?_
          show Z (wd k q (upd v 10 (nI 0)) (va_up (va_up r 23 (upd (r 23) na (nI p))) 24 (upd (r 24) na (nI 0))) ex) _ 70 [.int (v 14), .ref (q 25)]
          rw [h1]
          refine zd_iconst E (pc := 70) (v := (nI 0)) d_M_action_70 (by decide) ?_
          refine zd_iast E (pc := 71) d_M_action_71 25 rfl (t0 := 0) rfl (na) (rfl) (hn) (by decide) (ws1 := wd k q (upd v 10 (nI 0)) (va_up (va_up (va_up r 23 (upd (r 23) na (nI p))) 24 (upd (r 24) na (nI 0))) 25 (upd (r 25) na (nI 0))) ex) rfl ?_
          refine zd_aload_n E (pc := 72) d_M_action_72 rfl ?_
          refine zd_get E (pc := 73) d_M_action_73 kf_M_19 22 rfl rfl ?_
          refine zd_aload_n E (pc := 76) d_M_action_76 rfl ?_
          refine zd_get E (pc := 77) d_M_action_77 kf_M_51 22 rfl rfl ?_
          show Z (wd k q (upd v 10 (nI 0)) (va_up (va_up (va_up r 23 (upd (r 23) na (nI p))) 24 (upd (r 24) na (nI 0))) 25 (upd (r 25) na (nI 0))) ex) _ 80 [.int (v 14), .ref (q 26)]
          rw [h1]
          refine zd_iconst E (pc := 80) (v := (nI 0)) d_M_action_80 (by decide) ?_
          refine zd_iast E (pc := 81) d_M_action_81 26 rfl (t0 := 0) rfl (na) (rfl) (hn) (by decide) (ws1 := wd k q (upd v 10 (nI 0)) (va_up (va_up (va_up (va_up r 23 (upd (r 23) na (nI p))) 24 (upd (r 24) na (nI 0))) 25 (upd (r 25) na (nI 0))) 26 (upd (r 26) na (nI 0))) ex) rfl ?_
          refine zd_aload_n E (pc := 82) d_M_action_82 rfl ?_
          refine zd_dup E (pc := 83) d_M_action_83 rfl ?_
          refine zd_get E (pc := 84) d_M_action_84 kf_M_51 22 rfl rfl ?_
          show Z (wd k q (upd v 10 (nI 0)) (va_up (va_up (va_up (va_up r 23 (upd (r 23) na (nI p))) 24 (upd (r 24) na (nI 0))) 25 (upd (r 25) na (nI 0))) 26 (upd (r 26) na (nI 0))) ex) _ 87 [.int (v 14), .ref (q 22)]
          rw [h1]
          refine zd_iconst E (pc := 87) (v := (nI 1)) d_M_action_87 (by decide) ?_
          refine zd_iadd E (pc := 88) d_M_action_88 ?_
          rw [nI_add]
          refine zd_put E (pc := 89) d_M_action_89 kp_M_51 22 rfl (Nat.le_of_ble_eq_true rfl) (ws1 := wd k q (upd (upd v 10 (nI 0)) 14 (nI (na + 1))) (va_up (va_up (va_up (va_up r 23 (upd (r 23) na (nI p))) 24 (upd (r 24) na (nI 0))) 25 (upd (r 25) na (nI 0))) 26 (upd (r 26) na (nI 0))) ex) rfl ?_
          refine zd_aload_n E (pc := 92) d_M_action_92 rfl ?_
          refine zd_callV E (pc := 93) d_M_action_93 kc_M_66 rfl ki_M_changed ke_M_changed 22 rfl rfl (c_M_changed l D) (by decide) rfl (Nat.le_of_ble_eq_true rfl) (fun v1 ws1 hv1 => ?_)
          obtain ⟨rfl, rfl⟩ := hv1
          refine zd_aload_n E (pc := 96) d_M_action_96 rfl ?_
          refine zd_get E (pc := 97) d_M_action_97 kf_M_51 22 rfl rfl ?_
          show Z (wd k q (upd (upd (upd (upd v 10 (nI 0)) 14 (nI (na + 1))) 17 (nI 0)) 15 (v 12)) (va_up (va_up (va_up (va_up r 23 (upd (r 23) na (nI p))) 24 (upd (r 24) na (nI 0))) 25 (upd (r 25) na (nI 0))) 26 (upd (r 26) na (nI 0))) ex) _ 100 [.int (nI (na + 1))]
          refine zd_iconst E (pc := 100) (v := (nI 1)) d_M_action_100 (by decide) ?_
          refine zd_isub E (pc := 101) d_M_action_101 ?_
          rw [pk_sub (by omega)]
          exact zd_iret E (pc := 102) d_M_action_102 ⟨rfl, rfl⟩
        · exact absurd (show nI 0 ≤ 0 by decide) hc
      · omega
    · omega
set_option maxRecDepth 100000 in
set_option maxHeartbeats 4000000 in
theorem c_M_action1 (l : Launch) (D : va_G) (x : Int32) (hx : x < nI 1 ∨ nI 9 < x) : zd_Ct l D classes (wd_ty k) gd_T y_M_action b_M_action 2 (some .int) (zd_rm 1) [.ref (q 22), .int x] (wd k q v r ex) (zd_is (some (.int (nI 0))) (wd k q (upd v 10 (nI 1)) r ex)) := by
  refine zd_met gd_all (by decide) rfl (Nat.le_of_ble_eq_true rfl) (fun Z E => ?_)
  show Z (wd k q v r ex) [some (.ref (q 22)), some (.int x)] 0 []
  have out : Z (wd k q v r ex) [some (.ref (q 22)), some (.int x)] 12 [.ref (q 22)] := by
    refine zd_iconst E (pc := 12) (v := (nI 1)) d_M_action_12 (by decide) ?_
    refine zd_goto E (pc := 13) 30 d_M_action_13 (by decide) ?_
    refine zd_put E (pc := 30) d_M_action_30 kp_M_44 22 rfl (Nat.le_of_ble_eq_true rfl) (ws1 := wd k q (upd v 10 (nI 1)) r ex) rfl ?_
    refine zd_aload_n E (pc := 33) d_M_action_33 rfl ?_
    refine zd_get E (pc := 34) d_M_action_34 kf_M_44 22 rfl rfl ?_
    refine zd_if_le E (pc := 37) 42 d_M_action_37 (by decide) (fun hc => ?_) (fun hc => ?_)
    · exact absurd hc bm_1ne0
    · refine zd_iconst E (pc := 40) (v := (nI 0)) d_M_action_40 (by decide) ?_
      exact zd_iret E (pc := 41) d_M_action_41 ⟨rfl, rfl⟩
  refine zd_aload_n E (pc := 0) d_M_action_0 rfl ?_
  refine zd_iload_n E (pc := 1) d_M_action_1 rfl ?_
  refine zd_iconst E (pc := 2) (v := (nI 1)) d_M_action_2 (by decide) ?_
  refine zd_ic_lt E (pc := 3) 12 d_M_action_3 (by decide) (fun hq => ?_) (fun hq => ?_)
  · exact out
  · refine zd_iload_n E (pc := 6) d_M_action_6 rfl ?_
    refine zd_bipush E (pc := 7) (v := (nI 9)) d_M_action_7 (by decide) ?_
    refine zd_ic_le E (pc := 9) 16 d_M_action_9 (by decide) (fun hq2 => ?_) (fun hq2 => ?_)
    · rcases hx with z | z
      · exact absurd z hq
      · rw [Int32.lt_iff_toInt_lt] at z
        rw [Int32.le_iff_toInt_le] at hq2
        omega
    · exact out
set_option maxRecDepth 100000 in
set_option maxHeartbeats 4000000 in
theorem c_M_action2 (l : Launch) (D : va_G) {p : Nat} (hp1 : 1 ≤ p) (hp9 : p ≤ 9) (h1 : v 14 = nI 12) : zd_Ct l D classes (wd_ty k) gd_T y_M_action b_M_action 2 (some .int) (zd_rm 1) [.ref (q 22), .int (nI p)] (wd k q v r ex) (zd_is (some (.int (nI 0))) (wd k q (upd v 10 (nI 2)) r ex)) := by
  refine zd_met gd_all (by decide) rfl (Nat.le_of_ble_eq_true rfl) (fun Z E => ?_)
  show Z (wd k q v r ex) [some (.ref (q 22)), some (.int (nI p))] 0 []
  refine zd_aload_n E (pc := 0) d_M_action_0 rfl ?_
  refine zd_iload_n E (pc := 1) d_M_action_1 rfl ?_
  refine zd_iconst E (pc := 2) (v := (nI 1)) d_M_action_2 (by decide) ?_
  refine zd_nc_lt E (pc := 3) 12 d_M_action_3 (by decide) ((by omega)) ((by omega)) (fun hq => ?_) (fun hq => ?_)
  · omega
  · refine zd_iload_n E (pc := 6) d_M_action_6 rfl ?_
    refine zd_bipush E (pc := 7) (v := (nI 9)) d_M_action_7 (by decide) ?_
    refine zd_nc_le E (pc := 9) 16 d_M_action_9 (by decide) ((by omega)) ((by omega)) (fun hq2 => ?_) (fun hq2 => ?_)
    · refine zd_aload_n E (pc := 16) d_M_action_16 rfl ?_
      refine zd_get E (pc := 17) d_M_action_17 kf_M_51 22 rfl rfl ?_
      rw [h1]
      refine zd_bipush E (pc := 20) (v := (nI 12)) d_M_action_20 (by decide) ?_
      refine zd_nc_ne E (pc := 22) 29 d_M_action_22 (by decide) ((by decide)) ((by decide)) (fun hq3 => ?_) (fun hq3 => ?_)
      · exact absurd rfl hq3
      · refine zd_iconst E (pc := 25) (v := (nI 2)) d_M_action_25 (by decide) ?_
        refine zd_goto E (pc := 26) 30 d_M_action_26 (by decide) ?_
        refine zd_put E (pc := 30) d_M_action_30 kp_M_44 22 rfl (Nat.le_of_ble_eq_true rfl) (ws1 := wd k q (upd v 10 (nI 2)) r ex) rfl ?_
        refine zd_aload_n E (pc := 33) d_M_action_33 rfl ?_
        refine zd_get E (pc := 34) d_M_action_34 kf_M_44 22 rfl rfl ?_
        refine zd_if_le E (pc := 37) 42 d_M_action_37 (by decide) (fun hc => ?_) (fun hc => ?_)
        · exact absurd hc (show ¬ nI 2 ≤ 0 by decide)
        · refine zd_iconst E (pc := 40) (v := (nI 0)) d_M_action_40 (by decide) ?_
          exact zd_iret E (pc := 41) d_M_action_41 ⟨rfl, rfl⟩
    · omega
set_option maxRecDepth 100000 in
set_option maxHeartbeats 4000000 in
theorem c_M_link1 (l : Launch) (D : va_G) (w x y : Int32) (t : tk_M v r nf na fi go co ne ad dr) (hb : (x < 0 ∨ nI na ≤ x) ∨ (y < 0 ∨ nI nf ≤ y)) : zd_Ct l D classes (wd_ty k) gd_T y_M_link b_M_link 6 none (zd_rm 1) [.ref (q 22), .int w, .int x, .int y] (wd k q v r ex) (zd_is none (wd k q (upd v 10 (nI 1)) r ex)) := by
  refine zd_met gd_all (by decide) rfl (Nat.le_of_ble_eq_true rfl) (fun Z E => ?_)
  show Z (wd k q v r ex) [some (.ref (q 22)), some (.int w), some (.int x), some (.int y), none, none] 0 []
  have hna := t.hna.2
  have hnf := t.2.2.1.1
  have out : Z (wd k q v r ex) [some (.ref (q 22)), some (.int w), some (.int x), some (.int y), none, none] 17 [.ref (q 22)] := by
    refine zd_iconst E (pc := 17) (v := (nI 1)) d_M_link_17 (by decide) ?_
    refine zd_goto E (pc := 18) 35 d_M_link_18 (by decide) ?_
    refine zd_put E (pc := 35) d_M_link_35 kp_M_44 22 rfl (Nat.le_of_ble_eq_true rfl) (ws1 := wd k q (upd v 10 (nI 1)) r ex) rfl ?_
    refine zd_aload_n E (pc := 38) d_M_link_38 rfl ?_
    refine zd_get E (pc := 39) d_M_link_39 kf_M_44 22 rfl rfl ?_
    refine zd_if_le E (pc := 42) 46 d_M_link_42 (by decide) (fun hc => ?_) (fun hc => ?_)
    · exact absurd hc bm_1ne0
    · exact zd_vret E (pc := 45) d_M_link_45 ⟨rfl, rfl⟩
  refine zd_aload_n E (pc := 0) d_M_link_0 rfl ?_
  refine zd_aload_n E (pc := 1) d_M_link_1 rfl ?_
  refine zd_iload_n E (pc := 2) d_M_link_2 rfl ?_
  refine zd_callV E (pc := 3) d_M_link_3 kc_M_69 rfl ki_M_noAction ke_M_noAction 22 rfl rfl (c_M_noAction l D x t.hna.1 (by omega)) (by decide) rfl (Nat.le_of_ble_eq_true rfl) (fun v1 ws1 hv1 => ?_)
  obtain ⟨b, hc, rfl, rfl⟩ := hv1
  refine zd_bf_ne E (pc := 6) 17 d_M_link_6 (by decide) (fun h0 => ?_) (fun h0 => ?_)
  · exact out
  · refine zd_aload_n E (pc := 9) d_M_link_9 rfl ?_
    refine zd_iload_n E (pc := 10) d_M_link_10 rfl ?_
    refine zd_callV E (pc := 11) d_M_link_11 kc_M_73 rfl ki_M_noFact ke_M_noFact 22 rfl rfl (c_M_noFact l D y t.1.1 (by omega)) (by decide) rfl (Nat.le_of_ble_eq_true rfl) (fun v1 ws1 hv1 => ?_)
    obtain ⟨b2, hc2, rfl, rfl⟩ := hv1
    refine zd_bf_eq E (pc := 14) 21 d_M_link_14 (by decide) (fun h1 => ?_) (fun h1 => ?_)
    · exfalso
      rcases hc with ⟨-, j, hj, rfl⟩ | ⟨z, -⟩
      · rcases hc2 with ⟨-, j2, hj2, rfl⟩ | ⟨z, -⟩
        · rcases hb with z | z
          · exact bm_out z (by omega) hj rfl
          · exact bm_out z (by omega) hj2 rfl
        · exact h1 z
      · exact h0 z
    · exact out
set_option maxRecDepth 100000 in
set_option maxHeartbeats 4000000 in
theorem c_M_link2 (l : Launch) (D : va_G) (w : Int32) {a f : Nat} (t : tk_M v r nf na fi go co ne ad dr) (ha : a < na) (hf : f < nf) (hw : w < 0 ∨ nI 2 < w) : zd_Ct l D classes (wd_ty k) gd_T y_M_link b_M_link 6 none (zd_rm 1) [.ref (q 22), .int w, .int (nI a), .int (nI f)] (wd k q v r ex) (zd_is none (wd k q (upd v 10 (nI 2)) r ex)) := by
  refine zd_met gd_all (by decide) rfl (Nat.le_of_ble_eq_true rfl) (fun Z E => ?_)
  show Z (wd k q v r ex) [some (.ref (q 22)), some (.int w), some (.int (nI a)), some (.int (nI f)), none, none] 0 []
  have hna := t.hna.2
  have hnf := t.2.2.1.1
  have out : Z (wd k q v r ex) [some (.ref (q 22)), some (.int w), some (.int (nI a)), some (.int (nI f)), none, none] 30 [.ref (q 22)] := by
    refine zd_iconst E (pc := 30) (v := (nI 2)) d_M_link_30 (by decide) ?_
    refine zd_goto E (pc := 31) 35 d_M_link_31 (by decide) ?_
    refine zd_put E (pc := 35) d_M_link_35 kp_M_44 22 rfl (Nat.le_of_ble_eq_true rfl) (ws1 := wd k q (upd v 10 (nI 2)) r ex) rfl ?_
    refine zd_aload_n E (pc := 38) d_M_link_38 rfl ?_
    refine zd_get E (pc := 39) d_M_link_39 kf_M_44 22 rfl rfl ?_
    refine zd_if_le E (pc := 42) 46 d_M_link_42 (by decide) (fun hc => ?_) (fun hc => ?_)
    · exact absurd hc (show ¬ nI 2 ≤ 0 by decide)
    · exact zd_vret E (pc := 45) d_M_link_45 ⟨rfl, rfl⟩
  refine zd_aload_n E (pc := 0) d_M_link_0 rfl ?_
  refine zd_aload_n E (pc := 1) d_M_link_1 rfl ?_
  refine zd_iload_n E (pc := 2) d_M_link_2 rfl ?_
  refine zd_callV E (pc := 3) d_M_link_3 kc_M_69 rfl ki_M_noAction ke_M_noAction 22 rfl rfl (c_M_noAction l D _ t.hna.1 (by omega)) (by decide) rfl (Nat.le_of_ble_eq_true rfl) (fun v1 ws1 hv1 => ?_)
  obtain ⟨b, hc, rfl, rfl⟩ := hv1
  refine zd_bf_ne E (pc := 6) 17 d_M_link_6 (by decide) (fun h0 => ?_) (fun h0 => ?_)
  · rcases hc with ⟨z, -⟩ | ⟨-, z⟩
    · rw [z] at h0; cases h0
    · exact absurd rfl (bm_out z (by omega) ha)
  · refine zd_aload_n E (pc := 9) d_M_link_9 rfl ?_
    refine zd_iload_n E (pc := 10) d_M_link_10 rfl ?_
    refine zd_callV E (pc := 11) d_M_link_11 kc_M_73 rfl ki_M_noFact ke_M_noFact 22 rfl rfl (c_M_noFact l D _ t.1.1 (by omega)) (by decide) rfl (Nat.le_of_ble_eq_true rfl) (fun v1 ws1 hv1 => ?_)
    obtain ⟨b2, hc2, rfl, rfl⟩ := hv1
    refine zd_bf_eq E (pc := 14) 21 d_M_link_14 (by decide) (fun h1 => ?_) (fun h1 => ?_)
    · refine zd_iload_n E (pc := 21) d_M_link_21 rfl ?_
      refine zd_if_lt E (pc := 22) 30 d_M_link_22 (by decide) (fun hq => ?_) (fun hq => ?_)
      · exact out
      · refine zd_iload_n E (pc := 25) d_M_link_25 rfl ?_
        refine zd_iconst E (pc := 26) (v := (nI 2)) d_M_link_26 (by decide) ?_
        refine zd_ic_le E (pc := 27) 34 d_M_link_27 (by decide) (fun hq2 => ?_) (fun hq2 => ?_)
        · rcases hw with z | z
          · exact absurd z hq
          · rw [Int32.lt_iff_toInt_lt] at z
            rw [Int32.le_iff_toInt_le] at hq2
            omega
        · exact out
    · rcases hc2 with ⟨z, -⟩ | ⟨-, z⟩
      · rw [z] at h1; cases h1
      · exact absurd rfl (bm_out z (by omega) hf)
set_option maxRecDepth 100000 in
set_option maxHeartbeats 4000000 in
theorem c_M_link_0 (l : Launch) (D : va_G) {a f : Nat} {m : Nat → Nat} (t : tk_M v r nf na fi go co ne ad dr) (ha : a < na) (hf : f < nf) (hm : ∀ i, i < 12 → r (24 + 0) i = nI (m i) ∧ m i < 2 ^ 31) : zd_Ct l D classes (wd_ty k) gd_T y_M_link b_M_link 6 none (zd_rm 1) [.ref (q 22), .int (nI 0), .int (nI a), .int (nI f)] (wd k q v r ex)
    (fun v1 w1 => ((((m a).testBit f = true) ∧ w1 = wd k q (upd (upd v 10 (nI 0)) 10 (nI 3)) r ex) ∨ ((m a).testBit f = false ∧ w1 = wd k q (upd (upd (upd v 10 (nI 0)) 17 (nI 0)) 15 (v 12)) (va_up r (24 + 0) (upd (r (24 + 0)) a (nI (m a ||| 2 ^ f)))) ex)) ∧ v1 = none) := by
  refine zd_met gd_all (by decide) rfl (Nat.le_of_ble_eq_true rfl) (fun Z E => ?_)
  show Z (wd k q v r ex) [some (.ref (q 22)), some (.int (nI 0)), some (.int (nI a)), some (.int (nI f)), none, none] 0 []
  have hna := t.hna.2
  have hnf := t.2.2.1.1
  obtain ⟨m1, m2⟩ := hm a (by omega)
  have fin : ∀ L4 L5, (m a).testBit f = false → Z (wd k q (upd v 10 (nI 0)) (va_up r (24 + 0) (upd (r (24 + 0)) a (nI (m a ||| 2 ^ f)))) ex) [some (.ref (q 22)), some (.int (nI 0)), some (.int (nI a)), some (.int (nI f)), L4, L5] 148 [] := by
    intro L4 L5 hb
    refine zd_aload_n E (pc := 148) d_M_link_148 rfl ?_
    refine zd_callV E (pc := 149) d_M_link_149 kc_M_66 rfl ki_M_changed ke_M_changed 22 rfl rfl (c_M_changed l D) (by decide) rfl (Nat.le_of_ble_eq_true rfl) (fun v1 ws1 hv1 => ?_)
    obtain ⟨rfl, rfl⟩ := hv1
    exact zd_vret E (pc := 152) d_M_link_152 ⟨Or.inr ⟨hb, rfl⟩, rfl⟩
  have mid : Z (wd k q (upd v 10 (nI 0)) r ex) [some (.ref (q 22)), some (.int (nI 0)), some (.int (nI a)), some (.int (nI f)), some (.int (nI (2 ^ f))), some (.int (nI (m a)))] 86 [] := by
    have hand : m a &&& 2 ^ f ≤ m a := Nat.and_le_left
    refine zd_iload E (pc := 86) d_M_link_86 rfl ?_
    refine zd_iload E (pc := 88) d_M_link_88 rfl ?_
    refine zd_iand E (pc := 90) d_M_link_90 ?_
    rw [bm_and]
    refine zd_if_eq E (pc := 91) 100 d_M_link_91 (by decide) (fun hz => ?_) (fun hz => ?_)
    · have hb : (m a).testBit f = false := by
        cases hbt : (m a).testBit f with
        | false => rfl
        | true =>
          exfalso
          have h1 : m a &&& 2 ^ f = 0 := (nI_eq (by omega) (by decide)).mp (hz.trans nI_0.symm)
          have h2 := congrArg (fun z => z.testBit f) h1
          simp [Nat.testBit_and, hbt, Nat.testBit_two_pow] at h2
      refine zd_iload_n E (pc := 100) d_M_link_100 rfl ?_
      refine zd_if_ne E (pc := 101) 118 d_M_link_101 (by decide) (fun hk => ?_) (fun hk => ?_)
      · exact absurd rfl hk
      · refine zd_aload_n E (pc := 104) d_M_link_104 rfl ?_
        refine zd_get E (pc := 105) d_M_link_105 kf_M_13 22 rfl rfl ?_
        refine zd_iload_n E (pc := 108) d_M_link_108 rfl ?_
        refine zd_iload E (pc := 109) d_M_link_109 rfl ?_
        refine zd_iload E (pc := 111) d_M_link_111 rfl ?_
        refine zd_ior E (pc := 113) d_M_link_113 ?_
        rw [bm_or]
        refine zd_iast E (pc := 114) d_M_link_114 24 rfl (t0 := 0) rfl (a) (rfl) ((by omega)) (by decide) (ws1 := wd k q (upd v 10 (nI 0)) (va_up r (24 + 0) (upd (r (24 + 0)) a (nI (m a ||| 2 ^ f)))) ex) rfl ?_
        refine zd_goto E (pc := 115) 148 d_M_link_115 (by decide) ?_
        exact fin _ _ hb
    · have hb : (m a).testBit f = true := by
        cases hbt : (m a).testBit f with
        | true => rfl
        | false =>
          exfalso
          apply hz
          have : m a &&& 2 ^ f = 0 := by
            refine Nat.eq_of_testBit_eq fun i => ?_
            rw [Nat.testBit_and, Nat.testBit_two_pow, Nat.zero_testBit]
            by_cases e : f = i
            · subst e; rw [hbt]; rfl
            · simp [e]
          rw [this]; rfl
      refine zd_aload_n E (pc := 94) d_M_link_94 rfl ?_
      refine zd_iconst E (pc := 95) (v := (nI 3)) d_M_link_95 (by decide) ?_
      refine zd_put E (pc := 96) d_M_link_96 kp_M_44 22 rfl (Nat.le_of_ble_eq_true rfl) (ws1 := wd k q (upd (upd v 10 (nI 0)) 10 (nI 3)) r ex) rfl ?_
      exact zd_vret E (pc := 99) d_M_link_99 ⟨Or.inl ⟨hb, rfl⟩, rfl⟩
  refine zd_aload_n E (pc := 0) d_M_link_0 rfl ?_
  refine zd_aload_n E (pc := 1) d_M_link_1 rfl ?_
  refine zd_iload_n E (pc := 2) d_M_link_2 rfl ?_
  refine zd_callV E (pc := 3) d_M_link_3 kc_M_69 rfl ki_M_noAction ke_M_noAction 22 rfl rfl (c_M_noAction l D _ t.hna.1 (by omega)) (by decide) rfl (Nat.le_of_ble_eq_true rfl) (fun v1 ws1 hv1 => ?_)
  obtain ⟨b, hc, rfl, rfl⟩ := hv1
  refine zd_bf_ne E (pc := 6) 17 d_M_link_6 (by decide) (fun h0 => ?_) (fun h0 => ?_)
  · rcases hc with ⟨z, -⟩ | ⟨-, z⟩
    · rw [z] at h0; cases h0
    · exact absurd rfl (bm_out z (by omega) ha)
  · refine zd_aload_n E (pc := 9) d_M_link_9 rfl ?_
    refine zd_iload_n E (pc := 10) d_M_link_10 rfl ?_
    refine zd_callV E (pc := 11) d_M_link_11 kc_M_73 rfl ki_M_noFact ke_M_noFact 22 rfl rfl (c_M_noFact l D _ t.1.1 (by omega)) (by decide) rfl (Nat.le_of_ble_eq_true rfl) (fun v1 ws1 hv1 => ?_)
    obtain ⟨b2, hc2, rfl, rfl⟩ := hv1
    refine zd_bf_eq E (pc := 14) 21 d_M_link_14 (by decide) (fun h1 => ?_) (fun h1 => ?_)
    · refine zd_iload_n E (pc := 21) d_M_link_21 rfl ?_
      refine zd_if_lt E (pc := 22) 30 d_M_link_22 (by decide) (fun hq => ?_) (fun hq => ?_)
      · exact absurd hq (by decide)
      · refine zd_iload_n E (pc := 25) d_M_link_25 rfl ?_
        refine zd_iconst E (pc := 26) (v := (nI 2)) d_M_link_26 (by decide) ?_
        refine zd_ic_le E (pc := 27) 34 d_M_link_27 (by decide) (fun hq2 => ?_) (fun hq2 => ?_)
        · refine zd_iconst E (pc := 34) (v := (nI 0)) d_M_link_34 (by decide) ?_
          refine zd_put E (pc := 35) d_M_link_35 kp_M_44 22 rfl (Nat.le_of_ble_eq_true rfl) (ws1 := wd k q (upd v 10 (nI 0)) r ex) rfl ?_
          refine zd_aload_n E (pc := 38) d_M_link_38 rfl ?_
          refine zd_get E (pc := 39) d_M_link_39 kf_M_44 22 rfl rfl ?_
          refine zd_if_le E (pc := 42) 46 d_M_link_42 (by decide) (fun hc3 => ?_) (fun hc3 => ?_)
          · refine zd_iconst E (pc := 46) (v := (nI 1)) d_M_link_46 (by decide) ?_
            refine zd_iload_n E (pc := 47) d_M_link_47 rfl ?_
            refine zd_ishl E (pc := 48) d_M_link_48 ?_
            rw [bm_one (by omega)]
            refine zd_istore E (pc := 49) d_M_link_49 (by decide) ?_
            refine zd_iload_n E (pc := 51) d_M_link_51 rfl ?_
            refine zd_if_ne E (pc := 52) 64 d_M_link_52 (by decide) (fun hk => ?_) (fun hk => ?_)
            · exact absurd rfl hk
            · refine zd_aload_n E (pc := 55) d_M_link_55 rfl ?_
              refine zd_get E (pc := 56) d_M_link_56 kf_M_13 22 rfl rfl ?_
              refine zd_iload_n E (pc := 59) d_M_link_59 rfl ?_
              refine zd_iald E (pc := 60) d_M_link_60 24 rfl (t0 := 0) rfl (a) (rfl) ((by omega)) (by decide) ?_
              show Z (wd k q (upd v 10 (nI 0)) r ex) _ 61 [.int (r (24 + 0) a)]
              rw [m1]
              refine zd_goto E (pc := 61) 84 d_M_link_61 (by decide) ?_
              refine zd_istore E (pc := 84) d_M_link_84 (by decide) ?_
              exact mid
          · exact absurd (show nI 0 ≤ 0 by decide) hc3
        · exact absurd (by decide) hq2
    · rcases hc2 with ⟨z, -⟩ | ⟨-, z⟩
      · rw [z] at h1; cases h1
      · exact absurd rfl (bm_out z (by omega) hf)
set_option maxRecDepth 100000 in
set_option maxHeartbeats 4000000 in
theorem c_M_link_1 (l : Launch) (D : va_G) {a f : Nat} {m : Nat → Nat} (t : tk_M v r nf na fi go co ne ad dr) (ha : a < na) (hf : f < nf) (hm : ∀ i, i < 12 → r (24 + 1) i = nI (m i) ∧ m i < 2 ^ 31) : zd_Ct l D classes (wd_ty k) gd_T y_M_link b_M_link 6 none (zd_rm 1) [.ref (q 22), .int (nI 1), .int (nI a), .int (nI f)] (wd k q v r ex)
    (fun v1 w1 => ((((m a).testBit f = true) ∧ w1 = wd k q (upd (upd v 10 (nI 0)) 10 (nI 3)) r ex) ∨ ((m a).testBit f = false ∧ w1 = wd k q (upd (upd (upd v 10 (nI 0)) 17 (nI 0)) 15 (v 12)) (va_up r (24 + 1) (upd (r (24 + 1)) a (nI (m a ||| 2 ^ f)))) ex)) ∧ v1 = none) := by
  refine zd_met gd_all (by decide) rfl (Nat.le_of_ble_eq_true rfl) (fun Z E => ?_)
  show Z (wd k q v r ex) [some (.ref (q 22)), some (.int (nI 1)), some (.int (nI a)), some (.int (nI f)), none, none] 0 []
  have hna := t.hna.2
  have hnf := t.2.2.1.1
  obtain ⟨m1, m2⟩ := hm a (by omega)
  have fin : ∀ L4 L5, (m a).testBit f = false → Z (wd k q (upd v 10 (nI 0)) (va_up r (24 + 1) (upd (r (24 + 1)) a (nI (m a ||| 2 ^ f)))) ex) [some (.ref (q 22)), some (.int (nI 1)), some (.int (nI a)), some (.int (nI f)), L4, L5] 148 [] := by
    intro L4 L5 hb
    refine zd_aload_n E (pc := 148) d_M_link_148 rfl ?_
    refine zd_callV E (pc := 149) d_M_link_149 kc_M_66 rfl ki_M_changed ke_M_changed 22 rfl rfl (c_M_changed l D) (by decide) rfl (Nat.le_of_ble_eq_true rfl) (fun v1 ws1 hv1 => ?_)
    obtain ⟨rfl, rfl⟩ := hv1
    exact zd_vret E (pc := 152) d_M_link_152 ⟨Or.inr ⟨hb, rfl⟩, rfl⟩
  have mid : Z (wd k q (upd v 10 (nI 0)) r ex) [some (.ref (q 22)), some (.int (nI 1)), some (.int (nI a)), some (.int (nI f)), some (.int (nI (2 ^ f))), some (.int (nI (m a)))] 86 [] := by
    have hand : m a &&& 2 ^ f ≤ m a := Nat.and_le_left
    refine zd_iload E (pc := 86) d_M_link_86 rfl ?_
    refine zd_iload E (pc := 88) d_M_link_88 rfl ?_
    refine zd_iand E (pc := 90) d_M_link_90 ?_
    rw [bm_and]
    refine zd_if_eq E (pc := 91) 100 d_M_link_91 (by decide) (fun hz => ?_) (fun hz => ?_)
    · have hb : (m a).testBit f = false := by
        cases hbt : (m a).testBit f with
        | false => rfl
        | true =>
          exfalso
          have h1 : m a &&& 2 ^ f = 0 := (nI_eq (by omega) (by decide)).mp (hz.trans nI_0.symm)
          have h2 := congrArg (fun z => z.testBit f) h1
          simp [Nat.testBit_and, hbt, Nat.testBit_two_pow] at h2
      refine zd_iload_n E (pc := 100) d_M_link_100 rfl ?_
      refine zd_if_ne E (pc := 101) 118 d_M_link_101 (by decide) (fun hk => ?_) (fun hk => ?_)
      · refine zd_iload_n E (pc := 118) d_M_link_118 rfl ?_
        refine zd_iconst E (pc := 119) (v := (nI 1)) d_M_link_119 (by decide) ?_
        refine zd_ic_ne E (pc := 120) 137 d_M_link_120 (by decide) (fun hk2 => ?_) (fun hk2 => ?_)
        · exact absurd rfl hk2
        · refine zd_aload_n E (pc := 123) d_M_link_123 rfl ?_
          refine zd_get E (pc := 124) d_M_link_124 kf_M_16 22 rfl rfl ?_
          refine zd_iload_n E (pc := 127) d_M_link_127 rfl ?_
          refine zd_iload E (pc := 128) d_M_link_128 rfl ?_
          refine zd_iload E (pc := 130) d_M_link_130 rfl ?_
          refine zd_ior E (pc := 132) d_M_link_132 ?_
          rw [bm_or]
          refine zd_iast E (pc := 133) d_M_link_133 25 rfl (t0 := 0) rfl (a) (rfl) ((by omega)) (by decide) (ws1 := wd k q (upd v 10 (nI 0)) (va_up r (24 + 1) (upd (r (24 + 1)) a (nI (m a ||| 2 ^ f)))) ex) rfl ?_
          refine zd_goto E (pc := 134) 148 d_M_link_134 (by decide) ?_
          exact fin _ _ hb
      · exact absurd (Classical.not_not.mp hk) (by decide)
    · have hb : (m a).testBit f = true := by
        cases hbt : (m a).testBit f with
        | true => rfl
        | false =>
          exfalso
          apply hz
          have : m a &&& 2 ^ f = 0 := by
            refine Nat.eq_of_testBit_eq fun i => ?_
            rw [Nat.testBit_and, Nat.testBit_two_pow, Nat.zero_testBit]
            by_cases e : f = i
            · subst e; rw [hbt]; rfl
            · simp [e]
          rw [this]; rfl
      refine zd_aload_n E (pc := 94) d_M_link_94 rfl ?_
      refine zd_iconst E (pc := 95) (v := (nI 3)) d_M_link_95 (by decide) ?_
      refine zd_put E (pc := 96) d_M_link_96 kp_M_44 22 rfl (Nat.le_of_ble_eq_true rfl) (ws1 := wd k q (upd (upd v 10 (nI 0)) 10 (nI 3)) r ex) rfl ?_
      exact zd_vret E (pc := 99) d_M_link_99 ⟨Or.inl ⟨hb, rfl⟩, rfl⟩
  refine zd_aload_n E (pc := 0) d_M_link_0 rfl ?_
  refine zd_aload_n E (pc := 1) d_M_link_1 rfl ?_
  refine zd_iload_n E (pc := 2) d_M_link_2 rfl ?_
  refine zd_callV E (pc := 3) d_M_link_3 kc_M_69 rfl ki_M_noAction ke_M_noAction 22 rfl rfl (c_M_noAction l D _ t.hna.1 (by omega)) (by decide) rfl (Nat.le_of_ble_eq_true rfl) (fun v1 ws1 hv1 => ?_)
  obtain ⟨b, hc, rfl, rfl⟩ := hv1
  refine zd_bf_ne E (pc := 6) 17 d_M_link_6 (by decide) (fun h0 => ?_) (fun h0 => ?_)
  · rcases hc with ⟨z, -⟩ | ⟨-, z⟩
    · rw [z] at h0; cases h0
    · exact absurd rfl (bm_out z (by omega) ha)
  · refine zd_aload_n E (pc := 9) d_M_link_9 rfl ?_
    refine zd_iload_n E (pc := 10) d_M_link_10 rfl ?_
    refine zd_callV E (pc := 11) d_M_link_11 kc_M_73 rfl ki_M_noFact ke_M_noFact 22 rfl rfl (c_M_noFact l D _ t.1.1 (by omega)) (by decide) rfl (Nat.le_of_ble_eq_true rfl) (fun v1 ws1 hv1 => ?_)
    obtain ⟨b2, hc2, rfl, rfl⟩ := hv1
    refine zd_bf_eq E (pc := 14) 21 d_M_link_14 (by decide) (fun h1 => ?_) (fun h1 => ?_)
    · refine zd_iload_n E (pc := 21) d_M_link_21 rfl ?_
      refine zd_if_lt E (pc := 22) 30 d_M_link_22 (by decide) (fun hq => ?_) (fun hq => ?_)
      · exact absurd hq (by decide)
      · refine zd_iload_n E (pc := 25) d_M_link_25 rfl ?_
        refine zd_iconst E (pc := 26) (v := (nI 2)) d_M_link_26 (by decide) ?_
        refine zd_ic_le E (pc := 27) 34 d_M_link_27 (by decide) (fun hq2 => ?_) (fun hq2 => ?_)
        · refine zd_iconst E (pc := 34) (v := (nI 0)) d_M_link_34 (by decide) ?_
          refine zd_put E (pc := 35) d_M_link_35 kp_M_44 22 rfl (Nat.le_of_ble_eq_true rfl) (ws1 := wd k q (upd v 10 (nI 0)) r ex) rfl ?_
          refine zd_aload_n E (pc := 38) d_M_link_38 rfl ?_
          refine zd_get E (pc := 39) d_M_link_39 kf_M_44 22 rfl rfl ?_
          refine zd_if_le E (pc := 42) 46 d_M_link_42 (by decide) (fun hc3 => ?_) (fun hc3 => ?_)
          · refine zd_iconst E (pc := 46) (v := (nI 1)) d_M_link_46 (by decide) ?_
            refine zd_iload_n E (pc := 47) d_M_link_47 rfl ?_
            refine zd_ishl E (pc := 48) d_M_link_48 ?_
            rw [bm_one (by omega)]
            refine zd_istore E (pc := 49) d_M_link_49 (by decide) ?_
            refine zd_iload_n E (pc := 51) d_M_link_51 rfl ?_
            refine zd_if_ne E (pc := 52) 64 d_M_link_52 (by decide) (fun hk => ?_) (fun hk => ?_)
            · refine zd_iload_n E (pc := 64) d_M_link_64 rfl ?_
              refine zd_iconst E (pc := 65) (v := (nI 1)) d_M_link_65 (by decide) ?_
              refine zd_ic_ne E (pc := 66) 78 d_M_link_66 (by decide) (fun hk2 => ?_) (fun hk2 => ?_)
              · exact absurd rfl hk2
              · refine zd_aload_n E (pc := 69) d_M_link_69 rfl ?_
                refine zd_get E (pc := 70) d_M_link_70 kf_M_16 22 rfl rfl ?_
                refine zd_iload_n E (pc := 73) d_M_link_73 rfl ?_
                refine zd_iald E (pc := 74) d_M_link_74 25 rfl (t0 := 0) rfl (a) (rfl) ((by omega)) (by decide) ?_
                show Z (wd k q (upd v 10 (nI 0)) r ex) _ 75 [.int (r (24 + 1) a)]
                rw [m1]
                refine zd_goto E (pc := 75) 84 d_M_link_75 (by decide) ?_
                refine zd_istore E (pc := 84) d_M_link_84 (by decide) ?_
                exact mid
            · exact absurd (Classical.not_not.mp hk) (by decide)
          · exact absurd (show nI 0 ≤ 0 by decide) hc3
        · exact absurd (by decide) hq2
    · rcases hc2 with ⟨z, -⟩ | ⟨-, z⟩
      · rw [z] at h1; cases h1
      · exact absurd rfl (bm_out z (by omega) hf)
set_option maxRecDepth 100000 in
set_option maxHeartbeats 4000000 in
theorem c_M_link_2 (l : Launch) (D : va_G) {a f : Nat} {m : Nat → Nat} (t : tk_M v r nf na fi go co ne ad dr) (ha : a < na) (hf : f < nf) (hm : ∀ i, i < 12 → r (24 + 2) i = nI (m i) ∧ m i < 2 ^ 31) : zd_Ct l D classes (wd_ty k) gd_T y_M_link b_M_link 6 none (zd_rm 1) [.ref (q 22), .int (nI 2), .int (nI a), .int (nI f)] (wd k q v r ex)
    (fun v1 w1 => ((((m a).testBit f = true) ∧ w1 = wd k q (upd (upd v 10 (nI 0)) 10 (nI 3)) r ex) ∨ ((m a).testBit f = false ∧ w1 = wd k q (upd (upd (upd v 10 (nI 0)) 17 (nI 0)) 15 (v 12)) (va_up r (24 + 2) (upd (r (24 + 2)) a (nI (m a ||| 2 ^ f)))) ex)) ∧ v1 = none) := by
  refine zd_met gd_all (by decide) rfl (Nat.le_of_ble_eq_true rfl) (fun Z E => ?_)
  show Z (wd k q v r ex) [some (.ref (q 22)), some (.int (nI 2)), some (.int (nI a)), some (.int (nI f)), none, none] 0 []
  have hna := t.hna.2
  have hnf := t.2.2.1.1
  obtain ⟨m1, m2⟩ := hm a (by omega)
  have fin : ∀ L4 L5, (m a).testBit f = false → Z (wd k q (upd v 10 (nI 0)) (va_up r (24 + 2) (upd (r (24 + 2)) a (nI (m a ||| 2 ^ f)))) ex) [some (.ref (q 22)), some (.int (nI 2)), some (.int (nI a)), some (.int (nI f)), L4, L5] 148 [] := by
    intro L4 L5 hb
    refine zd_aload_n E (pc := 148) d_M_link_148 rfl ?_
    refine zd_callV E (pc := 149) d_M_link_149 kc_M_66 rfl ki_M_changed ke_M_changed 22 rfl rfl (c_M_changed l D) (by decide) rfl (Nat.le_of_ble_eq_true rfl) (fun v1 ws1 hv1 => ?_)
    obtain ⟨rfl, rfl⟩ := hv1
    exact zd_vret E (pc := 152) d_M_link_152 ⟨Or.inr ⟨hb, rfl⟩, rfl⟩
  have mid : Z (wd k q (upd v 10 (nI 0)) r ex) [some (.ref (q 22)), some (.int (nI 2)), some (.int (nI a)), some (.int (nI f)), some (.int (nI (2 ^ f))), some (.int (nI (m a)))] 86 [] := by
    have hand : m a &&& 2 ^ f ≤ m a := Nat.and_le_left
    refine zd_iload E (pc := 86) d_M_link_86 rfl ?_
    refine zd_iload E (pc := 88) d_M_link_88 rfl ?_
    refine zd_iand E (pc := 90) d_M_link_90 ?_
    rw [bm_and]
    refine zd_if_eq E (pc := 91) 100 d_M_link_91 (by decide) (fun hz => ?_) (fun hz => ?_)
    · have hb : (m a).testBit f = false := by
        cases hbt : (m a).testBit f with
        | false => rfl
        | true =>
          exfalso
          have h1 : m a &&& 2 ^ f = 0 := (nI_eq (by omega) (by decide)).mp (hz.trans nI_0.symm)
          have h2 := congrArg (fun z => z.testBit f) h1
          simp [Nat.testBit_and, hbt, Nat.testBit_two_pow] at h2
      refine zd_iload_n E (pc := 100) d_M_link_100 rfl ?_
      refine zd_if_ne E (pc := 101) 118 d_M_link_101 (by decide) (fun hk => ?_) (fun hk => ?_)
      · refine zd_iload_n E (pc := 118) d_M_link_118 rfl ?_
        refine zd_iconst E (pc := 119) (v := (nI 1)) d_M_link_119 (by decide) ?_
        refine zd_ic_ne E (pc := 120) 137 d_M_link_120 (by decide) (fun hk2 => ?_) (fun hk2 => ?_)
        · refine zd_aload_n E (pc := 137) d_M_link_137 rfl ?_
          refine zd_get E (pc := 138) d_M_link_138 kf_M_19 22 rfl rfl ?_
          refine zd_iload_n E (pc := 141) d_M_link_141 rfl ?_
          refine zd_iload E (pc := 142) d_M_link_142 rfl ?_
          refine zd_iload E (pc := 144) d_M_link_144 rfl ?_
          refine zd_ior E (pc := 146) d_M_link_146 ?_
          rw [bm_or]
          refine zd_iast E (pc := 147) d_M_link_147 26 rfl (t0 := 0) rfl (a) (rfl) ((by omega)) (by decide) (ws1 := wd k q (upd v 10 (nI 0)) (va_up r (24 + 2) (upd (r (24 + 2)) a (nI (m a ||| 2 ^ f)))) ex) rfl ?_
          exact fin _ _ hb
        · exact absurd (Classical.not_not.mp hk2) (by decide)
      · exact absurd (Classical.not_not.mp hk) (by decide)
    · have hb : (m a).testBit f = true := by
        cases hbt : (m a).testBit f with
        | true => rfl
        | false =>
          exfalso
          apply hz
          have : m a &&& 2 ^ f = 0 := by
            refine Nat.eq_of_testBit_eq fun i => ?_
            rw [Nat.testBit_and, Nat.testBit_two_pow, Nat.zero_testBit]
            by_cases e : f = i
            · subst e; rw [hbt]; rfl
            · simp [e]
          rw [this]; rfl
      refine zd_aload_n E (pc := 94) d_M_link_94 rfl ?_
      refine zd_iconst E (pc := 95) (v := (nI 3)) d_M_link_95 (by decide) ?_
      refine zd_put E (pc := 96) d_M_link_96 kp_M_44 22 rfl (Nat.le_of_ble_eq_true rfl) (ws1 := wd k q (upd (upd v 10 (nI 0)) 10 (nI 3)) r ex) rfl ?_
      exact zd_vret E (pc := 99) d_M_link_99 ⟨Or.inl ⟨hb, rfl⟩, rfl⟩
  refine zd_aload_n E (pc := 0) d_M_link_0 rfl ?_
  refine zd_aload_n E (pc := 1) d_M_link_1 rfl ?_
  refine zd_iload_n E (pc := 2) d_M_link_2 rfl ?_
  refine zd_callV E (pc := 3) d_M_link_3 kc_M_69 rfl ki_M_noAction ke_M_noAction 22 rfl rfl (c_M_noAction l D _ t.hna.1 (by omega)) (by decide) rfl (Nat.le_of_ble_eq_true rfl) (fun v1 ws1 hv1 => ?_)
  obtain ⟨b, hc, rfl, rfl⟩ := hv1
  refine zd_bf_ne E (pc := 6) 17 d_M_link_6 (by decide) (fun h0 => ?_) (fun h0 => ?_)
  · rcases hc with ⟨z, -⟩ | ⟨-, z⟩
    · rw [z] at h0; cases h0
    · exact absurd rfl (bm_out z (by omega) ha)
  · refine zd_aload_n E (pc := 9) d_M_link_9 rfl ?_
    refine zd_iload_n E (pc := 10) d_M_link_10 rfl ?_
    refine zd_callV E (pc := 11) d_M_link_11 kc_M_73 rfl ki_M_noFact ke_M_noFact 22 rfl rfl (c_M_noFact l D _ t.1.1 (by omega)) (by decide) rfl (Nat.le_of_ble_eq_true rfl) (fun v1 ws1 hv1 => ?_)
    obtain ⟨b2, hc2, rfl, rfl⟩ := hv1
    refine zd_bf_eq E (pc := 14) 21 d_M_link_14 (by decide) (fun h1 => ?_) (fun h1 => ?_)
    · refine zd_iload_n E (pc := 21) d_M_link_21 rfl ?_
      refine zd_if_lt E (pc := 22) 30 d_M_link_22 (by decide) (fun hq => ?_) (fun hq => ?_)
      · exact absurd hq (by decide)
      · refine zd_iload_n E (pc := 25) d_M_link_25 rfl ?_
        refine zd_iconst E (pc := 26) (v := (nI 2)) d_M_link_26 (by decide) ?_
        refine zd_ic_le E (pc := 27) 34 d_M_link_27 (by decide) (fun hq2 => ?_) (fun hq2 => ?_)
        · refine zd_iconst E (pc := 34) (v := (nI 0)) d_M_link_34 (by decide) ?_
          refine zd_put E (pc := 35) d_M_link_35 kp_M_44 22 rfl (Nat.le_of_ble_eq_true rfl) (ws1 := wd k q (upd v 10 (nI 0)) r ex) rfl ?_
          refine zd_aload_n E (pc := 38) d_M_link_38 rfl ?_
          refine zd_get E (pc := 39) d_M_link_39 kf_M_44 22 rfl rfl ?_
          refine zd_if_le E (pc := 42) 46 d_M_link_42 (by decide) (fun hc3 => ?_) (fun hc3 => ?_)
          · refine zd_iconst E (pc := 46) (v := (nI 1)) d_M_link_46 (by decide) ?_
            refine zd_iload_n E (pc := 47) d_M_link_47 rfl ?_
            refine zd_ishl E (pc := 48) d_M_link_48 ?_
            rw [bm_one (by omega)]
            refine zd_istore E (pc := 49) d_M_link_49 (by decide) ?_
            refine zd_iload_n E (pc := 51) d_M_link_51 rfl ?_
            refine zd_if_ne E (pc := 52) 64 d_M_link_52 (by decide) (fun hk => ?_) (fun hk => ?_)
            · refine zd_iload_n E (pc := 64) d_M_link_64 rfl ?_
              refine zd_iconst E (pc := 65) (v := (nI 1)) d_M_link_65 (by decide) ?_
              refine zd_ic_ne E (pc := 66) 78 d_M_link_66 (by decide) (fun hk2 => ?_) (fun hk2 => ?_)
              · refine zd_aload_n E (pc := 78) d_M_link_78 rfl ?_
                refine zd_get E (pc := 79) d_M_link_79 kf_M_19 22 rfl rfl ?_
                refine zd_iload_n E (pc := 82) d_M_link_82 rfl ?_
                refine zd_iald E (pc := 83) d_M_link_83 26 rfl (t0 := 0) rfl (a) (rfl) ((by omega)) (by decide) ?_
                show Z (wd k q (upd v 10 (nI 0)) r ex) _ 84 [.int (r (24 + 2) a)]
                rw [m1]
                refine zd_istore E (pc := 84) d_M_link_84 (by decide) ?_
                exact mid
              · exact absurd (Classical.not_not.mp hk2) (by decide)
            · exact absurd (Classical.not_not.mp hk) (by decide)
          · exact absurd (show nI 0 ≤ 0 by decide) hc3
        · exact absurd (by decide) hq2
    · rcases hc2 with ⟨z, -⟩ | ⟨-, z⟩
      · rw [z] at h1; cases h1
      · exact absurd rfl (bm_out z (by omega) hf)
end M2
