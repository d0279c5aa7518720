/-! Contracts of the leaves: has, hasAll, orNone, and the task's reads. -/
set_option maxRecDepth 100000 in
set_option maxHeartbeats 4000000 in
theorem c_P_has (l : Launch) (D : va_G) (tys : List (ClassId × FieldType)) (ws : va_W) {S j : Nat} (hS : S < 2 ^ 31) (hj : j < 32) : zd_Ct l D classes tys gd_T y_P_has b_P_has 2 (some .boolean) (zd_rm 0) [.int (nI S), .int (nI j)] ws (zd_is (some (.int (nI (if S.testBit j = true then 1 else 0)))) ws) := by
  refine zd_met gd_all (by decide) rfl (Nat.le_of_ble_eq_true rfl) (fun Z E => ?_)
  show Z ws [some (.int (nI S)), some (.int (nI j))] 0 []
  refine zd_iload_n E (pc := 0) d_P_has_0 rfl ?_
  refine zd_iload_n E (pc := 1) d_P_has_1 rfl ?_
  refine zd_ishr E (pc := 2) d_P_has_2 ?_
  refine zd_iconst E (pc := 3) (v := (nI 1)) d_P_has_3 (by decide) ?_
  refine zd_iand E (pc := 4) d_P_has_4 ?_
  rw [bm_has hS hj]
  refine zd_bf_eq E (pc := 5) 12 d_P_has_5 (by decide) (fun h => ?_) (fun h => ?_)
  · refine zd_iconst E (pc := 12) (v := (nI 0)) d_P_has_12 (by decide) ?_
    exact zd_zret E (pc := 13) d_P_has_13 (by decide) ⟨by rw [if_neg h], rfl⟩
  · refine zd_iconst E (pc := 8) (v := (nI 1)) d_P_has_8 (by decide) ?_
    refine zd_goto E (pc := 9) 13 d_P_has_9 (by decide) ?_
    exact zd_zret E (pc := 13) d_P_has_13 (by decide) ⟨by rw [if_pos h], rfl⟩
set_option maxRecDepth 100000 in
set_option maxHeartbeats 4000000 in
theorem c_P_hasAll (l : Launch) (D : va_G) (tys : List (ClassId × FieldType)) (ws : va_W) {S M : Nat} (hM : M < 2 ^ 31) : zd_Ct l D classes tys gd_T y_P_hasAll b_P_hasAll 2 (some .boolean) (zd_rm 0) [.int (nI S), .int (nI M)] ws (zd_is (some (.int (nI (if S &&& M = M then 1 else 0)))) ws) := by
  refine zd_met gd_all (by decide) rfl (Nat.le_of_ble_eq_true rfl) (fun Z E => ?_)
  show Z ws [some (.int (nI S)), some (.int (nI M))] 0 []
  have hle : S &&& M ≤ M := Nat.and_le_right
  refine zd_iload_n E (pc := 0) d_P_hasAll_0 rfl ?_
  refine zd_iload_n E (pc := 1) d_P_hasAll_1 rfl ?_
  refine zd_iand E (pc := 2) d_P_hasAll_2 ?_
  rw [bm_and]
  refine zd_iload_n E (pc := 3) d_P_hasAll_3 rfl ?_
  refine zd_nc_ne E (pc := 4) 11 d_P_hasAll_4 (by decide) ((by omega)) (hM) (fun h => ?_) (fun h => ?_)
  · refine zd_iconst E (pc := 11) (v := (nI 0)) d_P_hasAll_11 (by decide) ?_
    exact zd_zret E (pc := 12) d_P_hasAll_12 (by decide) ⟨by rw [if_neg h], rfl⟩
  · refine zd_iconst E (pc := 7) (v := (nI 1)) d_P_hasAll_7 (by decide) ?_
    refine zd_goto E (pc := 8) 12 d_P_hasAll_8 (by decide) ?_
    exact zd_zret E (pc := 12) d_P_hasAll_12 (by decide) ⟨by rw [if_pos h], rfl⟩
set_option maxRecDepth 100000 in
set_option maxHeartbeats 4000000 in
theorem c_P_orNone (l : Launch) (D : va_G) (tys : List (ClassId × FieldType)) (ws : va_W) {x : Nat} (hx : x < 2 ^ 31) : zd_Ct l D classes tys gd_T y_P_orNone b_P_orNone 1 (some .int) (zd_rm 0) [.int (nI x)] ws (zd_is (some (.int (if 1000000 ≤ x then -1 else nI x))) ws) := by
  refine zd_met gd_all (by decide) rfl (Nat.le_of_ble_eq_true rfl) (fun Z E => ?_)
  show Z ws [some (.int (nI x))] 0 []
  refine zd_iload_n E (pc := 0) d_P_orNone_0 rfl ?_
  refine zd_ldc E (pc := 1) (v := (nI 1000000)) d_P_orNone_1 kk_P_184 ?_
  refine zd_nc_lt E (pc := 3) 10 d_P_orNone_3 (by decide) (hx) ((by decide)) (fun h => ?_) (fun h => ?_)
  · refine zd_iload_n E (pc := 10) d_P_orNone_10 rfl ?_
    exact zd_iret E (pc := 11) d_P_orNone_11 ⟨by rw [if_neg (by omega)], rfl⟩
  · refine zd_iconst E (pc := 6) (v := (-1)) d_P_orNone_6 (by decide) ?_
    refine zd_goto E (pc := 7) 11 d_P_orNone_7 (by decide) ?_
    exact zd_iret E (pc := 11) d_P_orNone_11 ⟨by rw [if_pos h], rfl⟩
section LF
variable {k : Nat → ClassId} {q : Nat → Nat} {v : Nat → Int32} {r : Nat → Nat → Int32} {ex : va_W}
set_option maxRecDepth 100000 in
set_option maxHeartbeats 4000000 in
theorem c_T_allows (l : Launch) (D : va_G) {s a : Nat} {ne : Nat → Nat} (ha : a < 12) (hne : ∀ i, i < 12 → r 4 i = nI (ne i) ∧ ne i < 2 ^ 31) : zd_Ct l D classes (wd_ty k) gd_T y_T_allows b_T_allows 3 (some .boolean) (zd_rm 1) [.ref (q 1), .int (nI a), .int (nI s)] (wd k q v r ex) (zd_is (some (.int (nI (if s &&& ne a = ne a then 1 else 0)))) (wd k q v r ex)) := by
  refine zd_met gd_all (by decide) rfl (Nat.le_of_ble_eq_true rfl) (fun Z E => ?_)
  show Z (wd k q v r ex) [some (.ref (q 1)), some (.int (nI a)), some (.int (nI s))] 0 []
  refine zd_iload_n E (pc := 0) d_T_allows_0 rfl ?_
  refine zd_aload_n E (pc := 1) d_T_allows_1 rfl ?_
  refine zd_get E (pc := 2) d_T_allows_2 kf_T_17 1 rfl rfl ?_
  refine zd_iconst E (pc := 5) (v := (nI 0)) d_T_allows_5 (by decide) ?_
  refine zd_aald E (pc := 6) d_T_allows_6 3 rfl (t0 := 2) rfl rfl (0) (rfl) (by decide) (by decide) rfl ?_
  refine zd_iload_n E (pc := 7) d_T_allows_7 rfl ?_
  refine zd_iald E (pc := 8) d_T_allows_8 4 rfl (t0 := 0) rfl (a) (rfl) (ha) (by decide) ?_
  rw [(hne a ha).1]
  refine zd_callS E (pc := 9) d_T_allows_9 kc_T_33 rfl ks_P_hasAll (c_P_hasAll l D _ _ (S := s) (hne a ha).2) (by decide) rfl (Nat.le_of_ble_eq_true rfl) (fun v1 ws1 hv1 => ?_)
  obtain ⟨rfl, rfl⟩ := hv1
  exact zd_zret E (pc := 12) d_T_allows_12 (by split <;> decide) ⟨rfl, rfl⟩
set_option maxRecDepth 100000 in
set_option maxHeartbeats 4000000 in
theorem c_T_after (l : Launch) (D : va_G) {s a : Nat} {ad dr : Nat → Nat} (ha : a < 12) (had : ∀ i, i < 12 → r 5 i = nI (ad i)) (hdr : ∀ i, i < 12 → r 6 i = nI (dr i)) : zd_Ct l D classes (wd_ty k) gd_T y_T_after b_T_after 3 (some .int) (zd_rm 0) [.ref (q 1), .int (nI a), .int (nI s)] (wd k q v r ex) (zd_is (some (.int (nI (bm_dif s (dr a) ||| ad a)))) (wd k q v r ex)) := by
  refine zd_met gd_all (by decide) rfl (Nat.le_of_ble_eq_true rfl) (fun Z E => ?_)
  show Z (wd k q v r ex) [some (.ref (q 1)), some (.int (nI a)), some (.int (nI s))] 0 []
  refine zd_iload_n E (pc := 0) d_T_after_0 rfl ?_
  refine zd_aload_n E (pc := 1) d_T_after_1 rfl ?_
  refine zd_get E (pc := 2) d_T_after_2 kf_T_17 1 rfl rfl ?_
  refine zd_iconst E (pc := 5) (v := (nI 2)) d_T_after_5 (by decide) ?_
  refine zd_aald E (pc := 6) d_T_after_6 3 rfl (t0 := 2) rfl rfl (2) (rfl) (by decide) (by decide) rfl ?_
  refine zd_iload_n E (pc := 7) d_T_after_7 rfl ?_
  refine zd_iald E (pc := 8) d_T_after_8 6 rfl (t0 := 0) rfl (a) (rfl) (ha) (by decide) ?_
  rw [hdr a ha]
  refine zd_iconst E (pc := 9) (v := (-1)) d_T_after_9 (by decide) ?_
  refine zd_ixor E (pc := 10) d_T_after_10 ?_
  refine zd_iand E (pc := 11) d_T_after_11 ?_
  rw [bm_dif32]
  refine zd_aload_n E (pc := 12) d_T_after_12 rfl ?_
  refine zd_get E (pc := 13) d_T_after_13 kf_T_17 1 rfl rfl ?_
  refine zd_iconst E (pc := 16) (v := (nI 1)) d_T_after_16 (by decide) ?_
  refine zd_aald E (pc := 17) d_T_after_17 3 rfl (t0 := 2) rfl rfl (1) (rfl) (by decide) (by decide) rfl ?_
  refine zd_iload_n E (pc := 18) d_T_after_18 rfl ?_
  refine zd_iald E (pc := 19) d_T_after_19 5 rfl (t0 := 0) rfl (a) (rfl) (ha) (by decide) ?_
  rw [had a ha]
  refine zd_ior E (pc := 20) d_T_after_20 ?_
  rw [bm_or]
  exact zd_iret E (pc := 21) d_T_after_21 ⟨rfl, rfl⟩
set_option maxRecDepth 100000 in
set_option maxHeartbeats 4000000 in
theorem c_T_isMet (l : Launch) (D : va_G) {s go : Nat} (hg : v 3 = nI go) (hgo : go < 2 ^ 31) : zd_Ct l D classes (wd_ty k) gd_T y_T_isMet b_T_isMet 2 (some .boolean) (zd_rm 1) [.ref (q 1), .int (nI s)] (wd k q v r ex) (zd_is (some (.int (nI (if s &&& go = go then 1 else 0)))) (wd k q v r ex)) := by
  refine zd_met gd_all (by decide) rfl (Nat.le_of_ble_eq_true rfl) (fun Z E => ?_)
  show Z (wd k q v r ex) [some (.ref (q 1)), some (.int (nI s))] 0 []
  refine zd_iload_n E (pc := 0) d_T_isMet_0 rfl ?_
  refine zd_aload_n E (pc := 1) d_T_isMet_1 rfl ?_
  refine zd_get E (pc := 2) d_T_isMet_2 kf_T_27 1 rfl rfl ?_
  rw [hg]
  refine zd_callS E (pc := 5) d_T_isMet_5 kc_T_33 rfl ks_P_hasAll (c_P_hasAll l D _ _ (S := s) hgo) (by decide) rfl (Nat.le_of_ble_eq_true rfl) (fun v1 ws1 hv1 => ?_)
  obtain ⟨rfl, rfl⟩ := hv1
  exact zd_zret E (pc := 8) d_T_isMet_8 (by split <;> decide) ⟨rfl, rfl⟩
end LF
