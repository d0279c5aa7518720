/-! The constructors. -/
section CT1
variable {k : Nat → ClassId} {ex : va_W}
set_option maxRecDepth 100000 in
set_option maxHeartbeats 4000000 in
theorem c_fill (l : Launch) (D : va_G) {b : Nat} {x : Int32} {f : Nat → Int32} {w0 w1 : Nat × va_E} : zd_Ct l D classes (wd_ty k) gd_T y_fill b_fill 4 none (zd_rm 0) [.ref b, .int x] (w0 :: w1 :: (b, .inl (k 0, 1024, .inl f)) :: ex) (fun v w => ∃ g : Nat → Int32, (∀ i, i < 1024 → g i = x) ∧ v = none ∧ w = w0 :: w1 :: (b, .inl (k 0, 1024, .inl g)) :: ex) := by
  refine zd_met gd_all (by decide) rfl (Nat.le_of_ble_eq_true rfl) (fun Z E => ?_)
  show Z (w0 :: w1 :: (b, .inl (k 0, 1024, .inl f)) :: ex) [some (.ref b), some (.int x), none, none] 0 []
  have loop : ∀ (m i : Nat) (g : Nat → Int32), i + m = 1024 → (∀ j, j < i → g j = x) → Z (w0 :: w1 :: (b, .inl (k 0, 1024, .inl g)) :: ex) [some (.ref b), some (.int x), some (.int (nI i)), some (.int (nI 1024))] 5 [] := by
    intro m
    induction m with
    | zero =>
      intro i g hi hg
      have e : i = 1024 := by omega
      subst e
      refine zd_iload_n E (pc := 5) d_fill_5 rfl ?_
      refine zd_iload_n E (pc := 6) d_fill_6 rfl ?_
      refine zd_nc_ge E (pc := 7) 20 d_fill_7 (by decide) (by decide) (by decide) (fun h => ?_) (fun h => ?_)
      · exact zd_vret E (pc := 20) d_fill_20 ⟨g, hg, rfl, rfl⟩
      · omega
    | succ m ih =>
      intro i g hi hg
      refine zd_iload_n E (pc := 5) d_fill_5 rfl ?_
      refine zd_iload_n E (pc := 6) d_fill_6 rfl ?_
      refine zd_nc_ge E (pc := 7) 20 d_fill_7 (by decide) (by omega) (by decide) (fun h => ?_) (fun h => ?_)
      · omega
      · refine zd_aload_n E (pc := 10) d_fill_10 rfl ?_
        refine zd_iload_n E (pc := 11) d_fill_11 rfl ?_
        refine zd_iload_n E (pc := 12) d_fill_12 rfl ?_
        refine zd_iast E (pc := 13) d_fill_13 2 rfl (t0 := 0) rfl i rfl (by omega) (by decide) (ws1 := w0 :: w1 :: (b, .inl (k 0, 1024, .inl (upd g i x))) :: ex) rfl ?_
        refine zd_iinc E (pc := 14) d_fill_14 rfl (bm_inc i) (by decide) ?_
        refine zd_goto E (pc := 17) 5 d_fill_17 (by decide) ?_
        refine ih (i + 1) (upd g i x) (by omega) (fun j hj => ?_)
        by_cases e : j = i
        · subst e; exact pk_us
        · rw [pk_un e]; exact hg j (by omega)
  refine zd_iconst E (pc := 0) (v := (nI 0)) d_fill_0 (by decide) ?_
  refine zd_istore_n E (pc := 1) d_fill_1 (by decide) ?_
  refine zd_aload_n E (pc := 2) d_fill_2 rfl ?_
  refine zd_alen E (pc := 3) d_fill_3 2 rfl (t0 := 0) rfl (v := nI 1024) rfl ?_
  refine zd_istore_n E (pc := 4) d_fill_4 (by decide) ?_
  exact loop 1024 0 f rfl (fun j hj => by omega)
set_option maxRecDepth 100000 in
set_option maxHeartbeats 4000000 in
theorem c_R_init (l : Launch) (D : va_G) {a N : Nat} (hN : N < 100000) : zx_Ct l D classes (wd_ty k) gd_T y_R_init (.code y_R_init b_R_init 2 none) (zx_rm 1 1 N) [.ref a, .int (nI N)] ((a, .inr (2, [.null, .int 0])) :: ex) (fun v w => ∃ q1, v = none ∧ w = (q1, .inl (k 0, N, .inl (fun _ => 0))) :: (a, .inr (2, [.ref q1, .int 0])) :: ex) 1 N (fun _ => True) := by
  refine zx_met gd_all (fun _ _ _ _ => trivial) (by decide) rfl (Nat.le_of_ble_eq_true rfl) ⟨Nat.le_refl _, Nat.le_refl _⟩ (fun Zf X => ?_)
  show Zf 0 0 ((a, .inr (2, [.null, .int 0])) :: ex) [some (.ref a), some (.int (nI N))] 0 []
  have E := X.E (nc := 0) (ns := 0) (by decide) (Nat.zero_le _)
  refine zd_aload_n E (pc := 0) d_R_init_0 rfl ?_
  refine zx_obj X (pc := 1) d_R_init_1 ko_R ko_i ko_c (show 1 ≤ 1 ∧ 40 ≤ 40 by decide) (Nat.le_of_ble_eq_true rfl) ?_
  refine zd_aload_n E (pc := 4) d_R_init_4 rfl ?_
  refine zd_iload_n E (pc := 5) d_R_init_5 rfl ?_
  refine zx_newI X (pc := 6) d_R_init_6 ka_int rfl rfl hN (by decide) (by omega) (fun q1 => ?_)
  refine zx_putN X (pc := 8) d_R_init_8 kq_R_7 ⟨rfl, rfl⟩ 1 rfl (Nat.le_of_ble_eq_true rfl) (ws1 := (q1, .inl (k 0, N, .inl (fun _ => 0))) :: (a, .inr (2, [.ref q1, .int 0])) :: ex) rfl ?_
  exact zd_vret (X.E (nc := 0 + 1) (ns := 0 + N) (by decide) (by omega)) (pc := 11) d_R_init_11 ⟨q1, rfl, rfl⟩
set_option maxRecDepth 100000 in
set_option maxHeartbeats 4000000 in
theorem c_T_init (l : Launch) (D : va_G) {a : Nat} : zx_Ct l D classes (wd_ty k) gd_T y_T_init (.code y_T_init b_T_init 1 none) (zx_rm 1 5 51) [.ref a] ((a, .inr (1, [.null, .null, .int 0, .int 0, .int 0, .int 0])) :: ex) (fun v w => ∃ q1 q2 q3 q4 q5, v = none ∧ w = (q2, .inl (k 2, 3, .inr (.inr (.inr (.inr (mn_lk q3 q4 q5)))))) :: (q3, .inl (k 0, 12, .inl (fun _ => 0))) :: (q4, .inl (k 0, 12, .inl (fun _ => 0))) :: (q5, .inl (k 0, 12, .inl (fun _ => 0))) :: (q1, .inl (k 0, 12, .inl (fun _ => 0))) :: (a, .inr (1, [.ref q1, .ref q2, .int 0, .int 0, .int 0, .int 0])) :: ex) 5 51 mn_Y := by
  refine zx_met gd_all mn_Yk (by decide) rfl (Nat.le_of_ble_eq_true rfl) ⟨by decide, by decide⟩ (fun Zf X => ?_)
  show Zf 0 0 ((a, .inr (1, [.null, .null, .int 0, .int 0, .int 0, .int 0])) :: ex) [some (.ref a)] 0 []
  have E := X.E (nc := 0) (ns := 0) (by decide) (by decide)
  refine zd_aload_n E (pc := 0) d_T_init_0 rfl ?_
  refine zx_obj X (pc := 1) d_T_init_1 ko_T ko_i ko_c ⟨by decide, by decide⟩ (Nat.le_of_ble_eq_true rfl) ?_
  refine zd_aload_n E (pc := 4) d_T_init_4 rfl ?_
  refine zd_bipush E (pc := 5) (v := (nI 12)) d_T_init_5 (by decide) ?_
  refine zx_newI X (pc := 7) d_T_init_7 ka_int rfl rfl (by decide) (by decide) (by decide) (fun q1 => ?_)
  show Zf 1 12 ((q1, .inl (k 0, 12, .inl (fun _ => 0))) :: (a, .inr (1, [.null, .null, .int 0, .int 0, .int 0, .int 0])) :: ex) [some (.ref a)] 9 [.ref q1, .ref a]
  have E := X.E (nc := 1) (ns := 12) (by decide) (by decide)
  refine zx_putN X (pc := 9) d_T_init_9 kq_T_9 ⟨rfl, rfl⟩ 1 rfl (Nat.le_of_ble_eq_true rfl) (ws1 := (q1, .inl (k 0, 12, .inl (fun _ => 0))) :: (a, .inr (1, [.ref q1, .null, .int 0, .int 0, .int 0, .int 0])) :: ex) rfl ?_
  refine zd_aload_n E (pc := 12) d_T_init_12 rfl ?_
  refine zd_iconst E (pc := 13) (v := (nI 3)) d_T_init_13 (by decide) ?_
  refine zd_bipush E (pc := 14) (v := (nI 12)) d_T_init_14 (by decide) ?_
  refine zx_mna X (pc := 16) d_T_init_16 ka_grid ka_int (fun _ h => h) rfl rfl (by decide) (by decide) (fun q2 q3 q4 q5 => ?_)
  show Zf 5 51 ((q2, .inl (k 2, 3, .inr (.inr (.inr (.inr (mn_lk q3 q4 q5)))))) :: (q3, .inl (k 0, 12, .inl (fun _ => 0))) :: (q4, .inl (k 0, 12, .inl (fun _ => 0))) :: (q5, .inl (k 0, 12, .inl (fun _ => 0))) :: (q1, .inl (k 0, 12, .inl (fun _ => 0))) :: (a, .inr (1, [.ref q1, .null, .int 0, .int 0, .int 0, .int 0])) :: ex) [some (.ref a)] 20 [.ref q2, .ref a]
  have E := X.E (nc := 5) (ns := 51) (by decide) (by decide)
  refine zx_putN X (pc := 20) d_T_init_20 kq_T_17 ⟨rfl, rfl⟩ 5 rfl (Nat.le_of_ble_eq_true rfl) (ws1 := (q2, .inl (k 2, 3, .inr (.inr (.inr (.inr (mn_lk q3 q4 q5)))))) :: (q3, .inl (k 0, 12, .inl (fun _ => 0))) :: (q4, .inl (k 0, 12, .inl (fun _ => 0))) :: (q5, .inl (k 0, 12, .inl (fun _ => 0))) :: (q1, .inl (k 0, 12, .inl (fun _ => 0))) :: (a, .inr (1, [.ref q1, .ref q2, .int 0, .int 0, .int 0, .int 0])) :: ex) rfl ?_
  exact zd_vret E (pc := 23) d_T_init_23 ⟨q1, q2, q3, q4, q5, rfl, rfl⟩
set_option maxRecDepth 100000 in
set_option maxHeartbeats 4000000 in
theorem c_S_init (l : Launch) (D : va_G) {a t : Nat} : zx_Ct l D classes (wd_ty k) gd_T y_S_init (.code y_S_init b_S_init 2 none) (zx_rm 1 4 3082) [.ref a, .ref t] ((a, .inr (3, [.null, .null, .null, .null, .null, .int 0])) :: ex) (fun v w => ∃ q1 q2 q3 q4, ∃ g : Nat → Int32, (∀ i, i < 1024 → g i = -1) ∧ v = none ∧ w = (q4, .inl (k 0, 10, .inl (fun _ => 0))) :: (q3, .inl (k 0, 1024, .inl (fun _ => 0))) :: (q2, .inl (k 0, 1024, .inl g)) :: (q1, .inl (k 0, 1024, .inl (fun _ => 0))) :: (a, .inr (3, [.ref t, .ref q1, .ref q2, .ref q3, .ref q4, .int 0])) :: ex) 4 3082 (fun _ => True) := by
  refine zx_met gd_all (fun _ _ _ _ => trivial) (by decide) rfl (Nat.le_of_ble_eq_true rfl) ⟨by decide, by decide⟩ (fun Zf X => ?_)
  show Zf 0 0 ((a, .inr (3, [.null, .null, .null, .null, .null, .int 0])) :: ex) [some (.ref a), some (.ref t)] 0 []
  have E := X.E (nc := 0) (ns := 0) (by decide) (by decide)
  refine zd_aload_n E (pc := 0) d_S_init_0 rfl ?_
  refine zx_obj X (pc := 1) d_S_init_1 ko_S ko_i ko_c ⟨by decide, by decide⟩ (Nat.le_of_ble_eq_true rfl) ?_
  refine zd_aload_n E (pc := 4) d_S_init_4 rfl ?_
  refine zd_sipush E (pc := 5) (v := (nI 1024)) d_S_init_5 (by decide) ?_
  refine zx_newI X (pc := 8) d_S_init_8 ka_int rfl rfl (by decide) (by decide) (by decide) (fun q1 => ?_)
  show Zf 1 1024 ((q1, .inl (k 0, 1024, .inl (fun _ => 0))) :: (a, .inr (3, [.null, .null, .null, .null, .null, .int 0])) :: ex) [some (.ref a), some (.ref t)] 10 [.ref q1, .ref a]
  have E := X.E (nc := 1) (ns := 1024) (by decide) (by decide)
  refine zx_putN X (pc := 10) d_S_init_10 kq_S_9 ⟨rfl, rfl⟩ 1 rfl (Nat.le_of_ble_eq_true rfl) (ws1 := (q1, .inl (k 0, 1024, .inl (fun _ => 0))) :: (a, .inr (3, [.null, .ref q1, .null, .null, .null, .int 0])) :: ex) rfl ?_
  refine zd_aload_n E (pc := 13) d_S_init_13 rfl ?_
  refine zd_sipush E (pc := 14) (v := (nI 1024)) d_S_init_14 (by decide) ?_
  refine zx_newI X (pc := 17) d_S_init_17 ka_int rfl rfl (by decide) (by decide) (by decide) (fun q2 => ?_)
  show Zf 2 2048 ((q2, .inl (k 0, 1024, .inl (fun _ => 0))) :: (q1, .inl (k 0, 1024, .inl (fun _ => 0))) :: (a, .inr (3, [.null, .ref q1, .null, .null, .null, .int 0])) :: ex) [some (.ref a), some (.ref t)] 19 [.ref q2, .ref a]
  have E := X.E (nc := 2) (ns := 2048) (by decide) (by decide)
  refine zx_putN X (pc := 19) d_S_init_19 kq_S_15 ⟨rfl, rfl⟩ 2 rfl (Nat.le_of_ble_eq_true rfl) (ws1 := (q2, .inl (k 0, 1024, .inl (fun _ => 0))) :: (q1, .inl (k 0, 1024, .inl (fun _ => 0))) :: (a, .inr (3, [.null, .ref q1, .ref q2, .null, .null, .int 0])) :: ex) rfl ?_
  refine zd_aload_n E (pc := 22) d_S_init_22 rfl ?_
  refine zd_sipush E (pc := 23) (v := (nI 1024)) d_S_init_23 (by decide) ?_
  refine zx_newI X (pc := 26) d_S_init_26 ka_int rfl rfl (by decide) (by decide) (by decide) (fun q3 => ?_)
  show Zf 3 3072 ((q3, .inl (k 0, 1024, .inl (fun _ => 0))) :: (q2, .inl (k 0, 1024, .inl (fun _ => 0))) :: (q1, .inl (k 0, 1024, .inl (fun _ => 0))) :: (a, .inr (3, [.null, .ref q1, .ref q2, .null, .null, .int 0])) :: ex) [some (.ref a), some (.ref t)] 28 [.ref q3, .ref a]
  have E := X.E (nc := 3) (ns := 3072) (by decide) (by decide)
  refine zx_putN X (pc := 28) d_S_init_28 kq_S_18 ⟨rfl, rfl⟩ 3 rfl (Nat.le_of_ble_eq_true rfl) (ws1 := (q3, .inl (k 0, 1024, .inl (fun _ => 0))) :: (q2, .inl (k 0, 1024, .inl (fun _ => 0))) :: (q1, .inl (k 0, 1024, .inl (fun _ => 0))) :: (a, .inr (3, [.null, .ref q1, .ref q2, .ref q3, .null, .int 0])) :: ex) rfl ?_
  refine zd_aload_n E (pc := 31) d_S_init_31 rfl ?_
  refine zd_bipush E (pc := 32) (v := (nI 10)) d_S_init_32 (by decide) ?_
  refine zx_newI X (pc := 34) d_S_init_34 ka_int rfl rfl (by decide) (by decide) (by decide) (fun q4 => ?_)
  show Zf 4 3082 ((q4, .inl (k 0, 10, .inl (fun _ => 0))) :: (q3, .inl (k 0, 1024, .inl (fun _ => 0))) :: (q2, .inl (k 0, 1024, .inl (fun _ => 0))) :: (q1, .inl (k 0, 1024, .inl (fun _ => 0))) :: (a, .inr (3, [.null, .ref q1, .ref q2, .ref q3, .null, .int 0])) :: ex) [some (.ref a), some (.ref t)] 36 [.ref q4, .ref a]
  have E := X.E (nc := 4) (ns := 3082) (by decide) (by decide)
  refine zx_putN X (pc := 36) d_S_init_36 kq_S_21 ⟨rfl, rfl⟩ 4 rfl (Nat.le_of_ble_eq_true rfl) (ws1 := (q4, .inl (k 0, 10, .inl (fun _ => 0))) :: (q3, .inl (k 0, 1024, .inl (fun _ => 0))) :: (q2, .inl (k 0, 1024, .inl (fun _ => 0))) :: (q1, .inl (k 0, 1024, .inl (fun _ => 0))) :: (a, .inr (3, [.null, .ref q1, .ref q2, .ref q3, .ref q4, .int 0])) :: ex) rfl ?_
  refine zd_aload_n E (pc := 39) d_S_init_39 rfl ?_
  refine zd_aload_n E (pc := 40) d_S_init_40 rfl ?_
  refine zx_putN X (pc := 41) d_S_init_41 kq_S_24 ⟨rfl, rfl⟩ 4 rfl (Nat.le_of_ble_eq_true rfl) (ws1 := (q4, .inl (k 0, 10, .inl (fun _ => 0))) :: (q3, .inl (k 0, 1024, .inl (fun _ => 0))) :: (q2, .inl (k 0, 1024, .inl (fun _ => 0))) :: (q1, .inl (k 0, 1024, .inl (fun _ => 0))) :: (a, .inr (3, [.ref t, .ref q1, .ref q2, .ref q3, .ref q4, .int 0])) :: ex) rfl ?_
  refine zd_aload_n E (pc := 44) d_S_init_44 rfl ?_
  refine zd_get E (pc := 45) d_S_init_45 kf_S_15 4 rfl rfl ?_
  refine zd_iconst E (pc := 48) (v := (-1)) d_S_init_48 (by decide) ?_
  refine zd_callSR E (pc := 49) d_S_init_49 kc_fill rfl ks_fill (c_fill l D) ⟨by decide, by decide⟩ rfl (Nat.le_of_ble_eq_true rfl) (fun v1 ws1 hv1 => ?_)
  obtain ⟨g, hg, rfl, rfl⟩ := hv1
  show Zf 4 3082 ((q4, .inl (k 0, 10, .inl (fun _ => 0))) :: (q3, .inl (k 0, 1024, .inl (fun _ => 0))) :: (q2, .inl (k 0, 1024, .inl g)) :: (q1, .inl (k 0, 1024, .inl (fun _ => 0))) :: (a, .inr (3, [.ref t, .ref q1, .ref q2, .ref q3, .ref q4, .int 0])) :: ex) [some (.ref a), some (.ref t)] 52 []
  have E := X.E (nc := 4) (ns := 3082) (by decide) (by decide)
  exact zd_vret E (pc := 52) d_S_init_52 ⟨q1, q2, q3, q4, g, hg, rfl, rfl⟩
set_option maxRecDepth 100000 in
set_option maxHeartbeats 4000000 in
theorem c_V_init (l : Launch) (D : va_G) {a t : Nat} : zx_Ct l D classes (wd_ty k) gd_T y_V_init (.code y_V_init b_V_init 2 none) (zx_rm 1 1 10) [.ref a, .ref t] ((a, .inr (4, [.null, .null])) :: ex) (fun v w => ∃ q1, v = none ∧ w = (q1, .inl (k 0, 10, .inl (fun _ => 0))) :: (a, .inr (4, [.ref t, .ref q1])) :: ex) 1 10 (fun _ => True) := by
  refine zx_met gd_all (fun _ _ _ _ => trivial) (by decide) rfl (Nat.le_of_ble_eq_true rfl) ⟨by decide, by decide⟩ (fun Zf X => ?_)
  show Zf 0 0 ((a, .inr (4, [.null, .null])) :: ex) [some (.ref a), some (.ref t)] 0 []
  have E := X.E (nc := 0) (ns := 0) (by decide) (by decide)
  refine zd_aload_n E (pc := 0) d_V_init_0 rfl ?_
  refine zx_obj X (pc := 1) d_V_init_1 ko_V ko_i ko_c ⟨by decide, by decide⟩ (Nat.le_of_ble_eq_true rfl) ?_
  refine zd_aload_n E (pc := 4) d_V_init_4 rfl ?_
  refine zd_bipush E (pc := 5) (v := (nI 10)) d_V_init_5 (by decide) ?_
  refine zx_newI X (pc := 7) d_V_init_7 ka_int rfl rfl (by decide) (by decide) (by decide) (fun q1 => ?_)
  show Zf 1 10 ((q1, .inl (k 0, 10, .inl (fun _ => 0))) :: (a, .inr (4, [.null, .null])) :: ex) [some (.ref a), some (.ref t)] 9 [.ref q1, .ref a]
  have E := X.E (nc := 1) (ns := 10) (by decide) (by decide)
  refine zx_putN X (pc := 9) d_V_init_9 kq_V_9 ⟨rfl, rfl⟩ 1 rfl (Nat.le_of_ble_eq_true rfl) (ws1 := (q1, .inl (k 0, 10, .inl (fun _ => 0))) :: (a, .inr (4, [.null, .ref q1])) :: ex) rfl ?_
  refine zd_aload_n E (pc := 12) d_V_init_12 rfl ?_
  refine zd_aload_n E (pc := 13) d_V_init_13 rfl ?_
  refine zx_putN X (pc := 14) d_V_init_14 kq_V_15 ⟨rfl, rfl⟩ 1 rfl (Nat.le_of_ble_eq_true rfl) (ws1 := (q1, .inl (k 0, 10, .inl (fun _ => 0))) :: (a, .inr (4, [.ref t, .ref q1])) :: ex) rfl ?_
  exact zd_vret E (pc := 17) d_V_init_17 ⟨q1, rfl, rfl⟩
set_option maxRecDepth 100000 in
set_option maxHeartbeats 4000000 in
theorem c_U_init (l : Launch) (D : va_G) {a t u : Nat} : zx_Ct l D classes (wd_ty k) gd_T y_U_init (.code y_U_init b_U_init 3 none) (zx_rm 1 3 36) [.ref a, .ref t, .ref u] ((a, .inr (5, [.null, .null, .null, .null, .null, .int 0, .int 0])) :: ex) (fun v w => ∃ q1 q2 q3, v = none ∧ w = (q3, .inl (k 0, 12, .inl (fun _ => 0))) :: (q2, .inl (k 0, 12, .inl (fun _ => 0))) :: (q1, .inl (k 0, 12, .inl (fun _ => 0))) :: (a, .inr (5, [.ref t, .ref u, .ref q1, .ref q2, .ref q3, .int 0, .int 0])) :: ex) 3 36 (fun _ => True) := by
  refine zx_met gd_all (fun _ _ _ _ => trivial) (by decide) rfl (Nat.le_of_ble_eq_true rfl) ⟨by decide, by decide⟩ (fun Zf X => ?_)
  show Zf 0 0 ((a, .inr (5, [.null, .null, .null, .null, .null, .int 0, .int 0])) :: ex) [some (.ref a), some (.ref t), some (.ref u)] 0 []
  have E := X.E (nc := 0) (ns := 0) (by decide) (by decide)
  refine zd_aload_n E (pc := 0) d_U_init_0 rfl ?_
  refine zx_obj X (pc := 1) d_U_init_1 ko_U ko_i ko_c ⟨by decide, by decide⟩ (Nat.le_of_ble_eq_true rfl) ?_
  refine zd_aload_n E (pc := 4) d_U_init_4 rfl ?_
  refine zd_bipush E (pc := 5) (v := (nI 12)) d_U_init_5 (by decide) ?_
  refine zx_newI X (pc := 7) d_U_init_7 ka_int rfl rfl (by decide) (by decide) (by decide) (fun q1 => ?_)
  show Zf 1 12 ((q1, .inl (k 0, 12, .inl (fun _ => 0))) :: (a, .inr (5, [.null, .null, .null, .null, .null, .int 0, .int 0])) :: ex) [some (.ref a), some (.ref t), some (.ref u)] 9 [.ref q1, .ref a]
  have E := X.E (nc := 1) (ns := 12) (by decide) (by decide)
  refine zx_putN X (pc := 9) d_U_init_9 kq_U_9 ⟨rfl, rfl⟩ 1 rfl (Nat.le_of_ble_eq_true rfl) (ws1 := (q1, .inl (k 0, 12, .inl (fun _ => 0))) :: (a, .inr (5, [.null, .null, .ref q1, .null, .null, .int 0, .int 0])) :: ex) rfl ?_
  refine zd_aload_n E (pc := 12) d_U_init_12 rfl ?_
  refine zd_bipush E (pc := 13) (v := (nI 12)) d_U_init_13 (by decide) ?_
  refine zx_newI X (pc := 15) d_U_init_15 ka_int rfl rfl (by decide) (by decide) (by decide) (fun q2 => ?_)
  show Zf 2 24 ((q2, .inl (k 0, 12, .inl (fun _ => 0))) :: (q1, .inl (k 0, 12, .inl (fun _ => 0))) :: (a, .inr (5, [.null, .null, .ref q1, .null, .null, .int 0, .int 0])) :: ex) [some (.ref a), some (.ref t), some (.ref u)] 17 [.ref q2, .ref a]
  have E := X.E (nc := 2) (ns := 24) (by decide) (by decide)
  refine zx_putN X (pc := 17) d_U_init_17 kq_U_15 ⟨rfl, rfl⟩ 2 rfl (Nat.le_of_ble_eq_true rfl) (ws1 := (q2, .inl (k 0, 12, .inl (fun _ => 0))) :: (q1, .inl (k 0, 12, .inl (fun _ => 0))) :: (a, .inr (5, [.null, .null, .ref q1, .ref q2, .null, .int 0, .int 0])) :: ex) rfl ?_
  refine zd_aload_n E (pc := 20) d_U_init_20 rfl ?_
  refine zd_bipush E (pc := 21) (v := (nI 12)) d_U_init_21 (by decide) ?_
  refine zx_newI X (pc := 23) d_U_init_23 ka_int rfl rfl (by decide) (by decide) (by decide) (fun q3 => ?_)
  show Zf 3 36 ((q3, .inl (k 0, 12, .inl (fun _ => 0))) :: (q2, .inl (k 0, 12, .inl (fun _ => 0))) :: (q1, .inl (k 0, 12, .inl (fun _ => 0))) :: (a, .inr (5, [.null, .null, .ref q1, .ref q2, .null, .int 0, .int 0])) :: ex) [some (.ref a), some (.ref t), some (.ref u)] 25 [.ref q3, .ref a]
  have E := X.E (nc := 3) (ns := 36) (by decide) (by decide)
  refine zx_putN X (pc := 25) d_U_init_25 kq_U_18 ⟨rfl, rfl⟩ 3 rfl (Nat.le_of_ble_eq_true rfl) (ws1 := (q3, .inl (k 0, 12, .inl (fun _ => 0))) :: (q2, .inl (k 0, 12, .inl (fun _ => 0))) :: (q1, .inl (k 0, 12, .inl (fun _ => 0))) :: (a, .inr (5, [.null, .null, .ref q1, .ref q2, .ref q3, .int 0, .int 0])) :: ex) rfl ?_
  refine zd_aload_n E (pc := 28) d_U_init_28 rfl ?_
  refine zd_aload_n E (pc := 29) d_U_init_29 rfl ?_
  refine zx_putN X (pc := 30) d_U_init_30 kq_U_21 ⟨rfl, rfl⟩ 3 rfl (Nat.le_of_ble_eq_true rfl) (ws1 := (q3, .inl (k 0, 12, .inl (fun _ => 0))) :: (q2, .inl (k 0, 12, .inl (fun _ => 0))) :: (q1, .inl (k 0, 12, .inl (fun _ => 0))) :: (a, .inr (5, [.ref t, .null, .ref q1, .ref q2, .ref q3, .int 0, .int 0])) :: ex) rfl ?_
  refine zd_aload_n E (pc := 33) d_U_init_33 rfl ?_
  refine zd_aload_n E (pc := 34) d_U_init_34 rfl ?_
  refine zx_putN X (pc := 35) d_U_init_35 kq_U_25 ⟨rfl, rfl⟩ 3 rfl (Nat.le_of_ble_eq_true rfl) (ws1 := (q3, .inl (k 0, 12, .inl (fun _ => 0))) :: (q2, .inl (k 0, 12, .inl (fun _ => 0))) :: (q1, .inl (k 0, 12, .inl (fun _ => 0))) :: (a, .inr (5, [.ref t, .ref u, .ref q1, .ref q2, .ref q3, .int 0, .int 0])) :: ex) rfl ?_
  exact zd_vret E (pc := 38) d_U_init_38 ⟨q1, q2, q3, rfl, rfl⟩
set_option maxRecDepth 100000 in
set_option maxHeartbeats 4000000 in
theorem c_P_init (l : Launch) (D : va_G) {a : Nat} : zx_Ct l D classes (wd_ty k) gd_T y_P_init (.code y_P_init b_P_init 1 none) (zx_rm 2 21 4251) [.ref a] ((a, .inr (0, [.null, .null, .null, .null, .null, .null, .int 0])) :: ex) (fun v w => ∃ q1 q2 q3 q4 q5 q6 q7 q8 q9 q10 q11 q12 q13 q14 q15 q16 q17 q18 q19 q20 q21, ∃ gq9 : Nat → Int32, (∀ i, i < 1024 → gq9 i = -1) ∧ v = none ∧ w = (q21, .inl (k 0, 12, .inl (fun _ => 0))) :: (q20, .inl (k 0, 12, .inl (fun _ => 0))) :: (q19, .inl (k 0, 12, .inl (fun _ => 0))) :: (q18, .inr (5, [.ref q1, .ref q16, .ref q19, .ref q20, .ref q21, .int 0, .int 0])) :: (q17, .inl (k 0, 10, .inl (fun _ => 0))) :: (q16, .inr (4, [.ref q1, .ref q17])) :: (q15, .inl (k 0, 24, .inl (fun _ => 0))) :: (q14, .inr (2, [.ref q15, .int 0])) :: (q13, .inl (k 0, 1023, .inl (fun _ => 0))) :: (q12, .inr (2, [.ref q13, .int 0])) :: (q11, .inl (k 0, 10, .inl (fun _ => 0))) :: (q10, .inl (k 0, 1024, .inl (fun _ => 0))) :: (q9, .inl (k 0, 1024, .inl gq9)) :: (q8, .inl (k 0, 1024, .inl (fun _ => 0))) :: (q7, .inr (3, [.ref q1, .ref q8, .ref q9, .ref q10, .ref q11, .int 0])) :: (q3, .inl (k 2, 3, .inr (.inr (.inr (.inr (mn_lk q4 q5 q6)))))) :: (q4, .inl (k 0, 12, .inl (fun _ => 0))) :: (q5, .inl (k 0, 12, .inl (fun _ => 0))) :: (q6, .inl (k 0, 12, .inl (fun _ => 0))) :: (q2, .inl (k 0, 12, .inl (fun _ => 0))) :: (q1, .inr (1, [.ref q2, .ref q3, .int 0, .int 0, .int 0, .int 0])) :: (a, .inr (0, [.ref q1, .ref q7, .ref q12, .ref q14, .ref q16, .ref q18, .int 0])) :: ex) 21 4251 mn_Y := by
  refine zx_met gd_all mn_Yk (by decide) rfl (Nat.le_of_ble_eq_true rfl) ⟨by decide, by decide⟩ (fun Zf X => ?_)
  show Zf 0 0 ((a, .inr (0, [.null, .null, .null, .null, .null, .null, .int 0])) :: ex) [some (.ref a)] 0 []
  have E := X.E (nc := 0) (ns := 0) (by decide) (by decide)
  refine zd_aload_n E (pc := 0) d_P_init_0 rfl ?_
  refine zx_obj X (pc := 1) d_P_init_1 ko_P ko_i ko_c ⟨by decide, by decide⟩ (Nat.le_of_ble_eq_true rfl) ?_
  refine zd_aload_n E (pc := 4) d_P_init_4 rfl ?_
  refine zx_newN X (pc := 5) d_P_init_5 kn_T (by decide) (by decide) (fun q1 => ?_)
  show Zf 1 6 ((q1, .inr (1, [.null, .null, .int 0, .int 0, .int 0, .int 0])) :: (a, .inr (0, [.null, .null, .null, .null, .null, .null, .int 0])) :: ex) [some (.ref a)] 8 [.ref q1, .ref a]
  have E := X.E (nc := 1) (ns := 6) (by decide) (by decide)
  refine zd_dup E (pc := 8) d_P_init_8 rfl ?_
  refine zx_callI X (pc := 9) d_P_init_9 kc_P_11 rfl rfl ks_T_init mn_Yk (fun _ h => h) (c_T_init l D) ⟨rfl, rfl⟩ ⟨by decide, by decide⟩ (by decide) (by decide) rfl (Nat.le_of_ble_eq_true rfl) (fun v1 ws1 hv1 => ?_)
  obtain ⟨q2, q3, q4, q5, q6, rfl, rfl⟩ := hv1
  show Zf 6 57 ((q3, .inl (k 2, 3, .inr (.inr (.inr (.inr (mn_lk q4 q5 q6)))))) :: (q4, .inl (k 0, 12, .inl (fun _ => 0))) :: (q5, .inl (k 0, 12, .inl (fun _ => 0))) :: (q6, .inl (k 0, 12, .inl (fun _ => 0))) :: (q2, .inl (k 0, 12, .inl (fun _ => 0))) :: (q1, .inr (1, [.ref q2, .ref q3, .int 0, .int 0, .int 0, .int 0])) :: (a, .inr (0, [.null, .null, .null, .null, .null, .null, .int 0])) :: ex) [some (.ref a)] 12 [.ref q1, .ref a]
  have E := X.E (nc := 6) (ns := 57) (by decide) (by decide)
  refine zx_putN X (pc := 12) d_P_init_12 kq_P_12 ⟨rfl, rfl⟩ 6 rfl (Nat.le_of_ble_eq_true rfl) (ws1 := (q3, .inl (k 2, 3, .inr (.inr (.inr (.inr (mn_lk q4 q5 q6)))))) :: (q4, .inl (k 0, 12, .inl (fun _ => 0))) :: (q5, .inl (k 0, 12, .inl (fun _ => 0))) :: (q6, .inl (k 0, 12, .inl (fun _ => 0))) :: (q2, .inl (k 0, 12, .inl (fun _ => 0))) :: (q1, .inr (1, [.ref q2, .ref q3, .int 0, .int 0, .int 0, .int 0])) :: (a, .inr (0, [.ref q1, .null, .null, .null, .null, .null, .int 0])) :: ex) rfl ?_
  refine zd_aload_n E (pc := 15) d_P_init_15 rfl ?_
  refine zx_newN X (pc := 16) d_P_init_16 kn_S (by decide) (by decide) (fun q7 => ?_)
  show Zf 7 63 ((q7, .inr (3, [.null, .null, .null, .null, .null, .int 0])) :: (q3, .inl (k 2, 3, .inr (.inr (.inr (.inr (mn_lk q4 q5 q6)))))) :: (q4, .inl (k 0, 12, .inl (fun _ => 0))) :: (q5, .inl (k 0, 12, .inl (fun _ => 0))) :: (q6, .inl (k 0, 12, .inl (fun _ => 0))) :: (q2, .inl (k 0, 12, .inl (fun _ => 0))) :: (q1, .inr (1, [.ref q2, .ref q3, .int 0, .int 0, .int 0, .int 0])) :: (a, .inr (0, [.ref q1, .null, .null, .null, .null, .null, .int 0])) :: ex) [some (.ref a)] 19 [.ref q7, .ref a]
  have E := X.E (nc := 7) (ns := 63) (by decide) (by decide)
  refine zd_dup E (pc := 19) d_P_init_19 rfl ?_
  refine zd_aload_n E (pc := 20) d_P_init_20 rfl ?_
  refine zd_get E (pc := 21) d_P_init_21 kf_P_12 7 rfl rfl ?_
  refine zx_callI X (pc := 24) d_P_init_24 kc_P_18 rfl rfl ks_S_init (fun _ _ _ _ => trivial) (fun _ _ => trivial) (c_S_init l D) ⟨rfl, rfl⟩ ⟨by decide, by decide⟩ (by decide) (by decide) rfl (Nat.le_of_ble_eq_true rfl) (fun v1 ws1 hv1 => ?_)
  obtain ⟨q8, q9, q10, q11, gq9, hgq9, rfl, rfl⟩ := hv1
  show Zf 11 3145 ((q11, .inl (k 0, 10, .inl (fun _ => 0))) :: (q10, .inl (k 0, 1024, .inl (fun _ => 0))) :: (q9, .inl (k 0, 1024, .inl gq9)) :: (q8, .inl (k 0, 1024, .inl (fun _ => 0))) :: (q7, .inr (3, [.ref q1, .ref q8, .ref q9, .ref q10, .ref q11, .int 0])) :: (q3, .inl (k 2, 3, .inr (.inr (.inr (.inr (mn_lk q4 q5 q6)))))) :: (q4, .inl (k 0, 12, .inl (fun _ => 0))) :: (q5, .inl (k 0, 12, .inl (fun _ => 0))) :: (q6, .inl (k 0, 12, .inl (fun _ => 0))) :: (q2, .inl (k 0, 12, .inl (fun _ => 0))) :: (q1, .inr (1, [.ref q2, .ref q3, .int 0, .int 0, .int 0, .int 0])) :: (a, .inr (0, [.ref q1, .null, .null, .null, .null, .null, .int 0])) :: ex) [some (.ref a)] 27 [.ref q7, .ref a]
  have E := X.E (nc := 11) (ns := 3145) (by decide) (by decide)
  refine zx_putN X (pc := 27) d_P_init_27 kq_P_21 ⟨rfl, rfl⟩ 11 rfl (Nat.le_of_ble_eq_true rfl) (ws1 := (q11, .inl (k 0, 10, .inl (fun _ => 0))) :: (q10, .inl (k 0, 1024, .inl (fun _ => 0))) :: (q9, .inl (k 0, 1024, .inl gq9)) :: (q8, .inl (k 0, 1024, .inl (fun _ => 0))) :: (q7, .inr (3, [.ref q1, .ref q8, .ref q9, .ref q10, .ref q11, .int 0])) :: (q3, .inl (k 2, 3, .inr (.inr (.inr (.inr (mn_lk q4 q5 q6)))))) :: (q4, .inl (k 0, 12, .inl (fun _ => 0))) :: (q5, .inl (k 0, 12, .inl (fun _ => 0))) :: (q6, .inl (k 0, 12, .inl (fun _ => 0))) :: (q2, .inl (k 0, 12, .inl (fun _ => 0))) :: (q1, .inr (1, [.ref q2, .ref q3, .int 0, .int 0, .int 0, .int 0])) :: (a, .inr (0, [.ref q1, .ref q7, .null, .null, .null, .null, .int 0])) :: ex) rfl ?_
  refine zd_aload_n E (pc := 30) d_P_init_30 rfl ?_
  refine zx_newN X (pc := 31) d_P_init_31 kn_R (by decide) (by decide) (fun q12 => ?_)
  show Zf 12 3147 ((q12, .inr (2, [.null, .int 0])) :: (q11, .inl (k 0, 10, .inl (fun _ => 0))) :: (q10, .inl (k 0, 1024, .inl (fun _ => 0))) :: (q9, .inl (k 0, 1024, .inl gq9)) :: (q8, .inl (k 0, 1024, .inl (fun _ => 0))) :: (q7, .inr (3, [.ref q1, .ref q8, .ref q9, .ref q10, .ref q11, .int 0])) :: (q3, .inl (k 2, 3, .inr (.inr (.inr (.inr (mn_lk q4 q5 q6)))))) :: (q4, .inl (k 0, 12, .inl (fun _ => 0))) :: (q5, .inl (k 0, 12, .inl (fun _ => 0))) :: (q6, .inl (k 0, 12, .inl (fun _ => 0))) :: (q2, .inl (k 0, 12, .inl (fun _ => 0))) :: (q1, .inr (1, [.ref q2, .ref q3, .int 0, .int 0, .int 0, .int 0])) :: (a, .inr (0, [.ref q1, .ref q7, .null, .null, .null, .null, .int 0])) :: ex) [some (.ref a)] 34 [.ref q12, .ref a]
  have E := X.E (nc := 12) (ns := 3147) (by decide) (by decide)
  refine zd_dup E (pc := 34) d_P_init_34 rfl ?_
  refine zd_sipush E (pc := 35) (v := (nI 1023)) d_P_init_35 (by decide) ?_
  refine zx_callI X (pc := 38) d_P_init_38 kc_P_27 rfl rfl ks_R_init (fun _ _ _ _ => trivial) (fun _ _ => trivial) (c_R_init l D (by decide)) ⟨rfl, rfl⟩ ⟨by decide, by decide⟩ (by decide) (by decide) rfl (Nat.le_of_ble_eq_true rfl) (fun v1 ws1 hv1 => ?_)
  obtain ⟨q13, rfl, rfl⟩ := hv1
  show Zf 13 4170 ((q13, .inl (k 0, 1023, .inl (fun _ => 0))) :: (q12, .inr (2, [.ref q13, .int 0])) :: (q11, .inl (k 0, 10, .inl (fun _ => 0))) :: (q10, .inl (k 0, 1024, .inl (fun _ => 0))) :: (q9, .inl (k 0, 1024, .inl gq9)) :: (q8, .inl (k 0, 1024, .inl (fun _ => 0))) :: (q7, .inr (3, [.ref q1, .ref q8, .ref q9, .ref q10, .ref q11, .int 0])) :: (q3, .inl (k 2, 3, .inr (.inr (.inr (.inr (mn_lk q4 q5 q6)))))) :: (q4, .inl (k 0, 12, .inl (fun _ => 0))) :: (q5, .inl (k 0, 12, .inl (fun _ => 0))) :: (q6, .inl (k 0, 12, .inl (fun _ => 0))) :: (q2, .inl (k 0, 12, .inl (fun _ => 0))) :: (q1, .inr (1, [.ref q2, .ref q3, .int 0, .int 0, .int 0, .int 0])) :: (a, .inr (0, [.ref q1, .ref q7, .null, .null, .null, .null, .int 0])) :: ex) [some (.ref a)] 41 [.ref q12, .ref a]
  have E := X.E (nc := 13) (ns := 4170) (by decide) (by decide)
  refine zx_putN X (pc := 41) d_P_init_41 kq_P_30 ⟨rfl, rfl⟩ 13 rfl (Nat.le_of_ble_eq_true rfl) (ws1 := (q13, .inl (k 0, 1023, .inl (fun _ => 0))) :: (q12, .inr (2, [.ref q13, .int 0])) :: (q11, .inl (k 0, 10, .inl (fun _ => 0))) :: (q10, .inl (k 0, 1024, .inl (fun _ => 0))) :: (q9, .inl (k 0, 1024, .inl gq9)) :: (q8, .inl (k 0, 1024, .inl (fun _ => 0))) :: (q7, .inr (3, [.ref q1, .ref q8, .ref q9, .ref q10, .ref q11, .int 0])) :: (q3, .inl (k 2, 3, .inr (.inr (.inr (.inr (mn_lk q4 q5 q6)))))) :: (q4, .inl (k 0, 12, .inl (fun _ => 0))) :: (q5, .inl (k 0, 12, .inl (fun _ => 0))) :: (q6, .inl (k 0, 12, .inl (fun _ => 0))) :: (q2, .inl (k 0, 12, .inl (fun _ => 0))) :: (q1, .inr (1, [.ref q2, .ref q3, .int 0, .int 0, .int 0, .int 0])) :: (a, .inr (0, [.ref q1, .ref q7, .ref q12, .null, .null, .null, .int 0])) :: ex) rfl ?_
  refine zd_aload_n E (pc := 44) d_P_init_44 rfl ?_
  refine zx_newN X (pc := 45) d_P_init_45 kn_R (by decide) (by decide) (fun q14 => ?_)
  show Zf 14 4172 ((q14, .inr (2, [.null, .int 0])) :: (q13, .inl (k 0, 1023, .inl (fun _ => 0))) :: (q12, .inr (2, [.ref q13, .int 0])) :: (q11, .inl (k 0, 10, .inl (fun _ => 0))) :: (q10, .inl (k 0, 1024, .inl (fun _ => 0))) :: (q9, .inl (k 0, 1024, .inl gq9)) :: (q8, .inl (k 0, 1024, .inl (fun _ => 0))) :: (q7, .inr (3, [.ref q1, .ref q8, .ref q9, .ref q10, .ref q11, .int 0])) :: (q3, .inl (k 2, 3, .inr (.inr (.inr (.inr (mn_lk q4 q5 q6)))))) :: (q4, .inl (k 0, 12, .inl (fun _ => 0))) :: (q5, .inl (k 0, 12, .inl (fun _ => 0))) :: (q6, .inl (k 0, 12, .inl (fun _ => 0))) :: (q2, .inl (k 0, 12, .inl (fun _ => 0))) :: (q1, .inr (1, [.ref q2, .ref q3, .int 0, .int 0, .int 0, .int 0])) :: (a, .inr (0, [.ref q1, .ref q7, .ref q12, .null, .null, .null, .int 0])) :: ex) [some (.ref a)] 48 [.ref q14, .ref a]
  have E := X.E (nc := 14) (ns := 4172) (by decide) (by decide)
  refine zd_dup E (pc := 48) d_P_init_48 rfl ?_
  refine zd_bipush E (pc := 49) (v := (nI 24)) d_P_init_49 (by decide) ?_
  refine zx_callI X (pc := 51) d_P_init_51 kc_P_27 rfl rfl ks_R_init (fun _ _ _ _ => trivial) (fun _ _ => trivial) (c_R_init l D (by decide)) ⟨rfl, rfl⟩ ⟨by decide, by decide⟩ (by decide) (by decide) rfl (Nat.le_of_ble_eq_true rfl) (fun v1 ws1 hv1 => ?_)
  obtain ⟨q15, rfl, rfl⟩ := hv1
  show Zf 15 4196 ((q15, .inl (k 0, 24, .inl (fun _ => 0))) :: (q14, .inr (2, [.ref q15, .int 0])) :: (q13, .inl (k 0, 1023, .inl (fun _ => 0))) :: (q12, .inr (2, [.ref q13, .int 0])) :: (q11, .inl (k 0, 10, .inl (fun _ => 0))) :: (q10, .inl (k 0, 1024, .inl (fun _ => 0))) :: (q9, .inl (k 0, 1024, .inl gq9)) :: (q8, .inl (k 0, 1024, .inl (fun _ => 0))) :: (q7, .inr (3, [.ref q1, .ref q8, .ref q9, .ref q10, .ref q11, .int 0])) :: (q3, .inl (k 2, 3, .inr (.inr (.inr (.inr (mn_lk q4 q5 q6)))))) :: (q4, .inl (k 0, 12, .inl (fun _ => 0))) :: (q5, .inl (k 0, 12, .inl (fun _ => 0))) :: (q6, .inl (k 0, 12, .inl (fun _ => 0))) :: (q2, .inl (k 0, 12, .inl (fun _ => 0))) :: (q1, .inr (1, [.ref q2, .ref q3, .int 0, .int 0, .int 0, .int 0])) :: (a, .inr (0, [.ref q1, .ref q7, .ref q12, .null, .null, .null, .int 0])) :: ex) [some (.ref a)] 54 [.ref q14, .ref a]
  have E := X.E (nc := 15) (ns := 4196) (by decide) (by decide)
  refine zx_putN X (pc := 54) d_P_init_54 kq_P_34 ⟨rfl, rfl⟩ 15 rfl (Nat.le_of_ble_eq_true rfl) (ws1 := (q15, .inl (k 0, 24, .inl (fun _ => 0))) :: (q14, .inr (2, [.ref q15, .int 0])) :: (q13, .inl (k 0, 1023, .inl (fun _ => 0))) :: (q12, .inr (2, [.ref q13, .int 0])) :: (q11, .inl (k 0, 10, .inl (fun _ => 0))) :: (q10, .inl (k 0, 1024, .inl (fun _ => 0))) :: (q9, .inl (k 0, 1024, .inl gq9)) :: (q8, .inl (k 0, 1024, .inl (fun _ => 0))) :: (q7, .inr (3, [.ref q1, .ref q8, .ref q9, .ref q10, .ref q11, .int 0])) :: (q3, .inl (k 2, 3, .inr (.inr (.inr (.inr (mn_lk q4 q5 q6)))))) :: (q4, .inl (k 0, 12, .inl (fun _ => 0))) :: (q5, .inl (k 0, 12, .inl (fun _ => 0))) :: (q6, .inl (k 0, 12, .inl (fun _ => 0))) :: (q2, .inl (k 0, 12, .inl (fun _ => 0))) :: (q1, .inr (1, [.ref q2, .ref q3, .int 0, .int 0, .int 0, .int 0])) :: (a, .inr (0, [.ref q1, .ref q7, .ref q12, .ref q14, .null, .null, .int 0])) :: ex) rfl ?_
  refine zd_aload_n E (pc := 57) d_P_init_57 rfl ?_
  refine zx_newN X (pc := 58) d_P_init_58 kn_V (by decide) (by decide) (fun q16 => ?_)
  show Zf 16 4198 ((q16, .inr (4, [.null, .null])) :: (q15, .inl (k 0, 24, .inl (fun _ => 0))) :: (q14, .inr (2, [.ref q15, .int 0])) :: (q13, .inl (k 0, 1023, .inl (fun _ => 0))) :: (q12, .inr (2, [.ref q13, .int 0])) :: (q11, .inl (k 0, 10, .inl (fun _ => 0))) :: (q10, .inl (k 0, 1024, .inl (fun _ => 0))) :: (q9, .inl (k 0, 1024, .inl gq9)) :: (q8, .inl (k 0, 1024, .inl (fun _ => 0))) :: (q7, .inr (3, [.ref q1, .ref q8, .ref q9, .ref q10, .ref q11, .int 0])) :: (q3, .inl (k 2, 3, .inr (.inr (.inr (.inr (mn_lk q4 q5 q6)))))) :: (q4, .inl (k 0, 12, .inl (fun _ => 0))) :: (q5, .inl (k 0, 12, .inl (fun _ => 0))) :: (q6, .inl (k 0, 12, .inl (fun _ => 0))) :: (q2, .inl (k 0, 12, .inl (fun _ => 0))) :: (q1, .inr (1, [.ref q2, .ref q3, .int 0, .int 0, .int 0, .int 0])) :: (a, .inr (0, [.ref q1, .ref q7, .ref q12, .ref q14, .null, .null, .int 0])) :: ex) [some (.ref a)] 61 [.ref q16, .ref a]
  have E := X.E (nc := 16) (ns := 4198) (by decide) (by decide)
  refine zd_dup E (pc := 61) d_P_init_61 rfl ?_
  refine zd_aload_n E (pc := 62) d_P_init_62 rfl ?_
  refine zd_get E (pc := 63) d_P_init_63 kf_P_12 16 rfl rfl ?_
  refine zx_callI X (pc := 66) d_P_init_66 kc_P_39 rfl rfl ks_V_init (fun _ _ _ _ => trivial) (fun _ _ => trivial) (c_V_init l D) ⟨rfl, rfl⟩ ⟨by decide, by decide⟩ (by decide) (by decide) rfl (Nat.le_of_ble_eq_true rfl) (fun v1 ws1 hv1 => ?_)
  obtain ⟨q17, rfl, rfl⟩ := hv1
  show Zf 17 4208 ((q17, .inl (k 0, 10, .inl (fun _ => 0))) :: (q16, .inr (4, [.ref q1, .ref q17])) :: (q15, .inl (k 0, 24, .inl (fun _ => 0))) :: (q14, .inr (2, [.ref q15, .int 0])) :: (q13, .inl (k 0, 1023, .inl (fun _ => 0))) :: (q12, .inr (2, [.ref q13, .int 0])) :: (q11, .inl (k 0, 10, .inl (fun _ => 0))) :: (q10, .inl (k 0, 1024, .inl (fun _ => 0))) :: (q9, .inl (k 0, 1024, .inl gq9)) :: (q8, .inl (k 0, 1024, .inl (fun _ => 0))) :: (q7, .inr (3, [.ref q1, .ref q8, .ref q9, .ref q10, .ref q11, .int 0])) :: (q3, .inl (k 2, 3, .inr (.inr (.inr (.inr (mn_lk q4 q5 q6)))))) :: (q4, .inl (k 0, 12, .inl (fun _ => 0))) :: (q5, .inl (k 0, 12, .inl (fun _ => 0))) :: (q6, .inl (k 0, 12, .inl (fun _ => 0))) :: (q2, .inl (k 0, 12, .inl (fun _ => 0))) :: (q1, .inr (1, [.ref q2, .ref q3, .int 0, .int 0, .int 0, .int 0])) :: (a, .inr (0, [.ref q1, .ref q7, .ref q12, .ref q14, .null, .null, .int 0])) :: ex) [some (.ref a)] 69 [.ref q16, .ref a]
  have E := X.E (nc := 17) (ns := 4208) (by decide) (by decide)
  refine zx_putN X (pc := 69) d_P_init_69 kq_P_40 ⟨rfl, rfl⟩ 17 rfl (Nat.le_of_ble_eq_true rfl) (ws1 := (q17, .inl (k 0, 10, .inl (fun _ => 0))) :: (q16, .inr (4, [.ref q1, .ref q17])) :: (q15, .inl (k 0, 24, .inl (fun _ => 0))) :: (q14, .inr (2, [.ref q15, .int 0])) :: (q13, .inl (k 0, 1023, .inl (fun _ => 0))) :: (q12, .inr (2, [.ref q13, .int 0])) :: (q11, .inl (k 0, 10, .inl (fun _ => 0))) :: (q10, .inl (k 0, 1024, .inl (fun _ => 0))) :: (q9, .inl (k 0, 1024, .inl gq9)) :: (q8, .inl (k 0, 1024, .inl (fun _ => 0))) :: (q7, .inr (3, [.ref q1, .ref q8, .ref q9, .ref q10, .ref q11, .int 0])) :: (q3, .inl (k 2, 3, .inr (.inr (.inr (.inr (mn_lk q4 q5 q6)))))) :: (q4, .inl (k 0, 12, .inl (fun _ => 0))) :: (q5, .inl (k 0, 12, .inl (fun _ => 0))) :: (q6, .inl (k 0, 12, .inl (fun _ => 0))) :: (q2, .inl (k 0, 12, .inl (fun _ => 0))) :: (q1, .inr (1, [.ref q2, .ref q3, .int 0, .int 0, .int 0, .int 0])) :: (a, .inr (0, [.ref q1, .ref q7, .ref q12, .ref q14, .ref q16, .null, .int 0])) :: ex) rfl ?_
  refine zd_aload_n E (pc := 72) d_P_init_72 rfl ?_
  refine zx_newN X (pc := 73) d_P_init_73 kn_U (by decide) (by decide) (fun q18 => ?_)
  show Zf 18 4215 ((q18, .inr (5, [.null, .null, .null, .null, .null, .int 0, .int 0])) :: (q17, .inl (k 0, 10, .inl (fun _ => 0))) :: (q16, .inr (4, [.ref q1, .ref q17])) :: (q15, .inl (k 0, 24, .inl (fun _ => 0))) :: (q14, .inr (2, [.ref q15, .int 0])) :: (q13, .inl (k 0, 1023, .inl (fun _ => 0))) :: (q12, .inr (2, [.ref q13, .int 0])) :: (q11, .inl (k 0, 10, .inl (fun _ => 0))) :: (q10, .inl (k 0, 1024, .inl (fun _ => 0))) :: (q9, .inl (k 0, 1024, .inl gq9)) :: (q8, .inl (k 0, 1024, .inl (fun _ => 0))) :: (q7, .inr (3, [.ref q1, .ref q8, .ref q9, .ref q10, .ref q11, .int 0])) :: (q3, .inl (k 2, 3, .inr (.inr (.inr (.inr (mn_lk q4 q5 q6)))))) :: (q4, .inl (k 0, 12, .inl (fun _ => 0))) :: (q5, .inl (k 0, 12, .inl (fun _ => 0))) :: (q6, .inl (k 0, 12, .inl (fun _ => 0))) :: (q2, .inl (k 0, 12, .inl (fun _ => 0))) :: (q1, .inr (1, [.ref q2, .ref q3, .int 0, .int 0, .int 0, .int 0])) :: (a, .inr (0, [.ref q1, .ref q7, .ref q12, .ref q14, .ref q16, .null, .int 0])) :: ex) [some (.ref a)] 76 [.ref q18, .ref a]
  have E := X.E (nc := 18) (ns := 4215) (by decide) (by decide)
  refine zd_dup E (pc := 76) d_P_init_76 rfl ?_
  refine zd_aload_n E (pc := 77) d_P_init_77 rfl ?_
  refine zd_get E (pc := 78) d_P_init_78 kf_P_12 18 rfl rfl ?_
  refine zd_aload_n E (pc := 81) d_P_init_81 rfl ?_
  refine zd_get E (pc := 82) d_P_init_82 kf_P_40 18 rfl rfl ?_
  refine zx_callI X (pc := 85) d_P_init_85 kc_P_46 rfl rfl ks_U_init (fun _ _ _ _ => trivial) (fun _ _ => trivial) (c_U_init l D) ⟨rfl, rfl⟩ ⟨by decide, by decide⟩ (by decide) (by decide) rfl (Nat.le_of_ble_eq_true rfl) (fun v1 ws1 hv1 => ?_)
  obtain ⟨q19, q20, q21, rfl, rfl⟩ := hv1
  show Zf 21 4251 ((q21, .inl (k 0, 12, .inl (fun _ => 0))) :: (q20, .inl (k 0, 12, .inl (fun _ => 0))) :: (q19, .inl (k 0, 12, .inl (fun _ => 0))) :: (q18, .inr (5, [.ref q1, .ref q16, .ref q19, .ref q20, .ref q21, .int 0, .int 0])) :: (q17, .inl (k 0, 10, .inl (fun _ => 0))) :: (q16, .inr (4, [.ref q1, .ref q17])) :: (q15, .inl (k 0, 24, .inl (fun _ => 0))) :: (q14, .inr (2, [.ref q15, .int 0])) :: (q13, .inl (k 0, 1023, .inl (fun _ => 0))) :: (q12, .inr (2, [.ref q13, .int 0])) :: (q11, .inl (k 0, 10, .inl (fun _ => 0))) :: (q10, .inl (k 0, 1024, .inl (fun _ => 0))) :: (q9, .inl (k 0, 1024, .inl gq9)) :: (q8, .inl (k 0, 1024, .inl (fun _ => 0))) :: (q7, .inr (3, [.ref q1, .ref q8, .ref q9, .ref q10, .ref q11, .int 0])) :: (q3, .inl (k 2, 3, .inr (.inr (.inr (.inr (mn_lk q4 q5 q6)))))) :: (q4, .inl (k 0, 12, .inl (fun _ => 0))) :: (q5, .inl (k 0, 12, .inl (fun _ => 0))) :: (q6, .inl (k 0, 12, .inl (fun _ => 0))) :: (q2, .inl (k 0, 12, .inl (fun _ => 0))) :: (q1, .inr (1, [.ref q2, .ref q3, .int 0, .int 0, .int 0, .int 0])) :: (a, .inr (0, [.ref q1, .ref q7, .ref q12, .ref q14, .ref q16, .null, .int 0])) :: ex) [some (.ref a)] 88 [.ref q18, .ref a]
  have E := X.E (nc := 21) (ns := 4251) (by decide) (by decide)
  refine zx_putN X (pc := 88) d_P_init_88 kq_P_49 ⟨rfl, rfl⟩ 21 rfl (Nat.le_of_ble_eq_true rfl) (ws1 := (q21, .inl (k 0, 12, .inl (fun _ => 0))) :: (q20, .inl (k 0, 12, .inl (fun _ => 0))) :: (q19, .inl (k 0, 12, .inl (fun _ => 0))) :: (q18, .inr (5, [.ref q1, .ref q16, .ref q19, .ref q20, .ref q21, .int 0, .int 0])) :: (q17, .inl (k 0, 10, .inl (fun _ => 0))) :: (q16, .inr (4, [.ref q1, .ref q17])) :: (q15, .inl (k 0, 24, .inl (fun _ => 0))) :: (q14, .inr (2, [.ref q15, .int 0])) :: (q13, .inl (k 0, 1023, .inl (fun _ => 0))) :: (q12, .inr (2, [.ref q13, .int 0])) :: (q11, .inl (k 0, 10, .inl (fun _ => 0))) :: (q10, .inl (k 0, 1024, .inl (fun _ => 0))) :: (q9, .inl (k 0, 1024, .inl gq9)) :: (q8, .inl (k 0, 1024, .inl (fun _ => 0))) :: (q7, .inr (3, [.ref q1, .ref q8, .ref q9, .ref q10, .ref q11, .int 0])) :: (q3, .inl (k 2, 3, .inr (.inr (.inr (.inr (mn_lk q4 q5 q6)))))) :: (q4, .inl (k 0, 12, .inl (fun _ => 0))) :: (q5, .inl (k 0, 12, .inl (fun _ => 0))) :: (q6, .inl (k 0, 12, .inl (fun _ => 0))) :: (q2, .inl (k 0, 12, .inl (fun _ => 0))) :: (q1, .inr (1, [.ref q2, .ref q3, .int 0, .int 0, .int 0, .int 0])) :: (a, .inr (0, [.ref q1, .ref q7, .ref q12, .ref q14, .ref q16, .ref q18, .int 0])) :: ex) rfl ?_
  refine zd_aload_n E (pc := 91) d_P_init_91 rfl ?_
  refine zd_iconst E (pc := 92) (v := (nI 0)) d_P_init_92 (by decide) ?_
  refine zd_put E (pc := 93) d_P_init_93 kp_P_53 21 rfl (Nat.le_of_ble_eq_true rfl) (ws1 := (q21, .inl (k 0, 12, .inl (fun _ => 0))) :: (q20, .inl (k 0, 12, .inl (fun _ => 0))) :: (q19, .inl (k 0, 12, .inl (fun _ => 0))) :: (q18, .inr (5, [.ref q1, .ref q16, .ref q19, .ref q20, .ref q21, .int 0, .int 0])) :: (q17, .inl (k 0, 10, .inl (fun _ => 0))) :: (q16, .inr (4, [.ref q1, .ref q17])) :: (q15, .inl (k 0, 24, .inl (fun _ => 0))) :: (q14, .inr (2, [.ref q15, .int 0])) :: (q13, .inl (k 0, 1023, .inl (fun _ => 0))) :: (q12, .inr (2, [.ref q13, .int 0])) :: (q11, .inl (k 0, 10, .inl (fun _ => 0))) :: (q10, .inl (k 0, 1024, .inl (fun _ => 0))) :: (q9, .inl (k 0, 1024, .inl gq9)) :: (q8, .inl (k 0, 1024, .inl (fun _ => 0))) :: (q7, .inr (3, [.ref q1, .ref q8, .ref q9, .ref q10, .ref q11, .int 0])) :: (q3, .inl (k 2, 3, .inr (.inr (.inr (.inr (mn_lk q4 q5 q6)))))) :: (q4, .inl (k 0, 12, .inl (fun _ => 0))) :: (q5, .inl (k 0, 12, .inl (fun _ => 0))) :: (q6, .inl (k 0, 12, .inl (fun _ => 0))) :: (q2, .inl (k 0, 12, .inl (fun _ => 0))) :: (q1, .inr (1, [.ref q2, .ref q3, .int 0, .int 0, .int 0, .int 0])) :: (a, .inr (0, [.ref q1, .ref q7, .ref q12, .ref q14, .ref q16, .ref q18, .int 0])) :: ex) rfl ?_
  exact zd_vret E (pc := 96) d_P_init_96 ⟨q1, q2, q3, q4, q5, q6, q7, q8, q9, q10, q11, q12, q13, q14, q15, q16, q17, q18, q19, q20, q21, gq9, hgq9, rfl, rfl⟩
set_option maxRecDepth 100000 in
set_option maxHeartbeats 4000000 in
theorem c_M_init (l : Launch) (D : va_G) {a : Nat} : zx_Ct l D classes (wd_ty k) gd_T y_M_init (.code y_M_init b_M_init 1 none) (zx_rm 1 11 3294) [.ref a] ((a, .inr (6, [.int 0, .int 0, .int 0, .int 0, .int 0, .null, .null, .null, .null, .int 0, .int 0, .null, .int 0, .null, .null, .null, .null, .null, .int 0, .null, .int 0])) :: ex) (fun v w => ∃ q1 q2 q3 q4 q5 q6 q7 q8 q9 q10 q11, v = none ∧ w = (q11, .inl (k 0, 128, .inl (fun _ => 0))) :: (q10, .inl (k 0, 10, .inl (fun _ => 0))) :: (q9, .inl (k 0, 12, .inl (fun _ => 0))) :: (q8, .inl (k 1, 1024, .inl (fun _ => 0))) :: (q7, .inl (k 0, 1024, .inl (fun _ => 0))) :: (q6, .inl (k 0, 24, .inl (fun _ => 0))) :: (q5, .inl (k 0, 1024, .inl (fun _ => 0))) :: (q4, .inl (k 0, 12, .inl (fun _ => 0))) :: (q3, .inl (k 0, 12, .inl (fun _ => 0))) :: (q2, .inl (k 0, 12, .inl (fun _ => 0))) :: (q1, .inl (k 0, 12, .inl (fun _ => 0))) :: (a, .inr (6, [.int 0, .int 0, .int 0, .int 0, .int 0, .ref q1, .ref q2, .ref q3, .ref q4, .int 0, .int 0, .ref q5, .int 0, .ref q6, .ref q7, .ref q8, .ref q9, .ref q10, .int 0, .ref q11, .int 0])) :: ex) 11 3294 (fun _ => True) := by
  refine zx_met gd_all (fun _ _ _ _ => trivial) (by decide) rfl (Nat.le_of_ble_eq_true rfl) ⟨by decide, by decide⟩ (fun Zf X => ?_)
  show Zf 0 0 ((a, .inr (6, [.int 0, .int 0, .int 0, .int 0, .int 0, .null, .null, .null, .null, .int 0, .int 0, .null, .int 0, .null, .null, .null, .null, .null, .int 0, .null, .int 0])) :: ex) [some (.ref a)] 0 []
  have E := X.E (nc := 0) (ns := 0) (by decide) (by decide)
  refine zd_aload_n E (pc := 0) d_M_init_0 rfl ?_
  refine zx_obj X (pc := 1) d_M_init_1 ko_M ko_i ko_c ⟨by decide, by decide⟩ (Nat.le_of_ble_eq_true rfl) ?_
  refine zd_aload_n E (pc := 4) d_M_init_4 rfl ?_
  refine zd_bipush E (pc := 5) (v := (nI 12)) d_M_init_5 (by decide) ?_
  refine zx_newI X (pc := 7) d_M_init_7 ka_int rfl rfl (by decide) (by decide) (by decide) (fun q1 => ?_)
  show Zf 1 12 ((q1, .inl (k 0, 12, .inl (fun _ => 0))) :: (a, .inr (6, [.int 0, .int 0, .int 0, .int 0, .int 0, .null, .null, .null, .null, .int 0, .int 0, .null, .int 0, .null, .null, .null, .null, .null, .int 0, .null, .int 0])) :: ex) [some (.ref a)] 9 [.ref q1, .ref a]
  have E := X.E (nc := 1) (ns := 12) (by decide) (by decide)
  refine zx_putN X (pc := 9) d_M_init_9 kq_M_7 ⟨rfl, rfl⟩ 1 rfl (Nat.le_of_ble_eq_true rfl) (ws1 := (q1, .inl (k 0, 12, .inl (fun _ => 0))) :: (a, .inr (6, [.int 0, .int 0, .int 0, .int 0, .int 0, .ref q1, .null, .null, .null, .int 0, .int 0, .null, .int 0, .null, .null, .null, .null, .null, .int 0, .null, .int 0])) :: ex) rfl ?_
  refine zd_aload_n E (pc := 12) d_M_init_12 rfl ?_
  refine zd_bipush E (pc := 13) (v := (nI 12)) d_M_init_13 (by decide) ?_
  refine zx_newI X (pc := 15) d_M_init_15 ka_int rfl rfl (by decide) (by decide) (by decide) (fun q2 => ?_)
  show Zf 2 24 ((q2, .inl (k 0, 12, .inl (fun _ => 0))) :: (q1, .inl (k 0, 12, .inl (fun _ => 0))) :: (a, .inr (6, [.int 0, .int 0, .int 0, .int 0, .int 0, .ref q1, .null, .null, .null, .int 0, .int 0, .null, .int 0, .null, .null, .null, .null, .null, .int 0, .null, .int 0])) :: ex) [some (.ref a)] 17 [.ref q2, .ref a]
  have E := X.E (nc := 2) (ns := 24) (by decide) (by decide)
  refine zx_putN X (pc := 17) d_M_init_17 kq_M_13 ⟨rfl, rfl⟩ 2 rfl (Nat.le_of_ble_eq_true rfl) (ws1 := (q2, .inl (k 0, 12, .inl (fun _ => 0))) :: (q1, .inl (k 0, 12, .inl (fun _ => 0))) :: (a, .inr (6, [.int 0, .int 0, .int 0, .int 0, .int 0, .ref q1, .ref q2, .null, .null, .int 0, .int 0, .null, .int 0, .null, .null, .null, .null, .null, .int 0, .null, .int 0])) :: ex) rfl ?_
  refine zd_aload_n E (pc := 20) d_M_init_20 rfl ?_
  refine zd_bipush E (pc := 21) (v := (nI 12)) d_M_init_21 (by decide) ?_
  refine zx_newI X (pc := 23) d_M_init_23 ka_int rfl rfl (by decide) (by decide) (by decide) (fun q3 => ?_)
  show Zf 3 36 ((q3, .inl (k 0, 12, .inl (fun _ => 0))) :: (q2, .inl (k 0, 12, .inl (fun _ => 0))) :: (q1, .inl (k 0, 12, .inl (fun _ => 0))) :: (a, .inr (6, [.int 0, .int 0, .int 0, .int 0, .int 0, .ref q1, .ref q2, .null, .null, .int 0, .int 0, .null, .int 0, .null, .null, .null, .null, .null, .int 0, .null, .int 0])) :: ex) [some (.ref a)] 25 [.ref q3, .ref a]
  have E := X.E (nc := 3) (ns := 36) (by decide) (by decide)
  refine zx_putN X (pc := 25) d_M_init_25 kq_M_16 ⟨rfl, rfl⟩ 3 rfl (Nat.le_of_ble_eq_true rfl) (ws1 := (q3, .inl (k 0, 12, .inl (fun _ => 0))) :: (q2, .inl (k 0, 12, .inl (fun _ => 0))) :: (q1, .inl (k 0, 12, .inl (fun _ => 0))) :: (a, .inr (6, [.int 0, .int 0, .int 0, .int 0, .int 0, .ref q1, .ref q2, .ref q3, .null, .int 0, .int 0, .null, .int 0, .null, .null, .null, .null, .null, .int 0, .null, .int 0])) :: ex) rfl ?_
  refine zd_aload_n E (pc := 28) d_M_init_28 rfl ?_
  refine zd_bipush E (pc := 29) (v := (nI 12)) d_M_init_29 (by decide) ?_
  refine zx_newI X (pc := 31) d_M_init_31 ka_int rfl rfl (by decide) (by decide) (by decide) (fun q4 => ?_)
  show Zf 4 48 ((q4, .inl (k 0, 12, .inl (fun _ => 0))) :: (q3, .inl (k 0, 12, .inl (fun _ => 0))) :: (q2, .inl (k 0, 12, .inl (fun _ => 0))) :: (q1, .inl (k 0, 12, .inl (fun _ => 0))) :: (a, .inr (6, [.int 0, .int 0, .int 0, .int 0, .int 0, .ref q1, .ref q2, .ref q3, .null, .int 0, .int 0, .null, .int 0, .null, .null, .null, .null, .null, .int 0, .null, .int 0])) :: ex) [some (.ref a)] 33 [.ref q4, .ref a]
  have E := X.E (nc := 4) (ns := 48) (by decide) (by decide)
  refine zx_putN X (pc := 33) d_M_init_33 kq_M_19 ⟨rfl, rfl⟩ 4 rfl (Nat.le_of_ble_eq_true rfl) (ws1 := (q4, .inl (k 0, 12, .inl (fun _ => 0))) :: (q3, .inl (k 0, 12, .inl (fun _ => 0))) :: (q2, .inl (k 0, 12, .inl (fun _ => 0))) :: (q1, .inl (k 0, 12, .inl (fun _ => 0))) :: (a, .inr (6, [.int 0, .int 0, .int 0, .int 0, .int 0, .ref q1, .ref q2, .ref q3, .ref q4, .int 0, .int 0, .null, .int 0, .null, .null, .null, .null, .null, .int 0, .null, .int 0])) :: ex) rfl ?_
  refine zd_aload_n E (pc := 36) d_M_init_36 rfl ?_
  refine zd_sipush E (pc := 37) (v := (nI 1024)) d_M_init_37 (by decide) ?_
  refine zx_newI X (pc := 40) d_M_init_40 ka_int rfl rfl (by decide) (by decide) (by decide) (fun q5 => ?_)
  show Zf 5 1072 ((q5, .inl (k 0, 1024, .inl (fun _ => 0))) :: (q4, .inl (k 0, 12, .inl (fun _ => 0))) :: (q3, .inl (k 0, 12, .inl (fun _ => 0))) :: (q2, .inl (k 0, 12, .inl (fun _ => 0))) :: (q1, .inl (k 0, 12, .inl (fun _ => 0))) :: (a, .inr (6, [.int 0, .int 0, .int 0, .int 0, .int 0, .ref q1, .ref q2, .ref q3, .ref q4, .int 0, .int 0, .null, .int 0, .null, .null, .null, .null, .null, .int 0, .null, .int 0])) :: ex) [some (.ref a)] 42 [.ref q5, .ref a]
  have E := X.E (nc := 5) (ns := 1072) (by decide) (by decide)
  refine zx_putN X (pc := 42) d_M_init_42 kq_M_22 ⟨rfl, rfl⟩ 5 rfl (Nat.le_of_ble_eq_true rfl) (ws1 := (q5, .inl (k 0, 1024, .inl (fun _ => 0))) :: (q4, .inl (k 0, 12, .inl (fun _ => 0))) :: (q3, .inl (k 0, 12, .inl (fun _ => 0))) :: (q2, .inl (k 0, 12, .inl (fun _ => 0))) :: (q1, .inl (k 0, 12, .inl (fun _ => 0))) :: (a, .inr (6, [.int 0, .int 0, .int 0, .int 0, .int 0, .ref q1, .ref q2, .ref q3, .ref q4, .int 0, .int 0, .ref q5, .int 0, .null, .null, .null, .null, .null, .int 0, .null, .int 0])) :: ex) rfl ?_
  refine zd_aload_n E (pc := 45) d_M_init_45 rfl ?_
  refine zd_bipush E (pc := 46) (v := (nI 24)) d_M_init_46 (by decide) ?_
  refine zx_newI X (pc := 48) d_M_init_48 ka_int rfl rfl (by decide) (by decide) (by decide) (fun q6 => ?_)
  show Zf 6 1096 ((q6, .inl (k 0, 24, .inl (fun _ => 0))) :: (q5, .inl (k 0, 1024, .inl (fun _ => 0))) :: (q4, .inl (k 0, 12, .inl (fun _ => 0))) :: (q3, .inl (k 0, 12, .inl (fun _ => 0))) :: (q2, .inl (k 0, 12, .inl (fun _ => 0))) :: (q1, .inl (k 0, 12, .inl (fun _ => 0))) :: (a, .inr (6, [.int 0, .int 0, .int 0, .int 0, .int 0, .ref q1, .ref q2, .ref q3, .ref q4, .int 0, .int 0, .ref q5, .int 0, .null, .null, .null, .null, .null, .int 0, .null, .int 0])) :: ex) [some (.ref a)] 50 [.ref q6, .ref a]
  have E := X.E (nc := 6) (ns := 1096) (by decide) (by decide)
  refine zx_putN X (pc := 50) d_M_init_50 kq_M_25 ⟨rfl, rfl⟩ 6 rfl (Nat.le_of_ble_eq_true rfl) (ws1 := (q6, .inl (k 0, 24, .inl (fun _ => 0))) :: (q5, .inl (k 0, 1024, .inl (fun _ => 0))) :: (q4, .inl (k 0, 12, .inl (fun _ => 0))) :: (q3, .inl (k 0, 12, .inl (fun _ => 0))) :: (q2, .inl (k 0, 12, .inl (fun _ => 0))) :: (q1, .inl (k 0, 12, .inl (fun _ => 0))) :: (a, .inr (6, [.int 0, .int 0, .int 0, .int 0, .int 0, .ref q1, .ref q2, .ref q3, .ref q4, .int 0, .int 0, .ref q5, .int 0, .ref q6, .null, .null, .null, .null, .int 0, .null, .int 0])) :: ex) rfl ?_
  refine zd_aload_n E (pc := 53) d_M_init_53 rfl ?_
  refine zd_sipush E (pc := 54) (v := (nI 1024)) d_M_init_54 (by decide) ?_
  refine zx_newI X (pc := 57) d_M_init_57 ka_int rfl rfl (by decide) (by decide) (by decide) (fun q7 => ?_)
  show Zf 7 2120 ((q7, .inl (k 0, 1024, .inl (fun _ => 0))) :: (q6, .inl (k 0, 24, .inl (fun _ => 0))) :: (q5, .inl (k 0, 1024, .inl (fun _ => 0))) :: (q4, .inl (k 0, 12, .inl (fun _ => 0))) :: (q3, .inl (k 0, 12, .inl (fun _ => 0))) :: (q2, .inl (k 0, 12, .inl (fun _ => 0))) :: (q1, .inl (k 0, 12, .inl (fun _ => 0))) :: (a, .inr (6, [.int 0, .int 0, .int 0, .int 0, .int 0, .ref q1, .ref q2, .ref q3, .ref q4, .int 0, .int 0, .ref q5, .int 0, .ref q6, .null, .null, .null, .null, .int 0, .null, .int 0])) :: ex) [some (.ref a)] 59 [.ref q7, .ref a]
  have E := X.E (nc := 7) (ns := 2120) (by decide) (by decide)
  refine zx_putN X (pc := 59) d_M_init_59 kq_M_28 ⟨rfl, rfl⟩ 7 rfl (Nat.le_of_ble_eq_true rfl) (ws1 := (q7, .inl (k 0, 1024, .inl (fun _ => 0))) :: (q6, .inl (k 0, 24, .inl (fun _ => 0))) :: (q5, .inl (k 0, 1024, .inl (fun _ => 0))) :: (q4, .inl (k 0, 12, .inl (fun _ => 0))) :: (q3, .inl (k 0, 12, .inl (fun _ => 0))) :: (q2, .inl (k 0, 12, .inl (fun _ => 0))) :: (q1, .inl (k 0, 12, .inl (fun _ => 0))) :: (a, .inr (6, [.int 0, .int 0, .int 0, .int 0, .int 0, .ref q1, .ref q2, .ref q3, .ref q4, .int 0, .int 0, .ref q5, .int 0, .ref q6, .ref q7, .null, .null, .null, .int 0, .null, .int 0])) :: ex) rfl ?_
  refine zd_aload_n E (pc := 62) d_M_init_62 rfl ?_
  refine zd_sipush E (pc := 63) (v := (nI 1024)) d_M_init_63 (by decide) ?_
  refine zx_newZ X (pc := 66) d_M_init_66 ka_bool rfl rfl (by decide) (by decide) (by decide) (fun q8 => ?_)
  show Zf 8 3144 ((q8, .inl (k 1, 1024, .inl (fun _ => 0))) :: (q7, .inl (k 0, 1024, .inl (fun _ => 0))) :: (q6, .inl (k 0, 24, .inl (fun _ => 0))) :: (q5, .inl (k 0, 1024, .inl (fun _ => 0))) :: (q4, .inl (k 0, 12, .inl (fun _ => 0))) :: (q3, .inl (k 0, 12, .inl (fun _ => 0))) :: (q2, .inl (k 0, 12, .inl (fun _ => 0))) :: (q1, .inl (k 0, 12, .inl (fun _ => 0))) :: (a, .inr (6, [.int 0, .int 0, .int 0, .int 0, .int 0, .ref q1, .ref q2, .ref q3, .ref q4, .int 0, .int 0, .ref q5, .int 0, .ref q6, .ref q7, .null, .null, .null, .int 0, .null, .int 0])) :: ex) [some (.ref a)] 68 [.ref q8, .ref a]
  have E := X.E (nc := 8) (ns := 3144) (by decide) (by decide)
  refine zx_putN X (pc := 68) d_M_init_68 kq_M_31 ⟨rfl, rfl⟩ 8 rfl (Nat.le_of_ble_eq_true rfl) (ws1 := (q8, .inl (k 1, 1024, .inl (fun _ => 0))) :: (q7, .inl (k 0, 1024, .inl (fun _ => 0))) :: (q6, .inl (k 0, 24, .inl (fun _ => 0))) :: (q5, .inl (k 0, 1024, .inl (fun _ => 0))) :: (q4, .inl (k 0, 12, .inl (fun _ => 0))) :: (q3, .inl (k 0, 12, .inl (fun _ => 0))) :: (q2, .inl (k 0, 12, .inl (fun _ => 0))) :: (q1, .inl (k 0, 12, .inl (fun _ => 0))) :: (a, .inr (6, [.int 0, .int 0, .int 0, .int 0, .int 0, .ref q1, .ref q2, .ref q3, .ref q4, .int 0, .int 0, .ref q5, .int 0, .ref q6, .ref q7, .ref q8, .null, .null, .int 0, .null, .int 0])) :: ex) rfl ?_
  refine zd_aload_n E (pc := 71) d_M_init_71 rfl ?_
  refine zd_bipush E (pc := 72) (v := (nI 12)) d_M_init_72 (by decide) ?_
  refine zx_newI X (pc := 74) d_M_init_74 ka_int rfl rfl (by decide) (by decide) (by decide) (fun q9 => ?_)
  show Zf 9 3156 ((q9, .inl (k 0, 12, .inl (fun _ => 0))) :: (q8, .inl (k 1, 1024, .inl (fun _ => 0))) :: (q7, .inl (k 0, 1024, .inl (fun _ => 0))) :: (q6, .inl (k 0, 24, .inl (fun _ => 0))) :: (q5, .inl (k 0, 1024, .inl (fun _ => 0))) :: (q4, .inl (k 0, 12, .inl (fun _ => 0))) :: (q3, .inl (k 0, 12, .inl (fun _ => 0))) :: (q2, .inl (k 0, 12, .inl (fun _ => 0))) :: (q1, .inl (k 0, 12, .inl (fun _ => 0))) :: (a, .inr (6, [.int 0, .int 0, .int 0, .int 0, .int 0, .ref q1, .ref q2, .ref q3, .ref q4, .int 0, .int 0, .ref q5, .int 0, .ref q6, .ref q7, .ref q8, .null, .null, .int 0, .null, .int 0])) :: ex) [some (.ref a)] 76 [.ref q9, .ref a]
  have E := X.E (nc := 9) (ns := 3156) (by decide) (by decide)
  refine zx_putN X (pc := 76) d_M_init_76 kq_M_35 ⟨rfl, rfl⟩ 9 rfl (Nat.le_of_ble_eq_true rfl) (ws1 := (q9, .inl (k 0, 12, .inl (fun _ => 0))) :: (q8, .inl (k 1, 1024, .inl (fun _ => 0))) :: (q7, .inl (k 0, 1024, .inl (fun _ => 0))) :: (q6, .inl (k 0, 24, .inl (fun _ => 0))) :: (q5, .inl (k 0, 1024, .inl (fun _ => 0))) :: (q4, .inl (k 0, 12, .inl (fun _ => 0))) :: (q3, .inl (k 0, 12, .inl (fun _ => 0))) :: (q2, .inl (k 0, 12, .inl (fun _ => 0))) :: (q1, .inl (k 0, 12, .inl (fun _ => 0))) :: (a, .inr (6, [.int 0, .int 0, .int 0, .int 0, .int 0, .ref q1, .ref q2, .ref q3, .ref q4, .int 0, .int 0, .ref q5, .int 0, .ref q6, .ref q7, .ref q8, .ref q9, .null, .int 0, .null, .int 0])) :: ex) rfl ?_
  refine zd_aload_n E (pc := 79) d_M_init_79 rfl ?_
  refine zd_bipush E (pc := 80) (v := (nI 10)) d_M_init_80 (by decide) ?_
  refine zx_newI X (pc := 82) d_M_init_82 ka_int rfl rfl (by decide) (by decide) (by decide) (fun q10 => ?_)
  show Zf 10 3166 ((q10, .inl (k 0, 10, .inl (fun _ => 0))) :: (q9, .inl (k 0, 12, .inl (fun _ => 0))) :: (q8, .inl (k 1, 1024, .inl (fun _ => 0))) :: (q7, .inl (k 0, 1024, .inl (fun _ => 0))) :: (q6, .inl (k 0, 24, .inl (fun _ => 0))) :: (q5, .inl (k 0, 1024, .inl (fun _ => 0))) :: (q4, .inl (k 0, 12, .inl (fun _ => 0))) :: (q3, .inl (k 0, 12, .inl (fun _ => 0))) :: (q2, .inl (k 0, 12, .inl (fun _ => 0))) :: (q1, .inl (k 0, 12, .inl (fun _ => 0))) :: (a, .inr (6, [.int 0, .int 0, .int 0, .int 0, .int 0, .ref q1, .ref q2, .ref q3, .ref q4, .int 0, .int 0, .ref q5, .int 0, .ref q6, .ref q7, .ref q8, .ref q9, .null, .int 0, .null, .int 0])) :: ex) [some (.ref a)] 84 [.ref q10, .ref a]
  have E := X.E (nc := 10) (ns := 3166) (by decide) (by decide)
  refine zx_putN X (pc := 84) d_M_init_84 kq_M_38 ⟨rfl, rfl⟩ 10 rfl (Nat.le_of_ble_eq_true rfl) (ws1 := (q10, .inl (k 0, 10, .inl (fun _ => 0))) :: (q9, .inl (k 0, 12, .inl (fun _ => 0))) :: (q8, .inl (k 1, 1024, .inl (fun _ => 0))) :: (q7, .inl (k 0, 1024, .inl (fun _ => 0))) :: (q6, .inl (k 0, 24, .inl (fun _ => 0))) :: (q5, .inl (k 0, 1024, .inl (fun _ => 0))) :: (q4, .inl (k 0, 12, .inl (fun _ => 0))) :: (q3, .inl (k 0, 12, .inl (fun _ => 0))) :: (q2, .inl (k 0, 12, .inl (fun _ => 0))) :: (q1, .inl (k 0, 12, .inl (fun _ => 0))) :: (a, .inr (6, [.int 0, .int 0, .int 0, .int 0, .int 0, .ref q1, .ref q2, .ref q3, .ref q4, .int 0, .int 0, .ref q5, .int 0, .ref q6, .ref q7, .ref q8, .ref q9, .ref q10, .int 0, .null, .int 0])) :: ex) rfl ?_
  refine zd_aload_n E (pc := 87) d_M_init_87 rfl ?_
  refine zd_sipush E (pc := 88) (v := (nI 128)) d_M_init_88 (by decide) ?_
  refine zx_newI X (pc := 91) d_M_init_91 ka_int rfl rfl (by decide) (by decide) (by decide) (fun q11 => ?_)
  show Zf 11 3294 ((q11, .inl (k 0, 128, .inl (fun _ => 0))) :: (q10, .inl (k 0, 10, .inl (fun _ => 0))) :: (q9, .inl (k 0, 12, .inl (fun _ => 0))) :: (q8, .inl (k 1, 1024, .inl (fun _ => 0))) :: (q7, .inl (k 0, 1024, .inl (fun _ => 0))) :: (q6, .inl (k 0, 24, .inl (fun _ => 0))) :: (q5, .inl (k 0, 1024, .inl (fun _ => 0))) :: (q4, .inl (k 0, 12, .inl (fun _ => 0))) :: (q3, .inl (k 0, 12, .inl (fun _ => 0))) :: (q2, .inl (k 0, 12, .inl (fun _ => 0))) :: (q1, .inl (k 0, 12, .inl (fun _ => 0))) :: (a, .inr (6, [.int 0, .int 0, .int 0, .int 0, .int 0, .ref q1, .ref q2, .ref q3, .ref q4, .int 0, .int 0, .ref q5, .int 0, .ref q6, .ref q7, .ref q8, .ref q9, .ref q10, .int 0, .null, .int 0])) :: ex) [some (.ref a)] 93 [.ref q11, .ref a]
  have E := X.E (nc := 11) (ns := 3294) (by decide) (by decide)
  refine zx_putN X (pc := 93) d_M_init_93 kq_M_41 ⟨rfl, rfl⟩ 11 rfl (Nat.le_of_ble_eq_true rfl) (ws1 := (q11, .inl (k 0, 128, .inl (fun _ => 0))) :: (q10, .inl (k 0, 10, .inl (fun _ => 0))) :: (q9, .inl (k 0, 12, .inl (fun _ => 0))) :: (q8, .inl (k 1, 1024, .inl (fun _ => 0))) :: (q7, .inl (k 0, 1024, .inl (fun _ => 0))) :: (q6, .inl (k 0, 24, .inl (fun _ => 0))) :: (q5, .inl (k 0, 1024, .inl (fun _ => 0))) :: (q4, .inl (k 0, 12, .inl (fun _ => 0))) :: (q3, .inl (k 0, 12, .inl (fun _ => 0))) :: (q2, .inl (k 0, 12, .inl (fun _ => 0))) :: (q1, .inl (k 0, 12, .inl (fun _ => 0))) :: (a, .inr (6, [.int 0, .int 0, .int 0, .int 0, .int 0, .ref q1, .ref q2, .ref q3, .ref q4, .int 0, .int 0, .ref q5, .int 0, .ref q6, .ref q7, .ref q8, .ref q9, .ref q10, .int 0, .ref q11, .int 0])) :: ex) rfl ?_
  exact zd_vret E (pc := 96) d_M_init_96 ⟨q1, q2, q3, q4, q5, q6, q7, q8, q9, q10, q11, rfl, rfl⟩
end CT1
