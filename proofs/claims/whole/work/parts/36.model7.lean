/-! The reference: level, bound, landmark; base. -/
/-- levels that came to a solution, under the reference's cap -/
def md_lv (w : Bool) (nf na : Nat) (c ne ad : Nat → Nat) (bar : Nat → Bool) (s : Nat) (h : Nat → Nat) : Prop := ∃ kk, h = lm_it 1048576 w nf na c ne ad bar (lm_i0 1048576 s) kk ∧ lm_px 1048576 w nf na c ne ad bar h
theorem md_lv_le {w : Bool} {nf na : Nat} {c ne ad : Nat → Nat} {bar : Nat → Bool} {s : Nat} {h : Nat → Nat} (hl : md_lv w nf na c ne ad bar s h) (f : Nat) : h f ≤ 1048576 := by
  obtain ⟨kk, rfl, -⟩ := hl
  exact Nat.le_trans (lm_it_le _ _ _) (lm_i0_le _ _ _)
section M7
variable {k : Nat → ClassId} {q : Nat → Nat} {v : Nat → Int32} {r : Nat → Nat → Int32} {ex : va_W} {nf na fi go : Nat} {co ne ad dr : Nat → Nat}
theorem md_bar0 (ad : Nat → Nat) : (fun a => decide (ad a &&& 0 ≠ 0)) = (fun _ => false) := by funext a; simp
theorem md_bar1 (ad : Nat → Nat) (f : Nat) : (fun a => decide (ad a &&& 2 ^ f ≠ 0)) = (fun a => (ad a).testBit f) := by
  funext a
  cases hb : (ad a).testBit f with
  | true =>
    refine decide_eq_true (cu_and_ne.mpr ⟨f, hb, ?_⟩)
    rw [Nat.testBit_two_pow]; simp
  | false =>
    refine decide_eq_false fun z => ?_
    obtain ⟨b, h1, h2⟩ := cu_and_ne.mp z
    rw [Nat.testBit_two_pow] at h2
    have : f = b := by simpa using h2
    subst this
    rw [hb] at h1; cases h1
set_option maxRecDepth 100000 in
set_option maxHeartbeats 4000000 in
theorem c_M_level (l : Launch) (D : va_G) {s f : Nat} {w : Bool} (t : tk_M v r nf na fi go co ne ad dr) (hs : v 15 = nI s) (hs2 : s < 2 ^ nf) (hf : f < nf) : zd_Ct l D classes (wd_ty k) gd_T y_M_level b_M_level 3 (some .int) (zd_rm 2) [.ref (q 22), .int (nI f), .int (nI (bm_b w))] (wd k q v r ex)
    (fun v1 w1 => ∃ (r2 : Nat → Nat → Int32) (h : Nat → Nat), (∀ i, i ≠ 31 → i ≠ 32 → r2 i = r i) ∧ md_lv w nf na co ne ad (fun _ => false) s h ∧ v1 = some (.int (if 1048576 ≤ h f then -1 else nI (h f))) ∧ w1 = wd k q (upd v 10 (nI 0)) r2 ex) := by
  refine zd_met gd_all (by decide) rfl (Nat.le_of_ble_eq_true rfl) (fun Z E => ?_)
  show Z (wd k q v r ex) [some (.ref (q 22)), some (.int (nI f)), some (.int (nI (bm_b w)))] 0 []
  have hnf := t.2.2.1.1
  have hna := t.hna.2
  have t0 : tk_M (upd v 10 (nI 0)) r nf na fi go co ne ad dr := tk_mfr t rfl rfl rfl rfl rfl rfl rfl rfl
  refine zd_aload_n E (pc := 0) d_M_level_0 rfl ?_
  refine zd_aload_n E (pc := 1) d_M_level_1 rfl ?_
  refine zd_iload_n E (pc := 2) d_M_level_2 rfl ?_
  refine zd_callV E (pc := 3) d_M_level_3 kc_M_73 rfl ki_M_noFact ke_M_noFact 22 rfl rfl (c_M_noFact l D _ t.1.1 (by omega)) (by decide) rfl (Nat.le_of_ble_eq_true rfl) (fun v1 ws1 hv1 => ?_)
  obtain ⟨b, hc, rfl, rfl⟩ := hv1
  refine zd_bf_eq E (pc := 6) 13 d_M_level_6 (by decide) (fun h0 => ?_) (fun h0 => ?_)
  · refine zd_iconst E (pc := 13) (v := (nI 0)) d_M_level_13 (by decide) ?_
    refine zd_put E (pc := 14) d_M_level_14 kp_M_44 22 rfl (Nat.le_of_ble_eq_true rfl) (ws1 := wd k q (upd v 10 (nI 0)) r ex) rfl ?_
    refine zd_aload_n E (pc := 17) d_M_level_17 rfl ?_
    refine zd_get E (pc := 18) d_M_level_18 kf_M_44 22 rfl rfl ?_
    refine zd_if_le E (pc := 21) 26 d_M_level_21 (by decide) (fun h1 => ?_) (fun h1 => ?_)
    · refine zd_aload_n E (pc := 26) d_M_level_26 rfl ?_
      refine zd_callV E (pc := 27) d_M_level_27 kc_M_105 rfl ki_M_ownRates ke_M_ownRates 22 rfl rfl (c_M_ownRates l D (v := upd v 10 (nI 0)) t0) (by decide) rfl (Nat.le_of_ble_eq_true rfl) (fun v1 ws1 hv1 => ?_)
      obtain ⟨r1, hf1, hr1, rfl, rfl⟩ := hv1
      have t1 : tk_M (upd v 10 (nI 0)) r1 nf na fi go co ne ad dr := tk_mfr t0 rfl rfl rfl rfl (hf1 23 (by decide)) (hf1 24 (by decide)) (hf1 25 (by decide)) (hf1 26 (by decide))
      refine zd_aload_n E (pc := 30) d_M_level_30 rfl ?_
      refine zd_iload_n E (pc := 31) d_M_level_31 rfl ?_
      refine zd_iconst E (pc := 32) (v := (nI 0)) d_M_level_32 (by decide) ?_
      refine zd_callV E (pc := 33) d_M_level_33 kc_M_108 rfl ki_M_findLevels ke_M_findLevels 22 rfl rfl (c_M_findLevels l D (v := upd v 10 (nI 0)) (w := w) t1 hs hs2 (show 0 < 2 ^ 31 by decide) (fun i hi => ⟨hr1 i hi, (t.hco i (by omega)).2⟩)) (by decide) rfl (Nat.le_of_ble_eq_true rfl) (fun v1 ws1 hv1 => ?_)
      obtain ⟨r2, kk, hf2, hr2, hp2, rfl, rfl⟩ := hv1
      rw [md_bar0] at hr2 hp2
      have hlv : md_lv w nf na co ne ad (fun _ => false) s (lm_it 1048576 w nf na co ne ad (fun _ => false) (lm_i0 1048576 s) kk) := ⟨kk, rfl, hp2⟩
      have hle := md_lv_le hlv f
      refine zd_aload_n E (pc := 36) d_M_level_36 rfl ?_
      refine zd_get E (pc := 37) d_M_level_37 kf_M_38 22 rfl rfl ?_
      refine zd_iload_n E (pc := 40) d_M_level_40 rfl ?_
      refine zd_iald E (pc := 41) d_M_level_41 32 rfl (t0 := 0) rfl (f) (rfl) ((by omega)) (by decide) ?_
      rw [hr2 f hf]
      refine zd_callS E (pc := 42) d_M_level_42 kc_M_112 rfl ks_M_told (c_M_told l D _ _ (show lm_it 1048576 w nf na co ne ad (fun _ => false) (lm_i0 1048576 s) kk f < 2 ^ 31 by omega)) (by decide) rfl (Nat.le_of_ble_eq_true rfl) (fun v1 ws1 hv1 => ?_)
      obtain ⟨rfl, rfl⟩ := hv1
      exact zd_iret E (pc := 45) d_M_level_45 ⟨r2, _, fun i a b => (hf2 i b).trans (hf1 i a), hlv, rfl, rfl⟩
    · exact absurd (show nI 0 ≤ 0 by decide) h1
  · rcases hc with ⟨z, -⟩ | ⟨-, z⟩
    · rw [z] at h0; cases h0
    · exact absurd rfl (bm_out z (by omega) hf)
set_option maxRecDepth 100000 in
set_option maxHeartbeats 4000000 in
theorem c_M_level1 (l : Launch) (D : va_G) (x y : Int32) (t : tk_M v r nf na fi go co ne ad dr) (hx : x < 0 ∨ nI nf ≤ x) : zd_Ct l D classes (wd_ty k) gd_T y_M_level b_M_level 3 (some .int) (zd_rm 2) [.ref (q 22), .int x, .int y] (wd k q v r ex) (zd_is (some (.int (nI 0))) (wd k q (upd v 10 (nI 1)) r ex)) := by
  refine zd_met gd_all (by decide) rfl (Nat.le_of_ble_eq_true rfl) (fun Z E => ?_)
  show Z (wd k q v r ex) [some (.ref (q 22)), some (.int x), some (.int y)] 0 []
  have hnf := t.2.2.1.1
  refine zd_aload_n E (pc := 0) d_M_level_0 rfl ?_
  refine zd_aload_n E (pc := 1) d_M_level_1 rfl ?_
  refine zd_iload_n E (pc := 2) d_M_level_2 rfl ?_
  refine zd_callV E (pc := 3) d_M_level_3 kc_M_73 rfl ki_M_noFact ke_M_noFact 22 rfl rfl (c_M_noFact l D _ t.1.1 (by omega)) (by decide) rfl (Nat.le_of_ble_eq_true rfl) (fun v1 ws1 hv1 => ?_)
  obtain ⟨b, hc, rfl, rfl⟩ := hv1
  refine zd_bf_eq E (pc := 6) 13 d_M_level_6 (by decide) (fun h0 => ?_) (fun h0 => ?_)
  · rcases hc with ⟨-, j, hj, rfl⟩ | ⟨z, -⟩
    · exact absurd rfl (bm_out hx (by omega) hj)
    · exact absurd z h0
  · refine zd_iconst E (pc := 9) (v := (nI 1)) d_M_level_9 (by decide) ?_
    refine zd_goto E (pc := 10) 14 d_M_level_10 (by decide) ?_
    refine zd_put E (pc := 14) d_M_level_14 kp_M_44 22 rfl (Nat.le_of_ble_eq_true rfl) (ws1 := wd k q (upd v 10 (nI 1)) r ex) rfl ?_
    refine zd_aload_n E (pc := 17) d_M_level_17 rfl ?_
    refine zd_get E (pc := 18) d_M_level_18 kf_M_44 22 rfl rfl ?_
    refine zd_if_le E (pc := 21) 26 d_M_level_21 (by decide) (fun h1 => ?_) (fun h1 => ?_)
    · exact absurd h1 bm_1ne0
    · refine zd_iconst E (pc := 24) (v := (nI 0)) d_M_level_24 (by decide) ?_
      exact zd_iret E (pc := 25) d_M_level_25 ⟨rfl, rfl⟩
set_option maxRecDepth 100000 in
set_option maxHeartbeats 4000000 in
theorem c_M_bound (l : Launch) (D : va_G) {s : Nat} {w : Bool} (t : tk_M v r nf na fi go co ne ad dr) (hs : v 15 = nI s) (hs2 : s < 2 ^ nf) : zd_Ct l D classes (wd_ty k) gd_T y_M_bound b_M_bound 2 (some .int) (zd_rm 2) [.ref (q 22), .int (nI (bm_b w))] (wd k q v r ex)
    (fun v1 w1 => ∃ (r2 : Nat → Nat → Int32) (h : Nat → Nat), (∀ i, i ≠ 31 → i ≠ 32 → r2 i = r i) ∧ md_lv w nf na co ne ad (fun _ => false) s h ∧ v1 = some (.int (if 1048576 ≤ lm_jn 1048576 w h go nf then -1 else nI (lm_jn 1048576 w h go nf))) ∧ w1 = wd k q (upd v 10 (nI 0)) r2 ex) := by
  refine zd_met gd_all (by decide) rfl (Nat.le_of_ble_eq_true rfl) (fun Z E => ?_)
  show Z (wd k q v r ex) [some (.ref (q 22)), some (.int (nI (bm_b w)))] 0 []
  have hnf := t.2.2.1.1
  have hna := t.hna.2
  obtain ⟨g1, g2⟩ := t.hgo
  have g1 : v 13 = nI go := g1
  have t0 : tk_M (upd v 10 (nI 0)) r nf na fi go co ne ad dr := tk_mfr t rfl rfl rfl rfl rfl rfl rfl rfl
  refine zd_aload_n E (pc := 0) d_M_bound_0 rfl ?_
  refine zd_iconst E (pc := 1) (v := (nI 0)) d_M_bound_1 (by decide) ?_
  refine zd_put E (pc := 2) d_M_bound_2 kp_M_44 22 rfl (Nat.le_of_ble_eq_true rfl) (ws1 := wd k q (upd v 10 (nI 0)) r ex) rfl ?_
  refine zd_aload_n E (pc := 5) d_M_bound_5 rfl ?_
  refine zd_callV E (pc := 6) d_M_bound_6 kc_M_105 rfl ki_M_ownRates ke_M_ownRates 22 rfl rfl (c_M_ownRates l D (v := upd v 10 (nI 0)) t0) (by decide) rfl (Nat.le_of_ble_eq_true rfl) (fun v1 ws1 hv1 => ?_)
  obtain ⟨r1, hf1, hr1, rfl, rfl⟩ := hv1
  have t1 : tk_M (upd v 10 (nI 0)) r1 nf na fi go co ne ad dr := tk_mfr t0 rfl rfl rfl rfl (hf1 23 (by decide)) (hf1 24 (by decide)) (hf1 25 (by decide)) (hf1 26 (by decide))
  refine zd_aload_n E (pc := 9) d_M_bound_9 rfl ?_
  refine zd_iload_n E (pc := 10) d_M_bound_10 rfl ?_
  refine zd_iconst E (pc := 11) (v := (nI 0)) d_M_bound_11 (by decide) ?_
  refine zd_callV E (pc := 12) d_M_bound_12 kc_M_108 rfl ki_M_findLevels ke_M_findLevels 22 rfl rfl (c_M_findLevels l D (v := upd v 10 (nI 0)) (w := w) t1 hs hs2 (show 0 < 2 ^ 31 by decide) (fun i hi => ⟨hr1 i hi, (t.hco i (by omega)).2⟩)) (by decide) rfl (Nat.le_of_ble_eq_true rfl) (fun v1 ws1 hv1 => ?_)
  obtain ⟨r2, kk, hf2, hr2, hp2, rfl, rfl⟩ := hv1
  rw [md_bar0] at hr2 hp2
  have hlv : md_lv w nf na co ne ad (fun _ => false) s (lm_it 1048576 w nf na co ne ad (fun _ => false) (lm_i0 1048576 s) kk) := ⟨kk, rfl, hp2⟩
  have t2 : tk_M (upd v 10 (nI 0)) r2 nf na fi go co ne ad dr := tk_mfr t1 rfl rfl rfl rfl (hf2 23 (by decide)) (hf2 24 (by decide)) (hf2 25 (by decide)) (hf2 26 (by decide))
  refine zd_aload_n E (pc := 15) d_M_bound_15 rfl ?_
  refine zd_aload_n E (pc := 16) d_M_bound_16 rfl ?_
  refine zd_get E (pc := 17) d_M_bound_17 kf_M_63 22 rfl rfl ?_
  show Z (wd k q (upd v 10 (nI 0)) r2 ex) _ 20 [.int (v 13), .ref (q 22)]
  rw [g1]
  refine zd_iload_n E (pc := 20) d_M_bound_20 rfl ?_
  refine zd_callV E (pc := 21) d_M_bound_21 kc_M_101 rfl ki_M_over ke_M_over 22 rfl rfl (c_M_over l D (v := upd v 10 (nI 0)) (w := w) t2 g2 (fun i hi => ⟨hr2 i hi, md_lv_le hlv i⟩)) (by decide) rfl (Nat.le_of_ble_eq_true rfl) (fun v1 ws1 hv1 => ?_)
  obtain ⟨rfl, rfl⟩ := hv1
  have hle := lm_jn_le 1048576 w (lm_it 1048576 w nf na co ne ad (fun _ => false) (lm_i0 1048576 s) kk) go nf
  refine zd_callS E (pc := 24) d_M_bound_24 kc_M_112 rfl ks_M_told (c_M_told l D _ _ (show lm_jn 1048576 w (lm_it 1048576 w nf na co ne ad (fun _ => false) (lm_i0 1048576 s) kk) go nf < 2 ^ 31 by omega)) (by decide) rfl (Nat.le_of_ble_eq_true rfl) (fun v1 ws1 hv1 => ?_)
  obtain ⟨rfl, rfl⟩ := hv1
  exact zd_iret E (pc := 27) d_M_bound_27 ⟨r2, _, fun i a b => (hf2 i b).trans (hf1 i a), hlv, rfl, rfl⟩
set_option maxRecDepth 100000 in
set_option maxHeartbeats 4000000 in
theorem c_M_landmark (l : Launch) (D : va_G) {s f : Nat} (t : tk_M v r nf na fi go co ne ad dr) (hs : v 15 = nI s) (hs2 : s < 2 ^ nf) (hf : f < nf) : zd_Ct l D classes (wd_ty k) gd_T y_M_landmark b_M_landmark 2 (some .boolean) (zd_rm 2) [.ref (q 22), .int (nI f)] (wd k q v r ex)
    (fun v1 w1 => ∃ (r2 : Nat → Nat → Int32) (h : Nat → Nat) (b : Bool), (∀ i, i ≠ 31 → i ≠ 32 → r2 i = r i) ∧ md_lv false nf na co ne ad (fun a => (ad a).testBit f) s h ∧ (b = true ↔ (s.testBit f = true ∨ 1048576 ≤ lm_jn 1048576 false h go nf)) ∧ v1 = some (.int (nI (bm_b b))) ∧ w1 = wd k q (upd v 10 (nI 0)) r2 ex) := by
  refine zd_met gd_all (by decide) rfl (Nat.le_of_ble_eq_true rfl) (fun Z E => ?_)
  show Z (wd k q v r ex) [some (.ref (q 22)), some (.int (nI f))] 0 []
  have hnf := t.2.2.1.1
  have hna := t.hna.2
  have hN := t.n31
  obtain ⟨g1, g2⟩ := t.hgo
  have g1 : v 13 = nI go := g1
  have h2f : 2 ^ f < 2 ^ 31 := Nat.pow_lt_pow_right (by omega) (by omega)
  have t0 : tk_M (upd v 10 (nI 0)) r nf na fi go co ne ad dr := tk_mfr t rfl rfl rfl rfl rfl rfl rfl rfl
  refine zd_aload_n E (pc := 0) d_M_landmark_0 rfl ?_
  refine zd_aload_n E (pc := 1) d_M_landmark_1 rfl ?_
  refine zd_iload_n E (pc := 2) d_M_landmark_2 rfl ?_
  refine zd_callV E (pc := 3) d_M_landmark_3 kc_M_73 rfl ki_M_noFact ke_M_noFact 22 rfl rfl (c_M_noFact l D _ t.1.1 (by omega)) (by decide) rfl (Nat.le_of_ble_eq_true rfl) (fun v1 ws1 hv1 => ?_)
  obtain ⟨b, hc, rfl, rfl⟩ := hv1
  refine zd_bf_eq E (pc := 6) 13 d_M_landmark_6 (by decide) (fun h0 => ?_) (fun h0 => ?_)
  · refine zd_iconst E (pc := 13) (v := (nI 0)) d_M_landmark_13 (by decide) ?_
    refine zd_put E (pc := 14) d_M_landmark_14 kp_M_44 22 rfl (Nat.le_of_ble_eq_true rfl) (ws1 := wd k q (upd v 10 (nI 0)) r ex) rfl ?_
    refine zd_aload_n E (pc := 17) d_M_landmark_17 rfl ?_
    refine zd_get E (pc := 18) d_M_landmark_18 kf_M_44 22 rfl rfl ?_
    refine zd_if_le E (pc := 21) 26 d_M_landmark_21 (by decide) (fun h1 => ?_) (fun h1 => ?_)
    · refine zd_aload_n E (pc := 26) d_M_landmark_26 rfl ?_
      refine zd_callV E (pc := 27) d_M_landmark_27 kc_M_105 rfl ki_M_ownRates ke_M_ownRates 22 rfl rfl (c_M_ownRates l D (v := upd v 10 (nI 0)) t0) (by decide) rfl (Nat.le_of_ble_eq_true rfl) (fun v1 ws1 hv1 => ?_)
      obtain ⟨r1, hf1, hr1, rfl, rfl⟩ := hv1
      have t1 : tk_M (upd v 10 (nI 0)) r1 nf na fi go co ne ad dr := tk_mfr t0 rfl rfl rfl rfl (hf1 23 (by decide)) (hf1 24 (by decide)) (hf1 25 (by decide)) (hf1 26 (by decide))
      refine zd_aload_n E (pc := 30) d_M_landmark_30 rfl ?_
      refine zd_iconst E (pc := 31) (v := (nI 0)) d_M_landmark_31 (by decide) ?_
      refine zd_iconst E (pc := 32) (v := (nI 1)) d_M_landmark_32 (by decide) ?_
      refine zd_iload_n E (pc := 33) d_M_landmark_33 rfl ?_
      refine zd_ishl E (pc := 34) d_M_landmark_34 ?_
      rw [bm_one (by omega)]
      refine zd_callV E (pc := 35) d_M_landmark_35 kc_M_108 rfl ki_M_findLevels ke_M_findLevels 22 rfl rfl (c_M_findLevels l D (v := upd v 10 (nI 0)) (w := false) t1 hs hs2 h2f (fun i hi => ⟨hr1 i hi, (t.hco i (by omega)).2⟩)) (by decide) rfl (Nat.le_of_ble_eq_true rfl) (fun v1 ws1 hv1 => ?_)
      obtain ⟨r2, kk, hf2, hr2, hp2, rfl, rfl⟩ := hv1
      rw [md_bar1] at hr2 hp2
      have hlv : md_lv false nf na co ne ad (fun a => (ad a).testBit f) s (lm_it 1048576 false nf na co ne ad (fun a => (ad a).testBit f) (lm_i0 1048576 s) kk) := ⟨kk, rfl, hp2⟩
      have t2 : tk_M (upd v 10 (nI 0)) r2 nf na fi go co ne ad dr := tk_mfr t1 rfl rfl rfl rfl (hf2 23 (by decide)) (hf2 24 (by decide)) (hf2 25 (by decide)) (hf2 26 (by decide))
      have yes : (s.testBit f = true ∨ 1048576 ≤ lm_jn 1048576 false (lm_it 1048576 false nf na co ne ad (fun a => (ad a).testBit f) (lm_i0 1048576 s) kk) go nf) → Z (wd k q (upd v 10 (nI 0)) r2 ex) [some (.ref (q 22)), some (.int (nI f))] 64 [] := by
        intro hy
        refine zd_iconst E (pc := 64) (v := (nI 1)) d_M_landmark_64 (by decide) ?_
        refine zd_goto E (pc := 65) 69 d_M_landmark_65 (by decide) ?_
        exact zd_zret E (pc := 69) d_M_landmark_69 (by decide) ⟨r2, _, true, fun i a b => (hf2 i b).trans (hf1 i a), hlv, ⟨fun _ => hy, fun _ => rfl⟩, rfl, rfl⟩
      refine zd_aload_n E (pc := 38) d_M_landmark_38 rfl ?_
      refine zd_get E (pc := 39) d_M_landmark_39 kf_M_60 22 rfl rfl ?_
      show Z (wd k q (upd v 10 (nI 0)) r2 ex) _ 42 [.int (v 15)]
      rw [hs]
      refine zd_iload_n E (pc := 42) d_M_landmark_42 rfl ?_
      refine zd_ishr E (pc := 43) d_M_landmark_43 ?_
      refine zd_iconst E (pc := 44) (v := (nI 1)) d_M_landmark_44 (by decide) ?_
      refine zd_iand E (pc := 45) d_M_landmark_45 ?_
      rw [bm_has (show s < 2 ^ 31 by omega) (show f < 32 by omega)]
      refine zd_iconst E (pc := 46) (v := (nI 1)) d_M_landmark_46 (by decide) ?_
      refine zd_hb_eq E (pc := 47) 64 d_M_landmark_47 (by decide) (fun hb => ?_) (fun hb => ?_)
      · exact yes (Or.inl hb)
      · refine zd_aload_n E (pc := 50) d_M_landmark_50 rfl ?_
        refine zd_aload_n E (pc := 51) d_M_landmark_51 rfl ?_
        refine zd_get E (pc := 52) d_M_landmark_52 kf_M_63 22 rfl rfl ?_
        show Z (wd k q (upd v 10 (nI 0)) r2 ex) _ 55 [.int (v 13), .ref (q 22)]
        rw [g1]
        refine zd_iconst E (pc := 55) (v := (nI 0)) d_M_landmark_55 (by decide) ?_
        refine zd_callV E (pc := 56) d_M_landmark_56 kc_M_101 rfl ki_M_over ke_M_over 22 rfl rfl (c_M_over l D (v := upd v 10 (nI 0)) (w := false) t2 g2 (fun i hi => ⟨hr2 i hi, md_lv_le hlv i⟩)) (by decide) rfl (Nat.le_of_ble_eq_true rfl) (fun v1 ws1 hv1 => ?_)
        obtain ⟨rfl, rfl⟩ := hv1
        have hle := lm_jn_le 1048576 false (lm_it 1048576 false nf na co ne ad (fun a => (ad a).testBit f) (lm_i0 1048576 s) kk) go nf
        refine zd_ldc E (pc := 59) (v := (nI 1048576)) d_M_landmark_59 kk_M_87 ?_
        refine zd_nc_lt E (pc := 61) 68 d_M_landmark_61 (by decide) ((by omega)) ((by omega)) (fun hq => ?_) (fun hq => ?_)
        · refine zd_iconst E (pc := 68) (v := (nI 0)) d_M_landmark_68 (by decide) ?_
          exact zd_zret E (pc := 69) d_M_landmark_69 (by decide) ⟨r2, _, false, fun i a b => (hf2 i b).trans (hf1 i a), hlv, ⟨(fun z => by cases z), fun z => z.elim (fun y => absurd y hb) (fun y => by omega)⟩, rfl, rfl⟩
        · exact yes (Or.inr hq)
    · exact absurd (show nI 0 ≤ 0 by decide) h1
  · rcases hc with ⟨z, -⟩ | ⟨-, z⟩
    · rw [z] at h0; cases h0
    · exact absurd rfl (bm_out z (by omega) hf)
set_option maxRecDepth 100000 in
set_option maxHeartbeats 4000000 in
theorem c_M_landmark1 (l : Launch) (D : va_G) (x : Int32) (t : tk_M v r nf na fi go co ne ad dr) (hx : x < 0 ∨ nI nf ≤ x) : zd_Ct l D classes (wd_ty k) gd_T y_M_landmark b_M_landmark 2 (some .boolean) (zd_rm 2) [.ref (q 22), .int x] (wd k q v r ex) (zd_is (some (.int (nI 0))) (wd k q (upd v 10 (nI 1)) r ex)) := by
  refine zd_met gd_all (by decide) rfl (Nat.le_of_ble_eq_true rfl) (fun Z E => ?_)
  show Z (wd k q v r ex) [some (.ref (q 22)), some (.int x)] 0 []
  have hnf := t.2.2.1.1
  refine zd_aload_n E (pc := 0) d_M_landmark_0 rfl ?_
  refine zd_aload_n E (pc := 1) d_M_landmark_1 rfl ?_
  refine zd_iload_n E (pc := 2) d_M_landmark_2 rfl ?_
  refine zd_callV E (pc := 3) d_M_landmark_3 kc_M_73 rfl ki_M_noFact ke_M_noFact 22 rfl rfl (c_M_noFact l D _ t.1.1 (by omega)) (by decide) rfl (Nat.le_of_ble_eq_true rfl) (fun v1 ws1 hv1 => ?_)
  obtain ⟨b, hc, rfl, rfl⟩ := hv1
  refine zd_bf_eq E (pc := 6) 13 d_M_landmark_6 (by decide) (fun h0 => ?_) (fun h0 => ?_)
  · rcases hc with ⟨-, j, hj, rfl⟩ | ⟨z, -⟩
    · exact absurd rfl (bm_out hx (by omega) hj)
    · exact absurd z h0
  · refine zd_iconst E (pc := 9) (v := (nI 1)) d_M_landmark_9 (by decide) ?_
    refine zd_goto E (pc := 10) 14 d_M_landmark_10 (by decide) ?_
    refine zd_put E (pc := 14) d_M_landmark_14 kp_M_44 22 rfl (Nat.le_of_ble_eq_true rfl) (ws1 := wd k q (upd v 10 (nI 1)) r ex) rfl ?_
    refine zd_aload_n E (pc := 17) d_M_landmark_17 rfl ?_
    refine zd_get E (pc := 18) d_M_landmark_18 kf_M_44 22 rfl rfl ?_
    refine zd_if_le E (pc := 21) 26 d_M_landmark_21 (by decide) (fun h1 => ?_) (fun h1 => ?_)
    · exact absurd h1 bm_1ne0
    · refine zd_iconst E (pc := 24) (v := (nI 0)) d_M_landmark_24 (by decide) ?_
      exact zd_zret E (pc := 25) d_M_landmark_25 (by decide) ⟨rfl, rfl⟩
/-- of the facts from i on: none, or the least with the greatest level -/
def md_Bp (h : Nat → Nat) (S n i b : Nat) : Prop := (b = 10 ∧ ∀ f, i ≤ f → f < n → S.testBit f = false) ∨ (i ≤ b ∧ b < n ∧ S.testBit b = true ∧ (∀ f, i ≤ f → f < n → S.testBit f = true → h f ≤ h b) ∧ (∀ f, i ≤ f → f < b → S.testBit f = true → h f < h b))
set_option maxRecDepth 100000 in
set_option maxHeartbeats 4000000 in
theorem c_M_base (l : Launch) (D : va_G) {S : Nat} {h : Nat → Nat} (t : tk_M v r nf na fi go co ne ad dr) (hS : S < 2 ^ 31) (hh : ∀ i, i < nf → r 32 i = nI (h i) ∧ h i ≤ 1048576) : zd_Ct l D classes (wd_ty k) gd_T y_M_base b_M_base 4 (some .int) (zd_rm 1) [.ref (q 22), .int (nI S)] (wd k q v r ex)
    (fun v1 w1 => ∃ b, cu_B h S nf b ∧ v1 = some (.int (if lm_jn 1048576 false h S nf < 1048576 then nI b else -1)) ∧ w1 = wd k q v r ex) := by
  refine zd_met gd_all (by decide) rfl (Nat.le_of_ble_eq_true rfl) (fun Z E => ?_)
  show Z (wd k q v r ex) [some (.ref (q 22)), some (.int (nI S)), none, none] 0 []
  have hnf := t.2.2.1.1
  have h11 : v 11 = nI nf := t.1.1
  have jle := lm_jn_le 1048576 false h S nf
  -- the end, and a step down
  have fin : ∀ (b : Nat) (x : Int32), lm_jn 1048576 false h S nf < 1048576 → md_Bp h S nf 0 b → Z (wd k q v r ex) [some (.ref (q 22)), some (.int (nI S)), some (.int (nI b)), some (.int x)] 65 [] := by
    intro b x hj hb
    refine zd_iload_n E (pc := 65) d_M_base_65 rfl ?_
    exact zd_iret E (pc := 66) d_M_base_66 ⟨b, by
      rcases hb with ⟨z1, z2⟩ | ⟨z1, z2, z3, z4, z5⟩
      · exact Or.inl ⟨z1, fun f hf => z2 f (Nat.zero_le _) hf⟩
      · exact Or.inr ⟨z2, z3, fun f hf => z4 f (Nat.zero_le _) hf, fun f hf => z5 f (Nat.zero_le _) hf⟩, by rw [if_pos hj], rfl⟩
  have body : ∀ (i b : Nat), i < nf → md_Bp h S nf (i + 1) b → (∀ b, md_Bp h S nf i b → Z (wd k q v r ex) [some (.ref (q 22)), some (.int (nI S)), some (.int (nI b)), some (.int (nI i))] 59 []) → Z (wd k q v r ex) [some (.ref (q 22)), some (.int (nI S)), some (.int (nI b)), some (.int (nI i))] 23 [] := by
    intro i b hi hb kk
    obtain ⟨e1, e2⟩ := hh i hi
    have take : S.testBit i = true → (∀ f, i + 1 ≤ f → f < nf → S.testBit f = true → h f ≤ h i) → Z (wd k q v r ex) [some (.ref (q 22)), some (.int (nI S)), some (.int (nI b)), some (.int (nI i))] 57 [] := by
      intro hs hm
      refine zd_iload_n E (pc := 57) d_M_base_57 rfl ?_
      refine zd_istore_n E (pc := 58) d_M_base_58 (by decide) ?_
      refine kk i (Or.inr ⟨Nat.le_refl _, hi, hs, fun f a1 a2 a3 => ?_, fun f a1 a2 => by omega⟩)
      by_cases e : f = i
      · subst e; exact Nat.le_refl _
      · exact hm f (by omega) a2 a3
    refine zd_iload_n E (pc := 23) d_M_base_23 rfl ?_
    refine zd_if_lt E (pc := 24) 65 d_M_base_24 (by decide) (fun hneg => ?_) (fun hneg => ?_)
    · exact absurd hneg (nI_pos (by omega))
    · refine zd_iload_n E (pc := 27) d_M_base_27 rfl ?_
      refine zd_iload_n E (pc := 28) d_M_base_28 rfl ?_
      refine zd_ishr E (pc := 29) d_M_base_29 ?_
      refine zd_iconst E (pc := 30) (v := (nI 1)) d_M_base_30 (by decide) ?_
      refine zd_iand E (pc := 31) d_M_base_31 ?_
      rw [bm_has hS (show i < 32 by omega)]
      refine zd_iconst E (pc := 32) (v := (nI 1)) d_M_base_32 (by decide) ?_
      refine zd_hb_ne E (pc := 33) 59 d_M_base_33 (by decide) (fun hs => ?_) (fun hs => ?_)
      · refine kk b ?_
        have hs0 := ts_f hs
        rcases hb with ⟨z1, z2⟩ | ⟨z1, z2, z3, z4, z5⟩
        · refine Or.inl ⟨z1, fun f a1 a2 => ?_⟩
          by_cases e : f = i
          · subst e; exact hs0
          · exact z2 f (by omega) a2
        · refine Or.inr ⟨by omega, z2, z3, fun f a1 a2 a3 => ?_, fun f a1 a2 a3 => ?_⟩
          · by_cases e : f = i
            · subst e; rw [hs0] at a3; cases a3
            · exact z4 f (by omega) a2 a3
          · by_cases e : f = i
            · subst e; rw [hs0] at a3; cases a3
            · exact z5 f (by omega) a2 a3
      · have hb10 : b ≤ 10 := by rcases hb with ⟨z, -⟩ | ⟨-, z, -⟩ <;> omega
        refine zd_iload_n E (pc := 36) d_M_base_36 rfl ?_
        refine zd_bipush E (pc := 37) (v := (nI 10)) d_M_base_37 (by decide) ?_
        refine zd_nc_eq E (pc := 39) 57 d_M_base_39 (by decide) ((by omega)) ((by omega)) (fun h10 => ?_) (fun h10 => ?_)
        · rcases hb with ⟨z1, z2⟩ | ⟨z1, z2, z3, z4, z5⟩
          · exact take hs (fun f a1 a2 a3 => by rw [z2 f a1 a2] at a3; cases a3)
          · omega
        · rcases hb with ⟨z1, z2⟩ | ⟨z1, z2, z3, z4, z5⟩
          · omega
          · obtain ⟨g1, g2⟩ := hh b z2
            refine zd_aload_n E (pc := 42) d_M_base_42 rfl ?_
            refine zd_get E (pc := 43) d_M_base_43 kf_M_38 22 rfl rfl ?_
            refine zd_iload_n E (pc := 46) d_M_base_46 rfl ?_
            refine zd_iald E (pc := 47) d_M_base_47 32 rfl (t0 := 0) rfl (i) (rfl) ((by omega)) (by decide) ?_
            rw [e1]
            refine zd_aload_n E (pc := 48) d_M_base_48 rfl ?_
            refine zd_get E (pc := 49) d_M_base_49 kf_M_38 22 rfl rfl ?_
            refine zd_iload_n E (pc := 52) d_M_base_52 rfl ?_
            refine zd_iald E (pc := 53) d_M_base_53 32 rfl (t0 := 0) rfl (b) (rfl) ((by omega)) (by decide) ?_
            rw [g1]
            refine zd_nc_lt E (pc := 54) 59 d_M_base_54 (by decide) ((by omega)) ((by omega)) (fun hlt => ?_) (fun hlt => ?_)
            · refine kk b (Or.inr ⟨by omega, z2, z3, fun f a1 a2 a3 => ?_, fun f a1 a2 a3 => ?_⟩)
              · by_cases e : f = i
                · subst e; omega
                · exact z4 f (by omega) a2 a3
              · by_cases e : f = i
                · subst e; exact hlt
                · exact z5 f (by omega) a2 a3
            · exact take hs (fun f a1 a2 a3 => by have := z4 f a1 a2 a3; omega)
  have loop : ∀ (i b : Nat), i < nf → lm_jn 1048576 false h S nf < 1048576 → md_Bp h S nf (i + 1) b → Z (wd k q v r ex) [some (.ref (q 22)), some (.int (nI S)), some (.int (nI b)), some (.int (nI i))] 23 [] := by
    intro i
    induction i with
    | zero =>
      intro b hi hj hb
      refine body 0 b hi hb (fun b2 hb2 => ?_)
      refine zd_iinc E (pc := 59) d_M_base_59 rfl ((show nI 0 + Int32.ofInt (-1) = -1 by decide)) (by decide) ?_
      refine zd_goto E (pc := 62) 23 d_M_base_62 (by decide) ?_
      refine zd_iload_n E (pc := 23) d_M_base_23 rfl ?_
      refine zd_if_lt E (pc := 24) 65 d_M_base_24 (by decide) (fun hneg => ?_) (fun hneg => ?_)
      · exact fin b2 _ hj hb2
      · exact absurd (by decide) hneg
    | succ i ih =>
      intro b hi hj hb
      refine body (i + 1) b hi hb (fun b2 hb2 => ?_)
      refine zd_iinc E (pc := 59) d_M_base_59 rfl ((show nI (i + 1) + Int32.ofInt (-1) = nI i from pk_m1 i)) (by decide) ?_
      refine zd_goto E (pc := 62) 23 d_M_base_62 (by decide) ?_
      exact ih b2 (by omega) hj hb2
  refine zd_aload_n E (pc := 0) d_M_base_0 rfl ?_
  refine zd_iload_n E (pc := 1) d_M_base_1 rfl ?_
  refine zd_iconst E (pc := 2) (v := (nI 0)) d_M_base_2 (by decide) ?_
  refine zd_callV E (pc := 3) d_M_base_3 kc_M_101 rfl ki_M_over ke_M_over 22 rfl rfl (c_M_over l D (w := false) t hS hh) (by decide) rfl (Nat.le_of_ble_eq_true rfl) (fun v1 ws1 hv1 => ?_)
  obtain ⟨rfl, rfl⟩ := hv1
  refine zd_ldc E (pc := 6) (v := (nI 1048576)) d_M_base_6 kk_M_87 ?_
  refine zd_nc_lt E (pc := 8) 13 d_M_base_8 (by decide) ((by omega)) ((by omega)) (fun hj => ?_) (fun hj => ?_)
  · refine zd_bipush E (pc := 13) (v := (nI 10)) d_M_base_13 (by decide) ?_
    refine zd_istore_n E (pc := 15) d_M_base_15 (by decide) ?_
    refine zd_aload_n E (pc := 16) d_M_base_16 rfl ?_
    refine zd_get E (pc := 17) d_M_base_17 kf_M_48 22 rfl rfl ?_
    rw [h11]
    refine zd_iconst E (pc := 20) (v := (nI 1)) d_M_base_20 (by decide) ?_
    by_cases h0 : nf = 0
    · subst h0
      refine zd_isub E (pc := 21) d_M_base_21 ?_
      refine zd_istore_n E (pc := 22) d_M_base_22 (by decide) ?_
      refine zd_iload_n E (pc := 23) d_M_base_23 rfl ?_
      refine zd_if_lt E (pc := 24) 65 d_M_base_24 (by decide) (fun hneg => ?_) (fun hneg => ?_)
      · exact fin 10 _ hj (Or.inl ⟨rfl, fun f a1 a2 => by omega⟩)
      · exact absurd (by decide) hneg
    · refine zd_isub E (pc := 21) d_M_base_21 ?_
      rw [pk_sub (by omega)]
      refine zd_istore_n E (pc := 22) d_M_base_22 (by decide) ?_
      exact loop (nf - 1) 10 (by omega) hj (Or.inl ⟨rfl, fun f a1 a2 => by omega⟩)
  · refine zd_iconst E (pc := 11) (v := (-1)) d_M_base_11 (by decide) ?_
    have hex : ∃ b, cu_B h S nf b := by
      have : ∀ n, ∃ b, cu_B h S n b := by
        intro n
        induction n with
        | zero => exact ⟨10, Or.inl ⟨rfl, fun f hf => by omega⟩⟩
        | succ n ih =>
          obtain ⟨b, hb⟩ := ih
          by_cases hs : S.testBit n = true
          · rcases hb with ⟨z1, z2⟩ | ⟨z1, z2, z3, z4⟩
            · refine ⟨n, Or.inr ⟨by omega, hs, fun f a1 a2 => ?_, fun f a1 a2 => ?_⟩⟩
              · by_cases e : f = n
                · subst e; exact Nat.le_refl _
                · rw [z2 f (by omega)] at a2; cases a2
              · rw [z2 f a1] at a2; cases a2
            · by_cases hlt : h b < h n
              · exact ⟨n, Or.inr ⟨by omega, hs, fun f a1 a2 => by
                  by_cases e : f = n
                  · subst e; exact Nat.le_refl _
                  · have := z3 f (by omega) a2; omega, fun f a1 a2 => by have := z3 f a1 a2; omega⟩⟩
              · exact ⟨b, Or.inr ⟨by omega, z2, fun f a1 a2 => by
                  by_cases e : f = n
                  · subst e; omega
                  · exact z3 f (by omega) a2, z4⟩⟩
          · have hs0 := ts_f hs
            rcases hb with ⟨z1, z2⟩ | ⟨z1, z2, z3, z4⟩
            · exact ⟨b, Or.inl ⟨z1, fun f a1 => by
                by_cases e : f = n
                · subst e; exact hs0
                · exact z2 f (by omega)⟩⟩
            · exact ⟨b, Or.inr ⟨by omega, z2, fun f a1 a2 => by
                by_cases e : f = n
                · subst e; rw [hs0] at a2; cases a2
                · exact z3 f (by omega) a2, z4⟩⟩
      exact this nf
    obtain ⟨b, hb⟩ := hex
    exact zd_iret E (pc := 12) d_M_base_12 ⟨b, hb, by rw [if_neg (by omega)], rfl⟩
end M7
