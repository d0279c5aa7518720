/-! Contracts of the class's methods: the calls that search, measure and check. -/
/-- what check answers, from the i-th of dl drafted actions on, in the state s; m are left -/
def tk_ck (ne ad dr : Nat → Nat) (go : Nat) (di : Nat → Nat) (dl : Nat) : Nat → Nat → Nat → Int32
  | 0, _, s => if s &&& go = go then -1 else nI dl
  | m + 1, i, s => if s &&& ne (di i) = ne (di i) then tk_ck ne ad dr go di dl m (i + 1) (tk_af ad dr (di i) s) else nI i
/-- a plan, as the cells hold it -/
def pl_ok (v : Nat → Int32) (r : Nat → Nat → Int32) (na go : Nat) (co ne ad dr : Nat → Nat) (s : Nat) (ans : Int32) : Prop :=
  ∃ (n : Nat) (o d : Nat → Nat), gw_ok 1024 na (tk_can ne) (tk_af ad dr) co s n o d ∧ ((∃ i, i < n ∧ tk_met go (o i) = true ∧ (∀ j, j < i → tk_met go (o j) = false) ∧ d i < 20000 ∧ ans = nI (d i) ∧ ∃ (on : Nat → Int) (m : Nat) (p it : Nat → Nat), gw_on n na (tk_can ne) (tk_af ad dr) co (tk_met go) (d i) o d on ∧ gw_way (tk_af ad dr) on s m p it ∧ v 5 = nI m ∧ ∀ j, j < m → r 13 j = nI (it j)) ∨ ((∀ i, i < n → tk_met go (o i) = false) ∧ ans = -1 ∧ v 5 = nI 0))
section P2
variable {k : Nat → ClassId} {q : Nat → Nat} {v : Nat → Int32} {r : Nat → Nat → Int32} {ex : va_W} {nf na fi go : Nat} {co ne ad dr : Nat → Nat}
set_option maxRecDepth 100000 in
set_option maxHeartbeats 4000000 in
theorem c_P_plan (l : Launch) (D : va_G) {s n0 : Nat} {o0 d0 : Nat → Nat} (t : tk_C v r nf na fi go co ne ad dr) (hs : v 9 = nI s) (hs2 : s < 1024) (h : sr_st v r n0 o0 d0) : zd_Ct l D classes (wd_ty k) gd_T y_P_plan b_P_plan 2 (some .int) (zd_rm 4) [.ref (q 0)] (wd k q v r ex)
    (fun v1 w1 => ∃ (v2 : Nat → Int32) (r2 : Nat → Nat → Int32) (ans : Int32), (∀ i, i ≠ 4 → i ≠ 5 → v2 i = v i) ∧ (∀ i, i ≠ 8 → i ≠ 9 → i ≠ 10 → i ≠ 11 → i ≠ 13 → r2 i = r i) ∧ (∃ n o d, sr_st v2 r2 n o d) ∧ pl_ok v2 r2 na go co ne ad dr s ans ∧ v1 = some (.int ans) ∧ w1 = wd k q v2 r2 ex) := by
  refine zd_met gd_all (by decide) rfl (Nat.le_of_ble_eq_true rfl) (fun Z E => ?_)
  show Z (wd k q v r ex) [some (.ref (q 0)), none] 0 []
  refine zd_aload_n E (pc := 0) d_P_plan_0 rfl ?_
  refine zd_get E (pc := 1) d_P_plan_1 kf_P_21 0 rfl rfl ?_
  refine zd_aload_n E (pc := 4) d_P_plan_4 rfl ?_
  refine zd_get E (pc := 5) d_P_plan_5 kf_P_53 0 rfl rfl ?_
  rw [hs]
  refine zd_callV E (pc := 8) d_P_plan_8 kc_P_122 rfl ki_S_explore ke_S_explore 7 rfl rfl (c_S_explore l D t h hs2) (by decide) rfl (Nat.le_of_ble_eq_true rfl) (fun v1 ws1 hv1 => ?_)
  obtain ⟨v1, r1, n, o, d, hf, hst, hok, rfl, rfl⟩ := hv1
  refine zd_aload_n E (pc := 11) d_P_plan_11 rfl ?_
  refine zd_get E (pc := 12) d_P_plan_12 kf_P_30 0 rfl rfl ?_
  refine zd_callV E (pc := 15) d_P_plan_15 kc_P_125 rfl ki_R_empty ke_R_empty 12 rfl rfl (c_R_empty12 l D) (by decide) rfl (Nat.le_of_ble_eq_true rfl) (fun v1 ws1 hv1 => ?_)
  obtain ⟨rfl, rfl⟩ := hv1
  refine zd_aload_n E (pc := 18) d_P_plan_18 rfl ?_
  refine zd_get E (pc := 19) d_P_plan_19 kf_P_21 0 rfl rfl ?_
  have t1 : tk_C (upd v1 5 (nI 0)) r1 nf na fi go co ne ad dr := (hf.tk t).fr (fun i hi => pk_un (by omega)) rfl rfl rfl rfl
  have st1 : sr_st (upd v1 5 (nI 0)) r1 n o d := ⟨by rw [pk_un (by decide)]; exact hst.1, hst.2⟩
  have f9 : v1 9 = nI s := by rw [hf.1 9 (by decide)]; exact hs
  refine zd_callV E (pc := 22) d_P_plan_22 kc_P_128 rfl ki_S_leastToMet ke_S_leastToMet 7 rfl rfl (c_S_leastToMet l D t1 st1) (by decide) rfl (Nat.le_of_ble_eq_true rfl) (fun v1 ws1 hv1 => ?_)
  obtain ⟨hcase, rfl⟩ := hv1
  rcases hcase with ⟨i, hi, hm, hl, rfl⟩ | ⟨hno, rfl⟩
  · have hd := (hst.2.2.2.2.1 i hi).2
    refine zd_istore_n E (pc := 25) d_P_plan_25 (by decide) ?_
    refine zd_iload_n E (pc := 26) d_P_plan_26 rfl ?_
    refine zd_iconst E (pc := 27) (v := (-1)) d_P_plan_27 (by decide) ?_
    refine zd_ic_eq E (pc := 28) 47 d_P_plan_28 (by decide) (fun hq => ?_) (fun hq => ?_)
    · exact absurd hq (bm_m1ne (by omega))
    · refine zd_aload_n E (pc := 31) d_P_plan_31 rfl ?_
      refine zd_get E (pc := 32) d_P_plan_32 kf_P_21 0 rfl rfl ?_
      refine zd_aload_n E (pc := 35) d_P_plan_35 rfl ?_
      refine zd_get E (pc := 36) d_P_plan_36 kf_P_53 0 rfl rfl ?_
      show Z (wd k q (upd v1 5 (nI 0)) r1 ex) _ 39 [.int (v1 9), .ref (q 7)]
      rw [f9]
      refine zd_iload_n E (pc := 39) d_P_plan_39 rfl ?_
      refine zd_aload_n E (pc := 40) d_P_plan_40 rfl ?_
      refine zd_get E (pc := 41) d_P_plan_41 kf_P_30 0 rfl rfl ?_
      refine zd_callV E (pc := 44) d_P_plan_44 kc_P_132 rfl ki_S_writeBest ke_S_writeBest 7 rfl rfl (c_S_writeBest l D t1 st1 hok (show d i < 20000 from hd) pk_us) (by decide) rfl (Nat.le_of_ble_eq_true rfl) (fun v1 ws1 hv1 => ?_)
      obtain ⟨v2, r2, m, p, it, hfv, hfr, hon, hway, h5, h13, rfl, rfl⟩ := hv1
      refine zd_iload_n E (pc := 47) d_P_plan_47 rfl ?_
      exact zd_iret E (pc := 48) d_P_plan_48 ⟨v2, r2, nI (d i), fun j a b => by rw [hfv j b, pk_un b]; exact hf.1 j a, fun j a b c e g => by rw [hfr j c g]; exact hf.2 j a b c e, ⟨n, o, d, by rw [hfv 4 (by decide)]; exact st1.1, st1.2.1, st1.2.2.1, fun j hj => by rw [hfr 8 (by decide) (by decide)]; exact st1.2.2.2.1 j hj, fun j hj => by rw [hfr 9 (by decide) (by decide)]; exact st1.2.2.2.2.1 j hj, fun x hx hne => by rw [hfr 9 (by decide) (by decide)]; exact st1.2.2.2.2.2 x hx hne⟩, ⟨n, o, d, hok, Or.inl ⟨i, hi, hm, hl, hd, rfl, sr_on r2, m, p, it, hon, hway, h5, h13⟩⟩, rfl, rfl⟩
  · refine zd_istore_n E (pc := 25) d_P_plan_25 (by decide) ?_
    refine zd_iload_n E (pc := 26) d_P_plan_26 rfl ?_
    refine zd_iconst E (pc := 27) (v := (-1)) d_P_plan_27 (by decide) ?_
    refine zd_ic_eq E (pc := 28) 47 d_P_plan_28 (by decide) (fun hq => ?_) (fun hq => ?_)
    · refine zd_iload_n E (pc := 47) d_P_plan_47 rfl ?_
      exact zd_iret E (pc := 48) d_P_plan_48 ⟨upd v1 5 (nI 0), r1, -1, fun j a b => by rw [pk_un b]; exact hf.1 j a, fun j a b c e g => hf.2 j a b c e, ⟨n, o, d, st1⟩, ⟨n, o, d, hok, Or.inr ⟨hno, rfl, pk_us⟩⟩, rfl, rfl⟩
    · exact absurd rfl hq
set_option maxRecDepth 100000 in
set_option maxHeartbeats 4000000 in
theorem c_P_length (l : Launch) (D : va_G) : zd_Ct l D classes (wd_ty k) gd_T y_P_length b_P_length 1 (some .int) (zd_rm 0) [.ref (q 0)] (wd k q v r ex) (zd_is (some (.int (v 5))) (wd k q v r ex)) := by
  refine zd_met gd_all (by decide) rfl (Nat.le_of_ble_eq_true rfl) (fun Z E => ?_)
  show Z (wd k q v r ex) [some (.ref (q 0))] 0 []
  refine zd_aload_n E (pc := 0) d_P_length_0 rfl ?_
  refine zd_get E (pc := 1) d_P_length_1 kf_P_30 0 rfl rfl ?_
  refine zd_get E (pc := 4) d_P_length_4 kf_P_136 12 rfl rfl ?_
  exact zd_iret E (pc := 7) d_P_length_7 ⟨rfl, rfl⟩
set_option maxRecDepth 100000 in
set_option maxHeartbeats 4000000 in
theorem c_P_step (l : Launch) (D : va_G) {n : Nat} (x : Int32) (hv : v 5 = nI n) (hn : n ≤ 1023) : zd_Ct l D classes (wd_ty k) gd_T y_P_step b_P_step 2 (some .int) (zd_rm 0) [.ref (q 0), .int x] (wd k q v r ex)
    (fun v1 w1 => ((∃ j, j < n ∧ x = nI j ∧ v1 = some (.int (r 13 j))) ∨ ((x < 0 ∨ nI n ≤ x) ∧ v1 = some (.int (-1)))) ∧ w1 = wd k q v r ex) := by
  refine zd_met gd_all (by decide) rfl (Nat.le_of_ble_eq_true rfl) (fun Z E => ?_)
  show Z (wd k q v r ex) [some (.ref (q 0)), some (.int x)] 0 []
  have out : (x < 0 ∨ nI n ≤ x) → Z (wd k q v r ex) [some (.ref (q 0)), some (.int x)] 15 [] := by
    intro hx
    refine zd_iconst E (pc := 15) (v := (-1)) d_P_step_15 (by decide) ?_
    refine zd_goto E (pc := 16) 28 d_P_step_16 (by decide) ?_
    exact zd_iret E (pc := 28) d_P_step_28 ⟨Or.inr ⟨hx, rfl⟩, rfl⟩
  refine zd_iload_n E (pc := 0) d_P_step_0 rfl ?_
  refine zd_if_lt E (pc := 1) 15 d_P_step_1 (by decide) (fun h0 => ?_) (fun h0 => ?_)
  · exact out (Or.inl h0)
  · refine zd_iload_n E (pc := 4) d_P_step_4 rfl ?_
    refine zd_aload_n E (pc := 5) d_P_step_5 rfl ?_
    refine zd_get E (pc := 6) d_P_step_6 kf_P_30 0 rfl rfl ?_
    refine zd_get E (pc := 9) d_P_step_9 kf_P_136 12 rfl rfl ?_
    rw [hv]
    refine zd_ic_lt E (pc := 12) 19 d_P_step_12 (by decide) (fun h1 => ?_) (fun h1 => ?_)
    · rcases pk_ix x (n := n) (by omega) with z | z | ⟨j, hj, rfl⟩
      · exact absurd z h0
      · exact absurd h1 (by rw [Int32.lt_iff_toInt_lt]; rw [Int32.le_iff_toInt_le] at z; omega)
      · refine zd_aload_n E (pc := 19) d_P_step_19 rfl ?_
        refine zd_get E (pc := 20) d_P_step_20 kf_P_30 0 rfl rfl ?_
        refine zd_get E (pc := 23) d_P_step_23 kf_P_139 12 rfl rfl ?_
        refine zd_iload_n E (pc := 26) d_P_step_26 rfl ?_
        refine zd_iald E (pc := 27) d_P_step_27 13 rfl (t0 := 0) rfl (j) (rfl) ((by omega)) (by decide) ?_
        exact zd_iret E (pc := 28) d_P_step_28 ⟨Or.inl ⟨j, hj, rfl, rfl⟩, rfl⟩
    · refine out (Or.inr ?_)
      rw [Int32.le_iff_toInt_le]; rw [Int32.lt_iff_toInt_lt] at h1; omega
set_option maxRecDepth 100000 in
set_option maxHeartbeats 4000000 in
theorem c_P_states (l : Launch) (D : va_G) {s n0 : Nat} {o0 d0 : Nat → Nat} (t : tk_C v r nf na fi go co ne ad dr) (hs : v 9 = nI s) (hs2 : s < 1024) (h : sr_st v r n0 o0 d0) : zd_Ct l D classes (wd_ty k) gd_T y_P_states b_P_states 1 (some .int) (zd_rm 4) [.ref (q 0)] (wd k q v r ex)
    (fun v1 w1 => ∃ v2 r2 n o d, sr_fr v v2 r r2 ∧ sr_st v2 r2 n o d ∧ gw_ok 1024 na (tk_can ne) (tk_af ad dr) co s n o d ∧ v1 = some (.int (nI n)) ∧ w1 = wd k q v2 r2 ex) := by
  refine zd_met gd_all (by decide) rfl (Nat.le_of_ble_eq_true rfl) (fun Z E => ?_)
  show Z (wd k q v r ex) [some (.ref (q 0))] 0 []
  refine zd_aload_n E (pc := 0) d_P_states_0 rfl ?_
  refine zd_get E (pc := 1) d_P_states_1 kf_P_21 0 rfl rfl ?_
  refine zd_aload_n E (pc := 4) d_P_states_4 rfl ?_
  refine zd_get E (pc := 5) d_P_states_5 kf_P_53 0 rfl rfl ?_
  rw [hs]
  refine zd_callV E (pc := 8) d_P_states_8 kc_P_122 rfl ki_S_explore ke_S_explore 7 rfl rfl (c_S_explore l D t h hs2) (by decide) rfl (Nat.le_of_ble_eq_true rfl) (fun v1 ws1 hv1 => ?_)
  obtain ⟨v1, r1, n, o, d, hf, hst, hok, rfl, rfl⟩ := hv1
  refine zd_aload_n E (pc := 11) d_P_states_11 rfl ?_
  refine zd_get E (pc := 12) d_P_states_12 kf_P_21 0 rfl rfl ?_
  refine zd_get E (pc := 15) d_P_states_15 kf_P_143 7 rfl rfl ?_
  rw [hst.1]
  exact zd_iret E (pc := 18) d_P_states_18 ⟨v1, r1, n, o, d, hf, hst, hok, rfl, rfl⟩
set_option maxRecDepth 100000 in
set_option maxHeartbeats 4000000 in
theorem c_P_together (l : Launch) (D : va_G) {s n0 f g : Nat} {o0 d0 : Nat → Nat} (t : tk_C v r nf na fi go co ne ad dr) (hs : v 9 = nI s) (hs2 : s < 1024) (h : sr_st v r n0 o0 d0) (hf : f < nf) (hg : g < nf) : zd_Ct l D classes (wd_ty k) gd_T y_P_together b_P_together 3 (some .boolean) (zd_rm 4) [.ref (q 0), .int (nI f), .int (nI g)] (wd k q v r ex)
    (fun v1 w1 => ∃ (v2 : Nat → Int32) (r2 : Nat → Nat → Int32) (n : Nat) (o d : Nat → Nat) (b : Bool), sr_fr v v2 r r2 ∧ sr_st v2 r2 n o d ∧ gw_ok 1024 na (tk_can ne) (tk_af ad dr) co s n o d ∧ (b = true ↔ ∃ i, i < n ∧ o i &&& (2 ^ f ||| 2 ^ g) = (2 ^ f ||| 2 ^ g)) ∧ v1 = some (.int (nI (bm_b b))) ∧ w1 = wd k q v2 r2 ex) := by
  refine zd_met gd_all (by decide) rfl (Nat.le_of_ble_eq_true rfl) (fun Z E => ?_)
  show Z (wd k q v r ex) [some (.ref (q 0)), some (.int (nI f)), some (.int (nI g))] 0 []
  have hnf := t.2.2.1.1
  refine zd_aload_n E (pc := 0) d_P_together_0 rfl ?_
  refine zd_iload_n E (pc := 1) d_P_together_1 rfl ?_
  refine zd_callV E (pc := 2) d_P_together_2 kc_P_91 rfl ki_P_refuseUnknownFact ke_P_refuseUnknownFact 0 rfl rfl (c_P_refuseUnknownFact l D t.1.1 hf (by omega)) (by decide) rfl (Nat.le_of_ble_eq_true rfl) (fun v1 ws1 hv1 => ?_)
  obtain ⟨rfl, rfl⟩ := hv1
  refine zd_aload_n E (pc := 5) d_P_together_5 rfl ?_
  refine zd_iload_n E (pc := 6) d_P_together_6 rfl ?_
  refine zd_callV E (pc := 7) d_P_together_7 kc_P_91 rfl ki_P_refuseUnknownFact ke_P_refuseUnknownFact 0 rfl rfl (c_P_refuseUnknownFact l D t.1.1 hg (by omega)) (by decide) rfl (Nat.le_of_ble_eq_true rfl) (fun v1 ws1 hv1 => ?_)
  obtain ⟨rfl, rfl⟩ := hv1
  refine zd_aload_n E (pc := 10) d_P_together_10 rfl ?_
  refine zd_get E (pc := 11) d_P_together_11 kf_P_21 0 rfl rfl ?_
  refine zd_aload_n E (pc := 14) d_P_together_14 rfl ?_
  refine zd_get E (pc := 15) d_P_together_15 kf_P_53 0 rfl rfl ?_
  rw [hs]
  refine zd_callV E (pc := 18) d_P_together_18 kc_P_122 rfl ki_S_explore ke_S_explore 7 rfl rfl (c_S_explore l D t h hs2) (by decide) rfl (Nat.le_of_ble_eq_true rfl) (fun v1 ws1 hv1 => ?_)
  obtain ⟨v1, r1, n, o, d, hfr, hst, hok, rfl, rfl⟩ := hv1
  refine zd_aload_n E (pc := 21) d_P_together_21 rfl ?_
  refine zd_get E (pc := 22) d_P_together_22 kf_P_21 0 rfl rfl ?_
  refine zd_iconst E (pc := 25) (v := (nI 1)) d_P_together_25 (by decide) ?_
  refine zd_iload_n E (pc := 26) d_P_together_26 rfl ?_
  refine zd_ishl E (pc := 27) d_P_together_27 ?_
  rw [bm_one (by omega)]
  refine zd_iconst E (pc := 28) (v := (nI 1)) d_P_together_28 (by decide) ?_
  refine zd_iload_n E (pc := 29) d_P_together_29 rfl ?_
  refine zd_ishl E (pc := 30) d_P_together_30 ?_
  rw [bm_one (by omega)]
  refine zd_ior E (pc := 31) d_P_together_31 ?_
  rw [bm_or]
  have hM : 2 ^ f ||| 2 ^ g < 2 ^ 10 := Nat.or_lt_two_pow (Nat.pow_lt_pow_right (by omega) (by omega)) (Nat.pow_lt_pow_right (by omega) (by omega))
  refine zd_callV E (pc := 32) d_P_together_32 kc_P_146 rfl ki_S_cameTo ke_S_cameTo 7 rfl rfl (c_S_cameTo l D hst (show 2 ^ f ||| 2 ^ g < 2 ^ 31 by omega)) (by decide) rfl (Nat.le_of_ble_eq_true rfl) (fun v1 ws1 hv1 => ?_)
  obtain ⟨b, hb, rfl, rfl⟩ := hv1
  exact zd_zret E (pc := 35) d_P_together_35 (bm_zn b) ⟨v1, r1, n, o, d, b, hfr, hst, hok, hb, rfl, rfl⟩
set_option maxRecDepth 100000 in
set_option maxHeartbeats 4000000 in
theorem c_P_level (l : Launch) (D : va_G) {s f : Nat} {w : Bool} (t : tk_C v r nf na fi go co ne ad dr) (hs : v 9 = nI s) (hs2 : s < 1024) (hf : f < nf) : zd_Ct l D classes (wd_ty k) gd_T y_P_level b_P_level 3 (some .int) (zd_rm 3) [.ref (q 0), .int (nI f), .int (nI (bm_b w))] (wd k q v r ex)
    (fun v1 w1 => ∃ (r2 : Nat → Nat → Int32) (x : Nat), (∀ i, i ≠ 17 → r2 i = r i) ∧ x = lm_it 1000000 w 10 na co ne ad (fun _ => false) (lm_i0 1000000 s) 10 f ∧ v1 = some (.int (if 1000000 ≤ x then -1 else nI x)) ∧ w1 = wd k q v r2 ex) := by
  refine zd_met gd_all (by decide) rfl (Nat.le_of_ble_eq_true rfl) (fun Z E => ?_)
  show Z (wd k q v r ex) [some (.ref (q 0)), some (.int (nI f)), some (.int (nI (bm_b w)))] 0 []
  have hnf := t.2.2.1.1
  have hbar : (fun a => Nat.testBit 0 a) = (fun _ => false) := by funext a; exact Nat.zero_testBit a
  refine zd_aload_n E (pc := 0) d_P_level_0 rfl ?_
  refine zd_iload_n E (pc := 1) d_P_level_1 rfl ?_
  refine zd_callV E (pc := 2) d_P_level_2 kc_P_91 rfl ki_P_refuseUnknownFact ke_P_refuseUnknownFact 0 rfl rfl (c_P_refuseUnknownFact l D t.1.1 hf (by omega)) (by decide) rfl (Nat.le_of_ble_eq_true rfl) (fun v1 ws1 hv1 => ?_)
  obtain ⟨rfl, rfl⟩ := hv1
  refine zd_aload_n E (pc := 5) d_P_level_5 rfl ?_
  refine zd_get E (pc := 6) d_P_level_6 kf_P_40 0 rfl rfl ?_
  refine zd_aload_n E (pc := 9) d_P_level_9 rfl ?_
  refine zd_get E (pc := 10) d_P_level_10 kf_P_53 0 rfl rfl ?_
  rw [hs]
  refine zd_aload_n E (pc := 13) d_P_level_13 rfl ?_
  refine zd_get E (pc := 14) d_P_level_14 kf_P_12 0 rfl rfl ?_
  refine zd_get E (pc := 17) d_P_level_17 kf_P_149 1 rfl rfl ?_
  refine zd_iload_n E (pc := 20) d_P_level_20 rfl ?_
  refine zd_iconst E (pc := 21) (v := (nI 0)) d_P_level_21 (by decide) ?_
  refine zd_callV E (pc := 22) d_P_level_22 kc_P_152 rfl ki_V_measure ke_V_measure 16 rfl rfl (c_V_measure2 l D (w := w) (show s < 2 ^ 31 by omega) (show 0 < 2 ^ 31 by decide) t.hna.1 t.hna.2 t.hco t.hne t.had) (by decide) rfl (Nat.le_of_ble_eq_true rfl) (fun v1 ws1 hv1 => ?_)
  obtain ⟨r1, hf1, hr1, rfl, rfl⟩ := hv1
  rw [hbar] at hr1
  refine zd_aload_n E (pc := 25) d_P_level_25 rfl ?_
  refine zd_get E (pc := 26) d_P_level_26 kf_P_40 0 rfl rfl ?_
  refine zd_get E (pc := 29) d_P_level_29 kf_P_156 16 rfl rfl ?_
  refine zd_iload_n E (pc := 32) d_P_level_32 rfl ?_
  refine zd_iald E (pc := 33) d_P_level_33 17 rfl (t0 := 0) rfl (f) (rfl) ((by omega)) (by decide) ?_
  rw [hr1 f (by omega)]
  have hle : lm_it 1000000 w 10 na co ne ad (fun _ => false) (lm_i0 1000000 s) 10 f ≤ 1000000 := Nat.le_trans (lm_it_le _ _ _) (lm_i0_le _ _ _)
  refine zd_callS E (pc := 34) d_P_level_34 kc_P_159 rfl ks_P_orNone (c_P_orNone l D _ _ (show lm_it 1000000 w 10 na co ne ad (fun _ => false) (lm_i0 1000000 s) 10 f < 2 ^ 31 by omega)) (by decide) rfl (Nat.le_of_ble_eq_true rfl) (fun v1 ws1 hv1 => ?_)
  obtain ⟨rfl, rfl⟩ := hv1
  exact zd_iret E (pc := 37) d_P_level_37 ⟨r1, _, hf1, rfl, rfl, rfl⟩
set_option maxRecDepth 100000 in
set_option maxHeartbeats 4000000 in
theorem c_P_bound (l : Launch) (D : va_G) {s : Nat} {w : Bool} (t : tk_C v r nf na fi go co ne ad dr) (hs : v 9 = nI s) (hs2 : s < 1024) : zd_Ct l D classes (wd_ty k) gd_T y_P_bound b_P_bound 2 (some .int) (zd_rm 3) [.ref (q 0), .int (nI (bm_b w))] (wd k q v r ex)
    (fun v1 w1 => ∃ (r2 : Nat → Nat → Int32) (x : Nat), (∀ i, i ≠ 17 → r2 i = r i) ∧ x = lm_jn 1000000 w (lm_it 1000000 w 10 na co ne ad (fun _ => false) (lm_i0 1000000 s) 10) go 10 ∧ v1 = some (.int (if 1000000 ≤ x then -1 else nI x)) ∧ w1 = wd k q v r2 ex) := by
  refine zd_met gd_all (by decide) rfl (Nat.le_of_ble_eq_true rfl) (fun Z E => ?_)
  show Z (wd k q v r ex) [some (.ref (q 0)), some (.int (nI (bm_b w)))] 0 []
  have hbar : (fun a => Nat.testBit 0 a) = (fun _ => false) := by funext a; exact Nat.zero_testBit a
  refine zd_aload_n E (pc := 0) d_P_bound_0 rfl ?_
  refine zd_get E (pc := 1) d_P_bound_1 kf_P_40 0 rfl rfl ?_
  refine zd_aload_n E (pc := 4) d_P_bound_4 rfl ?_
  refine zd_get E (pc := 5) d_P_bound_5 kf_P_53 0 rfl rfl ?_
  rw [hs]
  refine zd_aload_n E (pc := 8) d_P_bound_8 rfl ?_
  refine zd_get E (pc := 9) d_P_bound_9 kf_P_12 0 rfl rfl ?_
  refine zd_get E (pc := 12) d_P_bound_12 kf_P_149 1 rfl rfl ?_
  refine zd_iload_n E (pc := 15) d_P_bound_15 rfl ?_
  refine zd_iconst E (pc := 16) (v := (nI 0)) d_P_bound_16 (by decide) ?_
  refine zd_callV E (pc := 17) d_P_bound_17 kc_P_152 rfl ki_V_measure ke_V_measure 16 rfl rfl (c_V_measure2 l D (w := w) (show s < 2 ^ 31 by omega) (show 0 < 2 ^ 31 by decide) t.hna.1 t.hna.2 t.hco t.hne t.had) (by decide) rfl (Nat.le_of_ble_eq_true rfl) (fun v1 ws1 hv1 => ?_)
  obtain ⟨r1, hf1, hr1, rfl, rfl⟩ := hv1
  rw [hbar] at hr1
  refine zd_aload_n E (pc := 20) d_P_bound_20 rfl ?_
  refine zd_get E (pc := 21) d_P_bound_21 kf_P_40 0 rfl rfl ?_
  refine zd_aload_n E (pc := 24) d_P_bound_24 rfl ?_
  refine zd_get E (pc := 25) d_P_bound_25 kf_P_12 0 rfl rfl ?_
  refine zd_get E (pc := 28) d_P_bound_28 kf_P_162 1 rfl rfl ?_
  rw [t.hgo.1]
  refine zd_iload_n E (pc := 31) d_P_bound_31 rfl ?_
  refine zd_callV E (pc := 32) d_P_bound_32 kc_P_165 rfl ki_V_joined ke_V_joined 16 rfl rfl (c_V_joined l D (w := w) t.hgo.2 (fun i hi => ⟨hr1 i hi, Nat.le_trans (lm_it_le _ _ _) (lm_i0_le _ _ _)⟩)) (by decide) rfl (Nat.le_of_ble_eq_true rfl) (fun v1 ws1 hv1 => ?_)
  obtain ⟨rfl, rfl⟩ := hv1
  have hle := lm_jn_le 1000000 w (lm_it 1000000 w 10 na co ne ad (fun _ => false) (lm_i0 1000000 s) 10) go 10
  refine zd_callS E (pc := 35) d_P_bound_35 kc_P_159 rfl ks_P_orNone (c_P_orNone l D _ _ (show lm_jn 1000000 w (lm_it 1000000 w 10 na co ne ad (fun _ => false) (lm_i0 1000000 s) 10) go 10 < 2 ^ 31 by omega)) (by decide) rfl (Nat.le_of_ble_eq_true rfl) (fun v1 ws1 hv1 => ?_)
  obtain ⟨rfl, rfl⟩ := hv1
  exact zd_iret E (pc := 38) d_P_bound_38 ⟨r1, _, hf1, rfl, rfl, rfl⟩
/-- the cuts of a state, as the cells hold them -/
def cs_ok (v : Nat → Int32) (r : Nat → Nat → Int32) (na go : Nat) (co ne ad : Nat → Nat) (s m : Nat) (CC : Nat → Nat) (tot : Int32) : Prop :=
  ∃ (cc : Nat → Nat → Nat) (pp : Nat → Nat), cs_run na co ne ad s go m cc CC pp ∧ m ≤ 12 ∧ (m = 12 ∨ cs_G na (cc m) ne ad s go = 0 ∨ 1000000 ≤ cs_G na (cc m) ne ad s go) ∧ tot = (if 1000000 ≤ cs_G na (cc m) ne ad s go then -1 else nI (lm_sum pp m))
set_option maxRecDepth 100000 in
set_option maxHeartbeats 4000000 in
theorem c_P_cuts (l : Launch) (D : va_G) {s : Nat} (t : tk_C v r nf na fi go co ne ad dr) (hs : v 9 = nI s) (hs2 : s < 1024) : zd_Ct l D classes (wd_ty k) gd_T y_P_cuts b_P_cuts 1 (some .int) (zd_rm 5) [.ref (q 0)] (wd k q v r ex)
    (fun v1 w1 => ∃ (v2 : Nat → Int32) (r2 : Nat → Nat → Int32) (m : Nat) (CC : Nat → Nat) (tot : Int32), (∀ i, i ≠ 7 → i ≠ 8 → v2 i = v i) ∧ (∀ i, i ≠ 17 → i ≠ 19 → i ≠ 20 → i ≠ 21 → r2 i = r i) ∧ cs_ok v2 r2 na go co ne ad s m CC tot ∧ v1 = some (.int tot) ∧ w1 = wd k q v2 r2 ex) := by
  refine zd_met gd_all (by decide) rfl (Nat.le_of_ble_eq_true rfl) (fun Z E => ?_)
  show Z (wd k q v r ex) [some (.ref (q 0))] 0 []
  refine zd_aload_n E (pc := 0) d_P_cuts_0 rfl ?_
  refine zd_get E (pc := 1) d_P_cuts_1 kf_P_49 0 rfl rfl ?_
  refine zd_aload_n E (pc := 4) d_P_cuts_4 rfl ?_
  refine zd_get E (pc := 5) d_P_cuts_5 kf_P_53 0 rfl rfl ?_
  rw [hs]
  refine zd_callV E (pc := 8) d_P_cuts_8 kc_P_169 rfl ki_U_collect ke_U_collect 18 rfl rfl (c_U_collect l D t hs2) (by decide) rfl (Nat.le_of_ble_eq_true rfl) (fun v1 ws1 hv1 => ?_)
  obtain ⟨v2, r2, m, cc, CC, pp, hfv, hfr, hrun, hm, hend, h7, h21, h8, rfl, rfl⟩ := hv1
  refine zd_aload_n E (pc := 11) d_P_cuts_11 rfl ?_
  refine zd_get E (pc := 12) d_P_cuts_12 kf_P_49 0 rfl rfl ?_
  refine zd_get E (pc := 15) d_P_cuts_15 kf_P_172 18 rfl rfl ?_
  rw [h8]
  exact zd_iret E (pc := 18) d_P_cuts_18 ⟨v2, r2, m, CC, _, hfv, hfr, ⟨cc, pp, hrun, hm, hend, rfl⟩, rfl, rfl⟩
set_option maxRecDepth 100000 in
set_option maxHeartbeats 4000000 in
theorem c_P_cut (l : Launch) (D : va_G) {s : Nat} (x : Int32) (t : tk_C v r nf na fi go co ne ad dr) (hs : v 9 = nI s) (hs2 : s < 1024) : zd_Ct l D classes (wd_ty k) gd_T y_P_cut b_P_cut 2 (some .int) (zd_rm 5) [.ref (q 0), .int x] (wd k q v r ex)
    (fun v1 w1 => ∃ (v2 : Nat → Int32) (r2 : Nat → Nat → Int32) (m : Nat) (CC : Nat → Nat) (tot : Int32), (∀ i, i ≠ 7 → i ≠ 8 → v2 i = v i) ∧ (∀ i, i ≠ 17 → i ≠ 19 → i ≠ 20 → i ≠ 21 → r2 i = r i) ∧ cs_ok v2 r2 na go co ne ad s m CC tot ∧ ((∃ j, j < m ∧ x = nI j ∧ v1 = some (.int (nI (CC j)))) ∨ ((x < 0 ∨ nI m ≤ x) ∧ v1 = some (.int (nI 0)))) ∧ w1 = wd k q v2 r2 ex) := by
  refine zd_met gd_all (by decide) rfl (Nat.le_of_ble_eq_true rfl) (fun Z E => ?_)
  show Z (wd k q v r ex) [some (.ref (q 0)), some (.int x)] 0 []
  refine zd_aload_n E (pc := 0) d_P_cut_0 rfl ?_
  refine zd_get E (pc := 1) d_P_cut_1 kf_P_49 0 rfl rfl ?_
  refine zd_aload_n E (pc := 4) d_P_cut_4 rfl ?_
  refine zd_get E (pc := 5) d_P_cut_5 kf_P_53 0 rfl rfl ?_
  rw [hs]
  refine zd_callV E (pc := 8) d_P_cut_8 kc_P_169 rfl ki_U_collect ke_U_collect 18 rfl rfl (c_U_collect l D t hs2) (by decide) rfl (Nat.le_of_ble_eq_true rfl) (fun v1 ws1 hv1 => ?_)
  obtain ⟨v2, r2, m, cc, CC, pp, hfv, hfr, hrun, hm, hend, h7, h21, h8, rfl, rfl⟩ := hv1
  have out : (x < 0 ∨ nI m ≤ x) → Z (wd k q v2 r2 ex) [some (.ref (q 0)), some (.int x)] 26 [] := by
    intro hx
    refine zd_iconst E (pc := 26) (v := (nI 0)) d_P_cut_26 (by decide) ?_
    refine zd_goto E (pc := 27) 39 d_P_cut_27 (by decide) ?_
    exact zd_iret E (pc := 39) d_P_cut_39 ⟨v2, r2, m, CC, _, hfv, hfr, ⟨cc, pp, hrun, hm, hend, rfl⟩, Or.inr ⟨hx, rfl⟩, rfl⟩
  refine zd_iload_n E (pc := 11) d_P_cut_11 rfl ?_
  refine zd_if_lt E (pc := 12) 26 d_P_cut_12 (by decide) (fun h0 => ?_) (fun h0 => ?_)
  · exact out (Or.inl h0)
  · refine zd_iload_n E (pc := 15) d_P_cut_15 rfl ?_
    refine zd_aload_n E (pc := 16) d_P_cut_16 rfl ?_
    refine zd_get E (pc := 17) d_P_cut_17 kf_P_49 0 rfl rfl ?_
    refine zd_get E (pc := 20) d_P_cut_20 kf_P_175 18 rfl rfl ?_
    rw [h7]
    refine zd_ic_lt E (pc := 23) 30 d_P_cut_23 (by decide) (fun h1 => ?_) (fun h1 => ?_)
    · rcases pk_ix x (n := m) (by omega) with z | z | ⟨j, hj, rfl⟩
      · exact absurd z h0
      · exact absurd h1 (by rw [Int32.lt_iff_toInt_lt]; rw [Int32.le_iff_toInt_le] at z; omega)
      · refine zd_aload_n E (pc := 30) d_P_cut_30 rfl ?_
        refine zd_get E (pc := 31) d_P_cut_31 kf_P_49 0 rfl rfl ?_
        refine zd_get E (pc := 34) d_P_cut_34 kf_P_178 18 rfl rfl ?_
        refine zd_iload_n E (pc := 37) d_P_cut_37 rfl ?_
        refine zd_iald E (pc := 38) d_P_cut_38 21 rfl (t0 := 0) rfl (j) (rfl) ((by omega)) (by decide) ?_
        rw [h21 j hj]
        exact zd_iret E (pc := 39) d_P_cut_39 ⟨v2, r2, m, CC, _, hfv, hfr, ⟨cc, pp, hrun, hm, hend, rfl⟩, Or.inl ⟨j, hj, rfl, rfl⟩, rfl⟩
    · refine out (Or.inr ?_)
      rw [Int32.le_iff_toInt_le]; rw [Int32.lt_iff_toInt_lt] at h1; omega
set_option maxRecDepth 100000 in
set_option maxHeartbeats 4000000 in
theorem c_P_landmark (l : Launch) (D : va_G) {s f : Nat} (t : tk_C v r nf na fi go co ne ad dr) (hs : v 9 = nI s) (hs2 : s < 1024) (hf : f < nf) : zd_Ct l D classes (wd_ty k) gd_T y_P_landmark b_P_landmark 2 (some .boolean) (zd_rm 3) [.ref (q 0), .int (nI f)] (wd k q v r ex)
    (fun v1 w1 => ∃ (r2 : Nat → Nat → Int32) (b : Bool), (∀ i, i ≠ 17 → r2 i = r i) ∧ (b = true ↔ (s.testBit f = true ∨ lm_jn 1000000 false (lm_it 1000000 false 10 na co ne ad (fun a => (cu_mk (fun a => (ad a).testBit f) na).testBit a) (lm_i0 1000000 s) 10) go 10 = 1000000)) ∧ v1 = some (.int (nI (bm_b b))) ∧ w1 = wd k q v r2 ex) := by
  refine zd_met gd_all (by decide) rfl (Nat.le_of_ble_eq_true rfl) (fun Z E => ?_)
  show Z (wd k q v r ex) [some (.ref (q 0)), some (.int (nI f))] 0 []
  have hnf := t.2.2.1.1
  have hna := t.hna.2
  have hmk : cu_mk (fun a => (ad a).testBit f) na < 2 ^ 31 := Nat.lt_of_lt_of_le (cu_mk_lt _ _) (Nat.pow_le_pow_right (by decide) (by omega))
  refine zd_aload_n E (pc := 0) d_P_landmark_0 rfl ?_
  refine zd_iload_n E (pc := 1) d_P_landmark_1 rfl ?_
  refine zd_callV E (pc := 2) d_P_landmark_2 kc_P_91 rfl ki_P_refuseUnknownFact ke_P_refuseUnknownFact 0 rfl rfl (c_P_refuseUnknownFact l D t.1.1 hf (by omega)) (by decide) rfl (Nat.le_of_ble_eq_true rfl) (fun v1 ws1 hv1 => ?_)
  obtain ⟨rfl, rfl⟩ := hv1
  refine zd_aload_n E (pc := 5) d_P_landmark_5 rfl ?_
  refine zd_get E (pc := 6) d_P_landmark_6 kf_P_53 0 rfl rfl ?_
  rw [hs]
  refine zd_iload_n E (pc := 9) d_P_landmark_9 rfl ?_
  refine zd_callS E (pc := 10) d_P_landmark_10 kc_P_100 rfl ks_P_has (c_P_has l D _ _ (show s < 2 ^ 31 by omega) (show f < 32 by omega)) (by decide) rfl (Nat.le_of_ble_eq_true rfl) (fun v1 ws1 hv1 => ?_)
  obtain ⟨rfl, rfl⟩ := hv1
  refine zd_bf_eq E (pc := 13) 18 d_P_landmark_13 (by decide) (fun hb => ?_) (fun hb => ?_)
  · refine zd_aload_n E (pc := 18) d_P_landmark_18 rfl ?_
    refine zd_get E (pc := 19) d_P_landmark_19 kf_P_40 0 rfl rfl ?_
    refine zd_aload_n E (pc := 22) d_P_landmark_22 rfl ?_
    refine zd_get E (pc := 23) d_P_landmark_23 kf_P_53 0 rfl rfl ?_
    rw [hs]
    refine zd_aload_n E (pc := 26) d_P_landmark_26 rfl ?_
    refine zd_get E (pc := 27) d_P_landmark_27 kf_P_12 0 rfl rfl ?_
    refine zd_get E (pc := 30) d_P_landmark_30 kf_P_149 1 rfl rfl ?_
    refine zd_iconst E (pc := 33) (v := (nI 0)) d_P_landmark_33 (by decide) ?_
    refine zd_aload_n E (pc := 34) d_P_landmark_34 rfl ?_
    refine zd_get E (pc := 35) d_P_landmark_35 kf_P_12 0 rfl rfl ?_
    refine zd_iload_n E (pc := 38) d_P_landmark_38 rfl ?_
    refine zd_callV E (pc := 39) d_P_landmark_39 kc_P_181 rfl ki_T_addersOf ke_T_addersOf 1 rfl rfl (c_T_addersOf l D t (show f < 32 by omega)) (by decide) rfl (Nat.le_of_ble_eq_true rfl) (fun v1 ws1 hv1 => ?_)
    obtain ⟨rfl, rfl⟩ := hv1
    refine zd_callV E (pc := 42) d_P_landmark_42 kc_P_152 rfl ki_V_measure ke_V_measure 16 rfl rfl (c_V_measure2 l D (w := false) (show s < 2 ^ 31 by omega) hmk t.hna.1 t.hna.2 t.hco t.hne t.had) (by decide) rfl (Nat.le_of_ble_eq_true rfl) (fun v1 ws1 hv1 => ?_)
    obtain ⟨r1, hf1, hr1, rfl, rfl⟩ := hv1
    refine zd_aload_n E (pc := 45) d_P_landmark_45 rfl ?_
    refine zd_get E (pc := 46) d_P_landmark_46 kf_P_40 0 rfl rfl ?_
    refine zd_aload_n E (pc := 49) d_P_landmark_49 rfl ?_
    refine zd_get E (pc := 50) d_P_landmark_50 kf_P_12 0 rfl rfl ?_
    refine zd_get E (pc := 53) d_P_landmark_53 kf_P_162 1 rfl rfl ?_
    rw [t.hgo.1]
    refine zd_iconst E (pc := 56) (v := (nI 0)) d_P_landmark_56 (by decide) ?_
    refine zd_callV E (pc := 57) d_P_landmark_57 kc_P_165 rfl ki_V_joined ke_V_joined 16 rfl rfl (c_V_joined l D (w := false) t.hgo.2 (fun i hi => ⟨hr1 i hi, Nat.le_trans (lm_it_le _ _ _) (lm_i0_le _ _ _)⟩)) (by decide) rfl (Nat.le_of_ble_eq_true rfl) (fun v1 ws1 hv1 => ?_)
    obtain ⟨rfl, rfl⟩ := hv1
    have hle := lm_jn_le 1000000 false (lm_it 1000000 false 10 na co ne ad (fun a => (cu_mk (fun a => (ad a).testBit f) na).testBit a) (lm_i0 1000000 s) 10) go 10
    refine zd_ldc E (pc := 60) (v := (nI 1000000)) d_P_landmark_60 kk_P_184 ?_
    refine zd_nc_ne E (pc := 62) 69 d_P_landmark_62 (by decide) ((by omega)) ((by omega)) (fun hq => ?_) (fun hq => ?_)
    · refine zd_iconst E (pc := 69) (v := (nI 0)) d_P_landmark_69 (by decide) ?_
      exact zd_zret E (pc := 70) d_P_landmark_70 (by decide) ⟨r1, false, hf1, ⟨(fun z => by cases z), fun z => z.elim (fun y => absurd y hb) (fun y => absurd y hq)⟩, rfl, rfl⟩
    · refine zd_iconst E (pc := 65) (v := (nI 1)) d_P_landmark_65 (by decide) ?_
      refine zd_goto E (pc := 66) 70 d_P_landmark_66 (by decide) ?_
      exact zd_zret E (pc := 70) d_P_landmark_70 (by decide) ⟨r1, true, hf1, ⟨fun _ => Or.inr hq, fun _ => rfl⟩, rfl, rfl⟩
  · refine zd_iconst E (pc := 16) (v := (nI 1)) d_P_landmark_16 (by decide) ?_
    exact zd_zret E (pc := 17) d_P_landmark_17 (by decide) ⟨r, true, fun _ _ => rfl, ⟨fun _ => Or.inl hb, fun _ => rfl⟩, rfl, rfl⟩
set_option maxRecDepth 100000 in
set_option maxHeartbeats 4000000 in
theorem c_P_draft (l : Launch) (D : va_G) {a n : Nat} (t : tk_C v r nf na fi go co ne ad dr) (ha : a < na) (hv : v 6 = nI n) (hn : n < 24) : zd_Ct l D classes (wd_ty k) gd_T y_P_draft b_P_draft 2 (some .int) (zd_rm 1) [.ref (q 0), .int (nI a)] (wd k q v r ex) (zd_is (some (.int (nI (n + 1)))) (wd k q (upd v 6 (nI (n + 1))) (va_up r 15 (upd (r 15) n (nI a))) ex)) := by
  refine zd_met gd_all (by decide) rfl (Nat.le_of_ble_eq_true rfl) (fun Z E => ?_)
  show Z (wd k q v r ex) [some (.ref (q 0)), some (.int (nI a))] 0 []
  have hna := t.hna.2
  refine zd_aload_n E (pc := 0) d_P_draft_0 rfl ?_
  refine zd_iload_n E (pc := 1) d_P_draft_1 rfl ?_
  refine zd_callV E (pc := 2) d_P_draft_2 kc_P_88 rfl ki_P_refuseUnknownAction ke_P_refuseUnknownAction 0 rfl rfl (c_P_refuseUnknownAction l D t.hna.1 ha (by omega)) (by decide) rfl (Nat.le_of_ble_eq_true rfl) (fun v1 ws1 hv1 => ?_)
  obtain ⟨rfl, rfl⟩ := hv1
  refine zd_aload_n E (pc := 5) d_P_draft_5 rfl ?_
  refine zd_get E (pc := 6) d_P_draft_6 kf_P_34 0 rfl rfl ?_
  refine zd_get E (pc := 9) d_P_draft_9 kf_P_136 14 rfl rfl ?_
  rw [hv]
  refine zd_bipush E (pc := 12) (v := (nI 24)) d_P_draft_12 (by decide) ?_
  refine zd_nc_lt E (pc := 14) 27 d_P_draft_14 (by decide) ((by omega)) ((by omega)) (fun hq => ?_) (fun hq => ?_)
  · refine zd_aload_n E (pc := 27) d_P_draft_27 rfl ?_
    refine zd_get E (pc := 28) d_P_draft_28 kf_P_34 0 rfl rfl ?_
    refine zd_iload_n E (pc := 31) d_P_draft_31 rfl ?_
    refine zd_callV E (pc := 32) d_P_draft_32 kc_P_187 rfl ki_R_append ke_R_append 14 rfl rfl (c_R_append14 l D hv (show n < 24 from hn)) (by decide) rfl (Nat.le_of_ble_eq_true rfl) (fun v1 ws1 hv1 => ?_)
    obtain ⟨rfl, rfl⟩ := hv1
    refine zd_aload_n E (pc := 35) d_P_draft_35 rfl ?_
    refine zd_get E (pc := 36) d_P_draft_36 kf_P_34 0 rfl rfl ?_
    refine zd_get E (pc := 39) d_P_draft_39 kf_P_136 14 rfl rfl ?_
    exact zd_iret E (pc := 42) d_P_draft_42 ⟨rfl, rfl⟩
  · omega
set_option maxRecDepth 100000 in
set_option maxHeartbeats 4000000 in
theorem c_P_wipe (l : Launch) (D : va_G) : zd_Ct l D classes (wd_ty k) gd_T y_P_wipe b_P_wipe 1 none (zd_rm 1) [.ref (q 0)] (wd k q v r ex) (zd_is none (wd k q (upd v 6 (nI 0)) r ex)) := by
  refine zd_met gd_all (by decide) rfl (Nat.le_of_ble_eq_true rfl) (fun Z E => ?_)
  show Z (wd k q v r ex) [some (.ref (q 0))] 0 []
  refine zd_aload_n E (pc := 0) d_P_wipe_0 rfl ?_
  refine zd_get E (pc := 1) d_P_wipe_1 kf_P_34 0 rfl rfl ?_
  refine zd_callV E (pc := 4) d_P_wipe_4 kc_P_125 rfl ki_R_empty ke_R_empty 14 rfl rfl (c_R_empty14 l D) (by decide) rfl (Nat.le_of_ble_eq_true rfl) (fun v1 ws1 hv1 => ?_)
  obtain ⟨rfl, rfl⟩ := hv1
  exact zd_vret E (pc := 7) d_P_wipe_7 ⟨rfl, rfl⟩
set_option maxRecDepth 100000 in
set_option maxHeartbeats 4000000 in
theorem c_P_check (l : Launch) (D : va_G) {s n : Nat} {di : Nat → Nat} (t : tk_C v r nf na fi go co ne ad dr) (hs : v 9 = nI s) (hs2 : s < 1024) (hv : v 6 = nI n) (hn : n ≤ 24) (hd : ∀ j, j < n → r 15 j = nI (di j) ∧ di j < na) : zd_Ct l D classes (wd_ty k) gd_T y_P_check b_P_check 4 (some .int) (zd_rm 2) [.ref (q 0)] (wd k q v r ex) (zd_is (some (.int (tk_ck ne ad dr go di n n 0 s))) (wd k q v r ex)) := by
  refine zd_met gd_all (by decide) rfl (Nat.le_of_ble_eq_true rfl) (fun Z E => ?_)
  show Z (wd k q v r ex) [some (.ref (q 0)), none, none, none] 0 []
  have hna := t.hna.2
  have loop : ∀ (m i x : Nat) (L3 : Option Value), i + m = n → x < 1024 → tk_ck ne ad dr go di n n 0 s = tk_ck ne ad dr go di n m i x → Z (wd k q v r ex) [some (.ref (q 0)), some (.int (nI x)), some (.int (nI i)), L3] 7 [] := by
    intro m
    induction m with
    | zero =>
      intro i x L3 hi hx he
      refine zd_iload_n E (pc := 7) d_P_check_7 rfl ?_
      refine zd_aload_n E (pc := 8) d_P_check_8 rfl ?_
      refine zd_get E (pc := 9) d_P_check_9 kf_P_34 0 rfl rfl ?_
      refine zd_get E (pc := 12) d_P_check_12 kf_P_136 14 rfl rfl ?_
      rw [hv]
      refine zd_nc_ge E (pc := 15) 58 d_P_check_15 (by decide) ((by omega)) ((by omega)) (fun hq => ?_) (fun hq => ?_)
      · refine zd_aload_n E (pc := 58) d_P_check_58 rfl ?_
        refine zd_get E (pc := 59) d_P_check_59 kf_P_12 0 rfl rfl ?_
        refine zd_iload_n E (pc := 62) d_P_check_62 rfl ?_
        refine zd_callV E (pc := 63) d_P_check_63 kc_P_118 rfl ki_T_isMet ke_T_isMet 1 rfl rfl (c_T_isMet l D t.hgo.1 t.hgo.2) (by decide) rfl (Nat.le_of_ble_eq_true rfl) (fun v1 ws1 hv1 => ?_)
        obtain ⟨rfl, rfl⟩ := hv1
        refine zd_bf_eq E (pc := 66) 73 d_P_check_66 (by decide) (fun hb => ?_) (fun hb => ?_)
        · refine zd_aload_n E (pc := 73) d_P_check_73 rfl ?_
          refine zd_get E (pc := 74) d_P_check_74 kf_P_34 0 rfl rfl ?_
          refine zd_get E (pc := 77) d_P_check_77 kf_P_136 14 rfl rfl ?_
          rw [hv]
          exact zd_iret E (pc := 80) d_P_check_80 ⟨by rw [he, tk_ck, if_neg hb], rfl⟩
        · refine zd_iconst E (pc := 69) (v := (-1)) d_P_check_69 (by decide) ?_
          refine zd_goto E (pc := 70) 80 d_P_check_70 (by decide) ?_
          exact zd_iret E (pc := 80) d_P_check_80 ⟨by rw [he, tk_ck, if_pos hb], rfl⟩
      · omega
    | succ m ih =>
      intro i x L3 hi hx he
      obtain ⟨d1, d2⟩ := hd i (by omega)
      have ha12 : di i < 12 := by omega
      refine zd_iload_n E (pc := 7) d_P_check_7 rfl ?_
      refine zd_aload_n E (pc := 8) d_P_check_8 rfl ?_
      refine zd_get E (pc := 9) d_P_check_9 kf_P_34 0 rfl rfl ?_
      refine zd_get E (pc := 12) d_P_check_12 kf_P_136 14 rfl rfl ?_
      rw [hv]
      refine zd_nc_ge E (pc := 15) 58 d_P_check_15 (by decide) ((by omega)) ((by omega)) (fun hq => ?_) (fun hq => ?_)
      · omega
      · refine zd_aload_n E (pc := 18) d_P_check_18 rfl ?_
        refine zd_get E (pc := 19) d_P_check_19 kf_P_34 0 rfl rfl ?_
        refine zd_get E (pc := 22) d_P_check_22 kf_P_139 14 rfl rfl ?_
        refine zd_iload_n E (pc := 25) d_P_check_25 rfl ?_
        refine zd_iald E (pc := 26) d_P_check_26 15 rfl (t0 := 0) rfl (i) (rfl) ((by omega)) (by decide) ?_
        rw [d1]
        refine zd_istore_n E (pc := 27) d_P_check_27 (by decide) ?_
        refine zd_aload_n E (pc := 28) d_P_check_28 rfl ?_
        refine zd_get E (pc := 29) d_P_check_29 kf_P_12 0 rfl rfl ?_
        refine zd_iload_n E (pc := 32) d_P_check_32 rfl ?_
        refine zd_iload_n E (pc := 33) d_P_check_33 rfl ?_
        refine zd_callV E (pc := 34) d_P_check_34 kc_P_109 rfl ki_T_allows ke_T_allows 1 rfl rfl (c_T_allows l D ha12 t.hne) (by decide) rfl (Nat.le_of_ble_eq_true rfl) (fun v1 ws1 hv1 => ?_)
        obtain ⟨rfl, rfl⟩ := hv1
        refine zd_bf_ne E (pc := 37) 42 d_P_check_37 (by decide) (fun hb => ?_) (fun hb => ?_)
        · refine zd_aload_n E (pc := 42) d_P_check_42 rfl ?_
          refine zd_get E (pc := 43) d_P_check_43 kf_P_12 0 rfl rfl ?_
          refine zd_iload_n E (pc := 46) d_P_check_46 rfl ?_
          refine zd_iload_n E (pc := 47) d_P_check_47 rfl ?_
          refine zd_callV E (pc := 48) d_P_check_48 kc_P_114 rfl ki_T_after ke_T_after 1 rfl rfl (c_T_after l D ha12 t.had0 t.hdr0) (by decide) rfl (Nat.le_of_ble_eq_true rfl) (fun v1 ws1 hv1 => ?_)
          obtain ⟨rfl, rfl⟩ := hv1
          refine zd_istore_n E (pc := 51) d_P_check_51 (by decide) ?_
          refine zd_iinc E (pc := 52) d_P_check_52 rfl (bm_inc i) (by decide) ?_
          refine zd_goto E (pc := 55) 7 d_P_check_55 (by decide) ?_
          exact ih (i + 1) (tk_af ad dr (di i) x) _ (by omega) (t.haf ha12 hx) (by rw [he, tk_ck, if_pos hb])
        · refine zd_iload_n E (pc := 40) d_P_check_40 rfl ?_
          exact zd_iret E (pc := 41) d_P_check_41 ⟨by rw [he, tk_ck, if_neg hb], rfl⟩
  refine zd_aload_n E (pc := 0) d_P_check_0 rfl ?_
  refine zd_get E (pc := 1) d_P_check_1 kf_P_53 0 rfl rfl ?_
  rw [hs]
  refine zd_istore_n E (pc := 4) d_P_check_4 (by decide) ?_
  refine zd_iconst E (pc := 5) (v := (nI 0)) d_P_check_5 (by decide) ?_
  refine zd_istore_n E (pc := 6) d_P_check_6 (by decide) ?_
  exact loop n 0 s none (by omega) hs2 rfl
set_option maxRecDepth 100000 in
set_option maxHeartbeats 4000000 in
theorem c_P_cost (l : Launch) (D : va_G) {n : Nat} {di : Nat → Nat} (t : tk_C v r nf na fi go co ne ad dr) (hv : v 6 = nI n) (hn : n ≤ 24) (hd : ∀ j, j < n → r 15 j = nI (di j) ∧ di j < na) : zd_Ct l D classes (wd_ty k) gd_T y_P_cost b_P_cost 3 (some .int) (zd_rm 0) [.ref (q 0)] (wd k q v r ex) (zd_is (some (.int (nI (lm_sum (fun j => co (di j)) n)))) (wd k q v r ex)) := by
  refine zd_met gd_all (by decide) rfl (Nat.le_of_ble_eq_true rfl) (fun Z E => ?_)
  show Z (wd k q v r ex) [some (.ref (q 0)), none, none] 0 []
  have hna := t.hna.2
  have loop : ∀ (m i : Nat), i + m = n → Z (wd k q v r ex) [some (.ref (q 0)), some (.int (nI (lm_sum (fun j => co (di j)) i))), some (.int (nI i))] 4 [] := by
    intro m
    induction m with
    | zero =>
      intro i hi
      have e : i = n := by omega
      subst e
      refine zd_iload_n E (pc := 4) d_P_cost_4 rfl ?_
      refine zd_aload_n E (pc := 5) d_P_cost_5 rfl ?_
      refine zd_get E (pc := 6) d_P_cost_6 kf_P_34 0 rfl rfl ?_
      refine zd_get E (pc := 9) d_P_cost_9 kf_P_136 14 rfl rfl ?_
      rw [hv]
      refine zd_nc_ge E (pc := 12) 41 d_P_cost_12 (by decide) ((by omega)) ((by omega)) (fun hq => ?_) (fun hq => ?_)
      · refine zd_iload_n E (pc := 41) d_P_cost_41 rfl ?_
        exact zd_iret E (pc := 42) d_P_cost_42 ⟨rfl, rfl⟩
      · omega
    | succ m ih =>
      intro i hi
      obtain ⟨d1, d2⟩ := hd i (by omega)
      refine zd_iload_n E (pc := 4) d_P_cost_4 rfl ?_
      refine zd_aload_n E (pc := 5) d_P_cost_5 rfl ?_
      refine zd_get E (pc := 6) d_P_cost_6 kf_P_34 0 rfl rfl ?_
      refine zd_get E (pc := 9) d_P_cost_9 kf_P_136 14 rfl rfl ?_
      rw [hv]
      refine zd_nc_ge E (pc := 12) 41 d_P_cost_12 (by decide) ((by omega)) ((by omega)) (fun hq => ?_) (fun hq => ?_)
      · omega
      · refine zd_iload_n E (pc := 15) d_P_cost_15 rfl ?_
        refine zd_aload_n E (pc := 16) d_P_cost_16 rfl ?_
        refine zd_get E (pc := 17) d_P_cost_17 kf_P_12 0 rfl rfl ?_
        refine zd_get E (pc := 20) d_P_cost_20 kf_P_149 1 rfl rfl ?_
        refine zd_aload_n E (pc := 23) d_P_cost_23 rfl ?_
        refine zd_get E (pc := 24) d_P_cost_24 kf_P_34 0 rfl rfl ?_
        refine zd_get E (pc := 27) d_P_cost_27 kf_P_139 14 rfl rfl ?_
        refine zd_iload_n E (pc := 30) d_P_cost_30 rfl ?_
        refine zd_iald E (pc := 31) d_P_cost_31 15 rfl (t0 := 0) rfl (i) (rfl) ((by omega)) (by decide) ?_
        rw [d1]
        refine zd_iald E (pc := 32) d_P_cost_32 2 rfl (t0 := 0) rfl (di i) (rfl) ((by omega)) (by decide) ?_
        rw [(t.hco (di i) (by omega)).1]
        refine zd_iadd E (pc := 33) d_P_cost_33 ?_
        rw [nI_add]
        refine zd_istore_n E (pc := 34) d_P_cost_34 (by decide) ?_
        refine zd_iinc E (pc := 35) d_P_cost_35 rfl (bm_inc i) (by decide) ?_
        refine zd_goto E (pc := 38) 4 d_P_cost_38 (by decide) ?_
        exact ih (i + 1) (by omega)
  refine zd_iconst E (pc := 0) (v := (nI 0)) d_P_cost_0 (by decide) ?_
  refine zd_istore_n E (pc := 1) d_P_cost_1 (by decide) ?_
  refine zd_iconst E (pc := 2) (v := (nI 0)) d_P_cost_2 (by decide) ?_
  refine zd_istore_n E (pc := 3) d_P_cost_3 (by decide) ?_
  exact loop n 0 (by omega)
end P2
