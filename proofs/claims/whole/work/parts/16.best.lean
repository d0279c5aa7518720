/-! What is read off a search: cameTo, leastToMet, the best plan. -/
/-- the way on from a state, as the array holds it -/
def sr_on (r : Nat → Nat → Int32) (s : Nat) : Int := (r 10 s).toInt
theorem sr_on_ne {r : Nat → Nat → Int32} {s : Nat} : sr_on r s ≠ -1 ↔ r 10 s ≠ -1 := by
  have e : ((-1 : Int32)).toInt = -1 := by decide
  unfold sr_on
  constructor
  · intro h z; rw [z] at h; exact h e
  · intro h z; exact h (Int32.toInt_inj.mp (z.trans e.symm))
/-- the i-th state's way on is as it should be -/
def gw_onc (n na : Nat) (can : Nat → Nat → Bool) (af : Nat → Nat → Nat) (co : Nat → Nat) (met : Nat → Bool) (least : Nat) (o d : Nat → Nat) (on : Nat → Int) (i : Nat) : Prop :=
  ((d i = least ∧ met (o i) = true) ∧ on (o i) = -2) ∨ (¬ (d i = least ∧ met (o i) = true) ∧ ((∃ a, a < na ∧ gw_on1 n can af co o d on i a ∧ (∀ b, b < a → ¬ gw_on1 n can af co o d on i b) ∧ on (o i) = (a : Int)) ∨ ((∀ a, a < na → ¬ gw_on1 n can af co o d on i a) ∧ on (o i) = -1)))
/-- a way: p goes on by what stands in on -/
def gw_way (af : Nat → Nat → Nat) (on : Nat → Int) (s0 m : Nat) (p it : Nat → Nat) : Prop := p 0 = s0 ∧ (∀ j, j < m → on (p j) = (it j : Int) ∧ p (j + 1) = af (it j) (p j)) ∧ (m = 1023 ∨ on (p m) < 0) ∧ m ≤ 1023
section BS
variable {k : Nat → ClassId} {q : Nat → Nat} {v : Nat → Int32} {r : Nat → Nat → Int32} {ex : va_W} {nf na fi go : Nat} {co ne ad dr : Nat → Nat}
set_option maxRecDepth 100000 in
set_option maxHeartbeats 4000000 in
theorem c_S_cameTo (l : Launch) (D : va_G) {n M : Nat} {o d : Nat → Nat} (h : sr_st v r n o d) (hM : M < 2 ^ 31) : zd_Ct l D classes (wd_ty k) gd_T y_S_cameTo b_S_cameTo 3 (some .boolean) (zd_rm 1) [.ref (q 7), .int (nI M)] (wd k q v r ex)
    (fun v1 w1 => ∃ b : Bool, (b = true ↔ ∃ i, i < n ∧ o i &&& M = M) ∧ v1 = some (.int (nI (bm_b b))) ∧ w1 = wd k q v r ex) := by
  refine zd_met gd_all (by decide) rfl (Nat.le_of_ble_eq_true rfl) (fun Z E => ?_)
  show Z (wd k q v r ex) [some (.ref (q 7)), some (.int (nI M)), none] 0 []
  have hn := sr_le h
  obtain ⟨h1, h2, h3, h4, h5, h6⟩ := h
  have loop : ∀ m i, i + m = n → (∀ j, j < i → ¬ (o j &&& M = M)) → Z (wd k q v r ex) [some (.ref (q 7)), some (.int (nI M)), some (.int (nI i))] 2 [] := by
    intro m
    induction m with
    | zero =>
      intro i hi hno
      have e : i = n := by omega
      subst e
      refine zd_iload_n E (pc := 2) d_S_cameTo_2 rfl ?_
      refine zd_aload_n E (pc := 3) d_S_cameTo_3 rfl ?_
      refine zd_get E (pc := 4) d_S_cameTo_4 kf_S_45 7 rfl rfl ?_
      rw [h1]
      refine zd_nc_ge E (pc := 7) 31 d_S_cameTo_7 (by decide) ((by omega)) ((by omega)) (fun hc => ?_) (fun hc => ?_)
      · refine zd_iconst E (pc := 31) (v := (nI 0)) d_S_cameTo_31 (by decide) ?_
        exact zd_zret E (pc := 32) d_S_cameTo_32 (by decide) ⟨false, ⟨(fun z => by cases z), fun ⟨j, hj, hz⟩ => (hno j hj hz).elim⟩, rfl, rfl⟩
      · omega
    | succ m ih =>
      intro i hi hno
      refine zd_iload_n E (pc := 2) d_S_cameTo_2 rfl ?_
      refine zd_aload_n E (pc := 3) d_S_cameTo_3 rfl ?_
      refine zd_get E (pc := 4) d_S_cameTo_4 kf_S_45 7 rfl rfl ?_
      rw [h1]
      refine zd_nc_ge E (pc := 7) 31 d_S_cameTo_7 (by decide) ((by omega)) ((by omega)) (fun hc => ?_) (fun hc => ?_)
      · omega
      · refine zd_aload_n E (pc := 10) d_S_cameTo_10 rfl ?_
        refine zd_get E (pc := 11) d_S_cameTo_11 kf_S_9 7 rfl rfl ?_
        refine zd_iload_n E (pc := 14) d_S_cameTo_14 rfl ?_
        refine zd_iald E (pc := 15) d_S_cameTo_15 8 rfl (t0 := 0) rfl (i) (rfl) ((by omega)) (by decide) ?_
        rw [h4 i (by omega)]
        refine zd_iload_n E (pc := 16) d_S_cameTo_16 rfl ?_
        refine zd_callS E (pc := 17) d_S_cameTo_17 kc_S_61 rfl ks_P_hasAll (c_P_hasAll l D _ _ (S := o i) hM) (by decide) rfl (Nat.le_of_ble_eq_true rfl) (fun v1 ws1 hv1 => ?_)
        obtain ⟨rfl, rfl⟩ := hv1
        refine zd_bf_eq E (pc := 20) 25 d_S_cameTo_20 (by decide) (fun hb => ?_) (fun hb => ?_)
        · refine zd_iinc E (pc := 25) d_S_cameTo_25 rfl (bm_inc i) (by decide) ?_
          refine zd_goto E (pc := 28) 2 d_S_cameTo_28 (by decide) ?_
          refine ih (i + 1) (by omega) (fun j hj => ?_)
          by_cases e : j = i
          · subst e; exact hb
          · exact hno j (by omega)
        · refine zd_iconst E (pc := 23) (v := (nI 1)) d_S_cameTo_23 (by decide) ?_
          exact zd_zret E (pc := 24) d_S_cameTo_24 (by decide) ⟨true, ⟨fun _ => ⟨i, by omega, hb⟩, fun _ => rfl⟩, rfl, rfl⟩
  refine zd_iconst E (pc := 0) (v := (nI 0)) d_S_cameTo_0 (by decide) ?_
  refine zd_istore_n E (pc := 1) d_S_cameTo_1 (by decide) ?_
  exact loop n 0 (by omega) (fun j hj => by omega)
set_option maxRecDepth 100000 in
set_option maxHeartbeats 4000000 in
theorem c_S_leastToMet (l : Launch) (D : va_G) {n : Nat} {o d : Nat → Nat} (t : tk_C v r nf na fi go co ne ad dr) (h : sr_st v r n o d) : zd_Ct l D classes (wd_ty k) gd_T y_S_leastToMet b_S_leastToMet 2 (some .int) (zd_rm 2) [.ref (q 7)] (wd k q v r ex)
    (fun v1 w1 => ((∃ i, i < n ∧ tk_met go (o i) = true ∧ (∀ j, j < i → tk_met go (o j) = false) ∧ v1 = some (.int (nI (d i)))) ∨ ((∀ i, i < n → tk_met go (o i) = false) ∧ v1 = some (.int (-1)))) ∧ w1 = wd k q v r ex) := by
  refine zd_met gd_all (by decide) rfl (Nat.le_of_ble_eq_true rfl) (fun Z E => ?_)
  show Z (wd k q v r ex) [some (.ref (q 7)), none] 0 []
  have hn := sr_le h
  obtain ⟨h1, h2, h3, h4, h5, h6⟩ := h
  have loop : ∀ m i, i + m = n → (∀ j, j < i → tk_met go (o j) = false) → Z (wd k q v r ex) [some (.ref (q 7)), some (.int (nI i))] 2 [] := by
    intro m
    induction m with
    | zero =>
      intro i hi hno
      have e : i = n := by omega
      subst e
      refine zd_iload_n E (pc := 2) d_S_leastToMet_2 rfl ?_
      refine zd_aload_n E (pc := 3) d_S_leastToMet_3 rfl ?_
      refine zd_get E (pc := 4) d_S_leastToMet_4 kf_S_45 7 rfl rfl ?_
      rw [h1]
      refine zd_nc_ge E (pc := 7) 44 d_S_leastToMet_7 (by decide) ((by omega)) ((by omega)) (fun hc => ?_) (fun hc => ?_)
      · refine zd_iconst E (pc := 44) (v := (-1)) d_S_leastToMet_44 (by decide) ?_
        exact zd_iret E (pc := 45) d_S_leastToMet_45 ⟨Or.inr ⟨hno, rfl⟩, rfl⟩
      · omega
    | succ m ih =>
      intro i hi hno
      refine zd_iload_n E (pc := 2) d_S_leastToMet_2 rfl ?_
      refine zd_aload_n E (pc := 3) d_S_leastToMet_3 rfl ?_
      refine zd_get E (pc := 4) d_S_leastToMet_4 kf_S_45 7 rfl rfl ?_
      rw [h1]
      refine zd_nc_ge E (pc := 7) 44 d_S_leastToMet_7 (by decide) ((by omega)) ((by omega)) (fun hc => ?_) (fun hc => ?_)
      · omega
      · refine zd_aload_n E (pc := 10) d_S_leastToMet_10 rfl ?_
        refine zd_get E (pc := 11) d_S_leastToMet_11 kf_S_24 7 rfl rfl ?_
        refine zd_aload_n E (pc := 14) d_S_leastToMet_14 rfl ?_
        refine zd_get E (pc := 15) d_S_leastToMet_15 kf_S_9 7 rfl rfl ?_
        refine zd_iload_n E (pc := 18) d_S_leastToMet_18 rfl ?_
        refine zd_iald E (pc := 19) d_S_leastToMet_19 8 rfl (t0 := 0) rfl (i) (rfl) ((by omega)) (by decide) ?_
        rw [h4 i (by omega)]
        refine zd_callV E (pc := 20) d_S_leastToMet_20 kc_S_65 rfl ki_T_isMet ke_T_isMet 1 rfl rfl (c_T_isMet l D t.hgo.1 t.hgo.2) (by decide) rfl (Nat.le_of_ble_eq_true rfl) (fun v1 ws1 hv1 => ?_)
        obtain ⟨rfl, rfl⟩ := hv1
        refine zd_bf_eq E (pc := 23) 38 d_S_leastToMet_23 (by decide) (fun hb => ?_) (fun hb => ?_)
        · refine zd_iinc E (pc := 38) d_S_leastToMet_38 rfl (bm_inc i) (by decide) ?_
          refine zd_goto E (pc := 41) 2 d_S_leastToMet_41 (by decide) ?_
          refine ih (i + 1) (by omega) (fun j hj => ?_)
          by_cases e : j = i
          · subst e; simpa [tk_met] using hb
          · exact hno j (by omega)
        · refine zd_aload_n E (pc := 26) d_S_leastToMet_26 rfl ?_
          refine zd_get E (pc := 27) d_S_leastToMet_27 kf_S_15 7 rfl rfl ?_
          refine zd_aload_n E (pc := 30) d_S_leastToMet_30 rfl ?_
          refine zd_get E (pc := 31) d_S_leastToMet_31 kf_S_9 7 rfl rfl ?_
          refine zd_iload_n E (pc := 34) d_S_leastToMet_34 rfl ?_
          refine zd_iald E (pc := 35) d_S_leastToMet_35 8 rfl (t0 := 0) rfl (i) (rfl) ((by omega)) (by decide) ?_
          rw [h4 i (by omega)]
          refine zd_iald E (pc := 36) d_S_leastToMet_36 9 rfl (t0 := 0) rfl (o i) (rfl) (h2 i (by omega)) (by decide) ?_
          rw [(h5 i (by omega)).1]
          exact zd_iret E (pc := 37) d_S_leastToMet_37 ⟨Or.inl ⟨i, by omega, by simpa [tk_met] using hb, hno, rfl⟩, rfl⟩
  refine zd_iconst E (pc := 0) (v := (nI 0)) d_S_leastToMet_0 (by decide) ?_
  refine zd_istore_n E (pc := 1) d_S_leastToMet_1 (by decide) ?_
  exact loop n 0 (by omega) (fun j hj => by omega)
set_option maxRecDepth 100000 in
set_option maxHeartbeats 4000000 in
theorem c_S_leastOnward (l : Launch) (D : va_G) {n i s0 : Nat} {o d : Nat → Nat} (t : tk_C v r nf na fi go co ne ad dr) (h : sr_st v r n o d) (hok : gw_ok 1024 na (tk_can ne) (tk_af ad dr) co s0 n o d) (hi : i < n) : zd_Ct l D classes (wd_ty k) gd_T y_S_leastOnward b_S_leastOnward 4 (some .int) (zd_rm 2) [.ref (q 7), .int (nI (o i))] (wd k q v r ex)
    (fun v1 w1 => ((∃ a, a < na ∧ gw_on1 n (tk_can ne) (tk_af ad dr) co o d (sr_on r) i a ∧ (∀ b, b < a → ¬ gw_on1 n (tk_can ne) (tk_af ad dr) co o d (sr_on r) i b) ∧ v1 = some (.int (nI a))) ∨ ((∀ a, a < na → ¬ gw_on1 n (tk_can ne) (tk_af ad dr) co o d (sr_on r) i a) ∧ v1 = some (.int (-1)))) ∧ w1 = wd k q v r ex) := by
  refine zd_met gd_all (by decide) rfl (Nat.le_of_ble_eq_true rfl) (fun Z E => ?_)
  show Z (wd k q v r ex) [some (.ref (q 7)), some (.int (nI (o i))), none, none] 0 []
  have hn := sr_le h
  have hna := t.hna.2
  obtain ⟨h1, h2, h3, h4, h5, h6⟩ := h
  obtain ⟨d1, d2⟩ := h5 i hi
  have oN := h2 i hi
  have loop : ∀ m a L3, a + m = na → (∀ b, b < a → ¬ gw_on1 n (tk_can ne) (tk_af ad dr) co o d (sr_on r) i b) → Z (wd k q v r ex) [some (.ref (q 7)), some (.int (nI (o i))), some (.int (nI a)), L3] 2 [] := by
    intro m
    induction m with
    | zero =>
      intro a L3 ha hno
      have e : a = na := by omega
      subst e
      refine zd_iload_n E (pc := 2) d_S_leastOnward_2 rfl ?_
      refine zd_aload_n E (pc := 3) d_S_leastOnward_3 rfl ?_
      refine zd_get E (pc := 4) d_S_leastOnward_4 kf_S_24 7 rfl rfl ?_
      refine zd_get E (pc := 7) d_S_leastOnward_7 kf_S_49 1 rfl rfl ?_
      rw [t.hna.1]
      refine zd_nc_ge E (pc := 10) 78 d_S_leastOnward_10 (by decide) ((by omega)) ((by omega)) (fun hc => ?_) (fun hc => ?_)
      · refine zd_iconst E (pc := 78) (v := (-1)) d_S_leastOnward_78 (by decide) ?_
        exact zd_iret E (pc := 79) d_S_leastOnward_79 ⟨Or.inr ⟨hno, rfl⟩, rfl⟩
      · omega
    | succ m ih =>
      intro a L3 ha hno
      have ha12 : a < 12 := by omega
      have han : a < na := by omega
      obtain ⟨c1, c2⟩ := t.hco a ha12
      have tail : ∀ L3, ¬ gw_on1 n (tk_can ne) (tk_af ad dr) co o d (sr_on r) i a → Z (wd k q v r ex) [some (.ref (q 7)), some (.int (nI (o i))), some (.int (nI a)), L3] 72 [] := by
        intro L3 hz
        refine zd_iinc E (pc := 72) d_S_leastOnward_72 rfl (bm_inc a) (by decide) ?_
        refine zd_goto E (pc := 75) 2 d_S_leastOnward_75 (by decide) ?_
        refine ih (a + 1) L3 (by omega) (fun b hb => ?_)
        by_cases e : b = a
        · subst e; exact hz
        · exact hno b (by omega)
      refine zd_iload_n E (pc := 2) d_S_leastOnward_2 rfl ?_
      refine zd_aload_n E (pc := 3) d_S_leastOnward_3 rfl ?_
      refine zd_get E (pc := 4) d_S_leastOnward_4 kf_S_24 7 rfl rfl ?_
      refine zd_get E (pc := 7) d_S_leastOnward_7 kf_S_49 1 rfl rfl ?_
      rw [t.hna.1]
      refine zd_nc_ge E (pc := 10) 78 d_S_leastOnward_10 (by decide) ((by omega)) ((by omega)) (fun hc => ?_) (fun hc => ?_)
      · omega
      · refine zd_aload_n E (pc := 13) d_S_leastOnward_13 rfl ?_
        refine zd_get E (pc := 14) d_S_leastOnward_14 kf_S_24 7 rfl rfl ?_
        refine zd_iload_n E (pc := 17) d_S_leastOnward_17 rfl ?_
        refine zd_iload_n E (pc := 18) d_S_leastOnward_18 rfl ?_
        refine zd_callV E (pc := 19) d_S_leastOnward_19 kc_S_83 rfl ki_T_allows ke_T_allows 1 rfl rfl (c_T_allows l D ha12 t.hne) (by decide) rfl (Nat.le_of_ble_eq_true rfl) (fun v1 ws1 hv1 => ?_)
        obtain ⟨rfl, rfl⟩ := hv1
        refine zd_bf_eq E (pc := 22) 72 d_S_leastOnward_22 (by decide) (fun hcan => ?_) (fun hcan => ?_)
        · exact tail _ (fun z => hcan (by simpa [tk_can] using z.1))
        · have hcan1 : tk_can ne a (o i) = true := by simpa [tk_can] using hcan
          obtain ⟨j, hj, he, -⟩ := hok.2.2.2.2.2.2.2 i a hi han hcan1
          obtain ⟨g1, g2⟩ := h5 j hj
          have he1 : bm_dif (o i) (dr a) ||| ad a = o j := he.symm
          refine zd_aload_n E (pc := 25) d_S_leastOnward_25 rfl ?_
          refine zd_get E (pc := 26) d_S_leastOnward_26 kf_S_24 7 rfl rfl ?_
          refine zd_iload_n E (pc := 29) d_S_leastOnward_29 rfl ?_
          refine zd_iload_n E (pc := 30) d_S_leastOnward_30 rfl ?_
          refine zd_callV E (pc := 31) d_S_leastOnward_31 kc_S_79 rfl ki_T_after ke_T_after 1 rfl rfl (c_T_after l D ha12 t.had0 t.hdr0) (by decide) rfl (Nat.le_of_ble_eq_true rfl) (fun v1 ws1 hv1 => ?_)
          obtain ⟨rfl, rfl⟩ := hv1
          rw [he1]
          refine zd_istore_n E (pc := 34) d_S_leastOnward_34 (by decide) ?_
          refine zd_aload_n E (pc := 35) d_S_leastOnward_35 rfl ?_
          refine zd_get E (pc := 36) d_S_leastOnward_36 kf_S_15 7 rfl rfl ?_
          refine zd_iload_n E (pc := 39) d_S_leastOnward_39 rfl ?_
          refine zd_iald E (pc := 40) d_S_leastOnward_40 9 rfl (t0 := 0) rfl (o j) (rfl) (h2 j hj) (by decide) ?_
          rw [g1]
          refine zd_aload_n E (pc := 41) d_S_leastOnward_41 rfl ?_
          refine zd_get E (pc := 42) d_S_leastOnward_42 kf_S_15 7 rfl rfl ?_
          refine zd_iload_n E (pc := 45) d_S_leastOnward_45 rfl ?_
          refine zd_iald E (pc := 46) d_S_leastOnward_46 9 rfl (t0 := 0) rfl (o i) (rfl) (oN) (by decide) ?_
          rw [d1]
          refine zd_aload_n E (pc := 47) d_S_leastOnward_47 rfl ?_
          refine zd_get E (pc := 48) d_S_leastOnward_48 kf_S_24 7 rfl rfl ?_
          refine zd_get E (pc := 51) d_S_leastOnward_51 kf_S_54 1 rfl rfl ?_
          refine zd_iload_n E (pc := 54) d_S_leastOnward_54 rfl ?_
          refine zd_iald E (pc := 55) d_S_leastOnward_55 2 rfl (t0 := 0) rfl (a) (rfl) (ha12) (by decide) ?_
          rw [c1]
          refine zd_iadd E (pc := 56) d_S_leastOnward_56 ?_
          rw [nI_add]
          refine zd_nc_ne E (pc := 57) 72 d_S_leastOnward_57 (by decide) ((by omega)) ((by omega)) (fun hd => ?_) (fun hd => ?_)
          · refine tail _ (fun z => ?_)
            obtain ⟨-, j2, a1, a2, a3, a4⟩ := z
            have e := hok.2.2.2.2.1 j2 j a1 hj (a2.trans he.symm)
            subst e
            exact hd a3
          · refine zd_aload_n E (pc := 60) d_S_leastOnward_60 rfl ?_
            refine zd_get E (pc := 61) d_S_leastOnward_61 kf_S_18 7 rfl rfl ?_
            refine zd_iload_n E (pc := 64) d_S_leastOnward_64 rfl ?_
            refine zd_iald E (pc := 65) d_S_leastOnward_65 10 rfl (t0 := 0) rfl (o j) (rfl) (h2 j hj) (by decide) ?_
            refine zd_iconst E (pc := 66) (v := (-1)) d_S_leastOnward_66 (by decide) ?_
            refine zd_ic_eq E (pc := 67) 72 d_S_leastOnward_67 (by decide) (fun hon => ?_) (fun hon => ?_)
            · refine tail _ (fun z => ?_)
              obtain ⟨-, j2, a1, a2, a3, a4⟩ := z
              have e := hok.2.2.2.2.1 j2 j a1 hj (a2.trans he.symm)
              subst e
              exact sr_on_ne.mp a4 hon
            · refine zd_iload_n E (pc := 70) d_S_leastOnward_70 rfl ?_
              exact zd_iret E (pc := 71) d_S_leastOnward_71 ⟨Or.inl ⟨a, han, ⟨hcan1, j, hj, he, hd, sr_on_ne.mpr hon⟩, hno, rfl⟩, rfl⟩
  refine zd_iconst E (pc := 0) (v := (nI 0)) d_S_leastOnward_0 (by decide) ?_
  refine zd_istore_n E (pc := 1) d_S_leastOnward_1 (by decide) ?_
  exact loop na 0 none (by omega) (fun b hb => by omega)
set_option maxRecDepth 100000 in
set_option maxHeartbeats 4000000 in
theorem c_R_empty12 (l : Launch) (D : va_G) : zd_Ct l D classes (wd_ty k) gd_T y_R_empty b_R_empty 1 none (zd_rm 0) [.ref (q 12)] (wd k q v r ex) (zd_is none (wd k q (upd v (12 / 2 - 1) (nI 0)) r ex)) := by
  refine zd_met gd_all (by decide) rfl (Nat.le_of_ble_eq_true rfl) (fun Z E => ?_)
  show Z (wd k q v r ex) [some (.ref (q 12))] 0 []
  refine zd_aload_n E (pc := 0) d_R_empty_0 rfl ?_
  refine zd_iconst E (pc := 1) (v := (nI 0)) d_R_empty_1 (by decide) ?_
  refine zd_put E (pc := 2) d_R_empty_2 kp_R_13 12 rfl (Nat.le_of_ble_eq_true rfl) (ws1 := wd k q (upd v (12 / 2 - 1) (nI 0)) r ex) rfl ?_
  exact zd_vret E (pc := 5) d_R_empty_5 ⟨rfl, rfl⟩
set_option maxRecDepth 100000 in
set_option maxHeartbeats 4000000 in
theorem c_R_append12 (l : Launch) (D : va_G) {n a : Nat} (hv : v (12 / 2 - 1) = nI n) (hn : n < (if 12 = 12 then 1023 else 24)) : zd_Ct l D classes (wd_ty k) gd_T y_R_append b_R_append 2 none (zd_rm 0) [.ref (q 12), .int (nI a)] (wd k q v r ex) (zd_is none (wd k q (upd v (12 / 2 - 1) (nI (n + 1))) (va_up r (12 + 1) (upd (r (12 + 1)) n (nI a))) ex)) := by
  refine zd_met gd_all (by decide) rfl (Nat.le_of_ble_eq_true rfl) (fun Z E => ?_)
  show Z (wd k q v r ex) [some (.ref (q 12)), some (.int (nI a))] 0 []
  have hv1 : v (12 / 2 - 1) = nI n := hv
  have hn1 : n < 1024 := by
    have : (if 12 = 12 then 1023 else 24) ≤ 1023 := by decide
    omega
  refine zd_aload_n E (pc := 0) d_R_append_0 rfl ?_
  refine zd_get E (pc := 1) d_R_append_1 kf_R_13 12 rfl rfl ?_
  refine zd_aload_n E (pc := 4) d_R_append_4 rfl ?_
  refine zd_get E (pc := 5) d_R_append_5 kf_R_7 12 rfl rfl ?_
  refine zd_alen E (pc := 8) d_R_append_8 13 rfl (t0 := 0) rfl (v := nI (if 12 = 12 then 1023 else 24)) rfl ?_
  show Z (wd k q v r ex) [some (.ref (q 12)), some (.int (nI a))] 9 [.int (nI (if 12 = 12 then 1023 else 24)), .int (v (12 / 2 - 1))]
  rw [hv1]
  refine zd_nc_ge E (pc := 9) 32 d_R_append_9 (by decide) ((by omega)) ((by decide)) (fun hc => ?_) (fun hc => ?_)
  · omega
  · refine zd_aload_n E (pc := 12) d_R_append_12 rfl ?_
    refine zd_get E (pc := 13) d_R_append_13 kf_R_7 12 rfl rfl ?_
    refine zd_aload_n E (pc := 16) d_R_append_16 rfl ?_
    refine zd_get E (pc := 17) d_R_append_17 kf_R_13 12 rfl rfl ?_
    show Z (wd k q v r ex) [some (.ref (q 12)), some (.int (nI a))] 20 [.int (v (12 / 2 - 1)), .ref (q (12 + 1))]
    rw [hv1]
    refine zd_iload_n E (pc := 20) d_R_append_20 rfl ?_
    refine zd_iast E (pc := 21) d_R_append_21 13 rfl (t0 := 0) rfl (n) (rfl) (hn) (by decide) (ws1 := wd k q v (va_up r (12 + 1) (upd (r (12 + 1)) n (nI a))) ex) rfl ?_
    refine zd_aload_n E (pc := 22) d_R_append_22 rfl ?_
    refine zd_dup E (pc := 23) d_R_append_23 rfl ?_
    refine zd_get E (pc := 24) d_R_append_24 kf_R_13 12 rfl rfl ?_
    show Z (wd k q v (va_up r (12 + 1) (upd (r (12 + 1)) n (nI a))) ex) [some (.ref (q 12)), some (.int (nI a))] 27 [.int (v (12 / 2 - 1)), .ref (q 12)]
    rw [hv1]
    refine zd_iconst E (pc := 27) (v := (nI 1)) d_R_append_27 (by decide) ?_
    refine zd_iadd E (pc := 28) d_R_append_28 ?_
    rw [nI_add]
    refine zd_put E (pc := 29) d_R_append_29 kp_R_13 12 rfl (Nat.le_of_ble_eq_true rfl) (ws1 := wd k q (upd v (12 / 2 - 1) (nI (n + 1))) (va_up r (12 + 1) (upd (r (12 + 1)) n (nI a))) ex) rfl ?_
    exact zd_vret E (pc := 32) d_R_append_32 ⟨rfl, rfl⟩
set_option maxRecDepth 100000 in
set_option maxHeartbeats 4000000 in
theorem c_R_empty14 (l : Launch) (D : va_G) : zd_Ct l D classes (wd_ty k) gd_T y_R_empty b_R_empty 1 none (zd_rm 0) [.ref (q 14)] (wd k q v r ex) (zd_is none (wd k q (upd v (14 / 2 - 1) (nI 0)) r ex)) := by
  refine zd_met gd_all (by decide) rfl (Nat.le_of_ble_eq_true rfl) (fun Z E => ?_)
  show Z (wd k q v r ex) [some (.ref (q 14))] 0 []
  refine zd_aload_n E (pc := 0) d_R_empty_0 rfl ?_
  refine zd_iconst E (pc := 1) (v := (nI 0)) d_R_empty_1 (by decide) ?_
  refine zd_put E (pc := 2) d_R_empty_2 kp_R_13 14 rfl (Nat.le_of_ble_eq_true rfl) (ws1 := wd k q (upd v (14 / 2 - 1) (nI 0)) r ex) rfl ?_
  exact zd_vret E (pc := 5) d_R_empty_5 ⟨rfl, rfl⟩
set_option maxRecDepth 100000 in
set_option maxHeartbeats 4000000 in
theorem c_R_append14 (l : Launch) (D : va_G) {n a : Nat} (hv : v (14 / 2 - 1) = nI n) (hn : n < (if 14 = 12 then 1023 else 24)) : zd_Ct l D classes (wd_ty k) gd_T y_R_append b_R_append 2 none (zd_rm 0) [.ref (q 14), .int (nI a)] (wd k q v r ex) (zd_is none (wd k q (upd v (14 / 2 - 1) (nI (n + 1))) (va_up r (14 + 1) (upd (r (14 + 1)) n (nI a))) ex)) := by
  refine zd_met gd_all (by decide) rfl (Nat.le_of_ble_eq_true rfl) (fun Z E => ?_)
  show Z (wd k q v r ex) [some (.ref (q 14)), some (.int (nI a))] 0 []
  have hv1 : v (14 / 2 - 1) = nI n := hv
  have hn1 : n < 1024 := by
    have : (if 14 = 12 then 1023 else 24) ≤ 1023 := by decide
    omega
  refine zd_aload_n E (pc := 0) d_R_append_0 rfl ?_
  refine zd_get E (pc := 1) d_R_append_1 kf_R_13 14 rfl rfl ?_
  refine zd_aload_n E (pc := 4) d_R_append_4 rfl ?_
  refine zd_get E (pc := 5) d_R_append_5 kf_R_7 14 rfl rfl ?_
  refine zd_alen E (pc := 8) d_R_append_8 15 rfl (t0 := 0) rfl (v := nI (if 14 = 12 then 1023 else 24)) rfl ?_
  show Z (wd k q v r ex) [some (.ref (q 14)), some (.int (nI a))] 9 [.int (nI (if 14 = 12 then 1023 else 24)), .int (v (14 / 2 - 1))]
  rw [hv1]
  refine zd_nc_ge E (pc := 9) 32 d_R_append_9 (by decide) ((by omega)) ((by decide)) (fun hc => ?_) (fun hc => ?_)
  · omega
  · refine zd_aload_n E (pc := 12) d_R_append_12 rfl ?_
    refine zd_get E (pc := 13) d_R_append_13 kf_R_7 14 rfl rfl ?_
    refine zd_aload_n E (pc := 16) d_R_append_16 rfl ?_
    refine zd_get E (pc := 17) d_R_append_17 kf_R_13 14 rfl rfl ?_
    show Z (wd k q v r ex) [some (.ref (q 14)), some (.int (nI a))] 20 [.int (v (14 / 2 - 1)), .ref (q (14 + 1))]
    rw [hv1]
    refine zd_iload_n E (pc := 20) d_R_append_20 rfl ?_
    refine zd_iast E (pc := 21) d_R_append_21 15 rfl (t0 := 0) rfl (n) (rfl) (hn) (by decide) (ws1 := wd k q v (va_up r (14 + 1) (upd (r (14 + 1)) n (nI a))) ex) rfl ?_
    refine zd_aload_n E (pc := 22) d_R_append_22 rfl ?_
    refine zd_dup E (pc := 23) d_R_append_23 rfl ?_
    refine zd_get E (pc := 24) d_R_append_24 kf_R_13 14 rfl rfl ?_
    show Z (wd k q v (va_up r (14 + 1) (upd (r (14 + 1)) n (nI a))) ex) [some (.ref (q 14)), some (.int (nI a))] 27 [.int (v (14 / 2 - 1)), .ref (q 14)]
    rw [hv1]
    refine zd_iconst E (pc := 27) (v := (nI 1)) d_R_append_27 (by decide) ?_
    refine zd_iadd E (pc := 28) d_R_append_28 ?_
    rw [nI_add]
    refine zd_put E (pc := 29) d_R_append_29 kp_R_13 14 rfl (Nat.le_of_ble_eq_true rfl) (ws1 := wd k q (upd v (14 / 2 - 1) (nI (n + 1))) (va_up r (14 + 1) (upd (r (14 + 1)) n (nI a))) ex) rfl ?_
    exact zd_vret E (pc := 32) d_R_append_32 ⟨rfl, rfl⟩
end BS
