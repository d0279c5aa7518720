/-! Contracts of the cuts: pay, goalHeight, nextCut. -/
section CC2
variable {Z : va_W → List (Option Value) → Nat → List Value → Prop} {l : Launch} {D : va_G} {cl : List vw_C} {tys : List (ClassId × FieldType)} {cc : ByteArray} {nL : Nat} {own : String} {Ts : List Cond} {R : Room} {ret : Option FieldType} {post : Option Value → va_W → Prop}
variable {ws : va_W} {L : List (Option Value)} {pc : Nat} {st : List Value}
/-- System.arraycopy of a whole array of ints into another of its length -/
theorem zd_copy (E : zd_E Z l D cl tys cc nL own Ts R ret post) {index a0 a1 t0 N : Nat} {cA : ClassId} {f g : Nat → Int32} {ws1 : va_W} (d : decode cc pc = .ok (.invokestatic index, 3)) (h1 : Cond.methodLink own index arraycopyName ∈ Ts) (h2 : Cond.native arraycopyName ∈ Ts) (h3 : Cond.static arraycopyName ∈ Ts) (h4 : Cond.initialized "java/lang/System" ∈ Ts)
    (j0 j1 : Nat) (ha0 : ws[j0]? = some (a0, .inl (cA, N, .inl f))) (ha1 : ws[j1]? = some (a1, .inl (cA, N, .inl g))) (ht : tys[t0]? = some (cA, .int)) (hN : N < 2 ^ 31) (hR : 1 ≤ R.frames) (hR2 : (st.map fun v => v.category).sum + (nativeFrameWords "java/lang/System" "arraycopy" 5 + 11) ≤ R.locals) (hw : ws.set j1 (a1, .inl (cA, N, .inl (va_cpy f g 0 0 N))) = ws1) (k : Z ws1 L (pc + 3) st) : Z ws L pc (.int (nI N) :: .int (nI 0) :: .ref a1 :: .int (nI 0) :: .ref a0 :: st) := by
  obtain ⟨p, e, s, m, args, below, meth, c, A, nc, ns, Q, ⟨hx, hb, hml, hown, hts, hK, hr, hlk⟩, ⟨hnc, hns⟩, hQ, rfl⟩ := E
  subst hw
  have e0 : (nI 0).toNatClampNeg = 0 := nI_clamp (by decide)
  have eN : (nI N).toNatClampNeg = N := nI_clamp hN
  exact fun H locs ls hP hD hS hl => va_copyi hx hb (hml.trans hl.1.symm) hown (hts _ h1) (hts _ h2) (hts _ h3) (hts _ h4) hK hP hD hS j0 j1 t0 t0 ha0 ha1 ht ht rfl (nI_pos (by decide)) (nI_pos (by decide)) (nI_pos hN) (by rw [e0, eN]; omega) (by rw [e0, eN]; omega) (fun i _ => rfl) hR hR2 d (by rw [e0, eN]; exact fun H1 locs1 hP1 hD1 hS1 => k H1 locs1 ls hP1 hD1 hS1 hl)
end CC2
section CO
variable {k : Nat → ClassId} {q : Nat → Nat} {v : Nat → Int32} {r : Nat → Nat → Int32} {ex : va_W} {nf na fi go : Nat} {co ne ad dr : Nat → Nat}
set_option maxRecDepth 100000 in
set_option maxHeartbeats 4000000 in
theorem c_U_pay (l : Launch) (D : va_G) {C : Nat} {c : Nat → Nat} (hC : C < 2 ^ 31) (hv1 : v 1 = nI na) (hna : na ≤ 12) (hc : ∀ i, i < 12 → r 19 i = nI (c i) ∧ c i ≤ 9) : zd_Ct l D classes (wd_ty k) gd_T y_U_pay b_U_pay 4 (some .int) (zd_rm 1) [.ref (q 18), .int (nI C)] (wd k q v r ex)
    (fun v1 w1 => ∃ r1 : Nat → Nat → Int32, (∀ i, i ≠ 19 → r1 i = r i) ∧ (∀ i, i < 12 → r1 19 i = nI (if i < na then lm_pay c C (lm_min c C na) i else c i)) ∧ v1 = some (.int (nI (lm_min c C na))) ∧ w1 = wd k q v r1 ex) := by
  refine zd_met gd_all (by decide) rfl (Nat.le_of_ble_eq_true rfl) (fun Z E => ?_)
  show Z (wd k q v r ex) [some (.ref (q 18)), some (.int (nI C)), none, none] 0 []
  have p9 := lm_min_9 c C
  have paid : ∀ (m a : Nat) (r1 : Nat → Nat → Int32), a + m = na → (∀ i, i ≠ 19 → r1 i = r i) → (∀ i, i < 12 → r1 19 i = nI (if i < a then lm_pay c C (lm_min c C na) i else c i)) → Z (wd k q v r1 ex) [some (.ref (q 18)), some (.int (nI C)), some (.int (nI (lm_min c C na))), some (.int (nI a))] 43 [] := by
    intro m
    induction m with
    | zero =>
      intro a r1 ha hf hr
      have e : a = na := by omega
      subst e
      refine zd_iload_n E (pc := 43) d_U_pay_43 rfl ?_
      refine zd_aload_n E (pc := 44) d_U_pay_44 rfl ?_
      refine zd_get E (pc := 45) d_U_pay_45 kf_U_21 18 rfl rfl ?_
      refine zd_get E (pc := 48) d_U_pay_48 kf_U_71 1 rfl rfl ?_
      rw [hv1]
      refine zd_nc_ge E (pc := 51) 78 d_U_pay_51 (by decide) ((by omega)) ((by omega)) (fun hq => ?_) (fun hq => ?_)
      · refine zd_iload_n E (pc := 78) d_U_pay_78 rfl ?_
        exact zd_iret E (pc := 79) d_U_pay_79 ⟨r1, hf, hr, rfl, rfl⟩
      · omega
    | succ m ih =>
      intro a r1 ha hf hr
      have ha12 : a < 12 := by omega
      have hra : r1 19 a = nI (c a) := by rw [hr a ha12, if_neg (by omega)]
      have tail : ∀ (r2 : Nat → Nat → Int32), (∀ i, i ≠ 19 → r2 i = r i) → (∀ i, i < 12 → r2 19 i = nI (if i < a + 1 then lm_pay c C (lm_min c C na) i else c i)) → Z (wd k q v r2 ex) [some (.ref (q 18)), some (.int (nI C)), some (.int (nI (lm_min c C na))), some (.int (nI a))] 72 [] := by
        intro r2 hf2 hr2
        refine zd_iinc E (pc := 72) d_U_pay_72 rfl (bm_inc a) (by decide) ?_
        refine zd_goto E (pc := 75) 43 d_U_pay_75 (by decide) ?_
        exact ih (a + 1) r2 (by omega) hf2 hr2
      have other : ∀ i, i ≠ a → (if i < a then lm_pay c C (lm_min c C na) i else c i) = (if i < a + 1 then lm_pay c C (lm_min c C na) i else c i) := fun i hi => by
        by_cases z : i < a
        · rw [if_pos z, if_pos (by omega)]
        · rw [if_neg z, if_neg (by omega)]
      refine zd_iload_n E (pc := 43) d_U_pay_43 rfl ?_
      refine zd_aload_n E (pc := 44) d_U_pay_44 rfl ?_
      refine zd_get E (pc := 45) d_U_pay_45 kf_U_21 18 rfl rfl ?_
      refine zd_get E (pc := 48) d_U_pay_48 kf_U_71 1 rfl rfl ?_
      rw [hv1]
      refine zd_nc_ge E (pc := 51) 78 d_U_pay_51 (by decide) ((by omega)) ((by omega)) (fun hq => ?_) (fun hq => ?_)
      · omega
      · refine zd_iload_n E (pc := 54) d_U_pay_54 rfl ?_
        refine zd_iload_n E (pc := 55) d_U_pay_55 rfl ?_
        refine zd_callS E (pc := 56) d_U_pay_56 kc_U_92 rfl ks_P_has (c_P_has l D _ _ hC (show a < 32 by omega)) (by decide) rfl (Nat.le_of_ble_eq_true rfl) (fun v1 ws1 hv1 => ?_)
        obtain ⟨rfl, rfl⟩ := hv1
        refine zd_bf_eq E (pc := 59) 72 d_U_pay_59 (by decide) (fun hbit => ?_) (fun hbit => ?_)
        · refine tail r1 hf (fun i hi => ?_)
          rw [hr i hi]
          by_cases e : i = a
          · subst e
            rw [if_neg (by omega), if_pos (by omega)]
            unfold lm_pay
            rw [if_neg hbit]
          · rw [other i e]
        · refine zd_aload_n E (pc := 62) d_U_pay_62 rfl ?_
          refine zd_get E (pc := 63) d_U_pay_63 kf_U_9 18 rfl rfl ?_
          refine zd_iload_n E (pc := 66) d_U_pay_66 rfl ?_
          refine zd_dup2 E (pc := 67) d_U_pay_67 rfl rfl ?_
          refine zd_iald E (pc := 68) d_U_pay_68 19 rfl (t0 := 0) rfl (a) (rfl) (ha12) (by decide) ?_
          rw [hra]
          refine zd_iload_n E (pc := 69) d_U_pay_69 rfl ?_
          refine zd_isub E (pc := 70) d_U_pay_70 ?_
          rw [pk_sub (lm_min_le (show a < na by omega) hbit)]
          refine zd_iast E (pc := 71) d_U_pay_71 19 rfl (t0 := 0) rfl (a) (rfl) (ha12) (by decide) (ws1 := wd k q v (va_up r1 19 (upd (r1 19) a (nI (c a - lm_min c C na)))) ex) rfl ?_
          refine tail _ (fun i hi => by rw [va_up_ne _ _ hi]; exact hf i hi) (fun i hi => ?_)
          rw [va_up_self]
          by_cases e : i = a
          · subst e
            rw [pk_us, if_pos (by omega)]
            unfold lm_pay
            rw [if_pos hbit]
          · rw [pk_un e, hr i hi, other i e]
  have mins : ∀ (m a : Nat), a + m = na → Z (wd k q v r ex) [some (.ref (q 18)), some (.int (nI C)), some (.int (nI (lm_min c C a))), some (.int (nI a))] 5 [] := by
    intro m
    induction m with
    | zero =>
      intro a ha
      have e : a = na := by omega
      subst e
      refine zd_iload_n E (pc := 5) d_U_pay_5 rfl ?_
      refine zd_aload_n E (pc := 6) d_U_pay_6 rfl ?_
      refine zd_get E (pc := 7) d_U_pay_7 kf_U_21 18 rfl rfl ?_
      refine zd_get E (pc := 10) d_U_pay_10 kf_U_71 1 rfl rfl ?_
      rw [hv1]
      refine zd_nc_ge E (pc := 13) 41 d_U_pay_13 (by decide) ((by omega)) ((by omega)) (fun hq => ?_) (fun hq => ?_)
      · refine zd_iconst E (pc := 41) (v := (nI 0)) d_U_pay_41 (by decide) ?_
        refine zd_istore_n E (pc := 42) d_U_pay_42 (by decide) ?_
        exact paid a 0 r (by omega) (fun _ _ => rfl) (fun i hi => by rw [(hc i hi).1, if_neg (by omega)])
      · omega
    | succ m ih =>
      intro a ha
      have ha12 : a < 12 := by omega
      obtain ⟨c1, c2⟩ := hc a ha12
      have p9a := p9 a
      have tail : ∀ x, x = lm_min c C (a + 1) → Z (wd k q v r ex) [some (.ref (q 18)), some (.int (nI C)), some (.int (nI x)), some (.int (nI a))] 35 [] := by
        intro x hx
        subst hx
        refine zd_iinc E (pc := 35) d_U_pay_35 rfl (bm_inc a) (by decide) ?_
        refine zd_goto E (pc := 38) 5 d_U_pay_38 (by decide) ?_
        exact ih (a + 1) (by omega)
      refine zd_iload_n E (pc := 5) d_U_pay_5 rfl ?_
      refine zd_aload_n E (pc := 6) d_U_pay_6 rfl ?_
      refine zd_get E (pc := 7) d_U_pay_7 kf_U_21 18 rfl rfl ?_
      refine zd_get E (pc := 10) d_U_pay_10 kf_U_71 1 rfl rfl ?_
      rw [hv1]
      refine zd_nc_ge E (pc := 13) 41 d_U_pay_13 (by decide) ((by omega)) ((by omega)) (fun hq => ?_) (fun hq => ?_)
      · omega
      · refine zd_iload_n E (pc := 16) d_U_pay_16 rfl ?_
        refine zd_iload_n E (pc := 17) d_U_pay_17 rfl ?_
        refine zd_callS E (pc := 18) d_U_pay_18 kc_U_92 rfl ks_P_has (c_P_has l D _ _ hC (show a < 32 by omega)) (by decide) rfl (Nat.le_of_ble_eq_true rfl) (fun v1 ws1 hv1 => ?_)
        obtain ⟨rfl, rfl⟩ := hv1
        refine zd_bf_eq E (pc := 21) 35 d_U_pay_21 (by decide) (fun hbit => ?_) (fun hbit => ?_)
        · exact tail _ (by rw [lm_min, if_neg hbit])
        · refine zd_iload_n E (pc := 24) d_U_pay_24 rfl ?_
          refine zd_aload_n E (pc := 25) d_U_pay_25 rfl ?_
          refine zd_get E (pc := 26) d_U_pay_26 kf_U_9 18 rfl rfl ?_
          refine zd_iload_n E (pc := 29) d_U_pay_29 rfl ?_
          refine zd_iald E (pc := 30) d_U_pay_30 19 rfl (t0 := 0) rfl (a) (rfl) (ha12) (by decide) ?_
          rw [c1]
          refine zd_mmin E (pc := 31) d_U_pay_31 (gd_in2 87 (by decide +kernel) (by decide +kernel)) (gd_in2 33 (by decide +kernel) (by decide +kernel)) (gd_in1 15 (by decide +kernel) (by decide +kernel)) (gd_in2 34 (by decide +kernel) (by decide +kernel)) ⟨by decide, by decide⟩ (Nat.le_of_ble_eq_true rfl) ?_
          rw [bm_min (by omega) (by omega)]
          refine zd_istore_n E (pc := 34) d_U_pay_34 (by decide) ?_
          exact tail _ (by rw [lm_min, if_pos hbit])
  refine zd_bipush E (pc := 0) (v := (nI 9)) d_U_pay_0 (by decide) ?_
  refine zd_istore_n E (pc := 2) d_U_pay_2 (by decide) ?_
  refine zd_iconst E (pc := 3) (v := (nI 0)) d_U_pay_3 (by decide) ?_
  refine zd_istore_n E (pc := 4) d_U_pay_4 (by decide) ?_
  exact mins na 0 (by omega)
set_option maxRecDepth 100000 in
set_option maxHeartbeats 4000000 in
theorem c_U_goalHeight (l : Launch) (D : va_G) {s : Nat} {c : Nat → Nat} (t : tk_C v r nf na fi go co ne ad dr) (hs : s < 1024) (hc : ∀ i, i < 12 → r 19 i = nI (c i) ∧ c i ≤ 9) : zd_Ct l D classes (wd_ty k) gd_T y_U_goalHeight b_U_goalHeight 2 (some .int) (zd_rm 3) [.ref (q 18), .int (nI s)] (wd k q v r ex)
    (fun v1 w1 => ∃ r1 : Nat → Nat → Int32, (∀ i, i ≠ 17 → r1 i = r i) ∧ (∀ j, j < 10 → r1 17 j = nI (lm_it 1000000 false 10 na c ne ad (fun _ => false) (lm_i0 1000000 s) 10 j)) ∧ v1 = some (.int (nI (lm_jn 1000000 false (lm_it 1000000 false 10 na c ne ad (fun _ => false) (lm_i0 1000000 s) 10) go 10))) ∧ w1 = wd k q v r1 ex) := by
  refine zd_met gd_all (by decide) rfl (Nat.le_of_ble_eq_true rfl) (fun Z E => ?_)
  show Z (wd k q v r ex) [some (.ref (q 18)), some (.int (nI s))] 0 []
  have hbar : (fun a => Nat.testBit 0 a) = (fun _ => false) := by funext a; exact Nat.zero_testBit a
  refine zd_aload_n E (pc := 0) d_U_goalHeight_0 rfl ?_
  refine zd_get E (pc := 1) d_U_goalHeight_1 kf_U_25 18 rfl rfl ?_
  refine zd_iload_n E (pc := 4) d_U_goalHeight_4 rfl ?_
  refine zd_aload_n E (pc := 5) d_U_goalHeight_5 rfl ?_
  refine zd_get E (pc := 6) d_U_goalHeight_6 kf_U_9 18 rfl rfl ?_
  refine zd_iconst E (pc := 9) (v := (nI 0)) d_U_goalHeight_9 (by decide) ?_
  refine zd_iconst E (pc := 10) (v := (nI 0)) d_U_goalHeight_10 (by decide) ?_
  refine zd_callV E (pc := 11) d_U_goalHeight_11 kc_U_58 rfl ki_V_measure ke_V_measure 16 rfl rfl (c_V_measure19 l D (w := false) (show s < 2 ^ 31 by omega) (show 0 < 2 ^ 31 by decide) t.hna.1 t.hna.2 hc t.hne t.had) (by decide) rfl (Nat.le_of_ble_eq_true rfl) (fun v1 ws1 hv1 => ?_)
  obtain ⟨r1, hf, hr, rfl, rfl⟩ := hv1
  rw [hbar] at hr
  refine zd_aload_n E (pc := 14) d_U_goalHeight_14 rfl ?_
  refine zd_get E (pc := 15) d_U_goalHeight_15 kf_U_25 18 rfl rfl ?_
  refine zd_aload_n E (pc := 18) d_U_goalHeight_18 rfl ?_
  refine zd_get E (pc := 19) d_U_goalHeight_19 kf_U_21 18 rfl rfl ?_
  refine zd_get E (pc := 22) d_U_goalHeight_22 kf_U_64 1 rfl rfl ?_
  rw [t.hgo.1]
  refine zd_iconst E (pc := 25) (v := (nI 0)) d_U_goalHeight_25 (by decide) ?_
  refine zd_callV E (pc := 26) d_U_goalHeight_26 kc_U_67 rfl ki_V_joined ke_V_joined 16 rfl rfl (c_V_joined l D (w := false) t.hgo.2 (fun i hi => ⟨hr i hi, Nat.le_trans (lm_it_le _ _ _) (lm_i0_le _ _ _)⟩)) (by decide) rfl (Nat.le_of_ble_eq_true rfl) (fun v1 ws1 hv1 => ?_)
  obtain ⟨rfl, rfl⟩ := hv1
  exact zd_iret E (pc := 29) d_U_goalHeight_29 ⟨r1, hf, hr, rfl, rfl⟩
set_option maxRecDepth 100000 in
set_option maxHeartbeats 4000000 in
theorem c_U_nextCut (l : Launch) (D : va_G) {s : Nat} {c h : Nat → Nat} (t : tk_C v r nf na fi go co ne ad dr) (hs : s < 1024) (hc : ∀ i, i < 12 → r 19 i = nI (c i) ∧ c i ≤ 9) (hh : ∀ i, i < 10 → r 17 i = nI (h i) ∧ h i ≤ 1000000) (hg0 : 0 < lm_jn 1000000 false h go 10) (hg1 : lm_jn 1000000 false h go 10 < 1000000) : zd_Ct l D classes (wd_ty k) gd_T y_U_nextCut b_U_nextCut 6 (some .int) (zd_rm 3) [.ref (q 18), .int (nI s)] (wd k q v r ex)
    (fun v1 w1 => ∃ (r1 : Nat → Nat → Int32) (ba : Nat → Nat) (gb X Y : Nat), (∀ i, i ≠ 20 → r1 i = r i) ∧ (∀ a, a < na → cu_B h (ne a) 10 (ba a)) ∧ cu_B h go 10 gb ∧ cu_is na (cu_tz 1000000 10 c ne ad h) (fun a => 2 ^ ba a) (2 ^ gb) X ∧ cu_is na (cu_tr 1000000 10 ne ba h) (fun a => bm_dif (ad a) X) (bm_dif (s ||| 2 ^ 10) X) Y ∧ v1 = some (.int (nI (cu_mk (cu_ac 1000000 10 ne ad ba h X Y) na))) ∧ w1 = wd k q v r1 ex) := by
  refine zd_met gd_all (by decide) rfl (Nat.le_of_ble_eq_true rfl) (fun Z E => ?_)
  show Z (wd k q v r ex) [some (.ref (q 18)), some (.int (nI s)), none, none, none, none] 0 []
  have hna := t.hna.2
  have had11 : ∀ i, i < 12 → ad i < 2 ^ 11 := fun i hi => by have := (t.2.2.2.1 i hi).2.2.1; have := t.n31; omega
  have val : ∀ S b, (if 1000000 ≤ lm_jn 1000000 false h S 10 then (-1 : Int32) else nI b) = (if decide (lm_jn 1000000 false h S 10 < 1000000) = true then nI b else -1) := fun S b => by
    by_cases z : lm_jn 1000000 false h S 10 < 1000000
    · rw [if_neg (by omega), if_pos (by simpa using z)]
    · rw [if_pos (by omega), if_neg (by simpa using z)]
  have b10 : ∀ S b, cu_B h S 10 b → b ≤ 10 := fun S b hb => by
    rcases hb with ⟨z, -⟩ | ⟨z, -⟩ <;> omega
  -- the actions across
  have across : ∀ (ba : Nat → Nat) (X Y : Nat) (r1 : Nat → Nat → Int32) (gb : Nat), (∀ i, i ≠ 20 → r1 i = r i) → cu_ar r1 na (cu_fin 1000000 10 ne h) ba → (∀ a, a < na → cu_B h (ne a) 10 (ba a)) → cu_B h go 10 gb → X < 2 ^ 11 → Y < 2 ^ 11 → cu_is na (cu_tz 1000000 10 c ne ad h) (fun a => 2 ^ ba a) (2 ^ gb) X → cu_is na (cu_tr 1000000 10 ne ba h) (fun a => bm_dif (ad a) X) (bm_dif (s ||| 2 ^ 10) X) Y →
      ∀ (m a : Nat), a + m = na → Z (wd k q v r1 ex) [some (.ref (q 18)), some (.int (nI s)), some (.int (nI X)), some (.int (nI Y)), some (.int (nI (cu_mk (cu_ac 1000000 10 ne ad ba h X Y) a))), some (.int (nI a))] 85 [] := by
    intro ba X Y r1 gb hf har hB hgb hX hY hXi hYi m
    have f5 : r1 5 = r 5 := hf 5 (by decide)
    induction m with
    | zero =>
      intro a ha
      have e : a = na := by omega
      subst e
      refine zd_iload E (pc := 85) d_U_nextCut_85 rfl ?_
      refine zd_aload_n E (pc := 87) d_U_nextCut_87 rfl ?_
      refine zd_get E (pc := 88) d_U_nextCut_88 kf_U_21 18 rfl rfl ?_
      refine zd_get E (pc := 91) d_U_nextCut_91 kf_U_71 1 rfl rfl ?_
      rw [t.hna.1]
      refine zd_nc_ge E (pc := 94) 139 d_U_nextCut_94 (by decide) ((by omega)) ((by omega)) (fun hq => ?_) (fun hq => ?_)
      · refine zd_iload E (pc := 139) d_U_nextCut_139 rfl ?_
        exact zd_iret E (pc := 141) d_U_nextCut_141 ⟨r1, ba, gb, X, Y, hf, hB, hgb, hXi, hYi, rfl, rfl⟩
      · omega
    | succ m ih =>
      intro a ha
      have ha12 : a < 12 := by omega
      have han : a < na := by omega
      obtain ⟨a1, a2⟩ := t.had a ha12
      have tail : ∀ x, x = cu_mk (cu_ac 1000000 10 ne ad ba h X Y) (a + 1) → Z (wd k q v r1 ex) [some (.ref (q 18)), some (.int (nI s)), some (.int (nI X)), some (.int (nI Y)), some (.int (nI x)), some (.int (nI a))] 133 [] := by
        intro x hx
        subst hx
        refine zd_iinc E (pc := 133) d_U_nextCut_133 rfl (bm_inc a) (by decide) ?_
        refine zd_goto E (pc := 136) 85 d_U_nextCut_136 (by decide) ?_
        exact ih (a + 1) (by omega)
      have skip : cu_ac 1000000 10 ne ad ba h X Y a = false → cu_mk (cu_ac 1000000 10 ne ad ba h X Y) a = cu_mk (cu_ac 1000000 10 ne ad ba h X Y) (a + 1) := fun hz => by
        rw [cu_mk, if_neg (by rw [hz]; decide), Nat.or_zero]
      refine zd_iload E (pc := 85) d_U_nextCut_85 rfl ?_
      refine zd_aload_n E (pc := 87) d_U_nextCut_87 rfl ?_
      refine zd_get E (pc := 88) d_U_nextCut_88 kf_U_21 18 rfl rfl ?_
      refine zd_get E (pc := 91) d_U_nextCut_91 kf_U_71 1 rfl rfl ?_
      rw [t.hna.1]
      refine zd_nc_ge E (pc := 94) 139 d_U_nextCut_94 (by decide) ((by omega)) ((by omega)) (fun hq => ?_) (fun hq => ?_)
      · omega
      · refine zd_aload_n E (pc := 97) d_U_nextCut_97 rfl ?_
        refine zd_iload_n E (pc := 98) d_U_nextCut_98 rfl ?_
        refine zd_iload E (pc := 99) d_U_nextCut_99 rfl ?_
        refine zd_callV E (pc := 101) d_U_nextCut_101 kc_U_88 rfl ki_U_isBasedIn ke_U_isBasedIn 18 rfl rfl (c_U_isBasedIn l D (show Y < 2 ^ 31 by omega) han hna har) (by decide) rfl (Nat.le_of_ble_eq_true rfl) (fun v1 ws1 hv1 => ?_)
        obtain ⟨rfl, rfl⟩ := hv1
        refine zd_bf_eq E (pc := 104) 133 d_U_nextCut_104 (by decide) (fun hbit => ?_) (fun hbit => ?_)
        · refine tail _ (skip ?_)
          unfold cu_ac
          rw [ts_f hbit, Bool.false_and]
        · refine zd_aload_n E (pc := 107) d_U_nextCut_107 rfl ?_
          refine zd_get E (pc := 108) d_U_nextCut_108 kf_U_21 18 rfl rfl ?_
          refine zd_get E (pc := 111) d_U_nextCut_111 kf_U_74 1 rfl rfl ?_
          refine zd_iconst E (pc := 114) (v := (nI 1)) d_U_nextCut_114 (by decide) ?_
          refine zd_aald E (pc := 115) d_U_nextCut_115 3 rfl (t0 := 2) rfl rfl (1) (rfl) (by decide) (by decide) rfl ?_
          refine zd_iload E (pc := 116) d_U_nextCut_116 rfl ?_
          refine zd_iald E (pc := 118) d_U_nextCut_118 5 rfl (t0 := 0) rfl (a) (rfl) (ha12) (by decide) ?_
          rw [f5, a1]
          refine zd_iload_n E (pc := 119) d_U_nextCut_119 rfl ?_
          refine zd_iand E (pc := 120) d_U_nextCut_120 ?_
          rw [bm_and]
          have hle : ad a &&& X ≤ X := Nat.and_le_right
          refine zd_if_eq E (pc := 121) 133 d_U_nextCut_121 (by decide) (fun hz => ?_) (fun hz => ?_)
          · refine tail _ (skip ?_)
            have : ad a &&& X = 0 := (nI_eq (by omega) (by omega)).mp (hz.trans nI_0.symm)
            unfold cu_ac
            simp [this]
          · have hne : ad a &&& X ≠ 0 := fun y => hz (by rw [y]; rfl)
            refine zd_iload E (pc := 124) d_U_nextCut_124 rfl ?_
            refine zd_iconst E (pc := 126) (v := (nI 1)) d_U_nextCut_126 (by decide) ?_
            refine zd_iload E (pc := 127) d_U_nextCut_127 rfl ?_
            refine zd_ishl E (pc := 129) d_U_nextCut_129 ?_
            rw [bm_one (by omega)]
            refine zd_ior E (pc := 130) d_U_nextCut_130 ?_
            rw [bm_or]
            refine zd_istore E (pc := 131) d_U_nextCut_131 (by decide) ?_
            refine tail _ ?_
            have : cu_ac 1000000 10 ne ad ba h X Y a = true := by
              unfold cu_ac
              rw [hbit]
              simp [hne]
            rw [cu_mk, if_pos this]
  -- the bases
  have bases : ∀ (m a : Nat) (r1 : Nat → Nat → Int32) (ba : Nat → Nat), a + m = na → (∀ i, i ≠ 20 → r1 i = r i) → (∀ b, b < a → cu_B h (ne b) 10 (ba b) ∧ r1 20 b = (if cu_fin 1000000 10 ne h b = true then nI (ba b) else -1)) → Z (wd k q v r1 ex) [some (.ref (q 18)), some (.int (nI s)), some (.int (nI a)), none, none, none] 2 [] := by
    intro m
    induction m with
    | zero =>
      intro a r1 ba ha hf hall
      have e : a = na := by omega
      subst e
      have t1 : tk_C v r1 nf a fi go co ne ad dr := t.fr (fun _ _ => rfl) (hf 2 (by decide)) (hf 4 (by decide)) (hf 5 (by decide)) (hf 6 (by decide))
      have f17 : r1 17 = r 17 := hf 17 (by decide)
      have f19 : r1 19 = r 19 := hf 19 (by decide)
      have har : cu_ar r1 a (cu_fin 1000000 10 ne h) ba := fun b hb => ⟨(hall b hb).2, fun _ => b10 _ _ (hall b hb).1⟩
      refine zd_iload_n E (pc := 2) d_U_nextCut_2 rfl ?_
      refine zd_aload_n E (pc := 3) d_U_nextCut_3 rfl ?_
      refine zd_get E (pc := 4) d_U_nextCut_4 kf_U_21 18 rfl rfl ?_
      refine zd_get E (pc := 7) d_U_nextCut_7 kf_U_71 1 rfl rfl ?_
      rw [t.hna.1]
      refine zd_nc_ge E (pc := 10) 43 d_U_nextCut_10 (by decide) ((by omega)) ((by omega)) (fun hq => ?_) (fun hq => ?_)
      · refine zd_aload_n E (pc := 43) d_U_nextCut_43 rfl ?_
        refine zd_iconst E (pc := 44) (v := (nI 1)) d_U_nextCut_44 (by decide) ?_
        refine zd_aload_n E (pc := 45) d_U_nextCut_45 rfl ?_
        refine zd_get E (pc := 46) d_U_nextCut_46 kf_U_25 18 rfl rfl ?_
        refine zd_aload_n E (pc := 49) d_U_nextCut_49 rfl ?_
        refine zd_get E (pc := 50) d_U_nextCut_50 kf_U_21 18 rfl rfl ?_
        refine zd_get E (pc := 53) d_U_nextCut_53 kf_U_64 1 rfl rfl ?_
        rw [t.hgo.1]
        refine zd_callV E (pc := 56) d_U_nextCut_56 kc_U_78 rfl ki_V_baseOf ke_V_baseOf 16 rfl rfl (c_V_baseOf l D t.hgo.2 (fun i hi => ⟨by rw [f17]; exact (hh i hi).1, (hh i hi).2⟩)) (by decide) rfl (Nat.le_of_ble_eq_true rfl) (fun v1 ws1 hv1 => ?_)
        obtain ⟨gb, hgb, rfl, rfl⟩ := hv1
        rw [if_neg (by omega)]
        have hgb10 : gb < 10 := by
          rcases hgb with ⟨-, hz⟩ | ⟨z, -⟩
          · unfold lm_jn at hg0
            rw [cu_jp_0 hz] at hg0
            omega
          · exact z
        refine zd_ishl E (pc := 59) d_U_nextCut_59 ?_
        rw [bm_one (by omega)]
        have h2g : 2 ^ gb < 2 ^ 11 := Nat.pow_lt_pow_right (by omega) (by omega)
        refine zd_callV E (pc := 60) d_U_nextCut_60 kc_U_81 rfl ki_U_zoneBefore ke_U_zoneBefore 18 rfl rfl (c_U_zoneBefore l D h2g (Nat.ne_of_gt (Nat.two_pow_pos gb)) t.hna.1 hna (fun i hi => by rw [f19]; exact hc i hi) t1.had har) (by decide) rfl (Nat.le_of_ble_eq_true rfl) (fun v1 ws1 hv1 => ?_)
        obtain ⟨X, hXi, hX, rfl, rfl⟩ := hv1
        refine zd_istore_n E (pc := 63) d_U_nextCut_63 (by decide) ?_
        refine zd_aload_n E (pc := 64) d_U_nextCut_64 rfl ?_
        refine zd_iload_n E (pc := 65) d_U_nextCut_65 rfl ?_
        refine zd_sipush E (pc := 66) (v := (nI 1024)) d_U_nextCut_66 (by decide) ?_
        refine zd_ior E (pc := 69) d_U_nextCut_69 ?_
        rw [bm_or]
        refine zd_iload_n E (pc := 70) d_U_nextCut_70 rfl ?_
        refine zd_iconst E (pc := 71) (v := (-1)) d_U_nextCut_71 (by decide) ?_
        refine zd_ixor E (pc := 72) d_U_nextCut_72 ?_
        refine zd_iand E (pc := 73) d_U_nextCut_73 ?_
        rw [bm_dif32]
        refine zd_iload_n E (pc := 74) d_U_nextCut_74 rfl ?_
        have hst : bm_dif (s ||| 1024) X < 2 ^ 11 := tk_dif_lt (Nat.or_lt_two_pow (by omega) (by decide))
        refine zd_callV E (pc := 75) d_U_nextCut_75 kc_U_84 rfl ki_U_restBehind ke_U_restBehind 18 rfl rfl (c_U_restBehind l D hst t.hna.1 hna (fun i hi => ⟨(t1.had i hi).1, had11 i hi⟩) har) (by decide) rfl (Nat.le_of_ble_eq_true rfl) (fun v1 ws1 hv1 => ?_)
        obtain ⟨Y, hYi, hY, rfl, rfl⟩ := hv1
        refine zd_istore_n E (pc := 78) d_U_nextCut_78 (by decide) ?_
        refine zd_iconst E (pc := 79) (v := (nI 0)) d_U_nextCut_79 (by decide) ?_
        refine zd_istore E (pc := 80) d_U_nextCut_80 (by decide) ?_
        refine zd_iconst E (pc := 82) (v := (nI 0)) d_U_nextCut_82 (by decide) ?_
        refine zd_istore E (pc := 83) d_U_nextCut_83 (by decide) ?_
        exact across ba X Y r1 gb hf har (fun b hb => (hall b hb).1) hgb hX hY hXi hYi a 0 (by omega)
      · omega
    | succ m ih =>
      intro a r1 ba ha hf hall
      have ha12 : a < 12 := by omega
      have f17 : r1 17 = r 17 := hf 17 (by decide)
      have f4 : r1 4 = r 4 := hf 4 (by decide)
      obtain ⟨n1, n2⟩ := t.hne a ha12
      refine zd_iload_n E (pc := 2) d_U_nextCut_2 rfl ?_
      refine zd_aload_n E (pc := 3) d_U_nextCut_3 rfl ?_
      refine zd_get E (pc := 4) d_U_nextCut_4 kf_U_21 18 rfl rfl ?_
      refine zd_get E (pc := 7) d_U_nextCut_7 kf_U_71 1 rfl rfl ?_
      rw [t.hna.1]
      refine zd_nc_ge E (pc := 10) 43 d_U_nextCut_10 (by decide) ((by omega)) ((by omega)) (fun hq => ?_) (fun hq => ?_)
      · omega
      · refine zd_aload_n E (pc := 13) d_U_nextCut_13 rfl ?_
        refine zd_get E (pc := 14) d_U_nextCut_14 kf_U_15 18 rfl rfl ?_
        refine zd_iload_n E (pc := 17) d_U_nextCut_17 rfl ?_
        refine zd_aload_n E (pc := 18) d_U_nextCut_18 rfl ?_
        refine zd_get E (pc := 19) d_U_nextCut_19 kf_U_25 18 rfl rfl ?_
        refine zd_aload_n E (pc := 22) d_U_nextCut_22 rfl ?_
        refine zd_get E (pc := 23) d_U_nextCut_23 kf_U_21 18 rfl rfl ?_
        refine zd_get E (pc := 26) d_U_nextCut_26 kf_U_74 1 rfl rfl ?_
        refine zd_iconst E (pc := 29) (v := (nI 0)) d_U_nextCut_29 (by decide) ?_
        refine zd_aald E (pc := 30) d_U_nextCut_30 3 rfl (t0 := 2) rfl rfl (0) (rfl) (by decide) (by decide) rfl ?_
        refine zd_iload_n E (pc := 31) d_U_nextCut_31 rfl ?_
        refine zd_iald E (pc := 32) d_U_nextCut_32 4 rfl (t0 := 0) rfl (a) (rfl) (ha12) (by decide) ?_
        rw [f4, n1]
        refine zd_callV E (pc := 33) d_U_nextCut_33 kc_U_78 rfl ki_V_baseOf ke_V_baseOf 16 rfl rfl (c_V_baseOf l D n2 (fun i hi => ⟨by rw [f17]; exact (hh i hi).1, (hh i hi).2⟩)) (by decide) rfl (Nat.le_of_ble_eq_true rfl) (fun v1 ws1 hv1 => ?_)
        obtain ⟨b, hb, rfl, rfl⟩ := hv1
        rw [val]
        refine zd_iast E (pc := 36) d_U_nextCut_36 20 rfl (t0 := 0) rfl (a) (rfl) (ha12) (by decide) (ws1 := wd k q v (va_up r1 20 (upd (r1 20) a (if decide (lm_jn 1000000 false h (ne a) 10 < 1000000) = true then nI b else -1))) ex) rfl ?_
        refine zd_iinc E (pc := 37) d_U_nextCut_37 rfl (bm_inc a) (by decide) ?_
        refine zd_goto E (pc := 40) 2 d_U_nextCut_40 (by decide) ?_
        refine ih (a + 1) _ (va_up ba a b) (by omega) (fun i hi => by rw [va_up_ne _ _ hi]; exact hf i hi) (fun b2 hb2 => ?_)
        rw [va_up_self]
        by_cases e : b2 = a
        · subst e
          rw [va_up_self, pk_us]
          exact ⟨hb, rfl⟩
        · rw [va_up_ne _ _ e, pk_un e]
          exact hall b2 (by omega)
  refine zd_iconst E (pc := 0) (v := (nI 0)) d_U_nextCut_0 (by decide) ?_
  refine zd_istore_n E (pc := 1) d_U_nextCut_1 (by decide) ?_
  exact bases na 0 r (fun _ => 0) (by omega) (fun _ _ => rfl) (fun b hb => by omega)
end CO
