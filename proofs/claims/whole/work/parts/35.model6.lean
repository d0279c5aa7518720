/-! The reference: its levels. -/
section ZZ3
variable {Z : va_W → List (Option Value) → Nat → List Value → Prop} {l : Launch} {D : va_G} {cl : List vw_C} {tys : List (ClassId × FieldType)} {cc : ByteArray} {nL : Nat} {own : String} {Ts : List Cond} {R : Room} {ret : Option FieldType} {post : Option Value → va_W → Prop}
variable {ws : va_W} {L : List (Option Value)} {pc : Nat} {st : List Value}
/-- a bit, held against 1 -/
theorem zd_hb_ne (E : zd_E Z l D cl tys cc nL own Ts R ret post) {P : Prop} [Decidable P] {off : Int} (tgt : Nat) (d : decode cc pc = .ok (.if_icmp .ne off, 3)) (ht : (pc : Int) + off = (tgt : Int)) (kt : ¬ P → Z ws L tgt st) (kf : P → Z ws L (pc + 3) st) : Z ws L pc (.int (nI 1) :: .int (nI (if P then 1 else 0)) :: st) := by
  refine zd_ic_ne E tgt d ht (fun h => ?_) (fun h => ?_)
  · by_cases p : P
    · rw [if_pos p] at h; exact absurd rfl h
    · exact kt p
  · by_cases p : P
    · exact kf p
    · rw [if_neg p] at h; exact absurd (Classical.not_not.mp h) (by decide)
theorem zd_hb_eq (E : zd_E Z l D cl tys cc nL own Ts R ret post) {P : Prop} [Decidable P] {off : Int} (tgt : Nat) (d : decode cc pc = .ok (.if_icmp .eq off, 3)) (ht : (pc : Int) + off = (tgt : Int)) (kt : P → Z ws L tgt st) (kf : ¬ P → Z ws L (pc + 3) st) : Z ws L pc (.int (nI 1) :: .int (nI (if P then 1 else 0)) :: st) := by
  refine zd_ic_eq E tgt d ht (fun h => ?_) (fun h => ?_)
  · by_cases p : P
    · exact kt p
    · rw [if_neg p] at h; exact absurd h (by decide)
  · by_cases p : P
    · rw [if_pos p] at h; exact absurd rfl h
    · exact kf p
end ZZ3
theorem lm_lows_yes {S x : Nat} {h : Nat → Nat} : ∀ {n : Nat}, lm_lows S x h n = true → ∃ j, j < n ∧ S.testBit j = true ∧ x < h j
  | 0, hl => by cases hl
  | n + 1, hl => by
    unfold lm_lows at hl
    simp only [Bool.or_eq_true, decide_eq_true_eq] at hl
    rcases hl with hl | hl
    · obtain ⟨j, h1, h2⟩ := lm_lows_yes hl
      exact ⟨j, by omega, h2⟩
    · exact ⟨n, by omega, hl⟩
section M6
variable {k : Nat → ClassId} {q : Nat → Nat} {v : Nat → Int32} {r : Nat → Nat → Int32} {ex : va_W} {nf na fi go : Nat} {co ne ad dr : Nat → Nat}
set_option maxRecDepth 100000 in
set_option maxHeartbeats 4000000 in
theorem c_M_over (l : Launch) (D : va_G) {S : Nat} {w : Bool} {h : Nat → Nat} (t : tk_M v r nf na fi go co ne ad dr) (hS : S < 2 ^ 31) (hh : ∀ i, i < nf → r 32 i = nI (h i) ∧ h i ≤ 1048576) : zd_Ct l D classes (wd_ty k) gd_T y_M_over b_M_over 5 (some .int) (zd_rm 0) [.ref (q 22), .int (nI S), .int (nI (bm_b w))] (wd k q v r ex) (zd_is (some (.int (nI (lm_jn 1048576 w h S nf)))) (wd k q v r ex)) := by
  refine zd_met gd_all (by decide) rfl (Nat.le_of_ble_eq_true rfl) (fun Z E => ?_)
  show Z (wd k q v r ex) [some (.ref (q 22)), some (.int (nI S)), some (.int (nI (bm_b w))), none, none] 0 []
  have hnf := t.2.2.1.1
  have h11 : v 11 = nI nf := t.1.1
  have bd : ∀ i, i ≤ nf → lm_jp w h S i ≤ 1048576 * i := fun i hi => lm_jp_bd fun j hj => (hh j (by omega)).2
  have loop : ∀ m i, i + m = nf → Z (wd k q v r ex) [some (.ref (q 22)), some (.int (nI S)), some (.int (nI (bm_b w))), some (.int (nI (lm_jp w h S i))), some (.int (nI i))] 5 [] := by
    intro m
    induction m with
    | zero =>
      intro i hi
      have e : i = nf := by omega
      subst e
      have b10 := bd i (Nat.le_refl _)
      have b11 : lm_jp w h S i < 2 ^ 31 := by
        have : 1048576 * i ≤ 1048576 * 10 := Nat.mul_le_mul_left _ hnf
        omega
      refine zd_iload E (pc := 5) d_M_over_5 rfl ?_
      refine zd_aload_n E (pc := 7) d_M_over_7 rfl ?_
      refine zd_get E (pc := 8) d_M_over_8 kf_M_48 22 rfl rfl ?_
      rw [h11]
      refine zd_nc_ge E (pc := 11) 69 d_M_over_11 (by decide) ((by omega)) ((by omega)) (fun hc => ?_) (fun hc => ?_)
      · refine zd_iload_n E (pc := 69) d_M_over_69 rfl ?_
        refine zd_ldc E (pc := 70) (v := (nI 1048576)) d_M_over_70 kk_M_87 ?_
        refine zd_nc_le E (pc := 72) 80 d_M_over_72 (by decide) (b11) ((by omega)) (fun hd => ?_) (fun hd => ?_)
        · refine zd_iload_n E (pc := 80) d_M_over_80 rfl ?_
          exact zd_iret E (pc := 81) d_M_over_81 ⟨by unfold lm_jn; rw [Nat.min_eq_left hd], rfl⟩
        · refine zd_ldc E (pc := 75) (v := (nI 1048576)) d_M_over_75 kk_M_87 ?_
          refine zd_goto E (pc := 77) 81 d_M_over_77 (by decide) ?_
          exact zd_iret E (pc := 81) d_M_over_81 ⟨by unfold lm_jn; rw [Nat.min_eq_right (by omega)], rfl⟩
      · omega
    | succ m ih =>
      intro i hi
      have bi := bd i (by omega)
      have bi1 : lm_jp w h S i < 2 ^ 30 := by
        have : 1048576 * i ≤ 1048576 * 10 := Nat.mul_le_mul_left _ (by omega)
        omega
      obtain ⟨e1, e2⟩ := hh i (by omega)
      have tail : ∀ x, x = lm_jp w h S (i + 1) → Z (wd k q v r ex) [some (.ref (q 22)), some (.int (nI S)), some (.int (nI (bm_b w))), some (.int (nI x)), some (.int (nI i))] 63 [] := by
        intro x hx
        subst hx
        refine zd_iinc E (pc := 63) d_M_over_63 rfl (bm_inc i) (by decide) ?_
        refine zd_goto E (pc := 66) 5 d_M_over_66 (by decide) ?_
        exact ih (i + 1) (by omega)
      refine zd_iload E (pc := 5) d_M_over_5 rfl ?_
      refine zd_aload_n E (pc := 7) d_M_over_7 rfl ?_
      refine zd_get E (pc := 8) d_M_over_8 kf_M_48 22 rfl rfl ?_
      rw [h11]
      refine zd_nc_ge E (pc := 11) 69 d_M_over_11 (by decide) ((by omega)) ((by omega)) (fun hc => ?_) (fun hc => ?_)
      · omega
      · refine zd_iload_n E (pc := 14) d_M_over_14 rfl ?_
        refine zd_iload E (pc := 15) d_M_over_15 rfl ?_
        refine zd_ishr E (pc := 17) d_M_over_17 ?_
        refine zd_iconst E (pc := 18) (v := (nI 1)) d_M_over_18 (by decide) ?_
        refine zd_iand E (pc := 19) d_M_over_19 ?_
        rw [bm_has hS (show i < 32 by omega)]
        refine zd_iconst E (pc := 20) (v := (nI 1)) d_M_over_20 (by decide) ?_
        refine zd_hb_ne E (pc := 21) 63 d_M_over_21 (by decide) (fun hb => ?_) (fun hb => ?_)
        · exact tail _ (by rw [lm_jp, if_neg hb])
        · refine zd_iload_n E (pc := 24) d_M_over_24 rfl ?_
          refine zd_bf_eq E (pc := 25) 40 d_M_over_25 (by decide) (fun hw => ?_) (fun hw => ?_)
          · refine zd_aload_n E (pc := 40) d_M_over_40 rfl ?_
            refine zd_get E (pc := 41) d_M_over_41 kf_M_38 22 rfl rfl ?_
            refine zd_iload E (pc := 44) d_M_over_44 rfl ?_
            refine zd_iald E (pc := 46) d_M_over_46 32 rfl (t0 := 0) rfl (i) (rfl) ((by omega)) (by decide) ?_
            rw [e1]
            refine zd_iload_n E (pc := 47) d_M_over_47 rfl ?_
            refine zd_nc_le E (pc := 48) 61 d_M_over_48 (by decide) ((by omega)) ((by omega)) (fun hd => ?_) (fun hd => ?_)
            · refine zd_iload_n E (pc := 61) d_M_over_61 rfl ?_
              refine zd_istore_n E (pc := 62) d_M_over_62 (by decide) ?_
              exact tail _ (by rw [lm_jp, if_pos hb, if_neg hw, Nat.max_eq_left hd])
            · refine zd_aload_n E (pc := 51) d_M_over_51 rfl ?_
              refine zd_get E (pc := 52) d_M_over_52 kf_M_38 22 rfl rfl ?_
              refine zd_iload E (pc := 55) d_M_over_55 rfl ?_
              refine zd_iald E (pc := 57) d_M_over_57 32 rfl (t0 := 0) rfl (i) (rfl) ((by omega)) (by decide) ?_
              rw [e1]
              refine zd_goto E (pc := 58) 62 d_M_over_58 (by decide) ?_
              refine zd_istore_n E (pc := 62) d_M_over_62 (by decide) ?_
              exact tail _ (by rw [lm_jp, if_pos hb, if_neg hw, Nat.max_eq_right (by omega)])
          · refine zd_iload_n E (pc := 28) d_M_over_28 rfl ?_
            refine zd_aload_n E (pc := 29) d_M_over_29 rfl ?_
            refine zd_get E (pc := 30) d_M_over_30 kf_M_38 22 rfl rfl ?_
            refine zd_iload E (pc := 33) d_M_over_33 rfl ?_
            refine zd_iald E (pc := 35) d_M_over_35 32 rfl (t0 := 0) rfl (i) (rfl) ((by omega)) (by decide) ?_
            rw [e1]
            refine zd_iadd E (pc := 36) d_M_over_36 ?_
            rw [nI_add]
            refine zd_goto E (pc := 37) 62 d_M_over_37 (by decide) ?_
            refine zd_istore_n E (pc := 62) d_M_over_62 (by decide) ?_
            exact tail _ (by rw [lm_jp, if_pos hb, if_pos hw])
  refine zd_iconst E (pc := 0) (v := (nI 0)) d_M_over_0 (by decide) ?_
  refine zd_istore_n E (pc := 1) d_M_over_1 (by decide) ?_
  refine zd_iconst E (pc := 2) (v := (nI 0)) d_M_over_2 (by decide) ?_
  refine zd_istore E (pc := 3) d_M_over_3 (by decide) ?_
  exact loop nf 0 (by omega)
set_option maxRecDepth 100000 in
set_option maxHeartbeats 4000000 in
theorem c_M_ownRates (l : Launch) (D : va_G) (t : tk_M v r nf na fi go co ne ad dr) : zd_Ct l D classes (wd_ty k) gd_T y_M_ownRates b_M_ownRates 2 none (zd_rm 0) [.ref (q 22)] (wd k q v r ex)
    (fun v1 w1 => ∃ r2 : Nat → Nat → Int32, (∀ i, i ≠ 31 → r2 i = r i) ∧ (∀ i, i < na → r2 31 i = nI (co i)) ∧ v1 = none ∧ w1 = wd k q v r2 ex) := by
  refine zd_met gd_all (by decide) rfl (Nat.le_of_ble_eq_true rfl) (fun Z E => ?_)
  show Z (wd k q v r ex) [some (.ref (q 22)), none] 0 []
  have hna := t.hna.2
  have h14 : v 14 = nI na := t.hna.1
  have loop : ∀ (m a : Nat) (r1 : Nat → Nat → Int32), a + m = na → (∀ i, i ≠ 31 → r1 i = r i) → (∀ i, i < a → r1 31 i = nI (co i)) → Z (wd k q v r1 ex) [some (.ref (q 22)), some (.int (nI a))] 2 [] := by
    intro m
    induction m with
    | zero =>
      intro a r1 ha hf hr
      have e : a = na := by omega
      subst e
      refine zd_iload_n E (pc := 2) d_M_ownRates_2 rfl ?_
      refine zd_aload_n E (pc := 3) d_M_ownRates_3 rfl ?_
      refine zd_get E (pc := 4) d_M_ownRates_4 kf_M_51 22 rfl rfl ?_
      rw [h14]
      refine zd_nc_ge E (pc := 7) 28 d_M_ownRates_7 (by decide) ((by omega)) ((by omega)) (fun hq => ?_) (fun hq => ?_)
      · exact zd_vret E (pc := 28) d_M_ownRates_28 ⟨r1, hf, hr, rfl, rfl⟩
      · omega
    | succ m ih =>
      intro a r1 ha hf hr
      have ha12 : a < 12 := by omega
      have c1 : r1 23 a = nI (co a) := by rw [hf 23 (by decide)]; exact (t.hco a ha12).1
      refine zd_iload_n E (pc := 2) d_M_ownRates_2 rfl ?_
      refine zd_aload_n E (pc := 3) d_M_ownRates_3 rfl ?_
      refine zd_get E (pc := 4) d_M_ownRates_4 kf_M_51 22 rfl rfl ?_
      rw [h14]
      refine zd_nc_ge E (pc := 7) 28 d_M_ownRates_7 (by decide) ((by omega)) ((by omega)) (fun hq => ?_) (fun hq => ?_)
      · omega
      · refine zd_aload_n E (pc := 10) d_M_ownRates_10 rfl ?_
        refine zd_get E (pc := 11) d_M_ownRates_11 kf_M_35 22 rfl rfl ?_
        refine zd_iload_n E (pc := 14) d_M_ownRates_14 rfl ?_
        refine zd_aload_n E (pc := 15) d_M_ownRates_15 rfl ?_
        refine zd_get E (pc := 16) d_M_ownRates_16 kf_M_7 22 rfl rfl ?_
        refine zd_iload_n E (pc := 19) d_M_ownRates_19 rfl ?_
        refine zd_iald E (pc := 20) d_M_ownRates_20 23 rfl (t0 := 0) rfl (a) (rfl) (ha12) (by decide) ?_
        rw [c1]
        refine zd_iast E (pc := 21) d_M_ownRates_21 31 rfl (t0 := 0) rfl (a) (rfl) (ha12) (by decide) (ws1 := wd k q v (va_up r1 31 (upd (r1 31) a (nI (co a)))) ex) rfl ?_
        refine zd_iinc E (pc := 22) d_M_ownRates_22 rfl (bm_inc a) (by decide) ?_
        refine zd_goto E (pc := 25) 2 d_M_ownRates_25 (by decide) ?_
        refine ih (a + 1) _ (by omega) (fun i hi => by rw [va_up_ne _ _ hi]; exact hf i hi) (fun i hi => ?_)
        rw [va_up_self]
        by_cases e : i = a
        · subst e; rw [pk_us]
        · rw [pk_un e]; exact hr i (by omega)
  refine zd_iconst E (pc := 0) (v := (nI 0)) d_M_ownRates_0 (by decide) ?_
  refine zd_istore_n E (pc := 1) d_M_ownRates_1 (by decide) ?_
  exact loop na 0 r (by omega) (fun _ _ => rfl) (fun i hi => by omega)
set_option maxRecDepth 100000 in
set_option maxHeartbeats 4000000 in
theorem c_M_findLevels (l : Launch) (D : va_G) {s B : Nat} {w : Bool} {c : Nat → Nat} (t : tk_M v r nf na fi go co ne ad dr) (hs : v 15 = nI s) (hs2 : s < 2 ^ nf) (hB : B < 2 ^ 31) (hc : ∀ i, i < na → r 31 i = nI (c i) ∧ c i ≤ 9) : zd_Ct l D classes (wd_ty k) gd_T y_M_findLevels b_M_findLevels 7 none (zd_rm 1) [.ref (q 22), .int (nI (bm_b w)), .int (nI B)] (wd k q v r ex)
    (fun v1 w1 => ∃ (r2 : Nat → Nat → Int32) (kk : Nat), (∀ i, i ≠ 32 → r2 i = r i) ∧ (∀ f, f < nf → r2 32 f = nI (lm_it 1048576 w nf na c ne ad (fun a => decide (ad a &&& B ≠ 0)) (lm_i0 1048576 s) kk f)) ∧ lm_px 1048576 w nf na c ne ad (fun a => decide (ad a &&& B ≠ 0)) (lm_it 1048576 w nf na c ne ad (fun a => decide (ad a &&& B ≠ 0)) (lm_i0 1048576 s) kk) ∧ v1 = none ∧ w1 = wd k q v r2 ex) := by
  generalize hbar : (fun a => decide (ad a &&& B ≠ 0)) = bar
  refine zd_met gd_all (by decide) rfl (Nat.le_of_ble_eq_true rfl) (fun Z E => ?_)
  show Z (wd k q v r ex) [some (.ref (q 22)), some (.int (nI (bm_b w))), some (.int (nI B)), none, none, none, none] 0 []
  have hbar1 : ∀ a, bar a = decide (ad a &&& B ≠ 0) := fun a => by rw [← hbar]
  have hnf := t.2.2.1.1
  have hna := t.hna.2
  have hN := t.n31
  have h11 : v 11 = nI nf := t.1.1
  have h14 : v 14 = nI na := t.hna.1
  have tr : ∀ r1 : Nat → Nat → Int32, (∀ i, i ≠ 32 → r1 i = r i) → tk_M v r1 nf na fi go co ne ad dr := fun r1 hf => tk_mfr t rfl rfl rfl rfl (hf 23 (by decide)) (hf 24 (by decide)) (hf 25 (by decide)) (hf 26 (by decide))
  have itK : ∀ t j, lm_it 1048576 w nf na c ne ad bar (lm_i0 1048576 s) t j ≤ 1048576 := fun t j => Nat.le_trans (lm_it_le _ _ _) (lm_i0_le _ _ _)
  have rdK : ∀ t a j, lm_rd 1048576 w nf c ne ad bar (lm_it 1048576 w nf na c ne ad bar (lm_i0 1048576 s) t) a j ≤ 1048576 := fun t a j => Nat.le_trans (lm_rd_le _ _ _) (itK t j)
  -- the facts that an action adds
  have facts : ∀ (m f a x : Nat) (h : Nat → Nat) (b0 : Bool) (r1 : Nat → Nat → Int32), f + m = nf → a < na → x < 2 ^ 30 → (∀ j, h j ≤ 1048576) → (∀ i, i ≠ 32 → r1 i = r i) → (∀ j, j < nf → r1 32 j = nI (if j < f ∧ (ad a).testBit j = true ∧ x < h j then x else h j)) →
      (∀ (r1 : Nat → Nat → Int32) (L6 : Option Value), (∀ i, i ≠ 32 → r1 i = r i) → (∀ j, j < nf → r1 32 j = nI (if (ad a).testBit j = true ∧ x < h j then x else h j)) → Z (wd k q v r1 ex) [some (.ref (q 22)), some (.int (nI (bm_b w))), some (.int (nI B)), some (.int (nI (bm_b (b0 || lm_lows (ad a) x h nf)))), some (.int (nI a)), some (.int (nI x)), L6] 156 []) →
      Z (wd k q v r1 ex) [some (.ref (q 22)), some (.int (nI (bm_b w))), some (.int (nI B)), some (.int (nI (bm_b (b0 || lm_lows (ad a) x h f)))), some (.int (nI a)), some (.int (nI x)), some (.int (nI f))] 102 [] := by
    intro m
    induction m with
    | zero =>
      intro f a x h b0 r1 hf0 ha hx hh hf hr kk
      have e : f = nf := by omega
      subst e
      refine zd_iload E (pc := 102) d_M_findLevels_102 rfl ?_
      refine zd_aload_n E (pc := 104) d_M_findLevels_104 rfl ?_
      refine zd_get E (pc := 105) d_M_findLevels_105 kf_M_48 22 rfl rfl ?_
      rw [h11]
      refine zd_nc_ge E (pc := 108) 156 d_M_findLevels_108 (by decide) ((by omega)) ((by omega)) (fun hq => ?_) (fun hq => ?_)
      · exact kk r1 _ hf (fun j hj => by rw [hr j hj]; simp [hj])
      · omega
    | succ m ih =>
      intro f a x h b0 r1 hf0 ha hx hh hf hr kk
      have ha12 : a < 12 := by omega
      have t1 := tr r1 hf
      obtain ⟨a1, a2⟩ := t1.had a ha12
      have a1 : r1 25 a = nI (ad a) := a1
      have hrf : r1 32 f = nI (h f) := by rw [hr f (by omega), if_neg (by omega)]
      have hhf := hh f
      have tail : ∀ (r2 : Nat → Nat → Int32) (b : Nat), (∀ i, i ≠ 32 → r2 i = r i) → (∀ j, j < nf → r2 32 j = nI (if j < f + 1 ∧ (ad a).testBit j = true ∧ x < h j then x else h j)) → b = bm_b (b0 || lm_lows (ad a) x h (f + 1)) → Z (wd k q v r2 ex) [some (.ref (q 22)), some (.int (nI (bm_b w))), some (.int (nI B)), some (.int (nI b)), some (.int (nI a)), some (.int (nI x)), some (.int (nI f))] 150 [] := by
        intro r2 b hf2 hr2 hb
        subst hb
        refine zd_iinc E (pc := 150) d_M_findLevels_150 rfl (bm_inc f) (by decide) ?_
        refine zd_goto E (pc := 153) 102 d_M_findLevels_153 (by decide) ?_
        exact ih (f + 1) a x h b0 r2 (by omega) ha hx hh hf2 hr2 kk
      have same : ¬ ((ad a).testBit f = true ∧ x < h f) → Z (wd k q v r1 ex) [some (.ref (q 22)), some (.int (nI (bm_b w))), some (.int (nI B)), some (.int (nI (bm_b (b0 || lm_lows (ad a) x h f)))), some (.int (nI a)), some (.int (nI x)), some (.int (nI f))] 150 [] := by
        intro hn
        refine tail r1 _ hf (fun j hj => ?_) ?_
        · rw [hr j hj]
          by_cases e : j = f
          · subst e
            rw [if_neg (fun z => hn z.2), if_neg (fun z => hn z.2)]
          · have : (j < f ∧ (ad a).testBit j = true ∧ x < h j) ↔ (j < f + 1 ∧ (ad a).testBit j = true ∧ x < h j) := by
              constructor
              · rintro ⟨a, b⟩; exact ⟨by omega, b⟩
              · rintro ⟨a, b⟩; exact ⟨by omega, b⟩
            simp only [this]
        · show _ = bm_b (b0 || (lm_lows (ad a) x h f || decide ((ad a).testBit f = true ∧ x < h f)))
          rw [decide_eq_false hn, Bool.or_false]
      refine zd_iload E (pc := 102) d_M_findLevels_102 rfl ?_
      refine zd_aload_n E (pc := 104) d_M_findLevels_104 rfl ?_
      refine zd_get E (pc := 105) d_M_findLevels_105 kf_M_48 22 rfl rfl ?_
      rw [h11]
      refine zd_nc_ge E (pc := 108) 156 d_M_findLevels_108 (by decide) ((by omega)) ((by omega)) (fun hq => ?_) (fun hq => ?_)
      · omega
      · refine zd_aload_n E (pc := 111) d_M_findLevels_111 rfl ?_
        refine zd_get E (pc := 112) d_M_findLevels_112 kf_M_16 22 rfl rfl ?_
        refine zd_iload E (pc := 115) d_M_findLevels_115 rfl ?_
        refine zd_iald E (pc := 117) d_M_findLevels_117 25 rfl (t0 := 0) rfl (a) (rfl) (ha12) (by decide) ?_
        rw [a1]
        refine zd_iload E (pc := 118) d_M_findLevels_118 rfl ?_
        refine zd_ishr E (pc := 120) d_M_findLevels_120 ?_
        refine zd_iconst E (pc := 121) (v := (nI 1)) d_M_findLevels_121 (by decide) ?_
        refine zd_iand E (pc := 122) d_M_findLevels_122 ?_
        rw [bm_has a2 (show f < 32 by omega)]
        refine zd_iconst E (pc := 123) (v := (nI 1)) d_M_findLevels_123 (by decide) ?_
        refine zd_hb_ne E (pc := 124) 150 d_M_findLevels_124 (by decide) (fun hb => ?_) (fun hb => ?_)
        · exact same (fun z => hb z.1)
        · refine zd_iload E (pc := 127) d_M_findLevels_127 rfl ?_
          refine zd_aload_n E (pc := 129) d_M_findLevels_129 rfl ?_
          refine zd_get E (pc := 130) d_M_findLevels_130 kf_M_38 22 rfl rfl ?_
          refine zd_iload E (pc := 133) d_M_findLevels_133 rfl ?_
          refine zd_iald E (pc := 135) d_M_findLevels_135 32 rfl (t0 := 0) rfl (f) (rfl) ((by omega)) (by decide) ?_
          rw [hrf]
          refine zd_nc_ge E (pc := 136) 150 d_M_findLevels_136 (by decide) ((by omega)) ((by omega)) (fun hl => ?_) (fun hl => ?_)
          · exact same (fun z => by omega)
          · refine zd_aload_n E (pc := 139) d_M_findLevels_139 rfl ?_
            refine zd_get E (pc := 140) d_M_findLevels_140 kf_M_38 22 rfl rfl ?_
            refine zd_iload E (pc := 143) d_M_findLevels_143 rfl ?_
            refine zd_iload E (pc := 145) d_M_findLevels_145 rfl ?_
            refine zd_iast E (pc := 147) d_M_findLevels_147 32 rfl (t0 := 0) rfl (f) (rfl) ((by omega)) (by decide) (ws1 := wd k q v (va_up r1 32 (upd (r1 32) f (nI x))) ex) rfl ?_
            refine zd_iconst E (pc := 148) (v := (nI 1)) d_M_findLevels_148 (by decide) ?_
            refine zd_istore_n E (pc := 149) d_M_findLevels_149 (by decide) ?_
            refine tail _ 1 (fun i hi => by rw [va_up_ne _ _ hi]; exact hf i hi) (fun j hj => ?_) ?_
            · rw [va_up_self]
              by_cases e : j = f
              · subst e
                rw [pk_us, if_pos ⟨by omega, hb, hl⟩]
              · rw [pk_un e, hr j hj]
                have : (j < f ∧ (ad a).testBit j = true ∧ x < h j) ↔ (j < f + 1 ∧ (ad a).testBit j = true ∧ x < h j) := by
                  constructor
                  · rintro ⟨a, b⟩; exact ⟨by omega, b⟩
                  · rintro ⟨a, b⟩; exact ⟨by omega, b⟩
                simp only [this]
            · show 1 = bm_b (b0 || (lm_lows (ad a) x h f || decide ((ad a).testBit f = true ∧ x < h f)))
              rw [decide_eq_true ⟨hb, hl⟩, Bool.or_true, Bool.or_true]
              rfl
  have acts : ∀ (m a t9 : Nat) (b : Bool) (r1 : Nat → Nat → Int32) (L5 L6 : Option Value), a + m = na → (∀ i, i ≠ 32 → r1 i = r i) → (∀ j, j < nf → r1 32 j = nI (lm_rd 1048576 w nf c ne ad bar (lm_it 1048576 w nf na c ne ad bar (lm_i0 1048576 s) t9) a j)) → (b = false → ∀ j, j < nf → lm_rd 1048576 w nf c ne ad bar (lm_it 1048576 w nf na c ne ad bar (lm_i0 1048576 s) t9) a j = lm_it 1048576 w nf na c ne ad bar (lm_i0 1048576 s) t9 j) → (b = true → ∃ j, j < nf ∧ lm_rd 1048576 w nf c ne ad bar (lm_it 1048576 w nf na c ne ad bar (lm_i0 1048576 s) t9) a j < lm_it 1048576 w nf na c ne ad bar (lm_i0 1048576 s) t9 j) →
      (∀ (b : Bool) (r1 : Nat → Nat → Int32) (L4 L5 L6 : Option Value), (∀ i, i ≠ 32 → r1 i = r i) → (∀ j, j < nf → r1 32 j = nI (lm_it 1048576 w nf na c ne ad bar (lm_i0 1048576 s) (t9 + 1) j)) → (b = false → lm_px 1048576 w nf na c ne ad bar (lm_it 1048576 w nf na c ne ad bar (lm_i0 1048576 s) (t9 + 1))) → (b = true → lm_sum (lm_it 1048576 w nf na c ne ad bar (lm_i0 1048576 s) (t9 + 1)) nf < lm_sum (lm_it 1048576 w nf na c ne ad bar (lm_i0 1048576 s) t9) nf) → Z (wd k q v r1 ex) [some (.ref (q 22)), some (.int (nI (bm_b w))), some (.int (nI B)), some (.int (nI (bm_b b))), L4, L5, L6] 162 []) →
      Z (wd k q v r1 ex) [some (.ref (q 22)), some (.int (nI (bm_b w))), some (.int (nI B)), some (.int (nI (bm_b b))), some (.int (nI a)), L5, L6] 51 [] := by
    intro m
    induction m with
    | zero =>
      intro a t9 b r1 L5 L6 ha hf hr hb0 hb1 kk
      have e : a = na := by omega
      subst e
      refine zd_iload E (pc := 51) d_M_findLevels_51 rfl ?_
      refine zd_aload_n E (pc := 53) d_M_findLevels_53 rfl ?_
      refine zd_get E (pc := 54) d_M_findLevels_54 kf_M_51 22 rfl rfl ?_
      rw [h14]
      refine zd_nc_ge E (pc := 57) 162 d_M_findLevels_57 (by decide) ((by omega)) ((by omega)) (fun hq => ?_) (fun hq => ?_)
      · refine kk b r1 _ _ _ hf hr (fun z => ?_) (fun z => ?_)
        · have h1 := hb0 z
          exact lm_px_congr (fun f hf => (h1 f hf).symm) (lm_rd_fix h1)
        · exact lm_sum_lt (fun f _ => lm_rd_le _ _ _) (hb1 z)
      · omega
    | succ m ih =>
      intro a t9 b r1 L5 L6 ha hf hr hb0 hb1 kk
      have ha12 : a < 12 := by omega
      have t1 := tr r1 hf
      obtain ⟨a1, a2⟩ := t1.had a ha12
      have a1 : r1 25 a = nI (ad a) := a1
      obtain ⟨n1, n2⟩ := t1.hne a ha12
      have n1 : r1 24 a = nI (ne a) := n1
      obtain ⟨c1, c2⟩ := hc a (by omega)
      have c1 : r1 31 a = nI (c a) := by rw [hf 31 (by decide)]; exact c1
      have tail : ∀ (b : Bool) (r1 : Nat → Nat → Int32) (L5 L6 : Option Value), (∀ i, i ≠ 32 → r1 i = r i) → (∀ j, j < nf → r1 32 j = nI (lm_rd 1048576 w nf c ne ad bar (lm_it 1048576 w nf na c ne ad bar (lm_i0 1048576 s) t9) (a + 1) j)) → (b = false → ∀ j, j < nf → lm_rd 1048576 w nf c ne ad bar (lm_it 1048576 w nf na c ne ad bar (lm_i0 1048576 s) t9) (a + 1) j = lm_it 1048576 w nf na c ne ad bar (lm_i0 1048576 s) t9 j) → (b = true → ∃ j, j < nf ∧ lm_rd 1048576 w nf c ne ad bar (lm_it 1048576 w nf na c ne ad bar (lm_i0 1048576 s) t9) (a + 1) j < lm_it 1048576 w nf na c ne ad bar (lm_i0 1048576 s) t9 j) → Z (wd k q v r1 ex) [some (.ref (q 22)), some (.int (nI (bm_b w))), some (.int (nI B)), some (.int (nI (bm_b b))), some (.int (nI a)), L5, L6] 156 [] := by
        intro b r1 L5 L6 hf hr hb0 hb1
        refine zd_iinc E (pc := 156) d_M_findLevels_156 rfl (bm_inc a) (by decide) ?_
        refine zd_goto E (pc := 159) 51 d_M_findLevels_159 (by decide) ?_
        exact ih (a + 1) t9 b r1 L5 L6 (by omega) hf hr hb0 hb1 kk
      have hle : ad a &&& B ≤ B := Nat.and_le_right
      refine zd_iload E (pc := 51) d_M_findLevels_51 rfl ?_
      refine zd_aload_n E (pc := 53) d_M_findLevels_53 rfl ?_
      refine zd_get E (pc := 54) d_M_findLevels_54 kf_M_51 22 rfl rfl ?_
      rw [h14]
      refine zd_nc_ge E (pc := 57) 162 d_M_findLevels_57 (by decide) ((by omega)) ((by omega)) (fun hq => ?_) (fun hq => ?_)
      · omega
      · refine zd_aload_n E (pc := 60) d_M_findLevels_60 rfl ?_
        refine zd_get E (pc := 61) d_M_findLevels_61 kf_M_16 22 rfl rfl ?_
        refine zd_iload E (pc := 64) d_M_findLevels_64 rfl ?_
        refine zd_iald E (pc := 66) d_M_findLevels_66 25 rfl (t0 := 0) rfl (a) (rfl) (ha12) (by decide) ?_
        rw [a1]
        refine zd_iload_n E (pc := 67) d_M_findLevels_67 rfl ?_
        refine zd_iand E (pc := 68) d_M_findLevels_68 ?_
        rw [bm_and]
        refine zd_if_eq E (pc := 69) 77 d_M_findLevels_69 (by decide) (fun hz => ?_) (fun hz => ?_)
        · have hz0 : ad a &&& B = 0 := (nI_eq (by omega) (by decide)).mp (hz.trans nI_0.symm)
          have hba : bar a = false := by rw [hbar1]; simp [hz0]
          refine zd_aload_n E (pc := 77) d_M_findLevels_77 rfl ?_
          refine zd_get E (pc := 78) d_M_findLevels_78 kf_M_35 22 rfl rfl ?_
          refine zd_iload E (pc := 81) d_M_findLevels_81 rfl ?_
          refine zd_iald E (pc := 83) d_M_findLevels_83 31 rfl (t0 := 0) rfl (a) (rfl) (ha12) (by decide) ?_
          rw [c1]
          refine zd_aload_n E (pc := 84) d_M_findLevels_84 rfl ?_
          refine zd_aload_n E (pc := 85) d_M_findLevels_85 rfl ?_
          refine zd_get E (pc := 86) d_M_findLevels_86 kf_M_13 22 rfl rfl ?_
          refine zd_iload E (pc := 89) d_M_findLevels_89 rfl ?_
          refine zd_iald E (pc := 91) d_M_findLevels_91 24 rfl (t0 := 0) rfl (a) (rfl) (ha12) (by decide) ?_
          rw [n1]
          refine zd_iload_n E (pc := 92) d_M_findLevels_92 rfl ?_
          refine zd_callV E (pc := 93) d_M_findLevels_93 kc_M_101 rfl ki_M_over ke_M_over 22 rfl rfl (c_M_over l D t1 n2 (fun i hi => ⟨hr i hi, rdK t9 a i⟩)) (by decide) rfl (Nat.le_of_ble_eq_true rfl) (fun v1 ws1 hv1 => ?_)
          obtain ⟨rfl, rfl⟩ := hv1
          refine zd_iadd E (pc := 96) d_M_findLevels_96 ?_
          rw [nI_add]
          have jle := lm_jn_le 1048576 w (lm_rd 1048576 w nf c ne ad bar (lm_it 1048576 w nf na c ne ad bar (lm_i0 1048576 s) t9) a) (ne a) nf
          refine zd_istore E (pc := 97) d_M_findLevels_97 (by decide) ?_
          refine zd_iconst E (pc := 99) (v := (nI 0)) d_M_findLevels_99 (by decide) ?_
          refine zd_istore E (pc := 100) d_M_findLevels_100 (by decide) ?_
          have e : ∀ j, lm_rd 1048576 w nf c ne ad bar (lm_it 1048576 w nf na c ne ad bar (lm_i0 1048576 s) t9) (a + 1) j = lm_act 1048576 w nf c ne ad a (lm_rd 1048576 w nf c ne ad bar (lm_it 1048576 w nf na c ne ad bar (lm_i0 1048576 s) t9) a) j := fun j => by
            rw [lm_rd, if_neg (by rw [hba]; decide)]
          have key := facts nf 0 a (c a + lm_jn 1048576 w (lm_rd 1048576 w nf c ne ad bar (lm_it 1048576 w nf na c ne ad bar (lm_i0 1048576 s) t9) a) (ne a) nf) (lm_rd 1048576 w nf c ne ad bar (lm_it 1048576 w nf na c ne ad bar (lm_i0 1048576 s) t9) a) b r1 (by omega) (by omega) (by omega) (rdK t9 a) hf (fun j hj => by rw [hr j hj, if_neg (by omega)]) (fun r2 L6 hf2 hr2 => tail _ r2 _ L6 hf2 (fun j hj => by rw [e]; exact hr2 j hj) (fun hb j hj => by
            simp only [Bool.or_eq_false_iff] at hb
            rw [e]
            unfold lm_act
            rw [if_neg (lm_lows_no hb.2 j hj)]
            exact hb0 hb.1 j hj) (fun hb => by
            simp only [Bool.or_eq_true] at hb
            rcases hb with hb | hb
            · obtain ⟨j, h1, h2⟩ := hb1 hb
              refine ⟨j, h1, ?_⟩
              rw [e]
              exact Nat.lt_of_le_of_lt (lm_act_le _ _ _) h2
            · obtain ⟨j, h1, h2, h3⟩ := lm_lows_yes hb
              refine ⟨j, h1, ?_⟩
              rw [e]
              unfold lm_act
              rw [if_pos ⟨h2, h3⟩]
              exact Nat.lt_of_lt_of_le h3 (lm_rd_le _ _ _)))
          rw [show lm_lows (ad a) (c a + lm_jn 1048576 w (lm_rd 1048576 w nf c ne ad bar (lm_it 1048576 w nf na c ne ad bar (lm_i0 1048576 s) t9) a) (ne a) nf) (lm_rd 1048576 w nf c ne ad bar (lm_it 1048576 w nf na c ne ad bar (lm_i0 1048576 s) t9) a) 0 = false from rfl, Bool.or_false] at key
          exact key
        · have hz0 : ad a &&& B ≠ 0 := fun y => hz (by rw [y]; rfl)
          have hba : bar a = true := by rw [hbar1]; simp [hz0]
          refine zd_ldc E (pc := 72) (v := (nI 1048576)) d_M_findLevels_72 kk_M_87 ?_
          refine zd_goto E (pc := 74) 97 d_M_findLevels_74 (by decide) ?_
          refine zd_istore E (pc := 97) d_M_findLevels_97 (by decide) ?_
          refine zd_iconst E (pc := 99) (v := (nI 0)) d_M_findLevels_99 (by decide) ?_
          refine zd_istore E (pc := 100) d_M_findLevels_100 (by decide) ?_
          have e : ∀ j, lm_rd 1048576 w nf c ne ad bar (lm_it 1048576 w nf na c ne ad bar (lm_i0 1048576 s) t9) (a + 1) j = lm_rd 1048576 w nf c ne ad bar (lm_it 1048576 w nf na c ne ad bar (lm_i0 1048576 s) t9) a j := fun j => by
            rw [lm_rd, if_pos hba]
          have none : ∀ j, ¬ ((ad a).testBit j = true ∧ 1048576 < lm_rd 1048576 w nf c ne ad bar (lm_it 1048576 w nf na c ne ad bar (lm_i0 1048576 s) t9) a j) := fun j z => by
            have := rdK t9 a j
            omega
          have nol : lm_lows (ad a) 1048576 (lm_rd 1048576 w nf c ne ad bar (lm_it 1048576 w nf na c ne ad bar (lm_i0 1048576 s) t9) a) nf = false := by
            cases hl : lm_lows (ad a) 1048576 (lm_rd 1048576 w nf c ne ad bar (lm_it 1048576 w nf na c ne ad bar (lm_i0 1048576 s) t9) a) nf with
            | false => rfl
            | true => obtain ⟨j, -, h2⟩ := lm_lows_yes hl; exact (none j h2).elim
          have key := facts nf 0 a 1048576 (lm_rd 1048576 w nf c ne ad bar (lm_it 1048576 w nf na c ne ad bar (lm_i0 1048576 s) t9) a) b r1 (by omega) (by omega) (by omega) (rdK t9 a) hf (fun j hj => by rw [hr j hj, if_neg (by omega)]) (fun r2 L6 hf2 hr2 => tail _ r2 _ L6 hf2 (fun j hj => by rw [e, hr2 j hj, if_neg (none j)]) (fun hb j hj => by
            rw [nol, Bool.or_false] at hb
            rw [e]; exact hb0 hb j hj) (fun hb => by
            rw [nol, Bool.or_false] at hb
            obtain ⟨j, h1, h2⟩ := hb1 hb
            exact ⟨j, h1, by rw [e]; exact h2⟩))
          rw [show lm_lows (ad a) 1048576 (lm_rd 1048576 w nf c ne ad bar (lm_it 1048576 w nf na c ne ad bar (lm_i0 1048576 s) t9) a) 0 = false from rfl, Bool.or_false] at key
          exact key
  have whole : ∀ (Bd t9 : Nat) (r1 : Nat → Nat → Int32) (L4 L5 L6 : Option Value), lm_sum (lm_it 1048576 w nf na c ne ad bar (lm_i0 1048576 s) t9) nf ≤ Bd → (∀ i, i ≠ 32 → r1 i = r i) → (∀ j, j < nf → r1 32 j = nI (lm_it 1048576 w nf na c ne ad bar (lm_i0 1048576 s) t9 j)) → Z (wd k q v r1 ex) [some (.ref (q 22)), some (.int (nI (bm_b w))), some (.int (nI B)), some (.int (nI (bm_b true))), L4, L5, L6] 42 [] := by
    intro Bd
    induction Bd with
    | zero =>
      intro t9 r1 L4 L5 L6 hBd hf hr
      refine zd_iload_n E (pc := 42) d_M_findLevels_42 rfl ?_
      refine zd_bf_eq E (pc := 43) 165 d_M_findLevels_43 (by decide) (fun hb => ?_) (fun hb => ?_)
      · exact absurd rfl hb
      · refine zd_iconst E (pc := 46) (v := (nI 0)) d_M_findLevels_46 (by decide) ?_
        refine zd_istore_n E (pc := 47) d_M_findLevels_47 (by decide) ?_
        refine zd_iconst E (pc := 48) (v := (nI 0)) d_M_findLevels_48 (by decide) ?_
        refine zd_istore E (pc := 49) d_M_findLevels_49 (by decide) ?_
        refine acts na 0 t9 false r1 L5 L6 (by omega) hf (fun j hj => by rw [hr j hj]; rfl) (fun _ j _ => rfl) (fun z => by cases z) (fun b2 r2 L4 L5 L6 hf2 hr2 hb02 hb12 => ?_)
        refine zd_goto E (pc := 162) 42 d_M_findLevels_162 (by decide) ?_
        cases b2 with
        | true => have := hb12 rfl; omega
        | false =>
          refine zd_iload_n E (pc := 42) d_M_findLevels_42 rfl ?_
          refine zd_bf_eq E (pc := 43) 165 d_M_findLevels_43 (by decide) (fun hb2 => ?_) (fun hb2 => ?_)
          · exact zd_vret E (pc := 165) d_M_findLevels_165 ⟨r2, t9 + 1, hf2, hr2, hb02 rfl, rfl, rfl⟩
          · cases hb2
    | succ Bd ih =>
      intro t9 r1 L4 L5 L6 hBd hf hr
      refine zd_iload_n E (pc := 42) d_M_findLevels_42 rfl ?_
      refine zd_bf_eq E (pc := 43) 165 d_M_findLevels_43 (by decide) (fun hb => ?_) (fun hb => ?_)
      · exact absurd rfl hb
      · refine zd_iconst E (pc := 46) (v := (nI 0)) d_M_findLevels_46 (by decide) ?_
        refine zd_istore_n E (pc := 47) d_M_findLevels_47 (by decide) ?_
        refine zd_iconst E (pc := 48) (v := (nI 0)) d_M_findLevels_48 (by decide) ?_
        refine zd_istore E (pc := 49) d_M_findLevels_49 (by decide) ?_
        refine acts na 0 t9 false r1 L5 L6 (by omega) hf (fun j hj => by rw [hr j hj]; rfl) (fun _ j _ => rfl) (fun z => by cases z) (fun b2 r2 L4 L5 L6 hf2 hr2 hb02 hb12 => ?_)
        refine zd_goto E (pc := 162) 42 d_M_findLevels_162 (by decide) ?_
        cases b2 with
        | true =>
          have := hb12 rfl
          exact ih (t9 + 1) r2 L4 L5 L6 (by omega) hf2 hr2
        | false =>
          refine zd_iload_n E (pc := 42) d_M_findLevels_42 rfl ?_
          refine zd_bf_eq E (pc := 43) 165 d_M_findLevels_43 (by decide) (fun hb2 => ?_) (fun hb2 => ?_)
          · exact zd_vret E (pc := 165) d_M_findLevels_165 ⟨r2, t9 + 1, hf2, hr2, hb02 rfl, rfl, rfl⟩
          · cases hb2
  have inits : ∀ (m f : Nat) (r1 : Nat → Nat → Int32), f + m = nf → (∀ i, i ≠ 32 → r1 i = r i) → (∀ j, j < f → r1 32 j = nI (lm_i0 1048576 s j)) → Z (wd k q v r1 ex) [some (.ref (q 22)), some (.int (nI (bm_b w))), some (.int (nI B)), some (.int (nI f)), none, none, none] 2 [] := by
    intro m
    induction m with
    | zero =>
      intro f r1 hf0 hf hr
      have e : f = nf := by omega
      subst e
      refine zd_iload_n E (pc := 2) d_M_findLevels_2 rfl ?_
      refine zd_aload_n E (pc := 3) d_M_findLevels_3 rfl ?_
      refine zd_get E (pc := 4) d_M_findLevels_4 kf_M_48 22 rfl rfl ?_
      rw [h11]
      refine zd_nc_ge E (pc := 7) 40 d_M_findLevels_7 (by decide) ((by omega)) ((by omega)) (fun hq => ?_) (fun hq => ?_)
      · refine zd_iconst E (pc := 40) (v := (nI 1)) d_M_findLevels_40 (by decide) ?_
        refine zd_istore_n E (pc := 41) d_M_findLevels_41 (by decide) ?_
        exact whole _ 0 r1 none none none (Nat.le_refl _) hf hr
      · omega
    | succ m ih =>
      intro f r1 hf0 hf hr
      have fin : ∀ x, x = lm_i0 1048576 s f → Z (wd k q v r1 ex) [some (.ref (q 22)), some (.int (nI (bm_b w))), some (.int (nI B)), some (.int (nI f)), none, none, none] 33 [.int (nI x), .int (nI f), .ref (q 32)] := by
        intro x hx
        refine zd_iast E (pc := 33) d_M_findLevels_33 32 rfl (t0 := 0) rfl (f) (rfl) ((by omega)) (by decide) (ws1 := wd k q v (va_up r1 32 (upd (r1 32) f (nI x))) ex) rfl ?_
        refine zd_iinc E (pc := 34) d_M_findLevels_34 rfl (bm_inc f) (by decide) ?_
        refine zd_goto E (pc := 37) 2 d_M_findLevels_37 (by decide) ?_
        refine ih (f + 1) _ (by omega) (fun i hi => by rw [va_up_ne _ _ hi]; exact hf i hi) (fun j hj => ?_)
        rw [va_up_self]
        by_cases e : j = f
        · subst e; rw [pk_us, hx]
        · rw [pk_un e]; exact hr j (by omega)
      refine zd_iload_n E (pc := 2) d_M_findLevels_2 rfl ?_
      refine zd_aload_n E (pc := 3) d_M_findLevels_3 rfl ?_
      refine zd_get E (pc := 4) d_M_findLevels_4 kf_M_48 22 rfl rfl ?_
      rw [h11]
      refine zd_nc_ge E (pc := 7) 40 d_M_findLevels_7 (by decide) ((by omega)) ((by omega)) (fun hq => ?_) (fun hq => ?_)
      · omega
      · refine zd_aload_n E (pc := 10) d_M_findLevels_10 rfl ?_
        refine zd_get E (pc := 11) d_M_findLevels_11 kf_M_38 22 rfl rfl ?_
        refine zd_iload_n E (pc := 14) d_M_findLevels_14 rfl ?_
        refine zd_aload_n E (pc := 15) d_M_findLevels_15 rfl ?_
        refine zd_get E (pc := 16) d_M_findLevels_16 kf_M_60 22 rfl rfl ?_
        rw [hs]
        refine zd_iload_n E (pc := 19) d_M_findLevels_19 rfl ?_
        refine zd_ishr E (pc := 20) d_M_findLevels_20 ?_
        refine zd_iconst E (pc := 21) (v := (nI 1)) d_M_findLevels_21 (by decide) ?_
        refine zd_iand E (pc := 22) d_M_findLevels_22 ?_
        rw [bm_has (show s < 2 ^ 31 by omega) (show f < 32 by omega)]
        refine zd_iconst E (pc := 23) (v := (nI 1)) d_M_findLevels_23 (by decide) ?_
        refine zd_hb_ne E (pc := 24) 31 d_M_findLevels_24 (by decide) (fun hb => ?_) (fun hb => ?_)
        · refine zd_ldc E (pc := 31) (v := (nI 1048576)) d_M_findLevels_31 kk_M_87 ?_
          exact fin 1048576 (by unfold lm_i0; rw [if_neg hb])
        · refine zd_iconst E (pc := 27) (v := (nI 0)) d_M_findLevels_27 (by decide) ?_
          refine zd_goto E (pc := 28) 33 d_M_findLevels_28 (by decide) ?_
          exact fin 0 (by unfold lm_i0; rw [if_pos hb])
  refine zd_iconst E (pc := 0) (v := (nI 0)) d_M_findLevels_0 (by decide) ?_
  refine zd_istore_n E (pc := 1) d_M_findLevels_1 (by decide) ?_
  exact inits nf 0 r (by omega) (fun _ _ => rfl) (fun j hj => by omega)
end M6
