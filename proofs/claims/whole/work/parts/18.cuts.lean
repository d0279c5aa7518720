/-! Contracts of the cuts: isBasedIn, zoneBefore, restBehind, pay, goalHeight. -/
theorem cu_rd_lt {te : Nat → Nat → Bool} {pu : Nat → Nat} {X na n : Nat} (hX : X < 2 ^ n) (hp : ∀ a, a < na → (∃ Y, te a Y = true) → pu a < 2 ^ n) : ∀ k, k ≤ na → cu_rd te pu X k < 2 ^ n
  | 0, _ => hX
  | k + 1, hk => by
    have ih := cu_rd_lt hX hp k (by omega)
    unfold cu_rd
    split
    · next q => exact Nat.or_lt_two_pow ih (hp k (by omega) ⟨_, q⟩)
    · exact ih
/-- a set that cannot grow: all its places are taken -/
theorem cu_full {X Y m : Nat} (h : cu_le X Y) (hY : Y < 2 ^ m) (hn : m ≤ cu_n X m) : Y = X := by
  by_cases e : X = Y
  · exact e.symm
  · have h1 := cu_n_lt h hY e
    have h2 := lm_cnt_le (fun b => Y.testBit b) m
    unfold cu_n at h1 hn
    omega
theorem cu_n_pos {X m : Nat} (hX : X < 2 ^ m) (h0 : X ≠ 0) : 0 < cu_n X m := by
  have := cu_n_lt (X := 0) (Y := X) (m := m) (fun b hb => by rw [Nat.zero_testBit] at hb; cases hb) hX (fun e => h0 e.symm)
  omega
/-- the price of a cut: the least cost of its actions, 9 where there are none -/
def lm_min (c : Nat → Nat) (C : Nat) : Nat → Nat
  | 0 => 9
  | i + 1 => if C.testBit i = true then min (lm_min c C i) (c i) else lm_min c C i
theorem lm_min_le {c : Nat → Nat} {C : Nat} : ∀ {n : Nat} {a : Nat}, a < n → C.testBit a = true → lm_min c C n ≤ c a
  | 0, a, h, _ => by omega
  | n + 1, a, h, hb => by
    unfold lm_min
    by_cases e : a = n
    · subst e; rw [if_pos hb]; omega
    · have := lm_min_le (c := c) (n := n) (a := a) (by omega) hb
      split <;> omega
theorem lm_min_9 (c : Nat → Nat) (C : Nat) : ∀ n, lm_min c C n ≤ 9
  | 0 => Nat.le_refl _
  | n + 1 => by have := lm_min_9 c C n; unfold lm_min; split <;> omega
/-- the costs when a cut is paid -/
def lm_pay (c : Nat → Nat) (C p : Nat) : Nat → Nat := fun a => if C.testBit a = true then c a - p else c a
/-- the bases as the array holds them -/
def cu_ar (r : Nat → Nat → Int32) (na : Nat) (fi : Nat → Bool) (ba : Nat → Nat) : Prop := ∀ a, a < na → r 20 a = (if fi a = true then nI (ba a) else -1) ∧ (fi a = true → ba a ≤ 10)
section CT
variable {k : Nat → ClassId} {q : Nat → Nat} {v : Nat → Int32} {r : Nat → Nat → Int32} {ex : va_W} {nf na fi go : Nat} {co ne ad dr : Nat → Nat}
set_option maxRecDepth 100000 in
set_option maxHeartbeats 4000000 in
theorem c_U_isBasedIn (l : Launch) (D : va_G) {X a : Nat} {fb : Nat → Bool} {ba : Nat → Nat} (hX : X < 2 ^ 31) (ha : a < na) (hna : na ≤ 12) (hb : cu_ar r na fb ba) : zd_Ct l D classes (wd_ty k) gd_T y_U_isBasedIn b_U_isBasedIn 3 (some .boolean) (zd_rm 1) [.ref (q 18), .int (nI X), .int (nI a)] (wd k q v r ex) (zd_is (some (.int (nI (bm_b (fb a && X.testBit (ba a)))))) (wd k q v r ex)) := by
  refine zd_met gd_all (by decide) rfl (Nat.le_of_ble_eq_true rfl) (fun Z E => ?_)
  show Z (wd k q v r ex) [some (.ref (q 18)), some (.int (nI X)), some (.int (nI a))] 0 []
  obtain ⟨b1, b2⟩ := hb a ha
  refine zd_aload_n E (pc := 0) d_U_isBasedIn_0 rfl ?_
  refine zd_get E (pc := 1) d_U_isBasedIn_1 kf_U_15 18 rfl rfl ?_
  refine zd_iload_n E (pc := 4) d_U_isBasedIn_4 rfl ?_
  refine zd_iald E (pc := 5) d_U_isBasedIn_5 20 rfl (t0 := 0) rfl (a) (rfl) ((by omega)) (by decide) ?_
  rw [b1]
  refine zd_iconst E (pc := 6) (v := (-1)) d_U_isBasedIn_6 (by decide) ?_
  cases hf : fb a with
  | false =>
    rw [if_neg (by decide)]
    refine zd_ic_eq E (pc := 7) 27 d_U_isBasedIn_7 (by decide) (fun hc => ?_) (fun hc => ?_)
    · refine zd_iconst E (pc := 27) (v := (nI 0)) d_U_isBasedIn_27 (by decide) ?_
      exact zd_zret E (pc := 28) d_U_isBasedIn_28 (by decide) ⟨by rw [hf]; rfl, rfl⟩
    · exact absurd rfl hc
  | true =>
    have b3 := b2 hf
    rw [if_pos rfl]
    refine zd_ic_eq E (pc := 7) 27 d_U_isBasedIn_7 (by decide) (fun hc => ?_) (fun hc => ?_)
    · exact absurd hc (bm_m1ne (by omega))
    · refine zd_iload_n E (pc := 10) d_U_isBasedIn_10 rfl ?_
      refine zd_aload_n E (pc := 11) d_U_isBasedIn_11 rfl ?_
      refine zd_get E (pc := 12) d_U_isBasedIn_12 kf_U_15 18 rfl rfl ?_
      refine zd_iload_n E (pc := 15) d_U_isBasedIn_15 rfl ?_
      refine zd_iald E (pc := 16) d_U_isBasedIn_16 20 rfl (t0 := 0) rfl (a) (rfl) ((by omega)) (by decide) ?_
      rw [b1, hf, if_pos rfl]
      refine zd_callS E (pc := 17) d_U_isBasedIn_17 kc_U_92 rfl ks_P_has (c_P_has l D _ _ hX (show ba a < 32 by omega)) (by decide) rfl (Nat.le_of_ble_eq_true rfl) (fun v1 ws1 hv1 => ?_)
      obtain ⟨rfl, rfl⟩ := hv1
      refine zd_bf_eq E (pc := 20) 27 d_U_isBasedIn_20 (by decide) (fun hbit => ?_) (fun hbit => ?_)
      · refine zd_iconst E (pc := 27) (v := (nI 0)) d_U_isBasedIn_27 (by decide) ?_
        exact zd_zret E (pc := 28) d_U_isBasedIn_28 (by decide) ⟨by rw [hf, ts_f hbit]; rfl, rfl⟩
      · refine zd_iconst E (pc := 23) (v := (nI 1)) d_U_isBasedIn_23 (by decide) ?_
        refine zd_goto E (pc := 24) 28 d_U_isBasedIn_24 (by decide) ?_
        exact zd_zret E (pc := 28) d_U_isBasedIn_28 (by decide) ⟨by rw [hf, hbit]; rfl, rfl⟩
set_option maxRecDepth 100000 in
set_option maxHeartbeats 4000000 in
theorem c_U_zoneBefore (l : Launch) (D : va_G) {X0 : Nat} {fb : Nat → Bool} {c ba : Nat → Nat} (hX : X0 < 2 ^ 11) (h00 : X0 ≠ 0) (hv1 : v 1 = nI na) (hna : na ≤ 12) (hc : ∀ i, i < 12 → r 19 i = nI (c i) ∧ c i ≤ 9) (had : ∀ i, i < 12 → r 5 i = nI (ad i) ∧ ad i < 2 ^ 31) (hb : cu_ar r na fb ba) : zd_Ct l D classes (wd_ty k) gd_T y_U_zoneBefore b_U_zoneBefore 7 (some .int) (zd_rm 0) [.ref (q 18), .int (nI X0)] (wd k q v r ex)
    (fun v1 w1 => ∃ X, cu_is na (fun a X => decide (c a = 0) && fb a && decide (ad a &&& X ≠ 0)) (fun a => 2 ^ ba a) X0 X ∧ X < 2 ^ 11 ∧ v1 = some (.int (nI X)) ∧ w1 = wd k q v r ex) := by
  generalize hte : (fun (a X : Nat) => decide (c a = 0) && fb a && decide (ad a &&& X ≠ 0)) = te
  generalize hpu : (fun a => 2 ^ ba a) = pu
  refine zd_met gd_all (by decide) rfl (Nat.le_of_ble_eq_true rfl) (fun Z E => ?_)
  show Z (wd k q v r ex) [some (.ref (q 18)), some (.int (nI X0)), none, none, none, none, none] 0 []
  have te1 : ∀ a X, te a X = (decide (c a = 0) && fb a && decide (ad a &&& X ≠ 0)) := fun a X => by rw [← hte]
  have pu1 : ∀ a, pu a = 2 ^ ba a := fun a => by rw [← hpu]
  have mono : ∀ a X Y, cu_le X Y → te a X = true → te a Y = true := fun a X Y h ht => by
    rw [te1] at ht ⊢
    simp only [Bool.and_eq_true, decide_eq_true_eq] at ht ⊢
    refine ⟨ht.1, ?_⟩
    obtain ⟨b, h1, h2⟩ := cu_and_ne.mp ht.2
    exact cu_and_ne.mpr ⟨b, h1, h b h2⟩
  have pul : ∀ a, a < na → (∃ Y, te a Y = true) → pu a < 2 ^ 11 := fun a ha ⟨Y, hY⟩ => by
    rw [te1] at hY
    simp only [Bool.and_eq_true] at hY
    have := (hb a ha).2 hY.1.2
    rw [pu1]
    exact Nat.pow_lt_pow_right (by omega) (by omega)
  have acts : ∀ (m a t B X : Nat) (L6 : Option Value), a + m = na → cu_rd te pu B a < 2 ^ 11 →
      (∀ (L5 L6 : Option Value), Z (wd k q v r ex) [some (.ref (q 18)), some (.int (nI X0)), some (.int (nI (cu_rd te pu B na))), some (.int (nI B)), some (.int (nI t)), L5, L6] 104 []) →
      Z (wd k q v r ex) [some (.ref (q 18)), some (.int (nI X0)), some (.int (nI (cu_rd te pu B a))), some (.int (nI B)), some (.int (nI t)), some (.int (nI a)), L6] 24 [] := by
    intro m
    induction m with
    | zero =>
      intro a t B X L6 ha hlt kk
      have e : a = na := by omega
      subst e
      refine zd_iload E (pc := 24) d_U_zoneBefore_24 rfl ?_
      refine zd_aload_n E (pc := 26) d_U_zoneBefore_26 rfl ?_
      refine zd_get E (pc := 27) d_U_zoneBefore_27 kf_U_21 18 rfl rfl ?_
      refine zd_get E (pc := 30) d_U_zoneBefore_30 kf_U_71 1 rfl rfl ?_
      rw [hv1]
      refine zd_nc_ge E (pc := 33) 104 d_U_zoneBefore_33 (by decide) ((by omega)) ((by omega)) (fun hq => ?_) (fun hq => ?_)
      · exact kk _ _
      · omega
    | succ m ih =>
      intro a t B X L6 ha hlt kk
      have ha12 : a < 12 := by omega
      have han : a < na := by omega
      obtain ⟨c1, c2⟩ := hc a ha12
      obtain ⟨a1, a2⟩ := had a ha12
      obtain ⟨b1, b2⟩ := hb a han
      have tail : ∀ (Y : Nat) (L6 : Option Value), Y = cu_rd te pu B (a + 1) → Y < 2 ^ 11 → Z (wd k q v r ex) [some (.ref (q 18)), some (.int (nI X0)), some (.int (nI Y)), some (.int (nI B)), some (.int (nI t)), some (.int (nI a)), L6] 98 [] := by
        intro Y L6 hY hlt2
        subst hY
        refine zd_iinc E (pc := 98) d_U_zoneBefore_98 rfl (bm_inc a) (by decide) ?_
        refine zd_goto E (pc := 101) 24 d_U_zoneBefore_101 (by decide) ?_
        exact ih (a + 1) t B X L6 (by omega) hlt2 kk
      have skip : te a (cu_rd te pu B a) = false → ∀ (L6 : Option Value), Z (wd k q v r ex) [some (.ref (q 18)), some (.int (nI X0)), some (.int (nI (cu_rd te pu B a))), some (.int (nI B)), some (.int (nI t)), some (.int (nI a)), L6] 98 [] := fun hz L6 => tail _ L6 (by rw [cu_rd, if_neg (by rw [hz]; decide)]) hlt
      have nofree : (decide (c a = 0) && fb a) = false → ∀ (L6 : Option Value), Z (wd k q v r ex) [some (.ref (q 18)), some (.int (nI X0)), some (.int (nI (cu_rd te pu B a))), some (.int (nI B)), some (.int (nI t)), some (.int (nI a)), L6] 61 [] := by
        intro hz L6
        refine zd_iconst E (pc := 61) (v := (nI 0)) d_U_zoneBefore_61 (by decide) ?_
        refine zd_istore E (pc := 62) d_U_zoneBefore_62 (by decide) ?_
        refine zd_iload E (pc := 64) d_U_zoneBefore_64 rfl ?_
        refine zd_if_eq E (pc := 66) 98 d_U_zoneBefore_66 (by decide) (fun hq => ?_) (fun hq => ?_)
        · exact skip (by rw [te1, hz]; rfl) _
        · exact absurd rfl hq
      refine zd_iload E (pc := 24) d_U_zoneBefore_24 rfl ?_
      refine zd_aload_n E (pc := 26) d_U_zoneBefore_26 rfl ?_
      refine zd_get E (pc := 27) d_U_zoneBefore_27 kf_U_21 18 rfl rfl ?_
      refine zd_get E (pc := 30) d_U_zoneBefore_30 kf_U_71 1 rfl rfl ?_
      rw [hv1]
      refine zd_nc_ge E (pc := 33) 104 d_U_zoneBefore_33 (by decide) ((by omega)) ((by omega)) (fun hq => ?_) (fun hq => ?_)
      · omega
      · refine zd_aload_n E (pc := 36) d_U_zoneBefore_36 rfl ?_
        refine zd_get E (pc := 37) d_U_zoneBefore_37 kf_U_9 18 rfl rfl ?_
        refine zd_iload E (pc := 40) d_U_zoneBefore_40 rfl ?_
        refine zd_iald E (pc := 42) d_U_zoneBefore_42 19 rfl (t0 := 0) rfl (a) (rfl) (ha12) (by decide) ?_
        rw [c1]
        refine zd_if_ne E (pc := 43) 61 d_U_zoneBefore_43 (by decide) (fun h0 => ?_) (fun h0 => ?_)
        · refine nofree ?_ _
          have : c a ≠ 0 := fun z => h0 (by rw [z]; rfl)
          simp [this]
        · have hc0 : c a = 0 := by
            have h0 := Classical.not_not.mp h0
            exact (nI_eq (by omega) (by omega)).mp (h0.trans nI_0.symm)
          refine zd_aload_n E (pc := 46) d_U_zoneBefore_46 rfl ?_
          refine zd_get E (pc := 47) d_U_zoneBefore_47 kf_U_15 18 rfl rfl ?_
          refine zd_iload E (pc := 50) d_U_zoneBefore_50 rfl ?_
          refine zd_iald E (pc := 52) d_U_zoneBefore_52 20 rfl (t0 := 0) rfl (a) (rfl) (ha12) (by decide) ?_
          rw [b1]
          refine zd_iconst E (pc := 53) (v := (-1)) d_U_zoneBefore_53 (by decide) ?_
          cases hf : fb a with
          | false =>
            rw [if_neg (by decide)]
            refine zd_ic_eq E (pc := 54) 61 d_U_zoneBefore_54 (by decide) (fun hd => ?_) (fun hd => ?_)
            · exact nofree (by rw [hf, Bool.and_false]) _
            · exact absurd rfl hd
          | true =>
            have b3 := b2 hf
            rw [if_pos rfl]
            refine zd_ic_eq E (pc := 54) 61 d_U_zoneBefore_54 (by decide) (fun hd => ?_) (fun hd => ?_)
            · exact absurd hd (bm_m1ne (by omega))
            · refine zd_iconst E (pc := 57) (v := (nI 1)) d_U_zoneBefore_57 (by decide) ?_
              refine zd_goto E (pc := 58) 62 d_U_zoneBefore_58 (by decide) ?_
              refine zd_istore E (pc := 62) d_U_zoneBefore_62 (by decide) ?_
              refine zd_iload E (pc := 64) d_U_zoneBefore_64 rfl ?_
              refine zd_if_eq E (pc := 66) 98 d_U_zoneBefore_66 (by decide) (fun he => ?_) (fun he => ?_)
              · exact absurd he (by decide)
              · refine zd_aload_n E (pc := 69) d_U_zoneBefore_69 rfl ?_
                refine zd_get E (pc := 70) d_U_zoneBefore_70 kf_U_21 18 rfl rfl ?_
                refine zd_get E (pc := 73) d_U_zoneBefore_73 kf_U_74 1 rfl rfl ?_
                refine zd_iconst E (pc := 76) (v := (nI 1)) d_U_zoneBefore_76 (by decide) ?_
                refine zd_aald E (pc := 77) d_U_zoneBefore_77 3 rfl (t0 := 2) rfl rfl (1) (rfl) (by decide) (by decide) rfl ?_
                refine zd_iload E (pc := 78) d_U_zoneBefore_78 rfl ?_
                refine zd_iald E (pc := 80) d_U_zoneBefore_80 5 rfl (t0 := 0) rfl (a) (rfl) (ha12) (by decide) ?_
                rw [a1]
                refine zd_iload_n E (pc := 81) d_U_zoneBefore_81 rfl ?_
                refine zd_iand E (pc := 82) d_U_zoneBefore_82 ?_
                rw [bm_and]
                have hle : ad a &&& cu_rd te pu B a ≤ cu_rd te pu B a := Nat.and_le_right
                refine zd_if_eq E (pc := 83) 98 d_U_zoneBefore_83 (by decide) (fun hg => ?_) (fun hg => ?_)
                · refine skip ?_ _
                  have : ad a &&& cu_rd te pu B a = 0 := (nI_eq (by omega) (by omega)).mp (hg.trans nI_0.symm)
                  rw [te1]
                  simp [this]
                · have hne : ad a &&& cu_rd te pu B a ≠ 0 := fun z => hg (by rw [z]; rfl)
                  refine zd_iload_n E (pc := 86) d_U_zoneBefore_86 rfl ?_
                  refine zd_iconst E (pc := 87) (v := (nI 1)) d_U_zoneBefore_87 (by decide) ?_
                  refine zd_aload_n E (pc := 88) d_U_zoneBefore_88 rfl ?_
                  refine zd_get E (pc := 89) d_U_zoneBefore_89 kf_U_15 18 rfl rfl ?_
                  refine zd_iload E (pc := 92) d_U_zoneBefore_92 rfl ?_
                  refine zd_iald E (pc := 94) d_U_zoneBefore_94 20 rfl (t0 := 0) rfl (a) (rfl) (ha12) (by decide) ?_
                  rw [b1, hf, if_pos rfl]
                  refine zd_ishl E (pc := 95) d_U_zoneBefore_95 ?_
                  rw [bm_one (by omega)]
                  refine zd_ior E (pc := 96) d_U_zoneBefore_96 ?_
                  rw [bm_or]
                  refine zd_istore_n E (pc := 97) d_U_zoneBefore_97 (by decide) ?_
                  have htt : te a (cu_rd te pu B a) = true := by rw [te1, hf]; simp [hc0, hne]
                  refine tail _ _ (by rw [cu_rd, if_pos htt, pu1]) ?_
                  have := pul a han ⟨_, htt⟩
                  rw [pu1] at this
                  exact Nat.or_lt_two_pow hlt this
  have fin : ∀ (X t : Nat) (B : Nat) (L5 L6 : Option Value), cu_le X0 X → X < 2 ^ 11 → cu_cl na te pu X → (∀ Y, cu_le X0 Y → cu_cl na te pu Y → cu_le X Y) → Z (wd k q v r ex) [some (.ref (q 18)), some (.int (nI X0)), some (.int (nI X)), some (.int (nI B)), some (.int (nI t)), L5, L6] 110 [] := by
    intro X t B L5 L6 h1 h2 h3 h4
    refine zd_iload_n E (pc := 110) d_U_zoneBefore_110 rfl ?_
    exact zd_iret E (pc := 111) d_U_zoneBefore_111 ⟨X, ⟨h1, h3, h4⟩, h2, rfl, rfl⟩
  have rounds : ∀ (m t X B : Nat) (L5 L6 : Option Value), t + m = 11 → cu_le X0 X → X < 2 ^ 11 → (∀ Y, cu_le X0 Y → cu_cl na te pu Y → cu_le X Y) → ((t = 0 ∧ B = 0 ∧ X ≠ 0) ∨ (B < 2 ^ 11 ∧ X = cu_rd te pu B na ∧ t ≤ cu_n B 11)) → Z (wd k q v r ex) [some (.ref (q 18)), some (.int (nI X0)), some (.int (nI X)), some (.int (nI B)), some (.int (nI t)), L5, L6] 7 [] := by
    intro m
    induction m with
    | zero =>
      intro t X B L5 L6 ht h1 h2 h3 hcase
      rcases hcase with ⟨z, -, -⟩ | ⟨hB, hX, hn⟩
      · omega
      · have e : X = B := by
          rw [hX]
          exact cu_full (cu_rd_ge B na) (by rw [← hX]; exact h2) (by omega)
        refine zd_iload E (pc := 7) d_U_zoneBefore_7 rfl ?_
        refine zd_bipush E (pc := 9) (v := (nI 10)) d_U_zoneBefore_9 (by decide) ?_
        refine zd_nc_gt E (pc := 11) 110 d_U_zoneBefore_11 (by decide) ((by omega)) ((by omega)) (fun hq => ?_) (fun hq => ?_)
        · exact fin X t B _ _ h1 h2 (by rw [e]; exact cu_rd_fix (by rw [← hX]; exact e) mono) h3
        · omega
    | succ m ih =>
      intro t X B L5 L6 ht h1 h2 h3 hcase
      have hB31 : B < 2 ^ 31 := by rcases hcase with ⟨-, z, -⟩ | ⟨z, -, -⟩ <;> omega
      refine zd_iload E (pc := 7) d_U_zoneBefore_7 rfl ?_
      refine zd_bipush E (pc := 9) (v := (nI 10)) d_U_zoneBefore_9 (by decide) ?_
      refine zd_nc_gt E (pc := 11) 110 d_U_zoneBefore_11 (by decide) ((by omega)) ((by omega)) (fun hq => ?_) (fun hq => ?_)
      · omega
      · refine zd_iload_n E (pc := 14) d_U_zoneBefore_14 rfl ?_
        refine zd_iload_n E (pc := 15) d_U_zoneBefore_15 rfl ?_
        refine zd_nc_eq E (pc := 16) 110 d_U_zoneBefore_16 (by decide) ((by omega)) (hB31) (fun he => ?_) (fun he => ?_)
        · rcases hcase with ⟨-, z, z2⟩ | ⟨hB, hX, hn⟩
          · omega
          · exact fin X t B _ _ h1 h2 (by rw [he]; exact cu_rd_fix (by rw [← hX]; exact he) mono) h3
        · refine zd_iload_n E (pc := 19) d_U_zoneBefore_19 rfl ?_
          refine zd_istore_n E (pc := 20) d_U_zoneBefore_20 (by decide) ?_
          refine zd_iconst E (pc := 21) (v := (nI 0)) d_U_zoneBefore_21 (by decide) ?_
          refine zd_istore E (pc := 22) d_U_zoneBefore_22 (by decide) ?_
          have hn : t + 1 ≤ cu_n X 11 := by
            rcases hcase with ⟨z, -, z2⟩ | ⟨hB, hX, hn⟩
            · have := cu_n_pos h2 z2; omega
            · have := cu_n_lt (X := B) (Y := X) (by rw [hX]; exact cu_rd_ge B na) h2 (fun z => he z.symm)
              omega
          refine acts na 0 t X X _ (by omega) h2 (fun L5 L6 => ?_)
          refine zd_iinc E (pc := 104) d_U_zoneBefore_104 rfl (bm_inc t) (by decide) ?_
          refine zd_goto E (pc := 107) 7 d_U_zoneBefore_107 (by decide) ?_
          exact ih (t + 1) _ X L5 L6 (by omega) (cu_trans h1 (cu_rd_ge X na)) (cu_rd_lt h2 pul na (Nat.le_refl _)) (fun Y hY1 hY2 => cu_rd_le mono (h3 Y hY1 hY2) hY2 na (Nat.le_refl _)) (Or.inr ⟨h2, rfl, hn⟩)
  refine zd_iload_n E (pc := 0) d_U_zoneBefore_0 rfl ?_
  refine zd_istore_n E (pc := 1) d_U_zoneBefore_1 (by decide) ?_
  refine zd_iconst E (pc := 2) (v := (nI 0)) d_U_zoneBefore_2 (by decide) ?_
  refine zd_istore_n E (pc := 3) d_U_zoneBefore_3 (by decide) ?_
  refine zd_iconst E (pc := 4) (v := (nI 0)) d_U_zoneBefore_4 (by decide) ?_
  refine zd_istore E (pc := 5) d_U_zoneBefore_5 (by decide) ?_
  exact rounds 11 0 X0 0 none none rfl (cu_refl _) hX (fun Y hY _ => hY) (Or.inl ⟨rfl, rfl, h00⟩)
set_option maxRecDepth 100000 in
set_option maxHeartbeats 4000000 in
theorem c_U_restBehind (l : Launch) (D : va_G) {X0 V : Nat} {fb : Nat → Bool} {ba : Nat → Nat} (hX : X0 < 2 ^ 11) (hv1 : v 1 = nI na) (hna : na ≤ 12) (had : ∀ i, i < 12 → r 5 i = nI (ad i) ∧ ad i < 2 ^ 11) (hb : cu_ar r na fb ba) : zd_Ct l D classes (wd_ty k) gd_T y_U_restBehind b_U_restBehind 7 (some .int) (zd_rm 2) [.ref (q 18), .int (nI X0), .int (nI V)] (wd k q v r ex)
    (fun v1 w1 => ∃ X, cu_is na (fun a X => fb a && X.testBit (ba a)) (fun a => bm_dif (ad a) V) X0 X ∧ X < 2 ^ 11 ∧ v1 = some (.int (nI X)) ∧ w1 = wd k q v r ex) := by
  generalize hte : (fun (a X : Nat) => fb a && X.testBit (ba a)) = te
  generalize hpu : (fun a => bm_dif (ad a) V) = pu
  refine zd_met gd_all (by decide) rfl (Nat.le_of_ble_eq_true rfl) (fun Z E => ?_)
  show Z (wd k q v r ex) [some (.ref (q 18)), some (.int (nI X0)), some (.int (nI V)), none, none, none, none] 0 []
  have te1 : ∀ a X, te a X = (fb a && X.testBit (ba a)) := fun a X => by rw [← hte]
  have pu1 : ∀ a, pu a = bm_dif (ad a) V := fun a => by rw [← hpu]
  have mono : ∀ a X Y, cu_le X Y → te a X = true → te a Y = true := fun a X Y h ht => by
    rw [te1] at ht ⊢
    simp only [Bool.and_eq_true] at ht ⊢
    exact ⟨ht.1, h _ ht.2⟩
  have pul : ∀ a, a < na → (∃ Y, te a Y = true) → pu a < 2 ^ 11 := fun a ha _ => by
    rw [pu1]
    exact tk_dif_lt (had a (by omega)).2
  have acts : ∀ (m a t B : Nat), a + m = na → cu_rd te pu B a < 2 ^ 11 →
      (∀ (L6 : Option Value), Z (wd k q v r ex) [some (.ref (q 18)), some (.int (nI X0)), some (.int (nI V)), some (.int (nI (cu_rd te pu B na))), some (.int (nI B)), some (.int (nI t)), L6] 74 []) →
      Z (wd k q v r ex) [some (.ref (q 18)), some (.int (nI X0)), some (.int (nI V)), some (.int (nI (cu_rd te pu B a))), some (.int (nI B)), some (.int (nI t)), some (.int (nI a))] 27 [] := by
    intro m
    induction m with
    | zero =>
      intro a t B ha hlt kk
      have e : a = na := by omega
      subst e
      refine zd_iload E (pc := 27) d_U_restBehind_27 rfl ?_
      refine zd_aload_n E (pc := 29) d_U_restBehind_29 rfl ?_
      refine zd_get E (pc := 30) d_U_restBehind_30 kf_U_21 18 rfl rfl ?_
      refine zd_get E (pc := 33) d_U_restBehind_33 kf_U_71 1 rfl rfl ?_
      rw [hv1]
      refine zd_nc_ge E (pc := 36) 74 d_U_restBehind_36 (by decide) ((by omega)) ((by omega)) (fun hq => ?_) (fun hq => ?_)
      · exact kk _
      · omega
    | succ m ih =>
      intro a t B ha hlt kk
      have ha12 : a < 12 := by omega
      have han : a < na := by omega
      obtain ⟨a1, a2⟩ := had a ha12
      have tail : ∀ (Y : Nat), Y = cu_rd te pu B (a + 1) → Y < 2 ^ 11 → Z (wd k q v r ex) [some (.ref (q 18)), some (.int (nI X0)), some (.int (nI V)), some (.int (nI Y)), some (.int (nI B)), some (.int (nI t)), some (.int (nI a))] 68 [] := by
        intro Y hY hlt2
        subst hY
        refine zd_iinc E (pc := 68) d_U_restBehind_68 rfl (bm_inc a) (by decide) ?_
        refine zd_goto E (pc := 71) 27 d_U_restBehind_71 (by decide) ?_
        exact ih (a + 1) t B (by omega) hlt2 kk
      refine zd_iload E (pc := 27) d_U_restBehind_27 rfl ?_
      refine zd_aload_n E (pc := 29) d_U_restBehind_29 rfl ?_
      refine zd_get E (pc := 30) d_U_restBehind_30 kf_U_21 18 rfl rfl ?_
      refine zd_get E (pc := 33) d_U_restBehind_33 kf_U_71 1 rfl rfl ?_
      rw [hv1]
      refine zd_nc_ge E (pc := 36) 74 d_U_restBehind_36 (by decide) ((by omega)) ((by omega)) (fun hq => ?_) (fun hq => ?_)
      · omega
      · refine zd_aload_n E (pc := 39) d_U_restBehind_39 rfl ?_
        refine zd_iload_n E (pc := 40) d_U_restBehind_40 rfl ?_
        refine zd_iload E (pc := 41) d_U_restBehind_41 rfl ?_
        refine zd_callV E (pc := 43) d_U_restBehind_43 kc_U_88 rfl ki_U_isBasedIn ke_U_isBasedIn 18 rfl rfl (c_U_isBasedIn l D (show cu_rd te pu B a < 2 ^ 31 by omega) han hna hb) (by decide) rfl (Nat.le_of_ble_eq_true rfl) (fun v1 ws1 hv1 => ?_)
        obtain ⟨rfl, rfl⟩ := hv1
        rw [← te1]
        refine zd_bf_eq E (pc := 46) 68 d_U_restBehind_46 (by decide) (fun hbit => ?_) (fun hbit => ?_)
        · exact tail _ (by rw [cu_rd, if_neg hbit]) hlt
        · refine zd_iload_n E (pc := 49) d_U_restBehind_49 rfl ?_
          refine zd_aload_n E (pc := 50) d_U_restBehind_50 rfl ?_
          refine zd_get E (pc := 51) d_U_restBehind_51 kf_U_21 18 rfl rfl ?_
          refine zd_get E (pc := 54) d_U_restBehind_54 kf_U_74 1 rfl rfl ?_
          refine zd_iconst E (pc := 57) (v := (nI 1)) d_U_restBehind_57 (by decide) ?_
          refine zd_aald E (pc := 58) d_U_restBehind_58 3 rfl (t0 := 2) rfl rfl (1) (rfl) (by decide) (by decide) rfl ?_
          refine zd_iload E (pc := 59) d_U_restBehind_59 rfl ?_
          refine zd_iald E (pc := 61) d_U_restBehind_61 5 rfl (t0 := 0) rfl (a) (rfl) (ha12) (by decide) ?_
          rw [a1]
          refine zd_iload_n E (pc := 62) d_U_restBehind_62 rfl ?_
          refine zd_iconst E (pc := 63) (v := (-1)) d_U_restBehind_63 (by decide) ?_
          refine zd_ixor E (pc := 64) d_U_restBehind_64 ?_
          refine zd_iand E (pc := 65) d_U_restBehind_65 ?_
          rw [bm_dif32]
          refine zd_ior E (pc := 66) d_U_restBehind_66 ?_
          rw [bm_or]
          refine zd_istore_n E (pc := 67) d_U_restBehind_67 (by decide) ?_
          have := pul a han ⟨_, hbit⟩
          rw [pu1] at this
          exact tail _ (by rw [cu_rd, if_pos hbit, pu1]) (Nat.or_lt_two_pow hlt this)
  have fin : ∀ (X t : Nat) (B : Nat) (L6 : Option Value), cu_le X0 X → X < 2 ^ 11 → cu_cl na te pu X → (∀ Y, cu_le X0 Y → cu_cl na te pu Y → cu_le X Y) → Z (wd k q v r ex) [some (.ref (q 18)), some (.int (nI X0)), some (.int (nI V)), some (.int (nI X)), some (.int (nI B)), some (.int (nI t)), L6] 80 [] := by
    intro X t B L6 h1 h2 h3 h4
    refine zd_iload_n E (pc := 80) d_U_restBehind_80 rfl ?_
    exact zd_iret E (pc := 81) d_U_restBehind_81 ⟨X, ⟨h1, h3, h4⟩, h2, rfl, rfl⟩
  have rounds : ∀ (m t X B : Nat) (L6 : Option Value), t + m = 11 → cu_le X0 X → X < 2 ^ 11 → (∀ Y, cu_le X0 Y → cu_cl na te pu Y → cu_le X Y) → ((t = 0 ∧ B = 0) ∨ (B < 2 ^ 11 ∧ X = cu_rd te pu B na ∧ t ≤ cu_n B 11)) → Z (wd k q v r ex) [some (.ref (q 18)), some (.int (nI X0)), some (.int (nI V)), some (.int (nI X)), some (.int (nI B)), some (.int (nI t)), L6] 8 [] := by
    intro m
    induction m with
    | zero =>
      intro t X B L6 ht h1 h2 h3 hcase
      rcases hcase with ⟨z, -⟩ | ⟨hB, hX, hn⟩
      · omega
      · have e : X = B := by
          rw [hX]
          exact cu_full (cu_rd_ge B na) (by rw [← hX]; exact h2) (by omega)
        refine zd_iload E (pc := 8) d_U_restBehind_8 rfl ?_
        refine zd_bipush E (pc := 10) (v := (nI 10)) d_U_restBehind_10 (by decide) ?_
        refine zd_nc_gt E (pc := 12) 80 d_U_restBehind_12 (by decide) ((by omega)) ((by omega)) (fun hq => ?_) (fun hq => ?_)
        · exact fin X t B _ h1 h2 (by rw [e]; exact cu_rd_fix (by rw [← hX]; exact e) mono) h3
        · omega
    | succ m ih =>
      intro t X B L6 ht h1 h2 h3 hcase
      have hB31 : B < 2 ^ 31 := by rcases hcase with ⟨-, z⟩ | ⟨z, -, -⟩ <;> omega
      refine zd_iload E (pc := 8) d_U_restBehind_8 rfl ?_
      refine zd_bipush E (pc := 10) (v := (nI 10)) d_U_restBehind_10 (by decide) ?_
      refine zd_nc_gt E (pc := 12) 80 d_U_restBehind_12 (by decide) ((by omega)) ((by omega)) (fun hq => ?_) (fun hq => ?_)
      · omega
      · refine zd_iload_n E (pc := 15) d_U_restBehind_15 rfl ?_
        refine zd_iload E (pc := 16) d_U_restBehind_16 rfl ?_
        refine zd_nc_eq E (pc := 18) 80 d_U_restBehind_18 (by decide) ((by omega)) (hB31) (fun he => ?_) (fun he => ?_)
        · rcases hcase with ⟨-, z⟩ | ⟨hB, hX, hn⟩
          · refine fin X t B _ h1 h2 (fun a ha ht => ?_) h3
            rw [te1, he, z, Nat.zero_testBit, Bool.and_false] at ht
            cases ht
          · exact fin X t B _ h1 h2 (by rw [he]; exact cu_rd_fix (by rw [← hX]; exact he) mono) h3
        · refine zd_iload_n E (pc := 21) d_U_restBehind_21 rfl ?_
          refine zd_istore E (pc := 22) d_U_restBehind_22 (by decide) ?_
          refine zd_iconst E (pc := 24) (v := (nI 0)) d_U_restBehind_24 (by decide) ?_
          refine zd_istore E (pc := 25) d_U_restBehind_25 (by decide) ?_
          have hn : t + 1 ≤ cu_n X 11 := by
            rcases hcase with ⟨z, z2⟩ | ⟨hB, hX, hn⟩
            · have := cu_n_pos h2 (fun y => he (y.trans z2.symm)); omega
            · have := cu_n_lt (X := B) (Y := X) (by rw [hX]; exact cu_rd_ge B na) h2 (fun z => he z.symm)
              omega
          refine acts na 0 t X (by omega) h2 (fun L6 => ?_)
          refine zd_iinc E (pc := 74) d_U_restBehind_74 rfl (bm_inc t) (by decide) ?_
          refine zd_goto E (pc := 77) 8 d_U_restBehind_77 (by decide) ?_
          exact ih (t + 1) _ X L6 (by omega) (cu_trans h1 (cu_rd_ge X na)) (cu_rd_lt h2 pul na (Nat.le_refl _)) (fun Y hY1 hY2 => cu_rd_le mono (h3 Y hY1 hY2) hY2 na (Nat.le_refl _)) (Or.inr ⟨h2, rfl, hn⟩)
  refine zd_iload_n E (pc := 0) d_U_restBehind_0 rfl ?_
  refine zd_istore_n E (pc := 1) d_U_restBehind_1 (by decide) ?_
  refine zd_iconst E (pc := 2) (v := (nI 0)) d_U_restBehind_2 (by decide) ?_
  refine zd_istore E (pc := 3) d_U_restBehind_3 (by decide) ?_
  refine zd_iconst E (pc := 5) (v := (nI 0)) d_U_restBehind_5 (by decide) ?_
  refine zd_istore E (pc := 6) d_U_restBehind_6 (by decide) ?_
  exact rounds 11 0 X0 0 none rfl (cu_refl _) hX (fun Y hY _ => hY) (Or.inl ⟨rfl, rfl⟩)
end CT
