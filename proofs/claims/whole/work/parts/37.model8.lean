/-! The reference: zone, rest, actionsAcross, least. -/
section M8
variable {k : Nat → ClassId} {q : Nat → Nat} {v : Nat → Int32} {r : Nat → Nat → Int32} {ex : va_W} {nf na fi go : Nat} {co ne ad dr : Nat → Nat}
theorem md_fin {nf : Nat} {ne : Nat → Nat} {h : Nat → Nat} {a : Nat} (b : Nat) : (if lm_jn 1048576 false h (ne a) nf < 1048576 then nI b else (-1 : Int32)) = (if cu_fin 1048576 nf ne h a = true then nI b else -1) := by
  by_cases z : lm_jn 1048576 false h (ne a) nf < 1048576
  · rw [if_pos z, if_pos (by simpa [cu_fin] using z)]
  · rw [if_neg z, if_neg (by simpa [cu_fin] using z)]
theorem md_b10 {h : Nat → Nat} {S nf b : Nat} (hn : nf ≤ 10) (hb : cu_B h S nf b) : b ≤ 10 := by
  rcases hb with ⟨z, -⟩ | ⟨z, -⟩ <;> omega
set_option maxRecDepth 100000 in
set_option maxHeartbeats 4000000 in
theorem c_M_zone (l : Launch) (D : va_G) {c h : Nat → Nat} {ba : Nat → Nat} {gb : Nat} (t : tk_M v r nf na fi go co ne ad dr) (hh : ∀ i, i < nf → r 32 i = nI (h i) ∧ h i ≤ 1048576) (hc : ∀ i, i < na → r 31 i = nI (c i) ∧ c i ≤ 9) (hba : ∀ a, a < na → cu_B h (ne a) nf (ba a)) (hgb : cu_B h go nf gb) (hg1 : lm_jn 1048576 false h go nf < 1048576) : zd_Ct l D classes (wd_ty k) gd_T y_M_zone b_M_zone 5 (some .int) (zd_rm 2) [.ref (q 22)] (wd k q v r ex)
    (fun v1 w1 => ∃ X, cu_is na (cu_tz 1048576 nf c ne ad h) (fun a => 2 ^ ba a) (2 ^ gb) X ∧ X < 2 ^ 11 ∧ v1 = some (.int (nI X)) ∧ w1 = wd k q v r ex) := by
  refine zd_met gd_all (by decide) rfl (Nat.le_of_ble_eq_true rfl) (fun Z E => ?_)
  show Z (wd k q v r ex) [some (.ref (q 22)), none, none, none, none] 0 []
  have hnf := t.2.2.1.1
  have hna := t.hna.2
  have h14 : v 14 = nI na := t.hna.1
  obtain ⟨g1, g2⟩ := t.hgo
  have g1 : v 13 = nI go := g1
  have gb10 := md_b10 hnf hgb
  have ba10 : ∀ a, a < na → ba a ≤ 10 := fun a ha => md_b10 hnf (hba a ha)
  have pul : ∀ a, a < na → 2 ^ ba a < 2 ^ 11 := fun a ha => Nat.pow_lt_pow_right (by omega) (by have := ba10 a ha; omega)
  have acts : ∀ (m a X0 X : Nat) (b : Bool) (L4 : Option Value), a + m = na → X < 2 ^ 11 → cu_le (2 ^ gb) X → (∀ Y, cu_le (2 ^ gb) Y → cu_cl na (cu_tz 1048576 nf c ne ad h) (fun a => 2 ^ ba a) Y → cu_le X Y) → (b = true → cu_n X0 11 < cu_n X 11) → (b = false → X = X0 ∧ ∀ a', a' < a → cu_tz 1048576 nf c ne ad h a' X0 = true → X0.testBit (ba a') = true) →
      (∀ (X : Nat) (b : Bool) (L3 L4 : Option Value), X < 2 ^ 11 → cu_le (2 ^ gb) X → (∀ Y, cu_le (2 ^ gb) Y → cu_cl na (cu_tz 1048576 nf c ne ad h) (fun a => 2 ^ ba a) Y → cu_le X Y) → (b = true → cu_n X0 11 < cu_n X 11) → (b = false → X = X0 ∧ cu_cl na (cu_tz 1048576 nf c ne ad h) (fun a => 2 ^ ba a) X0) → Z (wd k q v r ex) [some (.ref (q 22)), some (.int (nI X)), some (.int (nI (bm_b b))), L3, L4] 90 []) →
      Z (wd k q v r ex) [some (.ref (q 22)), some (.int (nI X)), some (.int (nI (bm_b b))), some (.int (nI a)), L4] 21 [] := by
    intro m
    induction m with
    | zero =>
      intro a X0 X b L4 ha hX hge hmin hb1 hb0 kk
      have e : a = na := by omega
      subst e
      refine zd_iload_n E (pc := 21) d_M_zone_21 rfl ?_
      refine zd_aload_n E (pc := 22) d_M_zone_22 rfl ?_
      refine zd_get E (pc := 23) d_M_zone_23 kf_M_51 22 rfl rfl ?_
      rw [h14]
      refine zd_nc_ge E (pc := 26) 90 d_M_zone_26 (by decide) ((by omega)) ((by omega)) (fun hq => ?_) (fun hq => ?_)
      · exact kk X b _ _ hX hge hmin hb1 (fun z => ⟨(hb0 z).1, fun a' ha' ht => cu_bit.mpr ((hb0 z).2 a' ha' ht)⟩)
      · omega
    | succ m ih =>
      intro a X0 X b L4 ha hX hge hmin hb1 hb0 kk
      have ha12 : a < 12 := by omega
      have han : a < na := by omega
      obtain ⟨n1, n2⟩ := t.hne a ha12
      have n1 : r 24 a = nI (ne a) := n1
      obtain ⟨a1, a2⟩ := t.had a ha12
      have a1 : r 25 a = nI (ad a) := a1
      obtain ⟨c1, c2⟩ := hc a han
      have b10 := ba10 a han
      have tail : ∀ (X : Nat) (b : Bool) (L4 : Option Value), X < 2 ^ 11 → cu_le (2 ^ gb) X → (∀ Y, cu_le (2 ^ gb) Y → cu_cl na (cu_tz 1048576 nf c ne ad h) (fun a => 2 ^ ba a) Y → cu_le X Y) → (b = true → cu_n X0 11 < cu_n X 11) → (b = false → X = X0 ∧ ∀ a', a' < a + 1 → cu_tz 1048576 nf c ne ad h a' X0 = true → X0.testBit (ba a') = true) → Z (wd k q v r ex) [some (.ref (q 22)), some (.int (nI X)), some (.int (nI (bm_b b))), some (.int (nI a)), L4] 84 [] := by
        intro X b L4 hX hge hmin hb1 hb0
        refine zd_iinc E (pc := 84) d_M_zone_84 rfl (bm_inc a) (by decide) ?_
        refine zd_goto E (pc := 87) 21 d_M_zone_87 (by decide) ?_
        exact ih (a + 1) X0 X b L4 (by omega) hX hge hmin hb1 hb0 kk
      have more : (b = false → cu_tz 1048576 nf c ne ad h a X0 = true → X0.testBit (ba a) = true) → ∀ (L4 : Option Value), Z (wd k q v r ex) [some (.ref (q 22)), some (.int (nI X)), some (.int (nI (bm_b b))), some (.int (nI a)), L4] 84 [] := fun hz L4 =>
        tail X b L4 hX hge hmin hb1 (fun z => ⟨(hb0 z).1, fun a' ha' ht => by
          by_cases e : a' = a
          · subst e; exact hz z ht
          · exact (hb0 z).2 a' (by omega) ht⟩)
      have hle : ad a &&& X ≤ X := Nat.and_le_right
      refine zd_iload_n E (pc := 21) d_M_zone_21 rfl ?_
      refine zd_aload_n E (pc := 22) d_M_zone_22 rfl ?_
      refine zd_get E (pc := 23) d_M_zone_23 kf_M_51 22 rfl rfl ?_
      rw [h14]
      refine zd_nc_ge E (pc := 26) 90 d_M_zone_26 (by decide) ((by omega)) ((by omega)) (fun hq => ?_) (fun hq => ?_)
      · omega
      · refine zd_aload_n E (pc := 29) d_M_zone_29 rfl ?_
        refine zd_aload_n E (pc := 30) d_M_zone_30 rfl ?_
        refine zd_get E (pc := 31) d_M_zone_31 kf_M_13 22 rfl rfl ?_
        refine zd_iload_n E (pc := 34) d_M_zone_34 rfl ?_
        refine zd_iald E (pc := 35) d_M_zone_35 24 rfl (t0 := 0) rfl (a) (rfl) (ha12) (by decide) ?_
        rw [n1]
        refine zd_callV E (pc := 36) d_M_zone_36 kc_M_115 rfl ki_M_base ke_M_base 22 rfl rfl (c_M_base l D t n2 hh) (by decide) rfl (Nat.le_of_ble_eq_true rfl) (fun v1 ws1 hv1 => ?_)
        obtain ⟨b2, hb2, rfl, rfl⟩ := hv1
        have e2 : b2 = ba a := cu_B_eq hb2 (hba a han)
        subst e2
        rw [md_fin]
        refine zd_istore E (pc := 39) d_M_zone_39 (by decide) ?_
        refine zd_iload E (pc := 41) d_M_zone_41 rfl ?_
        cases hf : cu_fin 1048576 nf ne h a with
        | false =>
          rw [if_neg (by decide)]
          refine zd_if_lt E (pc := 43) 84 d_M_zone_43 (by decide) (fun hn => ?_) (fun hn => ?_)
          · exact more (fun _ y => by unfold cu_tz at y; rw [hf] at y; simp at y) _
          · exact absurd (by decide) hn
        | true =>
          rw [if_pos rfl]
          refine zd_if_lt E (pc := 43) 84 d_M_zone_43 (by decide) (fun hn => ?_) (fun hn => ?_)
          · exact absurd hn (nI_pos (by omega))
          · refine zd_aload_n E (pc := 46) d_M_zone_46 rfl ?_
            refine zd_get E (pc := 47) d_M_zone_47 kf_M_35 22 rfl rfl ?_
            refine zd_iload_n E (pc := 50) d_M_zone_50 rfl ?_
            refine zd_iald E (pc := 51) d_M_zone_51 31 rfl (t0 := 0) rfl (a) (rfl) (ha12) (by decide) ?_
            rw [c1]
            refine zd_if_ne E (pc := 52) 84 d_M_zone_52 (by decide) (fun h0 => ?_) (fun h0 => ?_)
            · have hc0 : c a ≠ 0 := fun z => h0 (by rw [z]; rfl)
              exact more (fun _ y => by unfold cu_tz at y; simp [hc0] at y) _
            · have hc0 : c a = 0 := (nI_eq (by omega) (by decide)).mp ((Classical.not_not.mp h0).trans nI_0.symm)
              refine zd_aload_n E (pc := 55) d_M_zone_55 rfl ?_
              refine zd_get E (pc := 56) d_M_zone_56 kf_M_16 22 rfl rfl ?_
              refine zd_iload_n E (pc := 59) d_M_zone_59 rfl ?_
              refine zd_iald E (pc := 60) d_M_zone_60 25 rfl (t0 := 0) rfl (a) (rfl) (ha12) (by decide) ?_
              rw [a1]
              refine zd_iload_n E (pc := 61) d_M_zone_61 rfl ?_
              refine zd_iand E (pc := 62) d_M_zone_62 ?_
              rw [bm_and]
              refine zd_if_eq E (pc := 63) 84 d_M_zone_63 (by decide) (fun hz => ?_) (fun hz => ?_)
              · have hz0 : ad a &&& X = 0 := (nI_eq (by omega) (by decide)).mp (hz.trans nI_0.symm)
                exact more (fun y z => by
                  rw [← (hb0 y).1] at z
                  unfold cu_tz at z
                  simp [hz0] at z) _
              · have hz0 : ad a &&& X ≠ 0 := fun y => hz (by rw [y]; rfl)
                refine zd_iload_n E (pc := 66) d_M_zone_66 rfl ?_
                refine zd_iload E (pc := 67) d_M_zone_67 rfl ?_
                refine zd_ishr E (pc := 69) d_M_zone_69 ?_
                refine zd_iconst E (pc := 70) (v := (nI 1)) d_M_zone_70 (by decide) ?_
                refine zd_iand E (pc := 71) d_M_zone_71 ?_
                rw [bm_has (show X < 2 ^ 31 by omega) (show ba a < 32 by omega)]
                refine zd_bf_ne E (pc := 72) 84 d_M_zone_72 (by decide) (fun hbit => ?_) (fun hbit => ?_)
                · exact more (fun y _ => by rw [← (hb0 y).1]; exact hbit) _
                · refine zd_iload_n E (pc := 75) d_M_zone_75 rfl ?_
                  refine zd_iconst E (pc := 76) (v := (nI 1)) d_M_zone_76 (by decide) ?_
                  refine zd_iload E (pc := 77) d_M_zone_77 rfl ?_
                  refine zd_ishl E (pc := 79) d_M_zone_79 ?_
                  rw [bm_one (by omega)]
                  refine zd_ior E (pc := 80) d_M_zone_80 ?_
                  rw [bm_or]
                  refine zd_istore_n E (pc := 81) d_M_zone_81 (by decide) ?_
                  refine zd_iconst E (pc := 82) (v := (nI 1)) d_M_zone_82 (by decide) ?_
                  refine zd_istore_n E (pc := 83) d_M_zone_83 (by decide) ?_
                  have htt : cu_tz 1048576 nf c ne ad h a X = true := by unfold cu_tz; rw [hf]; simp [hc0, hz0]
                  have hlt : X ||| 2 ^ ba a < 2 ^ 11 := Nat.or_lt_two_pow hX (pul a han)
                  refine tail (X ||| 2 ^ ba a) true _ hlt (cu_trans hge (cu_orl _ _)) (fun Y hY1 hY2 => cu_or (hmin Y hY1 hY2) (hY2 a han (cu_tz_mono a _ _ (hmin Y hY1 hY2) htt))) (fun _ => ?_) (fun z => by cases z)
                  have hgrow := cu_n_lt (cu_orl X (2 ^ ba a)) hlt (fun z => hbit (by rw [z, Nat.testBit_or, Nat.testBit_two_pow]; simp))
                  cases b with
                  | true => have := hb1 rfl; omega
                  | false => rw [(hb0 rfl).1] at hgrow ⊢; exact hgrow
  have fin : ∀ (X : Nat) (L3 L4 : Option Value), X < 2 ^ 11 → cu_is na (cu_tz 1048576 nf c ne ad h) (fun a => 2 ^ ba a) (2 ^ gb) X → Z (wd k q v r ex) [some (.ref (q 22)), some (.int (nI X)), some (.int (nI (bm_b false))), L3, L4] 13 [] := by
    intro X L3 L4 hX hi
    refine zd_iload_n E (pc := 13) d_M_zone_13 rfl ?_
    refine zd_bf_eq E (pc := 14) 93 d_M_zone_14 (by decide) (fun hb => ?_) (fun hb => ?_)
    · refine zd_iload_n E (pc := 93) d_M_zone_93 rfl ?_
      exact zd_iret E (pc := 94) d_M_zone_94 ⟨X, hi, hX, rfl, rfl⟩
    · cases hb
  have whole : ∀ (Bd X : Nat) (L3 L4 : Option Value), 11 - cu_n X 11 ≤ Bd → X < 2 ^ 11 → cu_le (2 ^ gb) X → (∀ Y, cu_le (2 ^ gb) Y → cu_cl na (cu_tz 1048576 nf c ne ad h) (fun a => 2 ^ ba a) Y → cu_le X Y) → Z (wd k q v r ex) [some (.ref (q 22)), some (.int (nI X)), some (.int (nI (bm_b true))), L3, L4] 13 [] := by
    intro Bd
    induction Bd with
    | zero =>
      intro X L3 L4 hBd hX hge hmin
      refine zd_iload_n E (pc := 13) d_M_zone_13 rfl ?_
      refine zd_bf_eq E (pc := 14) 93 d_M_zone_14 (by decide) (fun hb => ?_) (fun hb => ?_)
      · exact absurd rfl hb
      · refine zd_iconst E (pc := 17) (v := (nI 0)) d_M_zone_17 (by decide) ?_
        refine zd_istore_n E (pc := 18) d_M_zone_18 (by decide) ?_
        refine zd_iconst E (pc := 19) (v := (nI 0)) d_M_zone_19 (by decide) ?_
        refine zd_istore_n E (pc := 20) d_M_zone_20 (by decide) ?_
        refine acts na 0 X X false L4 (by omega) hX hge hmin (fun z => by cases z) (fun _ => ⟨rfl, fun a' ha' => by omega⟩) (fun X2 b2 L3 L4 hX2 hge2 hmin2 hb12 hb02 => ?_)
        refine zd_goto E (pc := 90) 13 d_M_zone_90 (by decide) ?_
        cases b2 with
        | true =>
          have h1 := hb12 rfl
          have h2 := lm_cnt_le (fun b => X2.testBit b) 11
          have h3 : cu_n X2 11 ≤ 11 := h2
          omega
        | false =>
          obtain ⟨rfl, hcl⟩ := hb02 rfl
          exact fin X2 _ _ hX2 ⟨hge2, hcl, hmin2⟩
    | succ Bd ih =>
      intro X L3 L4 hBd hX hge hmin
      refine zd_iload_n E (pc := 13) d_M_zone_13 rfl ?_
      refine zd_bf_eq E (pc := 14) 93 d_M_zone_14 (by decide) (fun hb => ?_) (fun hb => ?_)
      · exact absurd rfl hb
      · refine zd_iconst E (pc := 17) (v := (nI 0)) d_M_zone_17 (by decide) ?_
        refine zd_istore_n E (pc := 18) d_M_zone_18 (by decide) ?_
        refine zd_iconst E (pc := 19) (v := (nI 0)) d_M_zone_19 (by decide) ?_
        refine zd_istore_n E (pc := 20) d_M_zone_20 (by decide) ?_
        refine acts na 0 X X false L4 (by omega) hX hge hmin (fun z => by cases z) (fun _ => ⟨rfl, fun a' ha' => by omega⟩) (fun X2 b2 L3 L4 hX2 hge2 hmin2 hb12 hb02 => ?_)
        refine zd_goto E (pc := 90) 13 d_M_zone_90 (by decide) ?_
        cases b2 with
        | true =>
          have h1 := hb12 rfl
          exact ih X2 L3 L4 (by omega) hX2 hge2 hmin2
        | false =>
          obtain ⟨rfl, hcl⟩ := hb02 rfl
          exact fin X2 _ _ hX2 ⟨hge2, hcl, hmin2⟩
  refine zd_iconst E (pc := 0) (v := (nI 1)) d_M_zone_0 (by decide) ?_
  refine zd_aload_n E (pc := 1) d_M_zone_1 rfl ?_
  refine zd_aload_n E (pc := 2) d_M_zone_2 rfl ?_
  refine zd_get E (pc := 3) d_M_zone_3 kf_M_63 22 rfl rfl ?_
  rw [g1]
  refine zd_callV E (pc := 6) d_M_zone_6 kc_M_115 rfl ki_M_base ke_M_base 22 rfl rfl (c_M_base l D t g2 hh) (by decide) rfl (Nat.le_of_ble_eq_true rfl) (fun v1 ws1 hv1 => ?_)
  obtain ⟨b2, hb2, rfl, rfl⟩ := hv1
  have e2 : b2 = gb := cu_B_eq hb2 hgb
  subst e2
  rw [if_pos hg1]
  refine zd_ishl E (pc := 9) d_M_zone_9 ?_
  rw [bm_one (by omega)]
  refine zd_istore_n E (pc := 10) d_M_zone_10 (by decide) ?_
  refine zd_iconst E (pc := 11) (v := (nI 1)) d_M_zone_11 (by decide) ?_
  refine zd_istore_n E (pc := 12) d_M_zone_12 (by decide) ?_
  exact whole _ (2 ^ b2) none none (Nat.le_refl _) (Nat.pow_lt_pow_right (by omega) (by omega)) (cu_refl _) (fun Y hY _ => hY)
set_option maxRecDepth 100000 in
set_option maxHeartbeats 4000000 in
theorem c_M_rest (l : Launch) (D : va_G) {s V : Nat} {h : Nat → Nat} {ba : Nat → Nat} (t : tk_M v r nf na fi go co ne ad dr) (hs : v 15 = nI s) (hs2 : s < 2 ^ nf) (hh : ∀ i, i < nf → r 32 i = nI (h i) ∧ h i ≤ 1048576) (hba : ∀ a, a < na → cu_B h (ne a) nf (ba a)) : zd_Ct l D classes (wd_ty k) gd_T y_M_rest b_M_rest 6 (some .int) (zd_rm 2) [.ref (q 22), .int (nI V)] (wd k q v r ex)
    (fun v1 w1 => ∃ X, cu_is na (cu_tr 1048576 nf ne ba h) (fun a => bm_dif (ad a) V) (bm_dif (s ||| 2 ^ 10) V) X ∧ X < 2 ^ 11 ∧ v1 = some (.int (nI X)) ∧ w1 = wd k q v r ex) := by
  refine zd_met gd_all (by decide) rfl (Nat.le_of_ble_eq_true rfl) (fun Z E => ?_)
  show Z (wd k q v r ex) [some (.ref (q 22)), some (.int (nI V)), none, none, none, none] 0 []
  have hnf := t.2.2.1.1
  have hna := t.hna.2
  have hN := t.n31
  have h14 : v 14 = nI na := t.hna.1
  have ba10 : ∀ a, a < na → ba a ≤ 10 := fun a ha => md_b10 hnf (hba a ha)
  have hX0 : bm_dif (s ||| 2 ^ 10) V < 2 ^ 11 := tk_dif_lt (Nat.or_lt_two_pow (by omega) (by decide))
  have pul : ∀ a, a < na → bm_dif (ad a) V < 2 ^ 11 := fun a ha => tk_dif_lt (by have := (t.2.2.2.1 a (by omega)).2.2.1; omega)
  generalize hI0 : bm_dif (s ||| 2 ^ 10) V = I0 at hX0 E
  have acts : ∀ (m a X0 X : Nat) (b : Bool) (L5 : Option Value), a + m = na → X < 2 ^ 11 → cu_le I0 X → (∀ Y, cu_le I0 Y → cu_cl na (cu_tr 1048576 nf ne ba h) (fun a => bm_dif (ad a) V) Y → cu_le X Y) → (b = true → cu_n X0 11 < cu_n X 11) → (b = false → X = X0 ∧ ∀ a', a' < a → cu_tr 1048576 nf ne ba h a' X0 = true → cu_le (bm_dif (ad a') V) X0) →
      (∀ (X : Nat) (b : Bool) (L4 L5 : Option Value), X < 2 ^ 11 → cu_le I0 X → (∀ Y, cu_le I0 Y → cu_cl na (cu_tr 1048576 nf ne ba h) (fun a => bm_dif (ad a) V) Y → cu_le X Y) → (b = true → cu_n X0 11 < cu_n X 11) → (b = false → X = X0 ∧ cu_cl na (cu_tr 1048576 nf ne ba h) (fun a => bm_dif (ad a) V) X0) → Z (wd k q v r ex) [some (.ref (q 22)), some (.int (nI V)), some (.int (nI X)), some (.int (nI (bm_b b))), L4, L5] 101 []) →
      Z (wd k q v r ex) [some (.ref (q 22)), some (.int (nI V)), some (.int (nI X)), some (.int (nI (bm_b b))), some (.int (nI a)), L5] 24 [] := by
    intro m
    induction m with
    | zero =>
      intro a X0 X b L5 ha hX hge hmin hb1 hb0 kk
      have e : a = na := by omega
      subst e
      refine zd_iload E (pc := 24) d_M_rest_24 rfl ?_
      refine zd_aload_n E (pc := 26) d_M_rest_26 rfl ?_
      refine zd_get E (pc := 27) d_M_rest_27 kf_M_51 22 rfl rfl ?_
      rw [h14]
      refine zd_nc_ge E (pc := 30) 101 d_M_rest_30 (by decide) ((by omega)) ((by omega)) (fun hq => ?_) (fun hq => ?_)
      · exact kk X b _ _ hX hge hmin hb1 (fun z => ⟨(hb0 z).1, fun a' ha' ht => (hb0 z).2 a' ha' ht⟩)
      · omega
    | succ m ih =>
      intro a X0 X b L5 ha hX hge hmin hb1 hb0 kk
      have ha12 : a < 12 := by omega
      have han : a < na := by omega
      obtain ⟨n1, n2⟩ := t.hne a ha12
      have n1 : r 24 a = nI (ne a) := n1
      obtain ⟨a1, a2⟩ := t.had a ha12
      have a1 : r 25 a = nI (ad a) := a1
      have b10 := ba10 a han
      have tail : ∀ (X : Nat) (b : Bool) (L5 : Option Value), X < 2 ^ 11 → cu_le I0 X → (∀ Y, cu_le I0 Y → cu_cl na (cu_tr 1048576 nf ne ba h) (fun a => bm_dif (ad a) V) Y → cu_le X Y) → (b = true → cu_n X0 11 < cu_n X 11) → (b = false → X = X0 ∧ ∀ a', a' < a + 1 → cu_tr 1048576 nf ne ba h a' X0 = true → cu_le (bm_dif (ad a') V) X0) → Z (wd k q v r ex) [some (.ref (q 22)), some (.int (nI V)), some (.int (nI X)), some (.int (nI (bm_b b))), some (.int (nI a)), L5] 95 [] := by
        intro X b L5 hX hge hmin hb1 hb0
        refine zd_iinc E (pc := 95) d_M_rest_95 rfl (bm_inc a) (by decide) ?_
        refine zd_goto E (pc := 98) 24 d_M_rest_98 (by decide) ?_
        exact ih (a + 1) X0 X b L5 (by omega) hX hge hmin hb1 hb0 kk
      have more : (b = false → cu_tr 1048576 nf ne ba h a X0 = true → cu_le (bm_dif (ad a) V) X0) → ∀ (L5 : Option Value), Z (wd k q v r ex) [some (.ref (q 22)), some (.int (nI V)), some (.int (nI X)), some (.int (nI (bm_b b))), some (.int (nI a)), L5] 95 [] := fun hz L5 =>
        tail X b L5 hX hge hmin hb1 (fun z => ⟨(hb0 z).1, fun a' ha' ht => by
          by_cases e : a' = a
          · subst e; exact hz z ht
          · exact (hb0 z).2 a' (by omega) ht⟩)
      refine zd_iload E (pc := 24) d_M_rest_24 rfl ?_
      refine zd_aload_n E (pc := 26) d_M_rest_26 rfl ?_
      refine zd_get E (pc := 27) d_M_rest_27 kf_M_51 22 rfl rfl ?_
      rw [h14]
      refine zd_nc_ge E (pc := 30) 101 d_M_rest_30 (by decide) ((by omega)) ((by omega)) (fun hq => ?_) (fun hq => ?_)
      · omega
      · refine zd_aload_n E (pc := 33) d_M_rest_33 rfl ?_
        refine zd_aload_n E (pc := 34) d_M_rest_34 rfl ?_
        refine zd_get E (pc := 35) d_M_rest_35 kf_M_13 22 rfl rfl ?_
        refine zd_iload E (pc := 38) d_M_rest_38 rfl ?_
        refine zd_iald E (pc := 40) d_M_rest_40 24 rfl (t0 := 0) rfl (a) (rfl) (ha12) (by decide) ?_
        rw [n1]
        refine zd_callV E (pc := 41) d_M_rest_41 kc_M_115 rfl ki_M_base ke_M_base 22 rfl rfl (c_M_base l D t n2 hh) (by decide) rfl (Nat.le_of_ble_eq_true rfl) (fun v1 ws1 hv1 => ?_)
        obtain ⟨b2, hb2, rfl, rfl⟩ := hv1
        have e2 : b2 = ba a := cu_B_eq hb2 (hba a han)
        subst e2
        rw [md_fin]
        refine zd_istore E (pc := 44) d_M_rest_44 (by decide) ?_
        refine zd_iload E (pc := 46) d_M_rest_46 rfl ?_
        cases hf : cu_fin 1048576 nf ne h a with
        | false =>
          rw [if_neg (by decide)]
          refine zd_if_lt E (pc := 48) 95 d_M_rest_48 (by decide) (fun hn => ?_) (fun hn => ?_)
          · exact more (fun _ y => by unfold cu_tr at y; rw [hf] at y; cases y) _
          · exact absurd (by decide) hn
        | true =>
          rw [if_pos rfl]
          refine zd_if_lt E (pc := 48) 95 d_M_rest_48 (by decide) (fun hn => ?_) (fun hn => ?_)
          · exact absurd hn (nI_pos (by omega))
          · refine zd_iload_n E (pc := 51) d_M_rest_51 rfl ?_
            refine zd_iload E (pc := 52) d_M_rest_52 rfl ?_
            refine zd_ishr E (pc := 54) d_M_rest_54 ?_
            refine zd_iconst E (pc := 55) (v := (nI 1)) d_M_rest_55 (by decide) ?_
            refine zd_iand E (pc := 56) d_M_rest_56 ?_
            rw [bm_has (show X < 2 ^ 31 by omega) (show ba a < 32 by omega)]
            refine zd_iconst E (pc := 57) (v := (nI 1)) d_M_rest_57 (by decide) ?_
            refine zd_hb_ne E (pc := 58) 95 d_M_rest_58 (by decide) (fun hbit => ?_) (fun hbit => ?_)
            · exact more (fun y z => by
                rw [← (hb0 y).1] at z
                unfold cu_tr at z
                rw [ts_f hbit, Bool.and_false] at z
                cases z) _
            · refine zd_aload_n E (pc := 61) d_M_rest_61 rfl ?_
              refine zd_get E (pc := 62) d_M_rest_62 kf_M_16 22 rfl rfl ?_
              refine zd_iload E (pc := 65) d_M_rest_65 rfl ?_
              refine zd_iald E (pc := 67) d_M_rest_67 25 rfl (t0 := 0) rfl (a) (rfl) (ha12) (by decide) ?_
              rw [a1]
              refine zd_iload_n E (pc := 68) d_M_rest_68 rfl ?_
              refine zd_iconst E (pc := 69) (v := (-1)) d_M_rest_69 (by decide) ?_
              refine zd_ixor E (pc := 70) d_M_rest_70 ?_
              refine zd_iand E (pc := 71) d_M_rest_71 ?_
              rw [bm_dif32]
              refine zd_iload_n E (pc := 72) d_M_rest_72 rfl ?_
              refine zd_iconst E (pc := 73) (v := (-1)) d_M_rest_73 (by decide) ?_
              refine zd_ixor E (pc := 74) d_M_rest_74 ?_
              refine zd_iand E (pc := 75) d_M_rest_75 ?_
              rw [bm_dif32]
              have hlt2 : bm_dif (bm_dif (ad a) V) X < 2 ^ 11 := tk_dif_lt (pul a han)
              refine zd_if_eq E (pc := 76) 95 d_M_rest_76 (by decide) (fun hz => ?_) (fun hz => ?_)
              · have hz0 : bm_dif (bm_dif (ad a) V) X = 0 := (nI_eq (by omega) (by decide)).mp (hz.trans nI_0.symm)
                refine more (fun y _ => ?_) _
                rw [← (hb0 y).1]
                have := bm_dif0.mp hz0
                intro i hi
                have h2 := congrArg (fun w => w.testBit i) this
                simp only [Nat.testBit_and, hi, Bool.and_true] at h2
                exact h2
              · have hz0 : bm_dif (bm_dif (ad a) V) X ≠ 0 := fun y => hz (by rw [y]; rfl)
                refine zd_iload_n E (pc := 79) d_M_rest_79 rfl ?_
                refine zd_aload_n E (pc := 80) d_M_rest_80 rfl ?_
                refine zd_get E (pc := 81) d_M_rest_81 kf_M_16 22 rfl rfl ?_
                refine zd_iload E (pc := 84) d_M_rest_84 rfl ?_
                refine zd_iald E (pc := 86) d_M_rest_86 25 rfl (t0 := 0) rfl (a) (rfl) (ha12) (by decide) ?_
                rw [a1]
                refine zd_iload_n E (pc := 87) d_M_rest_87 rfl ?_
                refine zd_iconst E (pc := 88) (v := (-1)) d_M_rest_88 (by decide) ?_
                refine zd_ixor E (pc := 89) d_M_rest_89 ?_
                refine zd_iand E (pc := 90) d_M_rest_90 ?_
                rw [bm_dif32]
                refine zd_ior E (pc := 91) d_M_rest_91 ?_
                rw [bm_or]
                refine zd_istore_n E (pc := 92) d_M_rest_92 (by decide) ?_
                refine zd_iconst E (pc := 93) (v := (nI 1)) d_M_rest_93 (by decide) ?_
                refine zd_istore_n E (pc := 94) d_M_rest_94 (by decide) ?_
                have htt : cu_tr 1048576 nf ne ba h a X = true := by unfold cu_tr; rw [hf, hbit]; rfl
                have hlt : X ||| bm_dif (ad a) V < 2 ^ 11 := Nat.or_lt_two_pow hX (pul a han)
                refine tail (X ||| bm_dif (ad a) V) true _ hlt (cu_trans hge (cu_orl _ _)) (fun Y hY1 hY2 => cu_or (hmin Y hY1 hY2) (hY2 a han (cu_tr_mono a _ _ (hmin Y hY1 hY2) htt))) (fun _ => ?_) (fun z => by cases z)
                have hgrow := cu_n_lt (cu_orl X (bm_dif (ad a) V)) hlt (fun z => hz0 (by
                  rw [bm_dif0]
                  refine Nat.eq_of_testBit_eq fun i => ?_
                  rw [Nat.testBit_and]
                  cases hi : (bm_dif (ad a) V).testBit i with
                  | false => rw [Bool.and_false]
                  | true => rw [z, Nat.testBit_or, hi, Bool.or_true]; rfl))
                cases b with
                | true => have := hb1 rfl; omega
                | false => rw [(hb0 rfl).1] at hgrow ⊢; exact hgrow
  have fin : ∀ (X : Nat) (L4 L5 : Option Value), X < 2 ^ 11 → cu_is na (cu_tr 1048576 nf ne ba h) (fun a => bm_dif (ad a) V) I0 X → Z (wd k q v r ex) [some (.ref (q 22)), some (.int (nI V)), some (.int (nI X)), some (.int (nI (bm_b false))), L4, L5] 15 [] := by
    intro X L4 L5 hX hi
    refine zd_iload_n E (pc := 15) d_M_rest_15 rfl ?_
    refine zd_bf_eq E (pc := 16) 104 d_M_rest_16 (by decide) (fun hb => ?_) (fun hb => ?_)
    · refine zd_iload_n E (pc := 104) d_M_rest_104 rfl ?_
      exact zd_iret E (pc := 105) d_M_rest_105 ⟨X, hi, hX, rfl, rfl⟩
    · cases hb
  have whole : ∀ (Bd X : Nat) (L4 L5 : Option Value), 11 - cu_n X 11 ≤ Bd → X < 2 ^ 11 → cu_le I0 X → (∀ Y, cu_le I0 Y → cu_cl na (cu_tr 1048576 nf ne ba h) (fun a => bm_dif (ad a) V) Y → cu_le X Y) → Z (wd k q v r ex) [some (.ref (q 22)), some (.int (nI V)), some (.int (nI X)), some (.int (nI (bm_b true))), L4, L5] 15 [] := by
    intro Bd
    induction Bd with
    | zero =>
      intro X L4 L5 hBd hX hge hmin
      refine zd_iload_n E (pc := 15) d_M_rest_15 rfl ?_
      refine zd_bf_eq E (pc := 16) 104 d_M_rest_16 (by decide) (fun hb => ?_) (fun hb => ?_)
      · exact absurd rfl hb
      · refine zd_iconst E (pc := 19) (v := (nI 0)) d_M_rest_19 (by decide) ?_
        refine zd_istore_n E (pc := 20) d_M_rest_20 (by decide) ?_
        refine zd_iconst E (pc := 21) (v := (nI 0)) d_M_rest_21 (by decide) ?_
        refine zd_istore E (pc := 22) d_M_rest_22 (by decide) ?_
        refine acts na 0 X X false L5 (by omega) hX hge hmin (fun z => by cases z) (fun _ => ⟨rfl, fun a' ha' => by omega⟩) (fun X2 b2 L4 L5 hX2 hge2 hmin2 hb12 hb02 => ?_)
        refine zd_goto E (pc := 101) 15 d_M_rest_101 (by decide) ?_
        cases b2 with
        | true =>
          have h1 := hb12 rfl
          have h3 : cu_n X2 11 ≤ 11 := lm_cnt_le (fun b => X2.testBit b) 11
          omega
        | false =>
          obtain ⟨rfl, hcl⟩ := hb02 rfl
          exact fin X2 _ _ hX2 ⟨hge2, hcl, hmin2⟩
    | succ Bd ih =>
      intro X L4 L5 hBd hX hge hmin
      refine zd_iload_n E (pc := 15) d_M_rest_15 rfl ?_
      refine zd_bf_eq E (pc := 16) 104 d_M_rest_16 (by decide) (fun hb => ?_) (fun hb => ?_)
      · exact absurd rfl hb
      · refine zd_iconst E (pc := 19) (v := (nI 0)) d_M_rest_19 (by decide) ?_
        refine zd_istore_n E (pc := 20) d_M_rest_20 (by decide) ?_
        refine zd_iconst E (pc := 21) (v := (nI 0)) d_M_rest_21 (by decide) ?_
        refine zd_istore E (pc := 22) d_M_rest_22 (by decide) ?_
        refine acts na 0 X X false L5 (by omega) hX hge hmin (fun z => by cases z) (fun _ => ⟨rfl, fun a' ha' => by omega⟩) (fun X2 b2 L4 L5 hX2 hge2 hmin2 hb12 hb02 => ?_)
        refine zd_goto E (pc := 101) 15 d_M_rest_101 (by decide) ?_
        cases b2 with
        | true =>
          have h1 := hb12 rfl
          exact ih X2 L4 L5 (by omega) hX2 hge2 hmin2
        | false =>
          obtain ⟨rfl, hcl⟩ := hb02 rfl
          exact fin X2 _ _ hX2 ⟨hge2, hcl, hmin2⟩
  refine zd_aload_n E (pc := 0) d_M_rest_0 rfl ?_
  refine zd_get E (pc := 1) d_M_rest_1 kf_M_60 22 rfl rfl ?_
  rw [hs]
  refine zd_sipush E (pc := 4) (v := (nI 1024)) d_M_rest_4 (by decide) ?_
  refine zd_ior E (pc := 7) d_M_rest_7 ?_
  rw [bm_or]
  refine zd_iload_n E (pc := 8) d_M_rest_8 rfl ?_
  refine zd_iconst E (pc := 9) (v := (-1)) d_M_rest_9 (by decide) ?_
  refine zd_ixor E (pc := 10) d_M_rest_10 ?_
  refine zd_iand E (pc := 11) d_M_rest_11 ?_
  rw [bm_dif32]
  refine zd_istore_n E (pc := 12) d_M_rest_12 (by decide) ?_
  refine zd_iconst E (pc := 13) (v := (nI 1)) d_M_rest_13 (by decide) ?_
  refine zd_istore_n E (pc := 14) d_M_rest_14 (by decide) ?_
  rw [show bm_dif (s ||| 1024) V = I0 from hI0]
  exact whole _ I0 none none (Nat.le_refl _) hX0 (cu_refl _) (fun Y hY _ => hY)
set_option maxRecDepth 100000 in
set_option maxHeartbeats 4000000 in
theorem c_M_actionsAcross (l : Launch) (D : va_G) {X Y : Nat} {h : Nat → Nat} {ba : Nat → Nat} (t : tk_M v r nf na fi go co ne ad dr) (hX : X < 2 ^ 11) (hY : Y < 2 ^ 11) (hh : ∀ i, i < nf → r 32 i = nI (h i) ∧ h i ≤ 1048576) (hba : ∀ a, a < na → cu_B h (ne a) nf (ba a)) : zd_Ct l D classes (wd_ty k) gd_T y_M_actionsAcross b_M_actionsAcross 6 (some .int) (zd_rm 2) [.ref (q 22), .int (nI Y), .int (nI X)] (wd k q v r ex) (zd_is (some (.int (nI (cu_mk (cu_ac 1048576 nf ne ad ba h X Y) na)))) (wd k q v r ex)) := by
  refine zd_met gd_all (by decide) rfl (Nat.le_of_ble_eq_true rfl) (fun Z E => ?_)
  show Z (wd k q v r ex) [some (.ref (q 22)), some (.int (nI Y)), some (.int (nI X)), none, none, none] 0 []
  have hnf := t.2.2.1.1
  have hna := t.hna.2
  have h14 : v 14 = nI na := t.hna.1
  have loop : ∀ (m a : Nat) (L5 : Option Value), a + m = na → Z (wd k q v r ex) [some (.ref (q 22)), some (.int (nI Y)), some (.int (nI X)), some (.int (nI (cu_mk (cu_ac 1048576 nf ne ad ba h X Y) a))), some (.int (nI a)), L5] 5 [] := by
    intro m
    induction m with
    | zero =>
      intro a L5 ha
      have e : a = na := by omega
      subst e
      refine zd_iload E (pc := 5) d_M_actionsAcross_5 rfl ?_
      refine zd_aload_n E (pc := 7) d_M_actionsAcross_7 rfl ?_
      refine zd_get E (pc := 8) d_M_actionsAcross_8 kf_M_51 22 rfl rfl ?_
      rw [h14]
      refine zd_nc_ge E (pc := 11) 71 d_M_actionsAcross_11 (by decide) ((by omega)) ((by omega)) (fun hq => ?_) (fun hq => ?_)
      · refine zd_iload_n E (pc := 71) d_M_actionsAcross_71 rfl ?_
        exact zd_iret E (pc := 72) d_M_actionsAcross_72 ⟨rfl, rfl⟩
      · omega
    | succ m ih =>
      intro a L5 ha
      have ha12 : a < 12 := by omega
      have han : a < na := by omega
      obtain ⟨n1, n2⟩ := t.hne a ha12
      have n1 : r 24 a = nI (ne a) := n1
      obtain ⟨a1, a2⟩ := t.had a ha12
      have a1 : r 25 a = nI (ad a) := a1
      have b10 := md_b10 hnf (hba a han)
      have tail : ∀ (x : Nat) (L5 : Option Value), x = cu_mk (cu_ac 1048576 nf ne ad ba h X Y) (a + 1) → Z (wd k q v r ex) [some (.ref (q 22)), some (.int (nI Y)), some (.int (nI X)), some (.int (nI (cu_mk (cu_ac 1048576 nf ne ad ba h X Y) a))), some (.int (nI a)), L5] 64 [.int (nI x)] := by
        intro x L5 hx
        subst hx
        refine zd_istore_n E (pc := 64) d_M_actionsAcross_64 (by decide) ?_
        refine zd_iinc E (pc := 65) d_M_actionsAcross_65 rfl (bm_inc a) (by decide) ?_
        refine zd_goto E (pc := 68) 5 d_M_actionsAcross_68 (by decide) ?_
        exact ih (a + 1) L5 (by omega)
      have skip : cu_ac 1048576 nf ne ad ba h X Y a = false → ∀ (L5 : Option Value), Z (wd k q v r ex) [some (.ref (q 22)), some (.int (nI Y)), some (.int (nI X)), some (.int (nI (cu_mk (cu_ac 1048576 nf ne ad ba h X Y) a))), some (.int (nI a)), L5] 63 [] := by
        intro hz L5
        refine zd_iload_n E (pc := 63) d_M_actionsAcross_63 rfl ?_
        exact tail _ L5 (by rw [cu_mk, if_neg (by rw [hz]; decide), Nat.or_zero])
      have hle : ad a &&& X ≤ X := Nat.and_le_right
      refine zd_iload E (pc := 5) d_M_actionsAcross_5 rfl ?_
      refine zd_aload_n E (pc := 7) d_M_actionsAcross_7 rfl ?_
      refine zd_get E (pc := 8) d_M_actionsAcross_8 kf_M_51 22 rfl rfl ?_
      rw [h14]
      refine zd_nc_ge E (pc := 11) 71 d_M_actionsAcross_11 (by decide) ((by omega)) ((by omega)) (fun hq => ?_) (fun hq => ?_)
      · omega
      · refine zd_aload_n E (pc := 14) d_M_actionsAcross_14 rfl ?_
        refine zd_aload_n E (pc := 15) d_M_actionsAcross_15 rfl ?_
        refine zd_get E (pc := 16) d_M_actionsAcross_16 kf_M_13 22 rfl rfl ?_
        refine zd_iload E (pc := 19) d_M_actionsAcross_19 rfl ?_
        refine zd_iald E (pc := 21) d_M_actionsAcross_21 24 rfl (t0 := 0) rfl (a) (rfl) (ha12) (by decide) ?_
        rw [n1]
        refine zd_callV E (pc := 22) d_M_actionsAcross_22 kc_M_115 rfl ki_M_base ke_M_base 22 rfl rfl (c_M_base l D t n2 hh) (by decide) rfl (Nat.le_of_ble_eq_true rfl) (fun v1 ws1 hv1 => ?_)
        obtain ⟨b2, hb2, rfl, rfl⟩ := hv1
        have e2 : b2 = ba a := cu_B_eq hb2 (hba a han)
        subst e2
        rw [md_fin]
        refine zd_istore E (pc := 25) d_M_actionsAcross_25 (by decide) ?_
        refine zd_iload E (pc := 27) d_M_actionsAcross_27 rfl ?_
        cases hf : cu_fin 1048576 nf ne h a with
        | false =>
          rw [if_neg (by decide)]
          refine zd_if_lt E (pc := 29) 63 d_M_actionsAcross_29 (by decide) (fun hn => ?_) (fun hn => ?_)
          · exact skip (by unfold cu_ac; rw [hf]; rfl) _
          · exact absurd (by decide) hn
        | true =>
          rw [if_pos rfl]
          refine zd_if_lt E (pc := 29) 63 d_M_actionsAcross_29 (by decide) (fun hn => ?_) (fun hn => ?_)
          · exact absurd hn (nI_pos (by omega))
          · refine zd_iload_n E (pc := 32) d_M_actionsAcross_32 rfl ?_
            refine zd_iload E (pc := 33) d_M_actionsAcross_33 rfl ?_
            refine zd_ishr E (pc := 35) d_M_actionsAcross_35 ?_
            refine zd_iconst E (pc := 36) (v := (nI 1)) d_M_actionsAcross_36 (by decide) ?_
            refine zd_iand E (pc := 37) d_M_actionsAcross_37 ?_
            rw [bm_has (show Y < 2 ^ 31 by omega) (show ba a < 32 by omega)]
            refine zd_iconst E (pc := 38) (v := (nI 1)) d_M_actionsAcross_38 (by decide) ?_
            refine zd_hb_ne E (pc := 39) 63 d_M_actionsAcross_39 (by decide) (fun hbit => ?_) (fun hbit => ?_)
            · exact skip (by unfold cu_ac; rw [ts_f hbit, Bool.and_false]; rfl) _
            · refine zd_aload_n E (pc := 42) d_M_actionsAcross_42 rfl ?_
              refine zd_get E (pc := 43) d_M_actionsAcross_43 kf_M_16 22 rfl rfl ?_
              refine zd_iload E (pc := 46) d_M_actionsAcross_46 rfl ?_
              refine zd_iald E (pc := 48) d_M_actionsAcross_48 25 rfl (t0 := 0) rfl (a) (rfl) (ha12) (by decide) ?_
              rw [a1]
              refine zd_iload_n E (pc := 49) d_M_actionsAcross_49 rfl ?_
              refine zd_iand E (pc := 50) d_M_actionsAcross_50 ?_
              rw [bm_and]
              refine zd_if_eq E (pc := 51) 63 d_M_actionsAcross_51 (by decide) (fun hz => ?_) (fun hz => ?_)
              · have hz0 : ad a &&& X = 0 := (nI_eq (by omega) (by decide)).mp (hz.trans nI_0.symm)
                exact skip (by unfold cu_ac; simp [hz0]) _
              · have hz0 : ad a &&& X ≠ 0 := fun y => hz (by rw [y]; rfl)
                refine zd_iload_n E (pc := 54) d_M_actionsAcross_54 rfl ?_
                refine zd_iconst E (pc := 55) (v := (nI 1)) d_M_actionsAcross_55 (by decide) ?_
                refine zd_iload E (pc := 56) d_M_actionsAcross_56 rfl ?_
                refine zd_ishl E (pc := 58) d_M_actionsAcross_58 ?_
                rw [bm_one (by omega)]
                refine zd_ior E (pc := 59) d_M_actionsAcross_59 ?_
                rw [bm_or]
                refine zd_goto E (pc := 60) 64 d_M_actionsAcross_60 (by decide) ?_
                have htt : cu_ac 1048576 nf ne ad ba h X Y a = true := by unfold cu_ac; rw [hf, hbit]; simp [hz0]
                exact tail _ _ (by rw [cu_mk, if_pos htt])
  refine zd_iconst E (pc := 0) (v := (nI 0)) d_M_actionsAcross_0 (by decide) ?_
  refine zd_istore_n E (pc := 1) d_M_actionsAcross_1 (by decide) ?_
  refine zd_iconst E (pc := 2) (v := (nI 0)) d_M_actionsAcross_2 (by decide) ?_
  refine zd_istore E (pc := 3) d_M_actionsAcross_3 (by decide) ?_
  exact loop na 0 none (by omega)
/-- the least cost of a cut's actions, the cap where there are none -/
def md_min (c : Nat → Nat) (C : Nat) : Nat → Nat
  | 0 => 1048576
  | i + 1 => if C.testBit i = true then min (md_min c C i) (c i) else md_min c C i
theorem md_min_le (c : Nat → Nat) (C : Nat) : ∀ n, md_min c C n ≤ 1048576
  | 0 => Nat.le_refl _
  | n + 1 => by have := md_min_le c C n; unfold md_min; split <;> omega
theorem md_min_a {c : Nat → Nat} {C : Nat} : ∀ {n : Nat} {a : Nat}, a < n → C.testBit a = true → md_min c C n ≤ c a
  | 0, a, h, _ => by omega
  | n + 1, a, h, hb => by
    unfold md_min
    by_cases e : a = n
    · subst e; rw [if_pos hb]; omega
    · have := md_min_a (c := c) (n := n) (a := a) (by omega) hb
      split <;> omega
/-- where a cut has an action, the class's price and the reference's are the same -/
theorem md_min_eq {c : Nat → Nat} {C n : Nat} (hc : ∀ a, a < n → c a ≤ 9) (hex : ∃ a, a < n ∧ C.testBit a = true) : md_min c C n = lm_min c C n := by
  have key : ∀ m, m ≤ n → lm_min c C m = min 9 (md_min c C m) := by
    intro m
    induction m with
    | zero => intro _; rfl
    | succ m ih =>
      intro hm
      have h1 := ih (by omega)
      unfold lm_min md_min
      by_cases q : C.testBit m = true
      · rw [if_pos q, if_pos q, h1]
        have := hc m (by omega)
        omega
      · rw [if_neg q, if_neg q]; exact h1
  obtain ⟨a, ha, hb⟩ := hex
  have h2 := md_min_a (c := c) ha hb
  have h3 := hc a ha
  have h4 := key n (Nat.le_refl _)
  omega
set_option maxRecDepth 100000 in
set_option maxHeartbeats 4000000 in
theorem c_M_least (l : Launch) (D : va_G) {C : Nat} {c : Nat → Nat} (t : tk_M v r nf na fi go co ne ad dr) (hC : C < 2 ^ 31) (hc : ∀ i, i < na → r 31 i = nI (c i) ∧ c i ≤ 9) : zd_Ct l D classes (wd_ty k) gd_T y_M_least b_M_least 4 (some .int) (zd_rm 0) [.ref (q 22), .int (nI C)] (wd k q v r ex) (zd_is (some (.int (nI (md_min c C na)))) (wd k q v r ex)) := by
  refine zd_met gd_all (by decide) rfl (Nat.le_of_ble_eq_true rfl) (fun Z E => ?_)
  show Z (wd k q v r ex) [some (.ref (q 22)), some (.int (nI C)), none, none] 0 []
  have hna := t.hna.2
  have h14 : v 14 = nI na := t.hna.1
  have loop : ∀ (m a : Nat), a + m = na → Z (wd k q v r ex) [some (.ref (q 22)), some (.int (nI C)), some (.int (nI (md_min c C a))), some (.int (nI a))] 5 [] := by
    intro m
    induction m with
    | zero =>
      intro a ha
      have e : a = na := by omega
      subst e
      refine zd_iload_n E (pc := 5) d_M_least_5 rfl ?_
      refine zd_aload_n E (pc := 6) d_M_least_6 rfl ?_
      refine zd_get E (pc := 7) d_M_least_7 kf_M_51 22 rfl rfl ?_
      rw [h14]
      refine zd_nc_ge E (pc := 10) 49 d_M_least_10 (by decide) ((by omega)) ((by omega)) (fun hq => ?_) (fun hq => ?_)
      · refine zd_iload_n E (pc := 49) d_M_least_49 rfl ?_
        exact zd_iret E (pc := 50) d_M_least_50 ⟨rfl, rfl⟩
      · omega
    | succ m ih =>
      intro a ha
      have ha12 : a < 12 := by omega
      obtain ⟨c1, c2⟩ := hc a (by omega)
      have mle := md_min_le c C a
      have tail : ∀ x, x = md_min c C (a + 1) → Z (wd k q v r ex) [some (.ref (q 22)), some (.int (nI C)), some (.int (nI (md_min c C a))), some (.int (nI a))] 42 [.int (nI x)] := by
        intro x hx
        subst hx
        refine zd_istore_n E (pc := 42) d_M_least_42 (by decide) ?_
        refine zd_iinc E (pc := 43) d_M_least_43 rfl (bm_inc a) (by decide) ?_
        refine zd_goto E (pc := 46) 5 d_M_least_46 (by decide) ?_
        exact ih (a + 1) (by omega)
      have skip : md_min c C a = md_min c C (a + 1) → Z (wd k q v r ex) [some (.ref (q 22)), some (.int (nI C)), some (.int (nI (md_min c C a))), some (.int (nI a))] 41 [] := by
        intro hz
        refine zd_iload_n E (pc := 41) d_M_least_41 rfl ?_
        exact tail _ hz
      refine zd_iload_n E (pc := 5) d_M_least_5 rfl ?_
      refine zd_aload_n E (pc := 6) d_M_least_6 rfl ?_
      refine zd_get E (pc := 7) d_M_least_7 kf_M_51 22 rfl rfl ?_
      rw [h14]
      refine zd_nc_ge E (pc := 10) 49 d_M_least_10 (by decide) ((by omega)) ((by omega)) (fun hq => ?_) (fun hq => ?_)
      · omega
      · refine zd_iload_n E (pc := 13) d_M_least_13 rfl ?_
        refine zd_iload_n E (pc := 14) d_M_least_14 rfl ?_
        refine zd_ishr E (pc := 15) d_M_least_15 ?_
        refine zd_iconst E (pc := 16) (v := (nI 1)) d_M_least_16 (by decide) ?_
        refine zd_iand E (pc := 17) d_M_least_17 ?_
        rw [bm_has hC (show a < 32 by omega)]
        refine zd_iconst E (pc := 18) (v := (nI 1)) d_M_least_18 (by decide) ?_
        refine zd_hb_ne E (pc := 19) 41 d_M_least_19 (by decide) (fun hbit => ?_) (fun hbit => ?_)
        · exact skip (by rw [md_min, if_neg hbit])
        · refine zd_aload_n E (pc := 22) d_M_least_22 rfl ?_
          refine zd_get E (pc := 23) d_M_least_23 kf_M_35 22 rfl rfl ?_
          refine zd_iload_n E (pc := 26) d_M_least_26 rfl ?_
          refine zd_iald E (pc := 27) d_M_least_27 31 rfl (t0 := 0) rfl (a) (rfl) (ha12) (by decide) ?_
          rw [c1]
          refine zd_iload_n E (pc := 28) d_M_least_28 rfl ?_
          refine zd_nc_ge E (pc := 29) 41 d_M_least_29 (by decide) ((by omega)) ((by omega)) (fun hlt => ?_) (fun hlt => ?_)
          · exact skip (by rw [md_min, if_pos hbit, Nat.min_eq_left hlt])
          · refine zd_aload_n E (pc := 32) d_M_least_32 rfl ?_
            refine zd_get E (pc := 33) d_M_least_33 kf_M_35 22 rfl rfl ?_
            refine zd_iload_n E (pc := 36) d_M_least_36 rfl ?_
            refine zd_iald E (pc := 37) d_M_least_37 31 rfl (t0 := 0) rfl (a) (rfl) (ha12) (by decide) ?_
            rw [c1]
            refine zd_goto E (pc := 38) 42 d_M_least_38 (by decide) ?_
            exact tail _ (by rw [md_min, if_pos hbit, Nat.min_eq_right (by omega)])
  refine zd_ldc E (pc := 0) (v := (nI 1048576)) d_M_least_0 kk_M_87 ?_
  refine zd_istore_n E (pc := 2) d_M_least_2 (by decide) ?_
  refine zd_iconst E (pc := 3) (v := (nI 0)) d_M_least_3 (by decide) ?_
  refine zd_istore_n E (pc := 4) d_M_least_4 (by decide) ?_
  exact loop na 0 (by omega)
end M8
