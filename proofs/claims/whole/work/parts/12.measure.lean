/-! Contracts of the levels: baseOf and measure. -/
theorem lm_px_congr {K : Nat} {w : Bool} {n na : Nat} {c ne ad : Nat → Nat} {bar : Nat → Bool} {Y V : Nat → Nat} (h : ∀ f, f < n → Y f = V f) (hp : lm_px K w n na c ne ad bar Y) : lm_px K w n na c ne ad bar V := by
  intro a f ha hb hf hq
  have := hp a f ha hb hf hq
  rw [h f hf, lm_jn_congr (fun g hg _ => h g hg)] at this
  exact this
/-- of the facts below i: none, or the least with the greatest level -/
def cu_Bp (h : Nat → Nat) (S i b : Nat) (g : Int32) : Prop := (b = 10 ∧ g = -1 ∧ ∀ f, f < i → S.testBit f = false) ∨ (b < i ∧ S.testBit b = true ∧ (∀ f, f < i → S.testBit f = true → h f ≤ h b) ∧ (∀ f, f < b → S.testBit f = true → h f < h b) ∧ g = nI (h b))
section MS
variable {k : Nat → ClassId} {q : Nat → Nat} {v : Nat → Int32} {r : Nat → Nat → Int32} {ex : va_W}
set_option maxRecDepth 100000 in
set_option maxHeartbeats 4000000 in
theorem c_V_baseOf (l : Launch) (D : va_G) {S : Nat} {h : Nat → Nat} (hS : S < 2 ^ 31) (hh : ∀ i, i < 10 → r 17 i = nI (h i) ∧ h i ≤ 1000000) : zd_Ct l D classes (wd_ty k) gd_T y_V_baseOf b_V_baseOf 5 (some .int) (zd_rm 1) [.ref (q 16), .int (nI S)] (wd k q v r ex)
    (fun v1 w1 => ∃ b, cu_B h S 10 b ∧ v1 = some (.int (if 1000000 ≤ lm_jn 1000000 false h S 10 then -1 else nI b)) ∧ w1 = wd k q v r ex) := by
  refine zd_met gd_all (by decide) rfl (Nat.le_of_ble_eq_true rfl) (fun Z E => ?_)
  show Z (wd k q v r ex) [some (.ref (q 16)), some (.int (nI S)), none, none, none] 0 []
  have loop : ∀ m i b g, i + m = 10 → cu_Bp h S i b g → Z (wd k q v r ex) [some (.ref (q 16)), some (.int (nI S)), some (.int (nI b)), some (.int g), some (.int (nI i))] 8 [] := by
    intro m
    induction m with
    | zero =>
      intro i b g hi hb
      have e : i = 10 := by omega
      subst e
      refine zd_iload E (pc := 8) d_V_baseOf_8 rfl ?_
      refine zd_bipush E (pc := 10) (v := (nI 10)) d_V_baseOf_10 (by decide) ?_
      refine zd_nc_ge E (pc := 12) 52 d_V_baseOf_12 (by decide) ((by omega)) ((by omega)) (fun hc => ?_) (fun hc => ?_)
      · refine zd_iload_n E (pc := 52) d_V_baseOf_52 rfl ?_
        refine zd_ldc E (pc := 53) (v := (nI 1000000)) d_V_baseOf_53 kk_V_23 ?_
        rcases hb with ⟨hb, hg, hn⟩ | ⟨b1, b2, b3, b4, hg⟩
        · subst hg
          subst hb
          have hj : lm_jn 1000000 false h S 10 = 0 := by unfold lm_jn; rw [cu_jp_0 hn]; rfl
          refine zd_ic_lt E (pc := 55) 62 d_V_baseOf_55 (by decide) (fun hd => ?_) (fun hd => ?_)
          · refine zd_iload_n E (pc := 62) d_V_baseOf_62 rfl ?_
            exact zd_iret E (pc := 63) d_V_baseOf_63 ⟨10, Or.inl ⟨rfl, hn⟩, by rw [hj, if_neg (by omega)], rfl⟩
          · exact absurd (bm_m1lt (by omega)) hd
        · subst hg
          have hj : lm_jn 1000000 false h S 10 = h b := by unfold lm_jn; rw [cu_B_jp b1 b2 b3]; have := (hh b b1).2; omega
          have hbb := (hh b b1).2
          refine zd_nc_lt E (pc := 55) 62 d_V_baseOf_55 (by decide) ((by omega)) ((by omega)) (fun hd => ?_) (fun hd => ?_)
          · refine zd_iload_n E (pc := 62) d_V_baseOf_62 rfl ?_
            exact zd_iret E (pc := 63) d_V_baseOf_63 ⟨b, Or.inr ⟨b1, b2, b3, b4⟩, by rw [hj, if_neg (by omega)], rfl⟩
          · refine zd_iconst E (pc := 58) (v := (-1)) d_V_baseOf_58 (by decide) ?_
            refine zd_goto E (pc := 59) 63 d_V_baseOf_59 (by decide) ?_
            exact zd_iret E (pc := 63) d_V_baseOf_63 ⟨b, Or.inr ⟨b1, b2, b3, b4⟩, by rw [hj, if_pos hd], rfl⟩
      · omega
    | succ m ih =>
      intro i b g hi hb
      have hi10 : i < 10 := by omega
      obtain ⟨e1, e2⟩ := hh i hi10
      have tail : ∀ b g, cu_Bp h S (i + 1) b g → Z (wd k q v r ex) [some (.ref (q 16)), some (.int (nI S)), some (.int (nI b)), some (.int g), some (.int (nI i))] 46 [] := by
        intro b g hb
        refine zd_iinc E (pc := 46) d_V_baseOf_46 rfl (bm_inc i) (by decide) ?_
        refine zd_goto E (pc := 49) 8 d_V_baseOf_49 (by decide) ?_
        exact ih (i + 1) b g (by omega) hb
      have take : S.testBit i = true → (∀ f, f < i → S.testBit f = true → h f < h i) → cu_Bp h S (i + 1) i (nI (h i)) := fun hs hm => by
        refine Or.inr ⟨by omega, hs, fun f hf hb => ?_, fun f hf hb => hm f hf hb, rfl⟩
        by_cases e : f = i
        · subst e; exact Nat.le_refl _
        · exact Nat.le_of_lt (hm f (by omega) hb)
      refine zd_iload E (pc := 8) d_V_baseOf_8 rfl ?_
      refine zd_bipush E (pc := 10) (v := (nI 10)) d_V_baseOf_10 (by decide) ?_
      refine zd_nc_ge E (pc := 12) 52 d_V_baseOf_12 (by decide) ((by omega)) ((by omega)) (fun hc => ?_) (fun hc => ?_)
      · omega
      · refine zd_iload_n E (pc := 15) d_V_baseOf_15 rfl ?_
        refine zd_iload E (pc := 16) d_V_baseOf_16 rfl ?_
        refine zd_callS E (pc := 18) d_V_baseOf_18 kc_V_19 rfl ks_P_has (c_P_has l D _ _ hS (show i < 32 by omega)) (by decide) rfl (Nat.le_of_ble_eq_true rfl) (fun v1 ws1 hv1 => ?_)
        obtain ⟨rfl, rfl⟩ := hv1
        refine zd_bf_eq E (pc := 21) 46 d_V_baseOf_21 (by decide) (fun hs => ?_) (fun hs => ?_)
        · refine tail b g ?_
          have hs0 : S.testBit i = false := by simpa using hs
          rcases hb with ⟨hb, hg, hn⟩ | ⟨b1, b2, b3, b4, hg⟩
          · refine Or.inl ⟨hb, hg, fun f hf => ?_⟩
            by_cases e : f = i
            · subst e; exact hs0
            · exact hn f (by omega)
          · refine Or.inr ⟨by omega, b2, fun f hf hbf => ?_, b4, hg⟩
            by_cases e : f = i
            · subst e; rw [hs0] at hbf; cases hbf
            · exact b3 f (by omega) hbf
        · refine zd_aload_n E (pc := 24) d_V_baseOf_24 rfl ?_
          refine zd_get E (pc := 25) d_V_baseOf_25 kf_V_9 16 rfl rfl ?_
          refine zd_iload E (pc := 28) d_V_baseOf_28 rfl ?_
          refine zd_iald E (pc := 30) d_V_baseOf_30 17 rfl (t0 := 0) rfl (i) (rfl) (hi10) (by decide) ?_
          rw [e1]
          refine zd_iload_n E (pc := 31) d_V_baseOf_31 rfl ?_
          rcases hb with ⟨hb, hg, hn⟩ | ⟨b1, b2, b3, b4, hg⟩
          · subst hg
            refine zd_ic_le E (pc := 32) 46 d_V_baseOf_32 (by decide) (fun hd => ?_) (fun hd => ?_)
            · exact absurd hd (bm_nle (by omega))
            · refine zd_iload E (pc := 35) d_V_baseOf_35 rfl ?_
              refine zd_istore_n E (pc := 37) d_V_baseOf_37 (by decide) ?_
              refine zd_aload_n E (pc := 38) d_V_baseOf_38 rfl ?_
              refine zd_get E (pc := 39) d_V_baseOf_39 kf_V_9 16 rfl rfl ?_
              refine zd_iload E (pc := 42) d_V_baseOf_42 rfl ?_
              refine zd_iald E (pc := 44) d_V_baseOf_44 17 rfl (t0 := 0) rfl (i) (rfl) (hi10) (by decide) ?_
              rw [e1]
              refine zd_istore_n E (pc := 45) d_V_baseOf_45 (by decide) ?_
              exact tail i _ (take hs (fun f hf hb => by rw [hn f hf] at hb; cases hb))
          · subst hg
            have hbb := (hh b (by omega)).2
            refine zd_nc_le E (pc := 32) 46 d_V_baseOf_32 (by decide) ((by omega)) ((by omega)) (fun hd => ?_) (fun hd => ?_)
            · refine tail b _ (Or.inr ⟨by omega, b2, fun f hf hbf => ?_, b4, rfl⟩)
              by_cases e : f = i
              · subst e; exact hd
              · exact b3 f (by omega) hbf
            · refine zd_iload E (pc := 35) d_V_baseOf_35 rfl ?_
              refine zd_istore_n E (pc := 37) d_V_baseOf_37 (by decide) ?_
              refine zd_aload_n E (pc := 38) d_V_baseOf_38 rfl ?_
              refine zd_get E (pc := 39) d_V_baseOf_39 kf_V_9 16 rfl rfl ?_
              refine zd_iload E (pc := 42) d_V_baseOf_42 rfl ?_
              refine zd_iald E (pc := 44) d_V_baseOf_44 17 rfl (t0 := 0) rfl (i) (rfl) (hi10) (by decide) ?_
              rw [e1]
              refine zd_istore_n E (pc := 45) d_V_baseOf_45 (by decide) ?_
              exact tail i _ (take hs (fun f hf hb => by have := b3 f hf hb; omega))
  refine zd_bipush E (pc := 0) (v := (nI 10)) d_V_baseOf_0 (by decide) ?_
  refine zd_istore_n E (pc := 2) d_V_baseOf_2 (by decide) ?_
  refine zd_iconst E (pc := 3) (v := (-1)) d_V_baseOf_3 (by decide) ?_
  refine zd_istore_n E (pc := 4) d_V_baseOf_4 (by decide) ?_
  refine zd_iconst E (pc := 5) (v := (nI 0)) d_V_baseOf_5 (by decide) ?_
  refine zd_istore E (pc := 6) d_V_baseOf_6 (by decide) ?_
  exact loop 10 0 10 _ rfl (Or.inl ⟨rfl, rfl, fun f hf => by omega⟩)
set_option maxRecDepth 100000 in
set_option maxHeartbeats 4000000 in
theorem c_V_measure2 (l : Launch) (D : va_G) {s B na : Nat} {w : Bool} {c ne ad : Nat → Nat} (hs : s < 2 ^ 31) (hB : B < 2 ^ 31) (hv1 : v 1 = nI na) (hna : na ≤ 12) (hc : ∀ i, i < 12 → r 2 i = nI (c i) ∧ c i ≤ 9) (hne : ∀ i, i < 12 → r 4 i = nI (ne i) ∧ ne i < 2 ^ 31) (had : ∀ i, i < 12 → r 5 i = nI (ad i) ∧ ad i < 2 ^ 31) :
    zd_Ct l D classes (wd_ty k) gd_T y_V_measure b_V_measure 9 none (zd_rm 2) [.ref (q 16), .int (nI s), .ref (q 2), .int (nI (bm_b w)), .int (nI B)] (wd k q v r ex)
    (fun v1 w1 => ∃ r1 : Nat → Nat → Int32, (∀ i, i ≠ 17 → r1 i = r i) ∧ (∀ j, j < 10 → r1 17 j = nI (lm_it 1000000 w 10 na c ne ad (fun a => B.testBit a) (lm_i0 1000000 s) 10 j)) ∧ v1 = none ∧ w1 = wd k q v r1 ex) := by
  generalize hbar : (fun a => B.testBit a) = bar
  refine zd_met gd_all (by decide) rfl (Nat.le_of_ble_eq_true rfl) (fun Z E => ?_)
  show Z (wd k q v r ex) [some (.ref (q 16)), some (.int (nI s)), some (.ref (q 2)), some (.int (nI (bm_b w))), some (.int (nI B)), none, none, none, none] 0 []
  have hbar1 : ∀ a, bar a = B.testBit a := fun a => by rw [← hbar]
  have itK : ∀ t j, lm_it 1000000 w 10 na c ne ad bar (lm_i0 1000000 s) t j ≤ 1000000 := fun t j => Nat.le_trans (lm_it_le _ _ _) (lm_i0_le _ _ _)
  have rdK : ∀ t a j, lm_rd 1000000 w 10 c ne ad bar (lm_it 1000000 w 10 na c ne ad bar (lm_i0 1000000 s) t) a j ≤ 1000000 := fun t a j => Nat.le_trans (lm_rd_le _ _ _) (itK t j)
  have acts : ∀ n7 t a b5 r1 L8, a + n7 = na → (∀ j, j ≠ 17 → r1 j = r j) → (∀ j, j < 10 → r1 17 j = nI (lm_rd 1000000 w 10 c ne ad bar (lm_it 1000000 w 10 na c ne ad bar (lm_i0 1000000 s) t) a j)) → (b5 = false → ∀ j, j < 10 → lm_rd 1000000 w 10 c ne ad bar (lm_it 1000000 w 10 na c ne ad bar (lm_i0 1000000 s) t) a j = lm_it 1000000 w 10 na c ne ad bar (lm_i0 1000000 s) t j) →
      (∀ r2 b5 L8, (∀ j, j ≠ 17 → r2 j = r j) → (∀ j, j < 10 → r2 17 j = nI (lm_it 1000000 w 10 na c ne ad bar (lm_i0 1000000 s) (t + 1) j)) → (b5 = false → lm_px 1000000 w 10 na c ne ad bar (lm_it 1000000 w 10 na c ne ad bar (lm_i0 1000000 s) (t + 1))) → Z (wd k q v r2 ex) [some (.ref (q 16)), some (.int (nI s)), some (.ref (q 2)), some (.int (nI (bm_b w))), some (.int (nI B)), some (.int (nI (bm_b b5))), some (.int (nI t)), none, L8] 137 []) →
      Z (wd k q v r1 ex) [some (.ref (q 16)), some (.int (nI s)), some (.ref (q 2)), some (.int (nI (bm_b w))), some (.int (nI B)), some (.int (nI (bm_b b5))), some (.int (nI t)), some (.int (nI a)), L8] 62 [] := by
    intro n7
    induction n7 with
    | zero =>
      intro t a b5 r1 L8 ha hf hr hb5 kk
      have e : a = na := by omega
      subst e
      refine zd_iload E (pc := 62) d_V_measure_62 rfl ?_
      refine zd_aload_n E (pc := 64) d_V_measure_64 rfl ?_
      refine zd_get E (pc := 65) d_V_measure_65 kf_V_15 16 rfl rfl ?_
      refine zd_get E (pc := 68) d_V_measure_68 kf_V_24 1 rfl rfl ?_
      rw [hv1]
      refine zd_nc_ge E (pc := 71) 137 d_V_measure_71 (by decide) ((by omega)) ((by omega)) (fun hq => ?_) (fun hq => ?_)
      · refine zd_less E ?_ (kk r1 b5 L8 hf hr (fun hb => ?_))
        · cases L8 <;> exact ⟨rfl, rfl, rfl, rfl, rfl, rfl, rfl, by first | exact trivial | exact ⟨rfl, trivial⟩⟩
        · have h1 := hb5 hb
          exact lm_px_congr (fun f hf => (h1 f hf).symm) (lm_rd_fix h1)
      · omega
    | succ n7 ih =>
      intro t a b5 r1 L8 ha hf hr hb5 kk
      have ha12 : a < 12 := by omega
      have f4 : r1 4 = r 4 := hf 4 (by decide)
      have f5 : r1 5 = r 5 := hf 5 (by decide)
      have fc : r1 2 = r 2 := hf 2 (by decide)
      obtain ⟨c1, c2⟩ := hc a ha12
      obtain ⟨n1, n2⟩ := hne a ha12
      obtain ⟨a1, a2⟩ := had a ha12
      have tail : ∀ r2 b5 L8, (∀ j, j ≠ 17 → r2 j = r j) → (∀ j, j < 10 → r2 17 j = nI (lm_rd 1000000 w 10 c ne ad bar (lm_it 1000000 w 10 na c ne ad bar (lm_i0 1000000 s) t) (a + 1) j)) → (b5 = false → ∀ j, j < 10 → lm_rd 1000000 w 10 c ne ad bar (lm_it 1000000 w 10 na c ne ad bar (lm_i0 1000000 s) t) (a + 1) j = lm_it 1000000 w 10 na c ne ad bar (lm_i0 1000000 s) t j) →
          Z (wd k q v r2 ex) [some (.ref (q 16)), some (.int (nI s)), some (.ref (q 2)), some (.int (nI (bm_b w))), some (.int (nI B)), some (.int (nI (bm_b b5))), some (.int (nI t)), some (.int (nI a)), L8] 131 [] := by
        intro r2 b5 L8 hf2 hr2 hb
        refine zd_iinc E (pc := 131) d_V_measure_131 rfl (bm_inc a) (by decide) ?_
        refine zd_goto E (pc := 134) 62 d_V_measure_134 (by decide) ?_
        exact ih t (a + 1) b5 r2 L8 (by omega) hf2 hr2 hb kk
      refine zd_iload E (pc := 62) d_V_measure_62 rfl ?_
      refine zd_aload_n E (pc := 64) d_V_measure_64 rfl ?_
      refine zd_get E (pc := 65) d_V_measure_65 kf_V_15 16 rfl rfl ?_
      refine zd_get E (pc := 68) d_V_measure_68 kf_V_24 1 rfl rfl ?_
      rw [hv1]
      refine zd_nc_ge E (pc := 71) 137 d_V_measure_71 (by decide) ((by omega)) ((by omega)) (fun hq => ?_) (fun hq => ?_)
      · omega
      · refine zd_iload E (pc := 74) d_V_measure_74 rfl ?_
        refine zd_iload E (pc := 76) d_V_measure_76 rfl ?_
        refine zd_callS E (pc := 78) d_V_measure_78 kc_V_19 rfl ks_P_has (c_P_has l D _ _ hB (show a < 32 by omega)) (by decide) rfl (Nat.le_of_ble_eq_true rfl) (fun v1 ws1 hv1 => ?_)
        obtain ⟨rfl, rfl⟩ := hv1
        refine zd_bf_ne E (pc := 81) 131 d_V_measure_81 (by decide) (fun hbit => ?_) (fun hbit => ?_)
        · have e : ∀ j, lm_rd 1000000 w 10 c ne ad bar (lm_it 1000000 w 10 na c ne ad bar (lm_i0 1000000 s) t) (a + 1) j = lm_rd 1000000 w 10 c ne ad bar (lm_it 1000000 w 10 na c ne ad bar (lm_i0 1000000 s) t) a j := fun j => by
            rw [lm_rd, if_pos (by rw [hbar1]; exact hbit)]
          exact tail r1 b5 L8 hf (fun j hj => by rw [e]; exact hr j hj) (fun hb j hj => by rw [e]; exact hb5 hb j hj)
        · refine zd_aload_n E (pc := 84) d_V_measure_84 rfl ?_
          refine zd_iload E (pc := 85) d_V_measure_85 rfl ?_
          refine zd_iald E (pc := 87) d_V_measure_87 2 rfl (t0 := 0) rfl (a) (rfl) (ha12) (by decide) ?_
          rw [fc, c1]
          refine zd_aload_n E (pc := 88) d_V_measure_88 rfl ?_
          refine zd_aload_n E (pc := 89) d_V_measure_89 rfl ?_
          refine zd_get E (pc := 90) d_V_measure_90 kf_V_15 16 rfl rfl ?_
          refine zd_get E (pc := 93) d_V_measure_93 kf_V_30 1 rfl rfl ?_
          refine zd_iconst E (pc := 96) (v := (nI 0)) d_V_measure_96 (by decide) ?_
          refine zd_aald E (pc := 97) d_V_measure_97 3 rfl (t0 := 2) rfl rfl (0) (rfl) (by decide) (by decide) rfl ?_
          refine zd_iload E (pc := 98) d_V_measure_98 rfl ?_
          refine zd_iald E (pc := 100) d_V_measure_100 4 rfl (t0 := 0) rfl (a) (rfl) (ha12) (by decide) ?_
          rw [f4, n1]
          refine zd_iload_n E (pc := 101) d_V_measure_101 rfl ?_
          refine zd_callV E (pc := 102) d_V_measure_102 kc_V_34 rfl ki_V_joined ke_V_joined 16 rfl rfl (c_V_joined l D n2 (fun i hi => ⟨hr i hi, rdK t a i⟩)) (by decide) rfl (Nat.le_of_ble_eq_true rfl) (fun v1 ws1 hv1 => ?_)
          obtain ⟨rfl, rfl⟩ := hv1
          refine zd_iadd E (pc := 105) d_V_measure_105 ?_
          rw [nI_add]
          refine zd_istore E (pc := 106) d_V_measure_106 (by decide) ?_
          refine zd_iload E (pc := 108) d_V_measure_108 rfl ?_
          refine zd_aload_n E (pc := 110) d_V_measure_110 rfl ?_
          refine zd_aload_n E (pc := 111) d_V_measure_111 rfl ?_
          refine zd_get E (pc := 112) d_V_measure_112 kf_V_15 16 rfl rfl ?_
          refine zd_get E (pc := 115) d_V_measure_115 kf_V_30 1 rfl rfl ?_
          refine zd_iconst E (pc := 118) (v := (nI 1)) d_V_measure_118 (by decide) ?_
          refine zd_aald E (pc := 119) d_V_measure_119 3 rfl (t0 := 2) rfl rfl (1) (rfl) (by decide) (by decide) rfl ?_
          refine zd_iload E (pc := 120) d_V_measure_120 rfl ?_
          refine zd_iald E (pc := 122) d_V_measure_122 5 rfl (t0 := 0) rfl (a) (rfl) (ha12) (by decide) ?_
          rw [f5, a1]
          refine zd_iload E (pc := 123) d_V_measure_123 rfl ?_
          have jle := lm_jn_le 1000000 w (lm_rd 1000000 w 10 c ne ad bar (lm_it 1000000 w 10 na c ne ad bar (lm_i0 1000000 s) t) a) (ne a) 10
          refine zd_callV E (pc := 125) d_V_measure_125 kc_V_38 rfl ki_V_lower ke_V_lower 16 rfl rfl (c_V_lower l D a2 (by omega) (fun i hi => ⟨hr i hi, rdK t a i⟩)) (by decide) rfl (Nat.le_of_ble_eq_true rfl) (fun v1 ws1 hv1 => ?_)
          obtain ⟨r2, hf2, hr2, rfl, rfl⟩ := hv1
          refine zd_ior E (pc := 128) d_V_measure_128 ?_
          rw [bm_orb]
          refine zd_istore E (pc := 129) d_V_measure_129 (by decide) ?_
          have e : ∀ j, lm_rd 1000000 w 10 c ne ad bar (lm_it 1000000 w 10 na c ne ad bar (lm_i0 1000000 s) t) (a + 1) j = lm_act 1000000 w 10 c ne ad a (lm_rd 1000000 w 10 c ne ad bar (lm_it 1000000 w 10 na c ne ad bar (lm_i0 1000000 s) t) a) j := fun j => by
            rw [lm_rd, if_neg (by rw [hbar1]; exact hbit)]
          refine tail r2 _ _ (fun j hj => (hf2 j hj).trans (hf j hj)) (fun j hj => by rw [e]; exact hr2 j hj) (fun hb j hj => ?_)
          simp only [Bool.or_eq_false_iff] at hb
          rw [e]
          unfold lm_act
          rw [if_neg (lm_lows_no hb.2 j hj)]
          exact hb5 hb.1 j hj
  have rounds : ∀ n6 t b5 r1 L7 L8, t + n6 = 10 → (∀ j, j ≠ 17 → r1 j = r j) → (∀ j, j < 10 → r1 17 j = nI (lm_it 1000000 w 10 na c ne ad bar (lm_i0 1000000 s) t j)) → (b5 = false → lm_px 1000000 w 10 na c ne ad bar (lm_it 1000000 w 10 na c ne ad bar (lm_i0 1000000 s) t)) →
      Z (wd k q v r1 ex) [some (.ref (q 16)), some (.int (nI s)), some (.ref (q 2)), some (.int (nI (bm_b w))), some (.int (nI B)), some (.int (nI (bm_b b5))), some (.int (nI t)), L7, L8] 44 [] := by
    intro n6
    induction n6 with
    | zero =>
      intro t b5 r1 L7 L8 ht hf hr hb5
      have e : t = 10 := by omega
      subst e
      refine zd_iload E (pc := 44) d_V_measure_44 rfl ?_
      refine zd_bipush E (pc := 46) (v := (nI 10)) d_V_measure_46 (by decide) ?_
      refine zd_nc_ge E (pc := 48) 143 d_V_measure_48 (by decide) ((by omega)) ((by omega)) (fun hq => ?_) (fun hq => ?_)
      · exact zd_vret E (pc := 143) d_V_measure_143 ⟨r1, hf, hr, rfl, rfl⟩
      · omega
    | succ n6 ih =>
      intro t b5 r1 L7 L8 ht hf hr hb5
      refine zd_iload E (pc := 44) d_V_measure_44 rfl ?_
      refine zd_bipush E (pc := 46) (v := (nI 10)) d_V_measure_46 (by decide) ?_
      refine zd_nc_ge E (pc := 48) 143 d_V_measure_48 (by decide) ((by omega)) ((by omega)) (fun hq => ?_) (fun hq => ?_)
      · omega
      · refine zd_iload E (pc := 51) d_V_measure_51 rfl ?_
        refine zd_bf_eq E (pc := 53) 143 d_V_measure_53 (by decide) (fun hb => ?_) (fun hb => ?_)
        · have hb0 : b5 = false := by simpa using hb
          exact zd_vret E (pc := 143) d_V_measure_143 ⟨r1, hf, fun j hj => by rw [hr j hj, ← lm_it_stay (hb5 hb0) (10 - t) j hj, show t + (10 - t) = 10 by omega], rfl, rfl⟩
        · refine zd_iconst E (pc := 56) (v := (nI 0)) d_V_measure_56 (by decide) ?_
          refine zd_istore E (pc := 57) d_V_measure_57 (by decide) ?_
          refine zd_iconst E (pc := 59) (v := (nI 0)) d_V_measure_59 (by decide) ?_
          refine zd_istore E (pc := 60) d_V_measure_60 (by decide) ?_
          refine acts na t 0 false r1 L8 (by omega) hf (fun j hj => by rw [hr j hj]; rfl) (fun _ j hj => rfl) (fun r2 b5 L8 hf2 hr2 hb2 => ?_)
          refine zd_iinc E (pc := 137) d_V_measure_137 rfl (bm_inc t) (by decide) ?_
          refine zd_goto E (pc := 140) 44 d_V_measure_140 (by decide) ?_
          exact ih (t + 1) b5 r2 none L8 (by omega) hf2 hr2 hb2
  have inits : ∀ n5 i r1, i + n5 = 10 → (∀ j, j ≠ 17 → r1 j = r j) → (∀ j, j < i → r1 17 j = nI (lm_i0 1000000 s j)) → Z (wd k q v r1 ex) [some (.ref (q 16)), some (.int (nI s)), some (.ref (q 2)), some (.int (nI (bm_b w))), some (.int (nI B)), some (.int (nI i)), none, none, none] 3 [] := by
    intro n5
    induction n5 with
    | zero =>
      intro i r1 hi hf hr
      have e : i = 10 := by omega
      subst e
      refine zd_iload E (pc := 3) d_V_measure_3 rfl ?_
      refine zd_bipush E (pc := 5) (v := (nI 10)) d_V_measure_5 (by decide) ?_
      refine zd_nc_ge E (pc := 7) 38 d_V_measure_7 (by decide) ((by omega)) ((by omega)) (fun hq => ?_) (fun hq => ?_)
      · refine zd_iconst E (pc := 38) (v := (nI 1)) d_V_measure_38 (by decide) ?_
        refine zd_istore E (pc := 39) d_V_measure_39 (by decide) ?_
        refine zd_iconst E (pc := 41) (v := (nI 0)) d_V_measure_41 (by decide) ?_
        refine zd_istore E (pc := 42) d_V_measure_42 (by decide) ?_
        exact rounds 10 0 true r1 none none rfl hf hr (fun h => by cases h)
      · omega
    | succ n5 ih =>
      intro i r1 hi hf hr
      have hi10 : i < 10 := by omega
      have fin : ∀ x, x = lm_i0 1000000 s i → Z (wd k q v r1 ex) [some (.ref (q 16)), some (.int (nI s)), some (.ref (q 2)), some (.int (nI (bm_b w))), some (.int (nI B)), some (.int (nI i)), none, none, none] 31 [.int (nI x), .int (nI i), .ref (q 17)] := by
        intro x hx
        refine zd_iast E (pc := 31) d_V_measure_31 17 rfl (t0 := 0) rfl (i) (rfl) (hi10) (by decide) (ws1 := wd k q v (va_up r1 17 (upd (r1 17) i (nI x))) ex) rfl ?_
        refine zd_iinc E (pc := 32) d_V_measure_32 rfl (bm_inc i) (by decide) ?_
        refine zd_goto E (pc := 35) 3 d_V_measure_35 (by decide) ?_
        refine ih (i + 1) _ (by omega) (fun j hj => by rw [va_up_ne _ _ hj]; exact hf j hj) (fun j hj => ?_)
        rw [va_up_self]
        by_cases e : j = i
        · subst e; rw [pk_us, hx]
        · rw [pk_un e]; exact hr j (by omega)
      refine zd_iload E (pc := 3) d_V_measure_3 rfl ?_
      refine zd_bipush E (pc := 5) (v := (nI 10)) d_V_measure_5 (by decide) ?_
      refine zd_nc_ge E (pc := 7) 38 d_V_measure_7 (by decide) ((by omega)) ((by omega)) (fun hq => ?_) (fun hq => ?_)
      · omega
      · refine zd_aload_n E (pc := 10) d_V_measure_10 rfl ?_
        refine zd_get E (pc := 11) d_V_measure_11 kf_V_9 16 rfl rfl ?_
        refine zd_iload E (pc := 14) d_V_measure_14 rfl ?_
        refine zd_iload_n E (pc := 16) d_V_measure_16 rfl ?_
        refine zd_iload E (pc := 17) d_V_measure_17 rfl ?_
        refine zd_callS E (pc := 19) d_V_measure_19 kc_V_19 rfl ks_P_has (c_P_has l D _ _ hs (show i < 32 by omega)) (by decide) rfl (Nat.le_of_ble_eq_true rfl) (fun v1 ws1 hv1 => ?_)
        obtain ⟨rfl, rfl⟩ := hv1
        refine zd_bf_eq E (pc := 22) 29 d_V_measure_22 (by decide) (fun hb => ?_) (fun hb => ?_)
        · refine zd_ldc E (pc := 29) (v := (nI 1000000)) d_V_measure_29 kk_V_23 ?_
          exact fin 1000000 (by unfold lm_i0; rw [if_neg hb])
        · refine zd_iconst E (pc := 25) (v := (nI 0)) d_V_measure_25 (by decide) ?_
          refine zd_goto E (pc := 26) 31 d_V_measure_26 (by decide) ?_
          exact fin 0 (by unfold lm_i0; rw [if_pos hb])
  refine zd_iconst E (pc := 0) (v := (nI 0)) d_V_measure_0 (by decide) ?_
  refine zd_istore E (pc := 1) d_V_measure_1 (by decide) ?_
  exact inits 10 0 r rfl (fun _ _ => rfl) (fun j hj => by omega)
set_option maxRecDepth 100000 in
set_option maxHeartbeats 4000000 in
theorem c_V_measure19 (l : Launch) (D : va_G) {s B na : Nat} {w : Bool} {c ne ad : Nat → Nat} (hs : s < 2 ^ 31) (hB : B < 2 ^ 31) (hv1 : v 1 = nI na) (hna : na ≤ 12) (hc : ∀ i, i < 12 → r 19 i = nI (c i) ∧ c i ≤ 9) (hne : ∀ i, i < 12 → r 4 i = nI (ne i) ∧ ne i < 2 ^ 31) (had : ∀ i, i < 12 → r 5 i = nI (ad i) ∧ ad i < 2 ^ 31) :
    zd_Ct l D classes (wd_ty k) gd_T y_V_measure b_V_measure 9 none (zd_rm 2) [.ref (q 16), .int (nI s), .ref (q 19), .int (nI (bm_b w)), .int (nI B)] (wd k q v r ex)
    (fun v1 w1 => ∃ r1 : Nat → Nat → Int32, (∀ i, i ≠ 17 → r1 i = r i) ∧ (∀ j, j < 10 → r1 17 j = nI (lm_it 1000000 w 10 na c ne ad (fun a => B.testBit a) (lm_i0 1000000 s) 10 j)) ∧ v1 = none ∧ w1 = wd k q v r1 ex) := by
  generalize hbar : (fun a => B.testBit a) = bar
  refine zd_met gd_all (by decide) rfl (Nat.le_of_ble_eq_true rfl) (fun Z E => ?_)
  show Z (wd k q v r ex) [some (.ref (q 16)), some (.int (nI s)), some (.ref (q 19)), some (.int (nI (bm_b w))), some (.int (nI B)), none, none, none, none] 0 []
  have hbar1 : ∀ a, bar a = B.testBit a := fun a => by rw [← hbar]
  have itK : ∀ t j, lm_it 1000000 w 10 na c ne ad bar (lm_i0 1000000 s) t j ≤ 1000000 := fun t j => Nat.le_trans (lm_it_le _ _ _) (lm_i0_le _ _ _)
  have rdK : ∀ t a j, lm_rd 1000000 w 10 c ne ad bar (lm_it 1000000 w 10 na c ne ad bar (lm_i0 1000000 s) t) a j ≤ 1000000 := fun t a j => Nat.le_trans (lm_rd_le _ _ _) (itK t j)
  have acts : ∀ n7 t a b5 r1 L8, a + n7 = na → (∀ j, j ≠ 17 → r1 j = r j) → (∀ j, j < 10 → r1 17 j = nI (lm_rd 1000000 w 10 c ne ad bar (lm_it 1000000 w 10 na c ne ad bar (lm_i0 1000000 s) t) a j)) → (b5 = false → ∀ j, j < 10 → lm_rd 1000000 w 10 c ne ad bar (lm_it 1000000 w 10 na c ne ad bar (lm_i0 1000000 s) t) a j = lm_it 1000000 w 10 na c ne ad bar (lm_i0 1000000 s) t j) →
      (∀ r2 b5 L8, (∀ j, j ≠ 17 → r2 j = r j) → (∀ j, j < 10 → r2 17 j = nI (lm_it 1000000 w 10 na c ne ad bar (lm_i0 1000000 s) (t + 1) j)) → (b5 = false → lm_px 1000000 w 10 na c ne ad bar (lm_it 1000000 w 10 na c ne ad bar (lm_i0 1000000 s) (t + 1))) → Z (wd k q v r2 ex) [some (.ref (q 16)), some (.int (nI s)), some (.ref (q 19)), some (.int (nI (bm_b w))), some (.int (nI B)), some (.int (nI (bm_b b5))), some (.int (nI t)), none, L8] 137 []) →
      Z (wd k q v r1 ex) [some (.ref (q 16)), some (.int (nI s)), some (.ref (q 19)), some (.int (nI (bm_b w))), some (.int (nI B)), some (.int (nI (bm_b b5))), some (.int (nI t)), some (.int (nI a)), L8] 62 [] := by
    intro n7
    induction n7 with
    | zero =>
      intro t a b5 r1 L8 ha hf hr hb5 kk
      have e : a = na := by omega
      subst e
      refine zd_iload E (pc := 62) d_V_measure_62 rfl ?_
      refine zd_aload_n E (pc := 64) d_V_measure_64 rfl ?_
      refine zd_get E (pc := 65) d_V_measure_65 kf_V_15 16 rfl rfl ?_
      refine zd_get E (pc := 68) d_V_measure_68 kf_V_24 1 rfl rfl ?_
      rw [hv1]
      refine zd_nc_ge E (pc := 71) 137 d_V_measure_71 (by decide) ((by omega)) ((by omega)) (fun hq => ?_) (fun hq => ?_)
      · refine zd_less E ?_ (kk r1 b5 L8 hf hr (fun hb => ?_))
        · cases L8 <;> exact ⟨rfl, rfl, rfl, rfl, rfl, rfl, rfl, by first | exact trivial | exact ⟨rfl, trivial⟩⟩
        · have h1 := hb5 hb
          exact lm_px_congr (fun f hf => (h1 f hf).symm) (lm_rd_fix h1)
      · omega
    | succ n7 ih =>
      intro t a b5 r1 L8 ha hf hr hb5 kk
      have ha12 : a < 12 := by omega
      have f4 : r1 4 = r 4 := hf 4 (by decide)
      have f5 : r1 5 = r 5 := hf 5 (by decide)
      have fc : r1 19 = r 19 := hf 19 (by decide)
      obtain ⟨c1, c2⟩ := hc a ha12
      obtain ⟨n1, n2⟩ := hne a ha12
      obtain ⟨a1, a2⟩ := had a ha12
      have tail : ∀ r2 b5 L8, (∀ j, j ≠ 17 → r2 j = r j) → (∀ j, j < 10 → r2 17 j = nI (lm_rd 1000000 w 10 c ne ad bar (lm_it 1000000 w 10 na c ne ad bar (lm_i0 1000000 s) t) (a + 1) j)) → (b5 = false → ∀ j, j < 10 → lm_rd 1000000 w 10 c ne ad bar (lm_it 1000000 w 10 na c ne ad bar (lm_i0 1000000 s) t) (a + 1) j = lm_it 1000000 w 10 na c ne ad bar (lm_i0 1000000 s) t j) →
          Z (wd k q v r2 ex) [some (.ref (q 16)), some (.int (nI s)), some (.ref (q 19)), some (.int (nI (bm_b w))), some (.int (nI B)), some (.int (nI (bm_b b5))), some (.int (nI t)), some (.int (nI a)), L8] 131 [] := by
        intro r2 b5 L8 hf2 hr2 hb
        refine zd_iinc E (pc := 131) d_V_measure_131 rfl (bm_inc a) (by decide) ?_
        refine zd_goto E (pc := 134) 62 d_V_measure_134 (by decide) ?_
        exact ih t (a + 1) b5 r2 L8 (by omega) hf2 hr2 hb kk
      refine zd_iload E (pc := 62) d_V_measure_62 rfl ?_
      refine zd_aload_n E (pc := 64) d_V_measure_64 rfl ?_
      refine zd_get E (pc := 65) d_V_measure_65 kf_V_15 16 rfl rfl ?_
      refine zd_get E (pc := 68) d_V_measure_68 kf_V_24 1 rfl rfl ?_
      rw [hv1]
      refine zd_nc_ge E (pc := 71) 137 d_V_measure_71 (by decide) ((by omega)) ((by omega)) (fun hq => ?_) (fun hq => ?_)
      · omega
      · refine zd_iload E (pc := 74) d_V_measure_74 rfl ?_
        refine zd_iload E (pc := 76) d_V_measure_76 rfl ?_
        refine zd_callS E (pc := 78) d_V_measure_78 kc_V_19 rfl ks_P_has (c_P_has l D _ _ hB (show a < 32 by omega)) (by decide) rfl (Nat.le_of_ble_eq_true rfl) (fun v1 ws1 hv1 => ?_)
        obtain ⟨rfl, rfl⟩ := hv1
        refine zd_bf_ne E (pc := 81) 131 d_V_measure_81 (by decide) (fun hbit => ?_) (fun hbit => ?_)
        · have e : ∀ j, lm_rd 1000000 w 10 c ne ad bar (lm_it 1000000 w 10 na c ne ad bar (lm_i0 1000000 s) t) (a + 1) j = lm_rd 1000000 w 10 c ne ad bar (lm_it 1000000 w 10 na c ne ad bar (lm_i0 1000000 s) t) a j := fun j => by
            rw [lm_rd, if_pos (by rw [hbar1]; exact hbit)]
          exact tail r1 b5 L8 hf (fun j hj => by rw [e]; exact hr j hj) (fun hb j hj => by rw [e]; exact hb5 hb j hj)
        · refine zd_aload_n E (pc := 84) d_V_measure_84 rfl ?_
          refine zd_iload E (pc := 85) d_V_measure_85 rfl ?_
          refine zd_iald E (pc := 87) d_V_measure_87 19 rfl (t0 := 0) rfl (a) (rfl) (ha12) (by decide) ?_
          rw [fc, c1]
          refine zd_aload_n E (pc := 88) d_V_measure_88 rfl ?_
          refine zd_aload_n E (pc := 89) d_V_measure_89 rfl ?_
          refine zd_get E (pc := 90) d_V_measure_90 kf_V_15 16 rfl rfl ?_
          refine zd_get E (pc := 93) d_V_measure_93 kf_V_30 1 rfl rfl ?_
          refine zd_iconst E (pc := 96) (v := (nI 0)) d_V_measure_96 (by decide) ?_
          refine zd_aald E (pc := 97) d_V_measure_97 3 rfl (t0 := 2) rfl rfl (0) (rfl) (by decide) (by decide) rfl ?_
          refine zd_iload E (pc := 98) d_V_measure_98 rfl ?_
          refine zd_iald E (pc := 100) d_V_measure_100 4 rfl (t0 := 0) rfl (a) (rfl) (ha12) (by decide) ?_
          rw [f4, n1]
          refine zd_iload_n E (pc := 101) d_V_measure_101 rfl ?_
          refine zd_callV E (pc := 102) d_V_measure_102 kc_V_34 rfl ki_V_joined ke_V_joined 16 rfl rfl (c_V_joined l D n2 (fun i hi => ⟨hr i hi, rdK t a i⟩)) (by decide) rfl (Nat.le_of_ble_eq_true rfl) (fun v1 ws1 hv1 => ?_)
          obtain ⟨rfl, rfl⟩ := hv1
          refine zd_iadd E (pc := 105) d_V_measure_105 ?_
          rw [nI_add]
          refine zd_istore E (pc := 106) d_V_measure_106 (by decide) ?_
          refine zd_iload E (pc := 108) d_V_measure_108 rfl ?_
          refine zd_aload_n E (pc := 110) d_V_measure_110 rfl ?_
          refine zd_aload_n E (pc := 111) d_V_measure_111 rfl ?_
          refine zd_get E (pc := 112) d_V_measure_112 kf_V_15 16 rfl rfl ?_
          refine zd_get E (pc := 115) d_V_measure_115 kf_V_30 1 rfl rfl ?_
          refine zd_iconst E (pc := 118) (v := (nI 1)) d_V_measure_118 (by decide) ?_
          refine zd_aald E (pc := 119) d_V_measure_119 3 rfl (t0 := 2) rfl rfl (1) (rfl) (by decide) (by decide) rfl ?_
          refine zd_iload E (pc := 120) d_V_measure_120 rfl ?_
          refine zd_iald E (pc := 122) d_V_measure_122 5 rfl (t0 := 0) rfl (a) (rfl) (ha12) (by decide) ?_
          rw [f5, a1]
          refine zd_iload E (pc := 123) d_V_measure_123 rfl ?_
          have jle := lm_jn_le 1000000 w (lm_rd 1000000 w 10 c ne ad bar (lm_it 1000000 w 10 na c ne ad bar (lm_i0 1000000 s) t) a) (ne a) 10
          refine zd_callV E (pc := 125) d_V_measure_125 kc_V_38 rfl ki_V_lower ke_V_lower 16 rfl rfl (c_V_lower l D a2 (by omega) (fun i hi => ⟨hr i hi, rdK t a i⟩)) (by decide) rfl (Nat.le_of_ble_eq_true rfl) (fun v1 ws1 hv1 => ?_)
          obtain ⟨r2, hf2, hr2, rfl, rfl⟩ := hv1
          refine zd_ior E (pc := 128) d_V_measure_128 ?_
          rw [bm_orb]
          refine zd_istore E (pc := 129) d_V_measure_129 (by decide) ?_
          have e : ∀ j, lm_rd 1000000 w 10 c ne ad bar (lm_it 1000000 w 10 na c ne ad bar (lm_i0 1000000 s) t) (a + 1) j = lm_act 1000000 w 10 c ne ad a (lm_rd 1000000 w 10 c ne ad bar (lm_it 1000000 w 10 na c ne ad bar (lm_i0 1000000 s) t) a) j := fun j => by
            rw [lm_rd, if_neg (by rw [hbar1]; exact hbit)]
          refine tail r2 _ _ (fun j hj => (hf2 j hj).trans (hf j hj)) (fun j hj => by rw [e]; exact hr2 j hj) (fun hb j hj => ?_)
          simp only [Bool.or_eq_false_iff] at hb
          rw [e]
          unfold lm_act
          rw [if_neg (lm_lows_no hb.2 j hj)]
          exact hb5 hb.1 j hj
  have rounds : ∀ n6 t b5 r1 L7 L8, t + n6 = 10 → (∀ j, j ≠ 17 → r1 j = r j) → (∀ j, j < 10 → r1 17 j = nI (lm_it 1000000 w 10 na c ne ad bar (lm_i0 1000000 s) t j)) → (b5 = false → lm_px 1000000 w 10 na c ne ad bar (lm_it 1000000 w 10 na c ne ad bar (lm_i0 1000000 s) t)) →
      Z (wd k q v r1 ex) [some (.ref (q 16)), some (.int (nI s)), some (.ref (q 19)), some (.int (nI (bm_b w))), some (.int (nI B)), some (.int (nI (bm_b b5))), some (.int (nI t)), L7, L8] 44 [] := by
    intro n6
    induction n6 with
    | zero =>
      intro t b5 r1 L7 L8 ht hf hr hb5
      have e : t = 10 := by omega
      subst e
      refine zd_iload E (pc := 44) d_V_measure_44 rfl ?_
      refine zd_bipush E (pc := 46) (v := (nI 10)) d_V_measure_46 (by decide) ?_
      refine zd_nc_ge E (pc := 48) 143 d_V_measure_48 (by decide) ((by omega)) ((by omega)) (fun hq => ?_) (fun hq => ?_)
      · exact zd_vret E (pc := 143) d_V_measure_143 ⟨r1, hf, hr, rfl, rfl⟩
      · omega
    | succ n6 ih =>
      intro t b5 r1 L7 L8 ht hf hr hb5
      refine zd_iload E (pc := 44) d_V_measure_44 rfl ?_
      refine zd_bipush E (pc := 46) (v := (nI 10)) d_V_measure_46 (by decide) ?_
      refine zd_nc_ge E (pc := 48) 143 d_V_measure_48 (by decide) ((by omega)) ((by omega)) (fun hq => ?_) (fun hq => ?_)
      · omega
      · refine zd_iload E (pc := 51) d_V_measure_51 rfl ?_
        refine zd_bf_eq E (pc := 53) 143 d_V_measure_53 (by decide) (fun hb => ?_) (fun hb => ?_)
        · have hb0 : b5 = false := by simpa using hb
          exact zd_vret E (pc := 143) d_V_measure_143 ⟨r1, hf, fun j hj => by rw [hr j hj, ← lm_it_stay (hb5 hb0) (10 - t) j hj, show t + (10 - t) = 10 by omega], rfl, rfl⟩
        · refine zd_iconst E (pc := 56) (v := (nI 0)) d_V_measure_56 (by decide) ?_
          refine zd_istore E (pc := 57) d_V_measure_57 (by decide) ?_
          refine zd_iconst E (pc := 59) (v := (nI 0)) d_V_measure_59 (by decide) ?_
          refine zd_istore E (pc := 60) d_V_measure_60 (by decide) ?_
          refine acts na t 0 false r1 L8 (by omega) hf (fun j hj => by rw [hr j hj]; rfl) (fun _ j hj => rfl) (fun r2 b5 L8 hf2 hr2 hb2 => ?_)
          refine zd_iinc E (pc := 137) d_V_measure_137 rfl (bm_inc t) (by decide) ?_
          refine zd_goto E (pc := 140) 44 d_V_measure_140 (by decide) ?_
          exact ih (t + 1) b5 r2 none L8 (by omega) hf2 hr2 hb2
  have inits : ∀ n5 i r1, i + n5 = 10 → (∀ j, j ≠ 17 → r1 j = r j) → (∀ j, j < i → r1 17 j = nI (lm_i0 1000000 s j)) → Z (wd k q v r1 ex) [some (.ref (q 16)), some (.int (nI s)), some (.ref (q 19)), some (.int (nI (bm_b w))), some (.int (nI B)), some (.int (nI i)), none, none, none] 3 [] := by
    intro n5
    induction n5 with
    | zero =>
      intro i r1 hi hf hr
      have e : i = 10 := by omega
      subst e
      refine zd_iload E (pc := 3) d_V_measure_3 rfl ?_
      refine zd_bipush E (pc := 5) (v := (nI 10)) d_V_measure_5 (by decide) ?_
      refine zd_nc_ge E (pc := 7) 38 d_V_measure_7 (by decide) ((by omega)) ((by omega)) (fun hq => ?_) (fun hq => ?_)
      · refine zd_iconst E (pc := 38) (v := (nI 1)) d_V_measure_38 (by decide) ?_
        refine zd_istore E (pc := 39) d_V_measure_39 (by decide) ?_
        refine zd_iconst E (pc := 41) (v := (nI 0)) d_V_measure_41 (by decide) ?_
        refine zd_istore E (pc := 42) d_V_measure_42 (by decide) ?_
        exact rounds 10 0 true r1 none none rfl hf hr (fun h => by cases h)
      · omega
    | succ n5 ih =>
      intro i r1 hi hf hr
      have hi10 : i < 10 := by omega
      have fin : ∀ x, x = lm_i0 1000000 s i → Z (wd k q v r1 ex) [some (.ref (q 16)), some (.int (nI s)), some (.ref (q 19)), some (.int (nI (bm_b w))), some (.int (nI B)), some (.int (nI i)), none, none, none] 31 [.int (nI x), .int (nI i), .ref (q 17)] := by
        intro x hx
        refine zd_iast E (pc := 31) d_V_measure_31 17 rfl (t0 := 0) rfl (i) (rfl) (hi10) (by decide) (ws1 := wd k q v (va_up r1 17 (upd (r1 17) i (nI x))) ex) rfl ?_
        refine zd_iinc E (pc := 32) d_V_measure_32 rfl (bm_inc i) (by decide) ?_
        refine zd_goto E (pc := 35) 3 d_V_measure_35 (by decide) ?_
        refine ih (i + 1) _ (by omega) (fun j hj => by rw [va_up_ne _ _ hj]; exact hf j hj) (fun j hj => ?_)
        rw [va_up_self]
        by_cases e : j = i
        · subst e; rw [pk_us, hx]
        · rw [pk_un e]; exact hr j (by omega)
      refine zd_iload E (pc := 3) d_V_measure_3 rfl ?_
      refine zd_bipush E (pc := 5) (v := (nI 10)) d_V_measure_5 (by decide) ?_
      refine zd_nc_ge E (pc := 7) 38 d_V_measure_7 (by decide) ((by omega)) ((by omega)) (fun hq => ?_) (fun hq => ?_)
      · omega
      · refine zd_aload_n E (pc := 10) d_V_measure_10 rfl ?_
        refine zd_get E (pc := 11) d_V_measure_11 kf_V_9 16 rfl rfl ?_
        refine zd_iload E (pc := 14) d_V_measure_14 rfl ?_
        refine zd_iload_n E (pc := 16) d_V_measure_16 rfl ?_
        refine zd_iload E (pc := 17) d_V_measure_17 rfl ?_
        refine zd_callS E (pc := 19) d_V_measure_19 kc_V_19 rfl ks_P_has (c_P_has l D _ _ hs (show i < 32 by omega)) (by decide) rfl (Nat.le_of_ble_eq_true rfl) (fun v1 ws1 hv1 => ?_)
        obtain ⟨rfl, rfl⟩ := hv1
        refine zd_bf_eq E (pc := 22) 29 d_V_measure_22 (by decide) (fun hb => ?_) (fun hb => ?_)
        · refine zd_ldc E (pc := 29) (v := (nI 1000000)) d_V_measure_29 kk_V_23 ?_
          exact fin 1000000 (by unfold lm_i0; rw [if_neg hb])
        · refine zd_iconst E (pc := 25) (v := (nI 0)) d_V_measure_25 (by decide) ?_
          refine zd_goto E (pc := 26) 31 d_V_measure_26 (by decide) ?_
          exact fin 0 (by unfold lm_i0; rw [if_pos hb])
  refine zd_iconst E (pc := 0) (v := (nI 0)) d_V_measure_0 (by decide) ?_
  refine zd_istore E (pc := 1) d_V_measure_1 (by decide) ?_
  exact inits 10 0 r rfl (fun _ _ => rfl) (fun j hj => by omega)
end MS
