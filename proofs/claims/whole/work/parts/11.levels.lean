/-! Contracts of the levels: joined, lower, baseOf. -/
def lm_lows (S x : Nat) (h : Nat → Nat) : Nat → Bool
  | 0 => false
  | i + 1 => lm_lows S x h i || decide (S.testBit i = true ∧ x < h i)
theorem lm_lows_no {S x : Nat} {h : Nat → Nat} : ∀ {n : Nat}, lm_lows S x h n = false → ∀ j, j < n → ¬ (S.testBit j = true ∧ x < h j)
  | 0, _, j, hj => by omega
  | n + 1, hl, j, hj => by
    unfold lm_lows at hl
    simp only [Bool.or_eq_false_iff, decide_eq_false_iff_not] at hl
    by_cases e : j = n
    · subst e; exact hl.2
    · exact lm_lows_no hl.1 j (by omega)
theorem lm_jp_bd {w : Bool} {h : Nat → Nat} {S B : Nat} : ∀ {n : Nat}, (∀ i, i < n → h i ≤ B) → lm_jp w h S n ≤ B * n
  | 0, _ => Nat.le_refl _
  | n + 1, hh => by
    have h1 := lm_jp_bd (w := w) (S := S) (n := n) fun i hi => hh i (by omega)
    have h2 := hh n (by omega)
    have h3 : B * (n + 1) = B * n + B := Nat.mul_succ B n
    rw [h3]
    unfold lm_jp
    split
    · split <;> omega
    · omega
section LV2
variable {k : Nat → ClassId} {q : Nat → Nat} {v : Nat → Int32} {r : Nat → Nat → Int32} {ex : va_W}
set_option maxRecDepth 100000 in
set_option maxHeartbeats 4000000 in
theorem c_V_joined (l : Launch) (D : va_G) {S : Nat} {w : Bool} {h : Nat → Nat} (hS : S < 2 ^ 31) (hh : ∀ i, i < 10 → r 17 i = nI (h i) ∧ h i ≤ 1000000) : zd_Ct l D classes (wd_ty k) gd_T y_V_joined b_V_joined 5 (some .int) (zd_rm 1) [.ref (q 16), .int (nI S), .int (nI (bm_b w))] (wd k q v r ex) (zd_is (some (.int (nI (lm_jn 1000000 w h S 10)))) (wd k q v r ex)) := by
  refine zd_met gd_all (by decide) rfl (Nat.le_of_ble_eq_true rfl) (fun Z E => ?_)
  show Z (wd k q v r ex) [some (.ref (q 16)), some (.int (nI S)), some (.int (nI (bm_b w))), none, none] 0 []
  have bd : ∀ i, i ≤ 10 → lm_jp w h S i ≤ 1000000 * i := fun i hi => lm_jp_bd fun j hj => (hh j (by omega)).2
  have loop : ∀ m i, i + m = 10 → Z (wd k q v r ex) [some (.ref (q 16)), some (.int (nI S)), some (.int (nI (bm_b w))), some (.int (nI (lm_jp w h S i))), some (.int (nI i))] 5 [] := by
    intro m
    induction m with
    | zero =>
      intro i hi
      have e : i = 10 := by omega
      subst e
      have b10 := bd 10 (Nat.le_refl _)
      refine zd_iload E (pc := 5) d_V_joined_5 rfl ?_
      refine zd_bipush E (pc := 7) (v := (nI 10)) d_V_joined_7 (by decide) ?_
      refine zd_nc_ge E (pc := 9) 55 d_V_joined_9 (by decide) ((by omega)) ((by omega)) (fun hc => ?_) (fun hc => ?_)
      · refine zd_iload_n E (pc := 55) d_V_joined_55 rfl ?_
        refine zd_ldc E (pc := 56) (v := (nI 1000000)) d_V_joined_56 kk_V_23 ?_
        refine zd_mmin E (pc := 58) d_V_joined_58 (gd_in2 32 (by decide +kernel) (by decide +kernel)) (gd_in2 33 (by decide +kernel) (by decide +kernel)) (gd_in1 15 (by decide +kernel) (by decide +kernel)) (gd_in2 34 (by decide +kernel) (by decide +kernel)) ⟨by decide, by decide⟩ (Nat.le_of_ble_eq_true rfl) ?_
        rw [bm_min (by omega) (by omega)]
        exact zd_iret E (pc := 61) d_V_joined_61 ⟨rfl, rfl⟩
      · omega
    | succ m ih =>
      intro i hi
      have bi := bd i (by omega)
      have hi10 : i < 10 := by omega
      obtain ⟨e1, e2⟩ := hh i hi10
      have tail : ∀ x, x = lm_jp w h S (i + 1) → Z (wd k q v r ex) [some (.ref (q 16)), some (.int (nI S)), some (.int (nI (bm_b w))), some (.int (nI x)), some (.int (nI i))] 49 [] := by
        intro x hx
        subst hx
        refine zd_iinc E (pc := 49) d_V_joined_49 rfl (bm_inc i) (by decide) ?_
        refine zd_goto E (pc := 52) 5 d_V_joined_52 (by decide) ?_
        exact ih (i + 1) (by omega)
      refine zd_iload E (pc := 5) d_V_joined_5 rfl ?_
      refine zd_bipush E (pc := 7) (v := (nI 10)) d_V_joined_7 (by decide) ?_
      refine zd_nc_ge E (pc := 9) 55 d_V_joined_9 (by decide) ((by omega)) ((by omega)) (fun hc => ?_) (fun hc => ?_)
      · omega
      · refine zd_iload_n E (pc := 12) d_V_joined_12 rfl ?_
        refine zd_iload E (pc := 13) d_V_joined_13 rfl ?_
        refine zd_callS E (pc := 15) d_V_joined_15 kc_V_19 rfl ks_P_has (c_P_has l D _ _ hS (show i < 32 by omega)) (by decide) rfl (Nat.le_of_ble_eq_true rfl) (fun v1 ws1 hv1 => ?_)
        obtain ⟨rfl, rfl⟩ := hv1
        refine zd_bf_eq E (pc := 18) 49 d_V_joined_18 (by decide) (fun hb => ?_) (fun hb => ?_)
        · exact tail _ (by rw [lm_jp, if_neg hb])
        · refine zd_iload_n E (pc := 21) d_V_joined_21 rfl ?_
          refine zd_bf_eq E (pc := 22) 37 d_V_joined_22 (by decide) (fun hw => ?_) (fun hw => ?_)
          · refine zd_iload_n E (pc := 37) d_V_joined_37 rfl ?_
            refine zd_aload_n E (pc := 38) d_V_joined_38 rfl ?_
            refine zd_get E (pc := 39) d_V_joined_39 kf_V_9 16 rfl rfl ?_
            refine zd_iload E (pc := 42) d_V_joined_42 rfl ?_
            refine zd_iald E (pc := 44) d_V_joined_44 17 rfl (t0 := 0) rfl (i) (rfl) (hi10) (by decide) ?_
            rw [e1]
            refine zd_mmax E (pc := 45) d_V_joined_45 (gd_in2 29 (by decide +kernel) (by decide +kernel)) (gd_in2 30 (by decide +kernel) (by decide +kernel)) (gd_in1 15 (by decide +kernel) (by decide +kernel)) (gd_in2 31 (by decide +kernel) (by decide +kernel)) ⟨by decide, by decide⟩ (Nat.le_of_ble_eq_true rfl) ?_
            rw [bm_max (by omega) (by omega)]
            refine zd_istore_n E (pc := 48) d_V_joined_48 (by decide) ?_
            exact tail _ (by rw [lm_jp, if_pos hb, if_neg hw])
          · refine zd_iload_n E (pc := 25) d_V_joined_25 rfl ?_
            refine zd_aload_n E (pc := 26) d_V_joined_26 rfl ?_
            refine zd_get E (pc := 27) d_V_joined_27 kf_V_9 16 rfl rfl ?_
            refine zd_iload E (pc := 30) d_V_joined_30 rfl ?_
            refine zd_iald E (pc := 32) d_V_joined_32 17 rfl (t0 := 0) rfl (i) (rfl) (hi10) (by decide) ?_
            rw [e1]
            refine zd_iadd E (pc := 33) d_V_joined_33 ?_
            rw [nI_add]
            refine zd_goto E (pc := 34) 48 d_V_joined_34 (by decide) ?_
            refine zd_istore_n E (pc := 48) d_V_joined_48 (by decide) ?_
            exact tail _ (by rw [lm_jp, if_pos hb, if_pos hw])
  refine zd_iconst E (pc := 0) (v := (nI 0)) d_V_joined_0 (by decide) ?_
  refine zd_istore_n E (pc := 1) d_V_joined_1 (by decide) ?_
  refine zd_iconst E (pc := 2) (v := (nI 0)) d_V_joined_2 (by decide) ?_
  refine zd_istore E (pc := 3) d_V_joined_3 (by decide) ?_
  exact loop 10 0 rfl
set_option maxRecDepth 100000 in
set_option maxHeartbeats 4000000 in
theorem c_V_lower (l : Launch) (D : va_G) {S x : Nat} {h : Nat → Nat} (hS : S < 2 ^ 31) (hx : x < 2 ^ 31) (hh : ∀ i, i < 10 → r 17 i = nI (h i) ∧ h i ≤ 1000000) : zd_Ct l D classes (wd_ty k) gd_T y_V_lower b_V_lower 5 (some .boolean) (zd_rm 1) [.ref (q 16), .int (nI S), .int (nI x)] (wd k q v r ex)
    (fun v1 w1 => ∃ r1 : Nat → Nat → Int32, (∀ i, i ≠ 17 → r1 i = r i) ∧ (∀ j, j < 10 → r1 17 j = nI (if S.testBit j = true ∧ x < h j then x else h j)) ∧ v1 = some (.int (nI (bm_b (lm_lows S x h 10)))) ∧ w1 = wd k q v r1 ex) := by
  refine zd_met gd_all (by decide) rfl (Nat.le_of_ble_eq_true rfl) (fun Z E => ?_)
  show Z (wd k q v r ex) [some (.ref (q 16)), some (.int (nI S)), some (.int (nI x)), none, none] 0 []
  have loop : ∀ m i (r1 : Nat → Nat → Int32), i + m = 10 → (∀ j, j ≠ 17 → r1 j = r j) → (∀ j, j < 10 → r1 17 j = nI (if j < i ∧ S.testBit j = true ∧ x < h j then x else h j)) → Z (wd k q v r1 ex) [some (.ref (q 16)), some (.int (nI S)), some (.int (nI x)), some (.int (nI (bm_b (lm_lows S x h i)))), some (.int (nI i))] 5 [] := by
    intro m
    induction m with
    | zero =>
      intro i r1 hi hf ha
      have e : i = 10 := by omega
      subst e
      refine zd_iload E (pc := 5) d_V_lower_5 rfl ?_
      refine zd_bipush E (pc := 7) (v := (nI 10)) d_V_lower_7 (by decide) ?_
      refine zd_nc_ge E (pc := 9) 48 d_V_lower_9 (by decide) ((by omega)) ((by omega)) (fun hc => ?_) (fun hc => ?_)
      · refine zd_iload_n E (pc := 48) d_V_lower_48 rfl ?_
        exact zd_zret E (pc := 49) d_V_lower_49 (bm_zn _) ⟨r1, hf, fun j hj => by rw [ha j hj]; simp [hj], rfl, rfl⟩
      · omega
    | succ m ih =>
      intro i r1 hi hf ha
      have hi10 : i < 10 := by omega
      obtain ⟨e1, e2⟩ := hh i hi10
      have hai : r1 17 i = nI (h i) := by rw [ha i hi10, if_neg (by omega)]
      have tail : ∀ (r2 : Nat → Nat → Int32) (b : Nat), (∀ j, j ≠ 17 → r2 j = r j) → (∀ j, j < 10 → r2 17 j = nI (if j < i + 1 ∧ S.testBit j = true ∧ x < h j then x else h j)) → b = bm_b (lm_lows S x h (i + 1)) → Z (wd k q v r2 ex) [some (.ref (q 16)), some (.int (nI S)), some (.int (nI x)), some (.int (nI b)), some (.int (nI i))] 42 [] := by
        intro r2 b hf2 ha2 hb2
        subst hb2
        refine zd_iinc E (pc := 42) d_V_lower_42 rfl (bm_inc i) (by decide) ?_
        refine zd_goto E (pc := 45) 5 d_V_lower_45 (by decide) ?_
        exact ih (i + 1) r2 (by omega) hf2 ha2
      have same : ¬ (S.testBit i = true ∧ x < h i) → (∀ j, j < 10 → r1 17 j = nI (if j < i + 1 ∧ S.testBit j = true ∧ x < h j then x else h j)) ∧ bm_b (lm_lows S x h i) = bm_b (lm_lows S x h (i + 1)) := by
        intro hn
        refine ⟨fun j hj => ?_, ?_⟩
        · rw [ha j hj]
          by_cases e : j = i
          · subst e
            rw [if_neg (fun z => hn z.2), if_neg (fun z => hn z.2)]
          · have : (j < i ∧ S.testBit j = true ∧ x < h j) ↔ (j < i + 1 ∧ S.testBit j = true ∧ x < h j) := by
              constructor
              · rintro ⟨a, b⟩; exact ⟨by omega, b⟩
              · rintro ⟨a, b⟩; exact ⟨by omega, b⟩
            simp only [this]
        · show _ = bm_b (lm_lows S x h i || decide (S.testBit i = true ∧ x < h i))
          rw [decide_eq_false hn, Bool.or_false]
      refine zd_iload E (pc := 5) d_V_lower_5 rfl ?_
      refine zd_bipush E (pc := 7) (v := (nI 10)) d_V_lower_7 (by decide) ?_
      refine zd_nc_ge E (pc := 9) 48 d_V_lower_9 (by decide) ((by omega)) ((by omega)) (fun hc => ?_) (fun hc => ?_)
      · omega
      · refine zd_iload_n E (pc := 12) d_V_lower_12 rfl ?_
        refine zd_iload E (pc := 13) d_V_lower_13 rfl ?_
        refine zd_callS E (pc := 15) d_V_lower_15 kc_V_19 rfl ks_P_has (c_P_has l D _ _ hS (show i < 32 by omega)) (by decide) rfl (Nat.le_of_ble_eq_true rfl) (fun v1 ws1 hv1 => ?_)
        obtain ⟨rfl, rfl⟩ := hv1
        refine zd_bf_eq E (pc := 18) 42 d_V_lower_18 (by decide) (fun hb => ?_) (fun hb => ?_)
        · obtain ⟨s1, s2⟩ := same (fun z => hb z.1)
          exact tail r1 _ hf s1 s2
        · refine zd_iload_n E (pc := 21) d_V_lower_21 rfl ?_
          refine zd_aload_n E (pc := 22) d_V_lower_22 rfl ?_
          refine zd_get E (pc := 23) d_V_lower_23 kf_V_9 16 rfl rfl ?_
          refine zd_iload E (pc := 26) d_V_lower_26 rfl ?_
          refine zd_iald E (pc := 28) d_V_lower_28 17 rfl (t0 := 0) rfl (i) (rfl) (hi10) (by decide) ?_
          rw [hai]
          refine zd_nc_ge E (pc := 29) 42 d_V_lower_29 (by decide) (hx) ((by omega)) (fun hl => ?_) (fun hl => ?_)
          · obtain ⟨s1, s2⟩ := same (fun z => by omega)
            exact tail r1 _ hf s1 s2
          · refine zd_aload_n E (pc := 32) d_V_lower_32 rfl ?_
            refine zd_get E (pc := 33) d_V_lower_33 kf_V_9 16 rfl rfl ?_
            refine zd_iload E (pc := 36) d_V_lower_36 rfl ?_
            refine zd_iload_n E (pc := 38) d_V_lower_38 rfl ?_
            refine zd_iast E (pc := 39) d_V_lower_39 17 rfl (t0 := 0) rfl (i) (rfl) (hi10) (by decide) (ws1 := wd k q v (va_up r1 17 (upd (r1 17) i (nI x))) ex) rfl ?_
            refine zd_iconst E (pc := 40) (v := (nI 1)) d_V_lower_40 (by decide) ?_
            refine zd_istore_n E (pc := 41) d_V_lower_41 (by decide) ?_
            refine tail _ 1 (fun j hj => by rw [va_up_ne _ _ hj]; exact hf j hj) (fun j hj => ?_) ?_
            · rw [va_up_self]
              by_cases e : j = i
              · subst e
                rw [pk_us, if_pos ⟨by omega, hb, hl⟩]
              · rw [pk_un e, ha j hj]
                have : (j < i ∧ S.testBit j = true ∧ x < h j) ↔ (j < i + 1 ∧ S.testBit j = true ∧ x < h j) := by
                  constructor
                  · rintro ⟨a, b⟩; exact ⟨by omega, b⟩
                  · rintro ⟨a, b⟩; exact ⟨by omega, b⟩
                simp only [this]
            · show 1 = bm_b (lm_lows S x h i || decide (S.testBit i = true ∧ x < h i))
              rw [decide_eq_true ⟨hb, hl⟩, Bool.or_true]
              rfl
  refine zd_iconst E (pc := 0) (v := (nI 0)) d_V_lower_0 (by decide) ?_
  refine zd_istore_n E (pc := 1) d_V_lower_1 (by decide) ?_
  refine zd_iconst E (pc := 2) (v := (nI 0)) d_V_lower_2 (by decide) ?_
  refine zd_istore E (pc := 3) d_V_lower_3 (by decide) ?_
  exact loop 10 0 r rfl (fun _ _ => rfl) (fun j hj => by rw [(hh j hj).1, if_neg (by omega)])
end LV2
