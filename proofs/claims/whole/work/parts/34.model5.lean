/-! The reference: comeTo, states, together. -/
section M5
variable {k : Nat → ClassId} {q : Nat → Nat} {v : Nat → Int32} {r : Nat → Nat → Int32} {ex : va_W} {nf na fi go : Nat} {co ne ad dr : Nat → Nat}
theorem md_cnt_up {N : Nat} {C : Nat → Bool} {s : Nat} (hs : s < N) (hc : C s = false) : lm_cnt (fun x => !(va_up C s true x)) N < lm_cnt (fun x => !(C x)) N := lm_cnt_lt (fun f _ hf => by
    by_cases e : f = s
    · subst e; rw [va_up_self] at hf; cases hf
    · rw [va_up_ne _ _ e] at hf; exact hf) ⟨s, hs, by rw [va_up_self]; rfl, by rw [hc]; rfl⟩
set_option maxRecDepth 100000 in
set_option maxHeartbeats 4000000 in
theorem c_M_comeTo (l : Launch) (D : va_G) {s0 : Nat} (t : tk_M v r nf na fi go co ne ad dr) (hs0 : v 15 = nI s0) (hs2 : s0 < 2 ^ nf) : zd_Ct l D classes (wd_ty k) gd_T y_M_comeTo b_M_comeTo 5 none (zd_rm 1) [.ref (q 22)] (wd k q v r ex)
    (fun v1 w1 => ∃ (r2 : Nat → Nat → Int32) (C : Nat → Bool), (∀ i, i ≠ 30 → r2 i = r i) ∧ (∀ s, s < 2 ^ nf → r2 30 s = nI (bm_b (C s))) ∧ (∀ s, s < 2 ^ nf → (C s = true ↔ ∃ c, gw_R na (tk_can ne) (tk_af ad dr) co s0 s c)) ∧ v1 = none ∧ w1 = wd k q v r2 ex) := by
  refine zd_met gd_all (by decide) rfl (Nat.le_of_ble_eq_true rfl) (fun Z E => ?_)
  show Z (wd k q v r ex) [some (.ref (q 22)), none, none, none, none] 0 []
  have hnf := t.2.2.1.1
  have hna := t.hna.2
  have hN := t.n31
  have h11 : v 11 = nI nf := t.1.1
  have h14 : v 14 = nI na := t.hna.1
  have haf : ∀ s a, s < 2 ^ nf → a < 12 → tk_af ad dr a s < 2 ^ nf := fun s a hs ha => tk_af_lt hs (t.2.2.2.1 a ha).2.2.1
  have tr : ∀ r1 : Nat → Nat → Int32, (∀ i, i ≠ 30 → r1 i = r i) → tk_M v r1 nf na fi go co ne ad dr := fun r1 hf => tk_mfr t rfl rfl rfl rfl (hf 23 (by decide)) (hf 24 (by decide)) (hf 25 (by decide)) (hf 26 (by decide))
  have fini : ∀ (C : Nat → Bool) (r1 : Nat → Nat → Int32) (L3 L4 : Option Value), (∀ i, i ≠ 30 → r1 i = r i) → (∀ x, x < 2 ^ nf → r1 30 x = nI (bm_b (C x))) → C s0 = true → (∀ x, x < 2 ^ nf → C x = true → ∃ c, gw_R na (tk_can ne) (tk_af ad dr) co s0 x c) → (∀ x c, x < 2 ^ nf → c < na → C x = true → tk_can ne c x = true → C (tk_af ad dr c x) = true) → Z (wd k q v r1 ex) [some (.ref (q 22)), some (.int (nI (2 ^ nf))), some (.int (nI (bm_b false))), L3, L4] 41 [] := by
    intro C r1 L3 L4 hf hr h0 hso hcl
    have reach : ∀ j x c, x < 2 ^ nf → C x = true → ∀ y, gw_P na (tk_can ne) (tk_af ad dr) co j x y c → C y = true := by
      intro j
      induction j with
      | zero => intro x c hx hC y hp; obtain ⟨rfl, -⟩ := hp; exact hC
      | succ j ih =>
        intro x c hx hC y hp
        obtain ⟨a, c', ha, hc, hp, -⟩ := hp
        exact ih _ c' (haf x a hx (by omega)) (hcl x a hx ha hC hc) y hp
    refine zd_iload_n E (pc := 41) d_M_comeTo_41 rfl ?_
    refine zd_bf_eq E (pc := 42) 130 d_M_comeTo_42 (by decide) (fun hb => ?_) (fun hb => ?_)
    · exact zd_vret E (pc := 130) d_M_comeTo_130 ⟨r1, C, hf, hr, fun x hx => ⟨hso x hx, fun ⟨c, j, hp⟩ => reach j s0 c hs2 h0 x hp⟩, rfl, rfl⟩
    · cases hb
  have acts : ∀ (m a s : Nat) (C0 C1 : Nat → Bool) (b : Bool) (r1 : Nat → Nat → Int32), a + m = na → s < 2 ^ nf → (∀ i, i ≠ 30 → r1 i = r i) → (∀ x, x < 2 ^ nf → r1 30 x = nI (bm_b (C1 x))) → C1 s0 = true → (∀ x, x < 2 ^ nf → C1 x = true → ∃ c, gw_R na (tk_can ne) (tk_af ad dr) co s0 x c) → (b = true → lm_cnt (fun x => !(C1 x)) (2 ^ nf) < lm_cnt (fun x => !(C0 x)) (2 ^ nf)) → (b = false → C1 = C0 ∧ ∀ x c, (x < s ∧ c < na ∨ x = s ∧ c < a) → C0 x = true → tk_can ne c x = true → C0 (tk_af ad dr c x) = true) →
      (∀ (C1 : Nat → Bool) (b : Bool) (r1 : Nat → Nat → Int32) (L4 : Option Value), (∀ i, i ≠ 30 → r1 i = r i) → (∀ x, x < 2 ^ nf → r1 30 x = nI (bm_b (C1 x))) → C1 s0 = true → (∀ x, x < 2 ^ nf → C1 x = true → ∃ c, gw_R na (tk_can ne) (tk_af ad dr) co s0 x c) → (b = true → lm_cnt (fun x => !(C1 x)) (2 ^ nf) < lm_cnt (fun x => !(C0 x)) (2 ^ nf)) → (b = false → C1 = C0 ∧ ∀ x c, x < s + 1 ∧ c < na → C0 x = true → tk_can ne c x = true → C0 (tk_af ad dr c x) = true) → Z (wd k q v r1 ex) [some (.ref (q 22)), some (.int (nI (2 ^ nf))), some (.int (nI (bm_b b))), some (.int (nI s)), L4] 121 []) →
      Z (wd k q v r1 ex) [some (.ref (q 22)), some (.int (nI (2 ^ nf))), some (.int (nI (bm_b b))), some (.int (nI s)), some (.int (nI a))] 57 [] := by
    intro m
    induction m with
    | zero =>
      intro a s C0 C1 b r1 ha hs hf hr hI0 hI1 hb1 hb0 kk
      have e : a = na := by omega
      subst e
      refine zd_iload E (pc := 57) d_M_comeTo_57 rfl ?_
      refine zd_aload_n E (pc := 59) d_M_comeTo_59 rfl ?_
      refine zd_get E (pc := 60) d_M_comeTo_60 kf_M_51 22 rfl rfl ?_
      rw [h14]
      refine zd_nc_ge E (pc := 63) 121 d_M_comeTo_63 (by decide) ((by omega)) ((by omega)) (fun hq => ?_) (fun hq => ?_)
      · exact kk C1 b r1 _ hf hr hI0 hI1 hb1 (fun z => ⟨(hb0 z).1, fun x c hx hC hc => (hb0 z).2 x c (by omega) hC hc⟩)
      · omega
    | succ m ih =>
      intro a s C0 C1 b r1 ha hs hf hr hI0 hI1 hb1 hb0 kk
      have ha12 : a < 12 := by omega
      have t1 := tr r1 hf
      have hafs := haf s a hs ha12
      have tail : ∀ (C1 : Nat → Bool) (b : Bool) (r1 : Nat → Nat → Int32), (∀ i, i ≠ 30 → r1 i = r i) → (∀ x, x < 2 ^ nf → r1 30 x = nI (bm_b (C1 x))) → C1 s0 = true → (∀ x, x < 2 ^ nf → C1 x = true → ∃ c, gw_R na (tk_can ne) (tk_af ad dr) co s0 x c) → (b = true → lm_cnt (fun x => !(C1 x)) (2 ^ nf) < lm_cnt (fun x => !(C0 x)) (2 ^ nf)) → (b = false → C1 = C0 ∧ ∀ x c, (x < s ∧ c < na ∨ x = s ∧ c < a + 1) → C0 x = true → tk_can ne c x = true → C0 (tk_af ad dr c x) = true) → Z (wd k q v r1 ex) [some (.ref (q 22)), some (.int (nI (2 ^ nf))), some (.int (nI (bm_b b))), some (.int (nI s)), some (.int (nI a))] 115 [] := by
        intro C1 b r1 hf hr hI0 hI1 hb1 hb0
        refine zd_iinc E (pc := 115) d_M_comeTo_115 rfl (bm_inc a) (by decide) ?_
        refine zd_goto E (pc := 118) 57 d_M_comeTo_118 (by decide) ?_
        exact ih (a + 1) s C0 C1 b r1 (by omega) hs hf hr hI0 hI1 hb1 hb0 kk
      have more : (b = false → C0 s = true → tk_can ne a s = true → C0 (tk_af ad dr a s) = true) → Z (wd k q v r1 ex) [some (.ref (q 22)), some (.int (nI (2 ^ nf))), some (.int (nI (bm_b b))), some (.int (nI s)), some (.int (nI a))] 115 [] := fun hz =>
        tail C1 b r1 hf hr hI0 hI1 hb1 (fun z => ⟨(hb0 z).1, fun x c hx hC hc => by
          by_cases e : x = s ∧ c = a
          · obtain ⟨rfl, rfl⟩ := e; exact hz z hC hc
          · exact (hb0 z).2 x c (by omega) hC hc⟩)
      refine zd_iload E (pc := 57) d_M_comeTo_57 rfl ?_
      refine zd_aload_n E (pc := 59) d_M_comeTo_59 rfl ?_
      refine zd_get E (pc := 60) d_M_comeTo_60 kf_M_51 22 rfl rfl ?_
      rw [h14]
      refine zd_nc_ge E (pc := 63) 121 d_M_comeTo_63 (by decide) ((by omega)) ((by omega)) (fun hq => ?_) (fun hq => ?_)
      · omega
      · refine zd_aload_n E (pc := 66) d_M_comeTo_66 rfl ?_
        refine zd_get E (pc := 67) d_M_comeTo_67 kf_M_31 22 rfl rfl ?_
        refine zd_iload_n E (pc := 70) d_M_comeTo_70 rfl ?_
        refine zd_zald E (pc := 71) d_M_comeTo_71 30 rfl (t0 := 1) rfl (s) (rfl) ((by omega)) (by decide) ?_
        rw [hr s hs]
        refine zd_bf_eq E (pc := 72) 115 d_M_comeTo_72 (by decide) (fun hC => ?_) (fun hC => ?_)
        · exact more (fun z y => by rw [← (hb0 z).1] at y; exact absurd y hC)
        · refine zd_aload_n E (pc := 75) d_M_comeTo_75 rfl ?_
          refine zd_iload E (pc := 76) d_M_comeTo_76 rfl ?_
          refine zd_iload_n E (pc := 78) d_M_comeTo_78 rfl ?_
          refine zd_callV E (pc := 79) d_M_comeTo_79 kc_M_76 rfl ki_M_can ke_M_can 22 rfl rfl (c_M_can l D t1 ha12) (by decide) rfl (Nat.le_of_ble_eq_true rfl) (fun v1 ws1 hv1 => ?_)
          obtain ⟨rfl, rfl⟩ := hv1
          refine zd_bf_eq E (pc := 82) 115 d_M_comeTo_82 (by decide) (fun hcan => ?_) (fun hcan => ?_)
          · exact more (fun _ _ y => absurd y hcan)
          · refine zd_aload_n E (pc := 85) d_M_comeTo_85 rfl ?_
            refine zd_get E (pc := 86) d_M_comeTo_86 kf_M_31 22 rfl rfl ?_
            refine zd_aload_n E (pc := 89) d_M_comeTo_89 rfl ?_
            refine zd_iload E (pc := 90) d_M_comeTo_90 rfl ?_
            refine zd_iload_n E (pc := 92) d_M_comeTo_92 rfl ?_
            refine zd_callV E (pc := 93) d_M_comeTo_93 kc_M_80 rfl ki_M_after ke_M_after 22 rfl rfl (c_M_after l D t1 ha12) (by decide) rfl (Nat.le_of_ble_eq_true rfl) (fun v1 ws1 hv1 => ?_)
            obtain ⟨rfl, rfl⟩ := hv1
            refine zd_zald E (pc := 96) d_M_comeTo_96 30 rfl (t0 := 1) rfl (tk_af ad dr a s) (rfl) ((by omega)) (by decide) ?_
            rw [hr _ hafs]
            refine zd_bf_ne E (pc := 97) 115 d_M_comeTo_97 (by decide) (fun hC2 => ?_) (fun hC2 => ?_)
            · exact more (fun z _ _ => by rw [← (hb0 z).1]; exact hC2)
            · have hC2 : C1 (tk_af ad dr a s) = false := ts_f hC2
              refine zd_aload_n E (pc := 100) d_M_comeTo_100 rfl ?_
              refine zd_get E (pc := 101) d_M_comeTo_101 kf_M_31 22 rfl rfl ?_
              refine zd_aload_n E (pc := 104) d_M_comeTo_104 rfl ?_
              refine zd_iload E (pc := 105) d_M_comeTo_105 rfl ?_
              refine zd_iload_n E (pc := 107) d_M_comeTo_107 rfl ?_
              refine zd_callV E (pc := 108) d_M_comeTo_108 kc_M_80 rfl ki_M_after ke_M_after 22 rfl rfl (c_M_after l D t1 ha12) (by decide) rfl (Nat.le_of_ble_eq_true rfl) (fun v1 ws1 hv1 => ?_)
              obtain ⟨rfl, rfl⟩ := hv1
              refine zd_iconst E (pc := 111) (v := (nI 1)) d_M_comeTo_111 (by decide) ?_
              show Z (wd k q v r1 ex) _ 112 [.int (nI (bm_b true)), .int (nI (tk_af ad dr a s)), .ref (q 30)]
              refine zd_zast E (pc := 112) d_M_comeTo_112 30 rfl (t0 := 1) rfl (tk_af ad dr a s) (rfl) ((by omega)) (by decide) (ws1 := wd k q v (va_up r1 30 (upd (r1 30) (tk_af ad dr a s) (nI (bm_b true)))) ex) rfl ?_
              refine zd_iconst E (pc := 113) (v := (nI 1)) d_M_comeTo_113 (by decide) ?_
              refine zd_istore_n E (pc := 114) d_M_comeTo_114 (by decide) ?_
              refine tail (va_up C1 (tk_af ad dr a s) true) true _ (fun i hi => by rw [va_up_ne _ _ hi]; exact hf i hi) (fun x hx => ?_) ?_ (fun x hx hx1 => ?_) (fun _ => ?_) (fun z => by cases z)
              · rw [va_up_self]
                by_cases e : x = tk_af ad dr a s
                · subst e; rw [pk_us, va_up_self]
                · rw [pk_un e, va_up_ne _ _ e]; exact hr x hx
              · by_cases e : s0 = tk_af ad dr a s
                · rw [e, va_up_self]
                · rw [va_up_ne _ _ e]; exact hI0
              · by_cases e : x = tk_af ad dr a s
                · subst e
                  obtain ⟨c, hc⟩ := hI1 s hs hC
                  exact ⟨_, gw_R_r (show a < na by omega) hcan hc⟩
                · rw [va_up_ne _ _ e] at hx1; exact hI1 x hx hx1
              · have h1 := md_cnt_up hafs hC2
                cases b with
                | true => have := hb1 rfl; omega
                | false => rw [(hb0 rfl).1] at h1 ⊢; exact h1
  have pass : ∀ (m s : Nat) (C0 C1 : Nat → Bool) (b : Bool) (r1 : Nat → Nat → Int32) (L4 : Option Value), s + m = 2 ^ nf → (∀ i, i ≠ 30 → r1 i = r i) → (∀ x, x < 2 ^ nf → r1 30 x = nI (bm_b (C1 x))) → C1 s0 = true → (∀ x, x < 2 ^ nf → C1 x = true → ∃ c, gw_R na (tk_can ne) (tk_af ad dr) co s0 x c) → (b = true → lm_cnt (fun x => !(C1 x)) (2 ^ nf) < lm_cnt (fun x => !(C0 x)) (2 ^ nf)) → (b = false → C1 = C0 ∧ ∀ x c, x < s ∧ c < na → C0 x = true → tk_can ne c x = true → C0 (tk_af ad dr c x) = true) →
      (∀ (C1 : Nat → Bool) (b : Bool) (r1 : Nat → Nat → Int32) (L3 L4 : Option Value), (∀ i, i ≠ 30 → r1 i = r i) → (∀ x, x < 2 ^ nf → r1 30 x = nI (bm_b (C1 x))) → C1 s0 = true → (∀ x, x < 2 ^ nf → C1 x = true → ∃ c, gw_R na (tk_can ne) (tk_af ad dr) co s0 x c) → (b = true → lm_cnt (fun x => !(C1 x)) (2 ^ nf) < lm_cnt (fun x => !(C0 x)) (2 ^ nf)) → (b = false → C1 = C0 ∧ ∀ x c, x < 2 ^ nf → c < na → C0 x = true → tk_can ne c x = true → C0 (tk_af ad dr c x) = true) → Z (wd k q v r1 ex) [some (.ref (q 22)), some (.int (nI (2 ^ nf))), some (.int (nI (bm_b b))), L3, L4] 127 []) →
      Z (wd k q v r1 ex) [some (.ref (q 22)), some (.int (nI (2 ^ nf))), some (.int (nI (bm_b b))), some (.int (nI s)), L4] 49 [] := by
    intro m
    induction m with
    | zero =>
      intro s C0 C1 b r1 L4 hs hf hr hI0 hI1 hb1 hb0 kk
      have e : s = 2 ^ nf := by omega
      subst e
      refine zd_iload_n E (pc := 49) d_M_comeTo_49 rfl ?_
      refine zd_iload_n E (pc := 50) d_M_comeTo_50 rfl ?_
      refine zd_nc_ge E (pc := 51) 127 d_M_comeTo_51 (by decide) ((by omega)) ((by omega)) (fun hq => ?_) (fun hq => ?_)
      · exact kk C1 b r1 _ _ hf hr hI0 hI1 hb1 (fun z => ⟨(hb0 z).1, fun x c hx hc hC hcan => (hb0 z).2 x c ⟨hx, hc⟩ hC hcan⟩)
      · omega
    | succ m ih =>
      intro s C0 C1 b r1 L4 hs hf hr hI0 hI1 hb1 hb0 kk
      refine zd_iload_n E (pc := 49) d_M_comeTo_49 rfl ?_
      refine zd_iload_n E (pc := 50) d_M_comeTo_50 rfl ?_
      refine zd_nc_ge E (pc := 51) 127 d_M_comeTo_51 (by decide) ((by omega)) ((by omega)) (fun hq => ?_) (fun hq => ?_)
      · omega
      · refine zd_iconst E (pc := 54) (v := (nI 0)) d_M_comeTo_54 (by decide) ?_
        refine zd_istore E (pc := 55) d_M_comeTo_55 (by decide) ?_
        refine acts na 0 s C0 C1 b r1 (by omega) (by omega) hf hr hI0 hI1 hb1 (fun z => ⟨(hb0 z).1, fun x c hx hC hc => (hb0 z).2 x c (by omega) hC hc⟩) (fun C2 b2 r2 L4 hf2 hr2 hI02 hI12 hb12 hb02 => ?_)
        refine zd_iinc E (pc := 121) d_M_comeTo_121 rfl (bm_inc s) (by decide) ?_
        refine zd_goto E (pc := 124) 49 d_M_comeTo_124 (by decide) ?_
        exact ih (s + 1) C0 C2 b2 r2 L4 (by omega) hf2 hr2 hI02 hI12 hb12 hb02 kk
  have whole : ∀ (B : Nat) (C0 : Nat → Bool) (r1 : Nat → Nat → Int32) (L3 L4 : Option Value), lm_cnt (fun x => !(C0 x)) (2 ^ nf) ≤ B → (∀ i, i ≠ 30 → r1 i = r i) → (∀ x, x < 2 ^ nf → r1 30 x = nI (bm_b (C0 x))) → C0 s0 = true → (∀ x, x < 2 ^ nf → C0 x = true → ∃ c, gw_R na (tk_can ne) (tk_af ad dr) co s0 x c) → Z (wd k q v r1 ex) [some (.ref (q 22)), some (.int (nI (2 ^ nf))), some (.int (nI (bm_b true))), L3, L4] 41 [] := by
    intro B
    induction B with
    | zero =>
      intro C0 r1 L3 L4 hB hf hr hI0 hI1
      refine zd_iload_n E (pc := 41) d_M_comeTo_41 rfl ?_
      refine zd_bf_eq E (pc := 42) 130 d_M_comeTo_42 (by decide) (fun hb => ?_) (fun hb => ?_)
      · exact absurd rfl hb
      · refine zd_iconst E (pc := 45) (v := (nI 0)) d_M_comeTo_45 (by decide) ?_
        refine zd_istore_n E (pc := 46) d_M_comeTo_46 (by decide) ?_
        refine zd_iconst E (pc := 47) (v := (nI 0)) d_M_comeTo_47 (by decide) ?_
        refine zd_istore_n E (pc := 48) d_M_comeTo_48 (by decide) ?_
        refine pass (2 ^ nf) 0 C0 C0 false r1 L4 (by omega) hf hr hI0 hI1 (fun z => by cases z) (fun _ => ⟨rfl, fun x c hx => by omega⟩) (fun C2 b2 r2 L3 L4 hf2 hr2 hI02 hI12 hb12 hb02 => ?_)
        refine zd_goto E (pc := 127) 41 d_M_comeTo_127 (by decide) ?_
        cases b2 with
        | true => have := hb12 rfl; omega
        | false =>
          obtain ⟨rfl, hfix⟩ := hb02 rfl
          exact fini C2 r2 _ _ hf2 hr2 hI02 hI12 hfix
    | succ B ih =>
      intro C0 r1 L3 L4 hB hf hr hI0 hI1
      refine zd_iload_n E (pc := 41) d_M_comeTo_41 rfl ?_
      refine zd_bf_eq E (pc := 42) 130 d_M_comeTo_42 (by decide) (fun hb => ?_) (fun hb => ?_)
      · exact absurd rfl hb
      · refine zd_iconst E (pc := 45) (v := (nI 0)) d_M_comeTo_45 (by decide) ?_
        refine zd_istore_n E (pc := 46) d_M_comeTo_46 (by decide) ?_
        refine zd_iconst E (pc := 47) (v := (nI 0)) d_M_comeTo_47 (by decide) ?_
        refine zd_istore_n E (pc := 48) d_M_comeTo_48 (by decide) ?_
        refine pass (2 ^ nf) 0 C0 C0 false r1 L4 (by omega) hf hr hI0 hI1 (fun z => by cases z) (fun _ => ⟨rfl, fun x c hx => by omega⟩) (fun C2 b2 r2 L3 L4 hf2 hr2 hI02 hI12 hb12 hb02 => ?_)
        refine zd_goto E (pc := 127) 41 d_M_comeTo_127 (by decide) ?_
        cases b2 with
        | true =>
          have := hb12 rfl
          exact ih C2 r2 L3 L4 (by omega) hf2 hr2 hI02 hI12
        | false =>
          obtain ⟨rfl, hfix⟩ := hb02 rfl
          exact fini C2 r2 _ _ hf2 hr2 hI02 hI12 hfix
  have inits : ∀ (m s : Nat) (r1 : Nat → Nat → Int32), s + m = 2 ^ nf → (∀ i, i ≠ 30 → r1 i = r i) → (∀ x, x < s → r1 30 x = nI (bm_b (decide (x = s0)))) → Z (wd k q v r1 ex) [some (.ref (q 22)), some (.int (nI (2 ^ nf))), some (.int (nI s)), none, none] 9 [] := by
    intro m
    induction m with
    | zero =>
      intro s r1 hs hf hr
      have e : s = 2 ^ nf := by omega
      subst e
      refine zd_iload_n E (pc := 9) d_M_comeTo_9 rfl ?_
      refine zd_iload_n E (pc := 10) d_M_comeTo_10 rfl ?_
      refine zd_nc_ge E (pc := 11) 39 d_M_comeTo_11 (by decide) ((by omega)) ((by omega)) (fun hq => ?_) (fun hq => ?_)
      · refine zd_iconst E (pc := 39) (v := (nI 1)) d_M_comeTo_39 (by decide) ?_
        refine zd_istore_n E (pc := 40) d_M_comeTo_40 (by decide) ?_
        refine whole _ (fun x => decide (x = s0)) r1 none none (Nat.le_refl _) hf hr (by simp) (fun x hx hC => ?_)
        have : x = s0 := by simpa using hC
        subst this
        exact ⟨0, gw_R_0 _⟩
      · omega
    | succ m ih =>
      intro s r1 hs hf hr
      have fin : ∀ b : Bool, b = decide (s = s0) → Z (wd k q v r1 ex) [some (.ref (q 22)), some (.int (nI (2 ^ nf))), some (.int (nI s)), none, none] 32 [.int (nI (bm_b b)), .int (nI s), .ref (q 30)] := by
        intro b hb
        refine zd_zast E (pc := 32) d_M_comeTo_32 30 rfl (t0 := 1) rfl (s) (rfl) ((by omega)) (by decide) (ws1 := wd k q v (va_up r1 30 (upd (r1 30) s (nI (bm_b b)))) ex) rfl ?_
        refine zd_iinc E (pc := 33) d_M_comeTo_33 rfl (bm_inc s) (by decide) ?_
        refine zd_goto E (pc := 36) 9 d_M_comeTo_36 (by decide) ?_
        refine ih (s + 1) _ (by omega) (fun i hi => by rw [va_up_ne _ _ hi]; exact hf i hi) (fun y hy => ?_)
        rw [va_up_self]
        by_cases e : y = s
        · subst e; rw [pk_us, hb]
        · rw [pk_un e]; exact hr y (by omega)
      refine zd_iload_n E (pc := 9) d_M_comeTo_9 rfl ?_
      refine zd_iload_n E (pc := 10) d_M_comeTo_10 rfl ?_
      refine zd_nc_ge E (pc := 11) 39 d_M_comeTo_11 (by decide) ((by omega)) ((by omega)) (fun hq => ?_) (fun hq => ?_)
      · omega
      · refine zd_aload_n E (pc := 14) d_M_comeTo_14 rfl ?_
        refine zd_get E (pc := 15) d_M_comeTo_15 kf_M_31 22 rfl rfl ?_
        refine zd_iload_n E (pc := 18) d_M_comeTo_18 rfl ?_
        refine zd_iload_n E (pc := 19) d_M_comeTo_19 rfl ?_
        refine zd_aload_n E (pc := 20) d_M_comeTo_20 rfl ?_
        refine zd_get E (pc := 21) d_M_comeTo_21 kf_M_60 22 rfl rfl ?_
        rw [hs0]
        refine zd_nc_ne E (pc := 24) 31 d_M_comeTo_24 (by decide) ((by omega)) ((by omega)) (fun he => ?_) (fun he => ?_)
        · refine zd_iconst E (pc := 31) (v := (nI 0)) d_M_comeTo_31 (by decide) ?_
          exact fin false (decide_eq_false he).symm
        · refine zd_iconst E (pc := 27) (v := (nI 1)) d_M_comeTo_27 (by decide) ?_
          refine zd_goto E (pc := 28) 32 d_M_comeTo_28 (by decide) ?_
          exact fin true (decide_eq_true he).symm
  refine zd_iconst E (pc := 0) (v := (nI 1)) d_M_comeTo_0 (by decide) ?_
  refine zd_aload_n E (pc := 1) d_M_comeTo_1 rfl ?_
  refine zd_get E (pc := 2) d_M_comeTo_2 kf_M_48 22 rfl rfl ?_
  rw [h11]
  refine zd_ishl E (pc := 5) d_M_comeTo_5 ?_
  rw [bm_one (by omega)]
  refine zd_istore_n E (pc := 6) d_M_comeTo_6 (by decide) ?_
  refine zd_iconst E (pc := 7) (v := (nI 0)) d_M_comeTo_7 (by decide) ?_
  refine zd_istore_n E (pc := 8) d_M_comeTo_8 (by decide) ?_
  exact inits (2 ^ nf) 0 r (by omega) (fun _ _ => rfl) (fun x hx => by omega)
set_option maxRecDepth 100000 in
set_option maxHeartbeats 4000000 in
theorem c_M_states (l : Launch) (D : va_G) {s0 : Nat} (t : tk_M v r nf na fi go co ne ad dr) (hs0 : v 15 = nI s0) (hs2 : s0 < 2 ^ nf) : zd_Ct l D classes (wd_ty k) gd_T y_M_states b_M_states 3 (some .int) (zd_rm 2) [.ref (q 22)] (wd k q v r ex)
    (fun v1 w1 => ∃ (r2 : Nat → Nat → Int32) (C : Nat → Bool), (∀ i, i ≠ 30 → r2 i = r i) ∧ (∀ s, s < 2 ^ nf → (C s = true ↔ ∃ c, gw_R na (tk_can ne) (tk_af ad dr) co s0 s c)) ∧ v1 = some (.int (nI (lm_cnt C (2 ^ nf)))) ∧ w1 = wd k q (upd v 10 (nI 0)) r2 ex) := by
  refine zd_met gd_all (by decide) rfl (Nat.le_of_ble_eq_true rfl) (fun Z E => ?_)
  show Z (wd k q v r ex) [some (.ref (q 22)), none, none] 0 []
  have hnf := t.2.2.1.1
  have hN := t.n31
  have h11 : v 11 = nI nf := t.1.1
  have t0 : tk_M (upd v 10 (nI 0)) r nf na fi go co ne ad dr := tk_mfr t rfl rfl rfl rfl rfl rfl rfl rfl
  refine zd_aload_n E (pc := 0) d_M_states_0 rfl ?_
  refine zd_iconst E (pc := 1) (v := (nI 0)) d_M_states_1 (by decide) ?_
  refine zd_put E (pc := 2) d_M_states_2 kp_M_44 22 rfl (Nat.le_of_ble_eq_true rfl) (ws1 := wd k q (upd v 10 (nI 0)) r ex) rfl ?_
  refine zd_aload_n E (pc := 5) d_M_states_5 rfl ?_
  refine zd_callV E (pc := 6) d_M_states_6 kc_M_98 rfl ki_M_comeTo ke_M_comeTo 22 rfl rfl (c_M_comeTo l D (v := upd v 10 (nI 0)) t0 hs0 hs2) (by decide) rfl (Nat.le_of_ble_eq_true rfl) (fun v1 ws1 hv1 => ?_)
  obtain ⟨r2, C, hf, hr, hC, rfl, rfl⟩ := hv1
  have loop : ∀ (m s : Nat), s + m = 2 ^ nf → Z (wd k q (upd v 10 (nI 0)) r2 ex) [some (.ref (q 22)), some (.int (nI (lm_cnt C s))), some (.int (nI s))] 13 [] := by
    intro m
    induction m with
    | zero =>
      intro s hs
      have e : s = 2 ^ nf := by omega
      subst e
      refine zd_iload_n E (pc := 13) d_M_states_13 rfl ?_
      refine zd_iconst E (pc := 14) (v := (nI 1)) d_M_states_14 (by decide) ?_
      refine zd_aload_n E (pc := 15) d_M_states_15 rfl ?_
      refine zd_get E (pc := 16) d_M_states_16 kf_M_48 22 rfl rfl ?_
      show Z (wd k q (upd v 10 (nI 0)) r2 ex) _ 19 [.int (v 11), .int (nI 1), .int (nI (2 ^ nf))]
      rw [h11]
      refine zd_ishl E (pc := 19) d_M_states_19 ?_
      rw [bm_one (by omega)]
      refine zd_nc_ge E (pc := 20) 46 d_M_states_20 (by decide) ((by omega)) ((by omega)) (fun hq => ?_) (fun hq => ?_)
      · refine zd_iload_n E (pc := 46) d_M_states_46 rfl ?_
        exact zd_iret E (pc := 47) d_M_states_47 ⟨r2, C, hf, hC, rfl, rfl⟩
      · omega
    | succ m ih =>
      intro s hs
      have tail : ∀ x, x = lm_cnt C (s + 1) → Z (wd k q (upd v 10 (nI 0)) r2 ex) [some (.ref (q 22)), some (.int (nI (lm_cnt C s))), some (.int (nI s))] 39 [.int (nI x)] := by
        intro x hx
        subst hx
        refine zd_istore_n E (pc := 39) d_M_states_39 (by decide) ?_
        refine zd_iinc E (pc := 40) d_M_states_40 rfl (bm_inc s) (by decide) ?_
        refine zd_goto E (pc := 43) 13 d_M_states_43 (by decide) ?_
        exact ih (s + 1) (by omega)
      refine zd_iload_n E (pc := 13) d_M_states_13 rfl ?_
      refine zd_iconst E (pc := 14) (v := (nI 1)) d_M_states_14 (by decide) ?_
      refine zd_aload_n E (pc := 15) d_M_states_15 rfl ?_
      refine zd_get E (pc := 16) d_M_states_16 kf_M_48 22 rfl rfl ?_
      show Z (wd k q (upd v 10 (nI 0)) r2 ex) _ 19 [.int (v 11), .int (nI 1), .int (nI s)]
      rw [h11]
      refine zd_ishl E (pc := 19) d_M_states_19 ?_
      rw [bm_one (by omega)]
      refine zd_nc_ge E (pc := 20) 46 d_M_states_20 (by decide) ((by omega)) ((by omega)) (fun hq => ?_) (fun hq => ?_)
      · omega
      · refine zd_aload_n E (pc := 23) d_M_states_23 rfl ?_
        refine zd_get E (pc := 24) d_M_states_24 kf_M_31 22 rfl rfl ?_
        refine zd_iload_n E (pc := 27) d_M_states_27 rfl ?_
        refine zd_zald E (pc := 28) d_M_states_28 30 rfl (t0 := 1) rfl (s) (rfl) ((by omega)) (by decide) ?_
        rw [hr s (by omega)]
        refine zd_bf_eq E (pc := 29) 38 d_M_states_29 (by decide) (fun hb => ?_) (fun hb => ?_)
        · refine zd_iload_n E (pc := 38) d_M_states_38 rfl ?_
          exact tail _ (by rw [lm_cnt, if_neg hb, Nat.add_zero])
        · refine zd_iload_n E (pc := 32) d_M_states_32 rfl ?_
          refine zd_iconst E (pc := 33) (v := (nI 1)) d_M_states_33 (by decide) ?_
          refine zd_iadd E (pc := 34) d_M_states_34 ?_
          rw [nI_add]
          refine zd_goto E (pc := 35) 39 d_M_states_35 (by decide) ?_
          exact tail _ (by rw [lm_cnt, if_pos hb])
  refine zd_iconst E (pc := 9) (v := (nI 0)) d_M_states_9 (by decide) ?_
  refine zd_istore_n E (pc := 10) d_M_states_10 (by decide) ?_
  refine zd_iconst E (pc := 11) (v := (nI 0)) d_M_states_11 (by decide) ?_
  refine zd_istore_n E (pc := 12) d_M_states_12 (by decide) ?_
  exact loop (2 ^ nf) 0 (by omega)
set_option maxRecDepth 100000 in
set_option maxHeartbeats 4000000 in
theorem c_M_together1 (l : Launch) (D : va_G) (x y : Int32) (t : tk_M v r nf na fi go co ne ad dr) (hb : (x < 0 ∨ nI nf ≤ x) ∨ (y < 0 ∨ nI nf ≤ y)) : zd_Ct l D classes (wd_ty k) gd_T y_M_together b_M_together 5 (some .boolean) (zd_rm 2) [.ref (q 22), .int x, .int y] (wd k q v r ex) (zd_is (some (.int (nI 0))) (wd k q (upd v 10 (nI 1)) r ex)) := by
  refine zd_met gd_all (by decide) rfl (Nat.le_of_ble_eq_true rfl) (fun Z E => ?_)
  show Z (wd k q v r ex) [some (.ref (q 22)), some (.int x), some (.int y), none, none] 0 []
  have hnf := t.2.2.1.1
  have out : Z (wd k q v r ex) [some (.ref (q 22)), some (.int x), some (.int y), none, none] 17 [.ref (q 22)] := by
    refine zd_iconst E (pc := 17) (v := (nI 1)) d_M_together_17 (by decide) ?_
    refine zd_goto E (pc := 18) 22 d_M_together_18 (by decide) ?_
    refine zd_put E (pc := 22) d_M_together_22 kp_M_44 22 rfl (Nat.le_of_ble_eq_true rfl) (ws1 := wd k q (upd v 10 (nI 1)) r ex) rfl ?_
    refine zd_aload_n E (pc := 25) d_M_together_25 rfl ?_
    refine zd_get E (pc := 26) d_M_together_26 kf_M_44 22 rfl rfl ?_
    refine zd_if_le E (pc := 29) 34 d_M_together_29 (by decide) (fun hc => ?_) (fun hc => ?_)
    · exact absurd hc bm_1ne0
    · refine zd_iconst E (pc := 32) (v := (nI 0)) d_M_together_32 (by decide) ?_
      exact zd_zret E (pc := 33) d_M_together_33 (by decide) ⟨rfl, rfl⟩
  refine zd_aload_n E (pc := 0) d_M_together_0 rfl ?_
  refine zd_aload_n E (pc := 1) d_M_together_1 rfl ?_
  refine zd_iload_n E (pc := 2) d_M_together_2 rfl ?_
  refine zd_callV E (pc := 3) d_M_together_3 kc_M_73 rfl ki_M_noFact ke_M_noFact 22 rfl rfl (c_M_noFact l D x t.1.1 (by omega)) (by decide) rfl (Nat.le_of_ble_eq_true rfl) (fun v1 ws1 hv1 => ?_)
  obtain ⟨b, hc, rfl, rfl⟩ := hv1
  refine zd_bf_ne E (pc := 6) 17 d_M_together_6 (by decide) (fun h0 => ?_) (fun h0 => ?_)
  · exact out
  · refine zd_aload_n E (pc := 9) d_M_together_9 rfl ?_
    refine zd_iload_n E (pc := 10) d_M_together_10 rfl ?_
    refine zd_callV E (pc := 11) d_M_together_11 kc_M_73 rfl ki_M_noFact ke_M_noFact 22 rfl rfl (c_M_noFact l D y t.1.1 (by omega)) (by decide) rfl (Nat.le_of_ble_eq_true rfl) (fun v1 ws1 hv1 => ?_)
    obtain ⟨b2, hc2, rfl, rfl⟩ := hv1
    refine zd_bf_eq E (pc := 14) 21 d_M_together_14 (by decide) (fun h1 => ?_) (fun h1 => ?_)
    · exfalso
      rcases hc with ⟨-, j, hj, rfl⟩ | ⟨z, -⟩
      · rcases hc2 with ⟨-, j2, hj2, rfl⟩ | ⟨z, -⟩
        · rcases hb with z | z
          · exact bm_out z (by omega) hj rfl
          · exact bm_out z (by omega) hj2 rfl
        · exact h1 z
      · exact h0 z
    · exact out
set_option maxRecDepth 100000 in
set_option maxHeartbeats 4000000 in
theorem c_M_together (l : Launch) (D : va_G) {s0 f g : Nat} (t : tk_M v r nf na fi go co ne ad dr) (hs0 : v 15 = nI s0) (hs2 : s0 < 2 ^ nf) (hf : f < nf) (hg : g < nf) : zd_Ct l D classes (wd_ty k) gd_T y_M_together b_M_together 5 (some .boolean) (zd_rm 2) [.ref (q 22), .int (nI f), .int (nI g)] (wd k q v r ex)
    (fun v1 w1 => ∃ (r2 : Nat → Nat → Int32) (b : Bool), (∀ i, i ≠ 30 → r2 i = r i) ∧ (b = true ↔ ∃ s, s < 2 ^ nf ∧ (∃ c, gw_R na (tk_can ne) (tk_af ad dr) co s0 s c) ∧ s &&& (2 ^ f ||| 2 ^ g) = (2 ^ f ||| 2 ^ g)) ∧ v1 = some (.int (nI (bm_b b))) ∧ w1 = wd k q (upd v 10 (nI 0)) r2 ex) := by
  refine zd_met gd_all (by decide) rfl (Nat.le_of_ble_eq_true rfl) (fun Z E => ?_)
  show Z (wd k q v r ex) [some (.ref (q 22)), some (.int (nI f)), some (.int (nI g)), none, none] 0 []
  have hnf := t.2.2.1.1
  have hN := t.n31
  have h11 : v 11 = nI nf := t.1.1
  have hM : 2 ^ f ||| 2 ^ g < 2 ^ 10 := Nat.or_lt_two_pow (Nat.pow_lt_pow_right (by omega) (by omega)) (Nat.pow_lt_pow_right (by omega) (by omega))
  have t0 : tk_M (upd v 10 (nI 0)) r nf na fi go co ne ad dr := tk_mfr t rfl rfl rfl rfl rfl rfl rfl rfl
  refine zd_aload_n E (pc := 0) d_M_together_0 rfl ?_
  refine zd_aload_n E (pc := 1) d_M_together_1 rfl ?_
  refine zd_iload_n E (pc := 2) d_M_together_2 rfl ?_
  refine zd_callV E (pc := 3) d_M_together_3 kc_M_73 rfl ki_M_noFact ke_M_noFact 22 rfl rfl (c_M_noFact l D _ t.1.1 (by omega)) (by decide) rfl (Nat.le_of_ble_eq_true rfl) (fun v1 ws1 hv1 => ?_)
  obtain ⟨b, hc, rfl, rfl⟩ := hv1
  refine zd_bf_ne E (pc := 6) 17 d_M_together_6 (by decide) (fun h0 => ?_) (fun h0 => ?_)
  · rcases hc with ⟨z, -⟩ | ⟨-, z⟩
    · rw [z] at h0; cases h0
    · exact absurd rfl (bm_out z (by omega) hf)
  · refine zd_aload_n E (pc := 9) d_M_together_9 rfl ?_
    refine zd_iload_n E (pc := 10) d_M_together_10 rfl ?_
    refine zd_callV E (pc := 11) d_M_together_11 kc_M_73 rfl ki_M_noFact ke_M_noFact 22 rfl rfl (c_M_noFact l D _ t.1.1 (by omega)) (by decide) rfl (Nat.le_of_ble_eq_true rfl) (fun v1 ws1 hv1 => ?_)
    obtain ⟨b2, hc2, rfl, rfl⟩ := hv1
    refine zd_bf_eq E (pc := 14) 21 d_M_together_14 (by decide) (fun h1 => ?_) (fun h1 => ?_)
    · refine zd_iconst E (pc := 21) (v := (nI 0)) d_M_together_21 (by decide) ?_
      refine zd_put E (pc := 22) d_M_together_22 kp_M_44 22 rfl (Nat.le_of_ble_eq_true rfl) (ws1 := wd k q (upd v 10 (nI 0)) r ex) rfl ?_
      refine zd_aload_n E (pc := 25) d_M_together_25 rfl ?_
      refine zd_get E (pc := 26) d_M_together_26 kf_M_44 22 rfl rfl ?_
      refine zd_if_le E (pc := 29) 34 d_M_together_29 (by decide) (fun h3 => ?_) (fun h3 => ?_)
      · refine zd_aload_n E (pc := 34) d_M_together_34 rfl ?_
        refine zd_callV E (pc := 35) d_M_together_35 kc_M_98 rfl ki_M_comeTo ke_M_comeTo 22 rfl rfl (c_M_comeTo l D (v := upd v 10 (nI 0)) t0 hs0 hs2) (by decide) rfl (Nat.le_of_ble_eq_true rfl) (fun v1 ws1 hv1 => ?_)
        obtain ⟨r2, C, hfr, hr, hC, rfl, rfl⟩ := hv1
        have loop : ∀ (m s : Nat), s + m = 2 ^ nf → (∀ x, x < s → ¬ ((∃ c, gw_R na (tk_can ne) (tk_af ad dr) co s0 x c) ∧ x &&& (2 ^ f ||| 2 ^ g) = (2 ^ f ||| 2 ^ g))) → Z (wd k q (upd v 10 (nI 0)) r2 ex) [some (.ref (q 22)), some (.int (nI f)), some (.int (nI g)), some (.int (nI (2 ^ f ||| 2 ^ g))), some (.int (nI s))] 49 [] := by
          intro m
          induction m with
          | zero =>
            intro s hs hno
            have e : s = 2 ^ nf := by omega
            subst e
            refine zd_iload E (pc := 49) d_M_together_49 rfl ?_
            refine zd_iconst E (pc := 51) (v := (nI 1)) d_M_together_51 (by decide) ?_
            refine zd_aload_n E (pc := 52) d_M_together_52 rfl ?_
            refine zd_get E (pc := 53) d_M_together_53 kf_M_48 22 rfl rfl ?_
            show Z (wd k q (upd v 10 (nI 0)) r2 ex) _ 56 [.int (v 11), .int (nI 1), .int (nI (2 ^ nf))]
            rw [h11]
            refine zd_ishl E (pc := 56) d_M_together_56 ?_
            rw [bm_one (by omega)]
            refine zd_nc_ge E (pc := 57) 86 d_M_together_57 (by decide) ((by omega)) ((by omega)) (fun hq => ?_) (fun hq => ?_)
            · refine zd_iconst E (pc := 86) (v := (nI 0)) d_M_together_86 (by decide) ?_
              exact zd_zret E (pc := 87) d_M_together_87 (by decide) ⟨r2, false, hfr, ⟨(fun z => by cases z), fun ⟨x, h1, h2, h3⟩ => (hno x h1 ⟨h2, h3⟩).elim⟩, rfl, rfl⟩
            · omega
          | succ m ih =>
            intro s hs hno
            have tail : ¬ ((∃ c, gw_R na (tk_can ne) (tk_af ad dr) co s0 s c) ∧ s &&& (2 ^ f ||| 2 ^ g) = (2 ^ f ||| 2 ^ g)) → Z (wd k q (upd v 10 (nI 0)) r2 ex) [some (.ref (q 22)), some (.int (nI f)), some (.int (nI g)), some (.int (nI (2 ^ f ||| 2 ^ g))), some (.int (nI s))] 80 [] := by
              intro hz
              refine zd_iinc E (pc := 80) d_M_together_80 rfl (bm_inc s) (by decide) ?_
              refine zd_goto E (pc := 83) 49 d_M_together_83 (by decide) ?_
              refine ih (s + 1) (by omega) (fun x hx => ?_)
              by_cases e : x = s
              · subst e; exact hz
              · exact hno x (by omega)
            have hle : s &&& (2 ^ f ||| 2 ^ g) ≤ 2 ^ f ||| 2 ^ g := Nat.and_le_right
            refine zd_iload E (pc := 49) d_M_together_49 rfl ?_
            refine zd_iconst E (pc := 51) (v := (nI 1)) d_M_together_51 (by decide) ?_
            refine zd_aload_n E (pc := 52) d_M_together_52 rfl ?_
            refine zd_get E (pc := 53) d_M_together_53 kf_M_48 22 rfl rfl ?_
            show Z (wd k q (upd v 10 (nI 0)) r2 ex) _ 56 [.int (v 11), .int (nI 1), .int (nI s)]
            rw [h11]
            refine zd_ishl E (pc := 56) d_M_together_56 ?_
            rw [bm_one (by omega)]
            refine zd_nc_ge E (pc := 57) 86 d_M_together_57 (by decide) ((by omega)) ((by omega)) (fun hq => ?_) (fun hq => ?_)
            · omega
            · refine zd_aload_n E (pc := 60) d_M_together_60 rfl ?_
              refine zd_get E (pc := 61) d_M_together_61 kf_M_31 22 rfl rfl ?_
              refine zd_iload E (pc := 64) d_M_together_64 rfl ?_
              refine zd_zald E (pc := 66) d_M_together_66 30 rfl (t0 := 1) rfl (s) (rfl) ((by omega)) (by decide) ?_
              rw [hr s (by omega)]
              refine zd_bf_eq E (pc := 67) 80 d_M_together_67 (by decide) (fun hb => ?_) (fun hb => ?_)
              · exact tail (fun z => hb ((hC s (by omega)).mpr z.1))
              · refine zd_iload E (pc := 70) d_M_together_70 rfl ?_
                refine zd_iload_n E (pc := 72) d_M_together_72 rfl ?_
                refine zd_iand E (pc := 73) d_M_together_73 ?_
                rw [bm_and]
                refine zd_iload_n E (pc := 74) d_M_together_74 rfl ?_
                refine zd_nc_ne E (pc := 75) 80 d_M_together_75 (by decide) ((by omega)) ((by omega)) (fun he => ?_) (fun he => ?_)
                · exact tail (fun z => he z.2)
                · refine zd_iconst E (pc := 78) (v := (nI 1)) d_M_together_78 (by decide) ?_
                  exact zd_zret E (pc := 79) d_M_together_79 (by decide) ⟨r2, true, hfr, ⟨fun _ => ⟨s, by omega, (hC s (by omega)).mp hb, he⟩, fun _ => rfl⟩, rfl, rfl⟩
        refine zd_iconst E (pc := 38) (v := (nI 1)) d_M_together_38 (by decide) ?_
        refine zd_iload_n E (pc := 39) d_M_together_39 rfl ?_
        refine zd_ishl E (pc := 40) d_M_together_40 ?_
        rw [bm_one (by omega)]
        refine zd_iconst E (pc := 41) (v := (nI 1)) d_M_together_41 (by decide) ?_
        refine zd_iload_n E (pc := 42) d_M_together_42 rfl ?_
        refine zd_ishl E (pc := 43) d_M_together_43 ?_
        rw [bm_one (by omega)]
        refine zd_ior E (pc := 44) d_M_together_44 ?_
        rw [bm_or]
        refine zd_istore_n E (pc := 45) d_M_together_45 (by decide) ?_
        refine zd_iconst E (pc := 46) (v := (nI 0)) d_M_together_46 (by decide) ?_
        refine zd_istore E (pc := 47) d_M_together_47 (by decide) ?_
        exact loop (2 ^ nf) 0 (by omega) (fun x hx => by omega)
      · exact absurd (show nI 0 ≤ 0 by decide) h3
    · rcases hc2 with ⟨z, -⟩ | ⟨-, z⟩
      · rw [z] at h1; cases h1
      · exact absurd rfl (bm_out z (by omega) hg)
end M5
