/-! The reference: findCosts, bestAction, plan. -/
def md_I (N na : Nat) (can : Nat → Nat → Bool) (af : Nat → Nat → Nat) (co : Nat → Nat) (met : Nat → Bool) (E : Nat) (D : Nat → Nat) : Prop :=
  (∀ s, s < N → D s ≤ E) ∧ (∀ s, s < N → D s < E → ∃ t, met t = true ∧ gw_R na can af co s t (D s)) ∧ (∀ s, s < N → met s = true → D s = 0)
theorem md_I_up {N na : Nat} {can : Nat → Nat → Bool} {af : Nat → Nat → Nat} {co : Nat → Nat} {met : Nat → Bool} {E : Nat} {D : Nat → Nat} {s a : Nat} (h : md_I N na can af co met E D) (hN : af a s < N) (hs : s < N) (ha : a < na) (hc : can a s = true) (hl : co a + D (af a s) < D s) : md_I N na can af co met E (va_up D s (co a + D (af a s))) := by
  obtain ⟨h1, h2, h3⟩ := h
  have hE := h1 s hs
  refine ⟨fun x hx => ?_, fun x hx hd => ?_, fun x hx hm => ?_⟩
  · by_cases e : x = s
    · subst e; rw [va_up_self]; omega
    · rw [va_up_ne _ _ e]; exact h1 x hx
  · by_cases e : x = s
    · subst e
      rw [va_up_self] at hd ⊢
      obtain ⟨t, ht, hr⟩ := h2 (af a x) hN (by omega)
      exact ⟨t, ht, gw_R_l ha hc hr⟩
    · rw [va_up_ne _ _ e] at hd ⊢; exact h2 x hx hd
  · by_cases e : x = s
    · subst e
      have := h3 x hx hm
      omega
    · rw [va_up_ne _ _ e]; exact h3 x hx hm
theorem md_sum_up {N : Nat} {D : Nat → Nat} {s x : Nat} (hs : s < N) (hl : x < D s) : lm_sum (va_up D s x) N < lm_sum D N := lm_sum_lt (fun f _ => by
    by_cases e : f = s
    · subst e; rw [va_up_self]; omega
    · rw [va_up_ne _ _ e]; exact Nat.le_refl _) ⟨s, hs, by rw [va_up_self]; exact hl⟩
/-- off a state that isn't met yet, and has a way: the next action -/
theorem pl_next {N na : Nat} {can : Nat → Nat → Bool} {af : Nat → Nat → Nat} {co : Nat → Nat} {met : Nat → Bool} {E : Nat} {D : Nat → Nat} {s : Nat} (hN : ∀ s a, s < N → a < na → can a s = true → af a s < N) (h : gw_dear N na can af co met E D) (hs : s < N) (h0 : 0 < D s) (hE : D s < E) :
    pl_nx na can af co D s < na ∧ can (pl_nx na can af co D s) s = true ∧ co (pl_nx na can af co D s) + D (af (pl_nx na can af co D s) s) = D s := by
  obtain ⟨t, ht, k, hp⟩ := h.2.1 s hs hE
  cases k with
  | zero => obtain ⟨-, z⟩ := hp; omega
  | succ k =>
    obtain ⟨a, c', ha, hc, hp, he⟩ := hp
    have h1 := gw_dear_le hN h ht (hN s a hs ha hc) hp
    have h2 := h.2.2.2 s a hs ha hc
    have hP : (can a s && decide (co a + D (af a s) = D s)) = true := by
      rw [hc]
      simp only [Bool.true_and, decide_eq_true_eq]
      omega
    obtain ⟨s1, s2⟩ := gw_find_spec (fun b => can b s && decide (co b + D (af b s) = D s)) na
    have hlt : gw_find (fun b => can b s && decide (co b + D (af b s) = D s)) na < na := by
      by_cases z : gw_find (fun b => can b s && decide (co b + D (af b s) = D s)) na < na
      · exact z
      · have := s1 a (by omega)
        rw [hP] at this; cases this
    have := s2 hlt
    simp only [Bool.and_eq_true, decide_eq_true_eq] at this
    exact ⟨hlt, this.1, this.2⟩
section M4
variable {k : Nat → ClassId} {q : Nat → Nat} {v : Nat → Int32} {r : Nat → Nat → Int32} {ex : va_W} {nf na fi go : Nat} {co ne ad dr : Nat → Nat}
set_option maxRecDepth 100000 in
set_option maxHeartbeats 4000000 in
theorem c_M_findCosts (l : Launch) (D : va_G) (t : tk_M v r nf na fi go co ne ad dr) : zd_Ct l D classes (wd_ty k) gd_T y_M_findCosts b_M_findCosts 5 none (zd_rm 1) [.ref (q 22)] (wd k q v r ex)
    (fun v1 w1 => ∃ (r2 : Nat → Nat → Int32) (W : Nat → Nat), (∀ i, i ≠ 29 → r2 i = r i) ∧ (∀ s, s < 2 ^ nf → r2 29 s = nI (W s)) ∧ gw_dear (2 ^ nf) na (tk_can ne) (tk_af ad dr) co (tk_met go) 1048576 W ∧ v1 = none ∧ w1 = wd k q v r2 ex) := by
  refine zd_met gd_all (by decide) rfl (Nat.le_of_ble_eq_true rfl) (fun Z E => ?_)
  show Z (wd k q v r ex) [some (.ref (q 22)), none, none, none, none] 0 []
  have hnf := t.2.2.1.1
  have hna := t.hna.2
  have hN := t.n31
  have h11 : v 11 = nI nf := t.1.1
  have h14 : v 14 = nI na := t.hna.1
  have haf : ∀ s a, s < 2 ^ nf → a < 12 → tk_af ad dr a s < 2 ^ nf := fun s a hs ha => tk_af_lt hs (t.2.2.2.1 a ha).2.2.1
  have tr : ∀ r1 : Nat → Nat → Int32, (∀ i, i ≠ 29 → r1 i = r i) → tk_M v r1 nf na fi go co ne ad dr := fun r1 hf => tk_mfr t rfl rfl rfl rfl (hf 23 (by decide)) (hf 24 (by decide)) (hf 25 (by decide)) (hf 26 (by decide))
  -- one state, all actions
  have acts : ∀ (m a s : Nat) (D0 D1 : Nat → Nat) (b : Bool) (r1 : Nat → Nat → Int32), a + m = na → s < 2 ^ nf → (∀ i, i ≠ 29 → r1 i = r i) → (∀ x, x < 2 ^ nf → r1 29 x = nI (D1 x)) → md_I (2 ^ nf) na (tk_can ne) (tk_af ad dr) co (tk_met go) 1048576 D1 → (b = true → lm_sum D1 (2 ^ nf) < lm_sum D0 (2 ^ nf)) → (b = false → D1 = D0 ∧ ∀ x c, (x < s ∧ c < na ∨ x = s ∧ c < a) → tk_can ne c x = true → D0 x ≤ co c + D0 (tk_af ad dr c x)) →
      (∀ (D1 : Nat → Nat) (b : Bool) (r1 : Nat → Nat → Int32) (L4 : Option Value), (∀ i, i ≠ 29 → r1 i = r i) → (∀ x, x < 2 ^ nf → r1 29 x = nI (D1 x)) → md_I (2 ^ nf) na (tk_can ne) (tk_af ad dr) co (tk_met go) 1048576 D1 → (b = true → lm_sum D1 (2 ^ nf) < lm_sum D0 (2 ^ nf)) → (b = false → D1 = D0 ∧ ∀ x c, x < s + 1 ∧ c < na → tk_can ne c x = true → D0 x ≤ co c + D0 (tk_af ad dr c x)) → Z (wd k q v r1 ex) [some (.ref (q 22)), some (.int (nI (2 ^ nf))), some (.int (nI (bm_b b))), some (.int (nI s)), L4] 140 []) →
      Z (wd k q v r1 ex) [some (.ref (q 22)), some (.int (nI (2 ^ nf))), some (.int (nI (bm_b b))), some (.int (nI s)), some (.int (nI a))] 58 [] := by
    intro m
    induction m with
    | zero =>
      intro a s D0 D1 b r1 ha hs hf hr hI hb1 hb0 kk
      have e : a = na := by omega
      subst e
      refine zd_iload E (pc := 58) d_M_findCosts_58 rfl ?_
      refine zd_aload_n E (pc := 60) d_M_findCosts_60 rfl ?_
      refine zd_get E (pc := 61) d_M_findCosts_61 kf_M_51 22 rfl rfl ?_
      rw [h14]
      refine zd_nc_ge E (pc := 64) 140 d_M_findCosts_64 (by decide) ((by omega)) ((by omega)) (fun hq => ?_) (fun hq => ?_)
      · exact kk D1 b r1 _ hf hr hI hb1 (fun z => ⟨(hb0 z).1, fun x c hx hc => (hb0 z).2 x c (by omega) hc⟩)
      · omega
    | succ m ih =>
      intro a s D0 D1 b r1 ha hs hf hr hI hb1 hb0 kk
      have ha12 : a < 12 := by omega
      have t1 := tr r1 hf
      have c1 : r1 23 a = nI (co a) := (t1.hco a ha12).1
      have c9 := (t1.hco a ha12).2
      have hafs := haf s a hs ha12
      have dE := hI.1 (tk_af ad dr a s) hafs
      have dEs := hI.1 s hs
      have tail : ∀ (D1 : Nat → Nat) (b : Bool) (r1 : Nat → Nat → Int32), (∀ i, i ≠ 29 → r1 i = r i) → (∀ x, x < 2 ^ nf → r1 29 x = nI (D1 x)) → md_I (2 ^ nf) na (tk_can ne) (tk_af ad dr) co (tk_met go) 1048576 D1 → (b = true → lm_sum D1 (2 ^ nf) < lm_sum D0 (2 ^ nf)) → (b = false → D1 = D0 ∧ ∀ x c, (x < s ∧ c < na ∨ x = s ∧ c < a + 1) → tk_can ne c x = true → D0 x ≤ co c + D0 (tk_af ad dr c x)) → Z (wd k q v r1 ex) [some (.ref (q 22)), some (.int (nI (2 ^ nf))), some (.int (nI (bm_b b))), some (.int (nI s)), some (.int (nI a))] 134 [] := by
        intro D1 b r1 hf hr hI hb1 hb0
        refine zd_iinc E (pc := 134) d_M_findCosts_134 rfl (bm_inc a) (by decide) ?_
        refine zd_goto E (pc := 137) 58 d_M_findCosts_137 (by decide) ?_
        exact ih (a + 1) s D0 D1 b r1 (by omega) hs hf hr hI hb1 hb0 kk
      have more : (b = false → tk_can ne a s = true → D0 s ≤ co a + D0 (tk_af ad dr a s)) → Z (wd k q v r1 ex) [some (.ref (q 22)), some (.int (nI (2 ^ nf))), some (.int (nI (bm_b b))), some (.int (nI s)), some (.int (nI a))] 134 [] := fun hz =>
        tail D1 b r1 hf hr hI hb1 (fun z => ⟨(hb0 z).1, fun x c hx hc => by
          by_cases e : x = s ∧ c = a
          · obtain ⟨rfl, rfl⟩ := e; exact hz z hc
          · exact (hb0 z).2 x c (by omega) hc⟩)
      refine zd_iload E (pc := 58) d_M_findCosts_58 rfl ?_
      refine zd_aload_n E (pc := 60) d_M_findCosts_60 rfl ?_
      refine zd_get E (pc := 61) d_M_findCosts_61 kf_M_51 22 rfl rfl ?_
      rw [h14]
      refine zd_nc_ge E (pc := 64) 140 d_M_findCosts_64 (by decide) ((by omega)) ((by omega)) (fun hq => ?_) (fun hq => ?_)
      · omega
      · refine zd_aload_n E (pc := 67) d_M_findCosts_67 rfl ?_
        refine zd_iload E (pc := 68) d_M_findCosts_68 rfl ?_
        refine zd_iload_n E (pc := 70) d_M_findCosts_70 rfl ?_
        refine zd_callV E (pc := 71) d_M_findCosts_71 kc_M_76 rfl ki_M_can ke_M_can 22 rfl rfl (c_M_can l D t1 ha12) (by decide) rfl (Nat.le_of_ble_eq_true rfl) (fun v1 ws1 hv1 => ?_)
        obtain ⟨rfl, rfl⟩ := hv1
        refine zd_bf_eq E (pc := 74) 134 d_M_findCosts_74 (by decide) (fun hcan => ?_) (fun hcan => ?_)
        · exact more (fun _ z => absurd z hcan)
        · refine zd_aload_n E (pc := 77) d_M_findCosts_77 rfl ?_
          refine zd_get E (pc := 78) d_M_findCosts_78 kf_M_7 22 rfl rfl ?_
          refine zd_iload E (pc := 81) d_M_findCosts_81 rfl ?_
          refine zd_iald E (pc := 83) d_M_findCosts_83 23 rfl (t0 := 0) rfl (a) (rfl) (ha12) (by decide) ?_
          rw [c1]
          refine zd_aload_n E (pc := 84) d_M_findCosts_84 rfl ?_
          refine zd_get E (pc := 85) d_M_findCosts_85 kf_M_28 22 rfl rfl ?_
          refine zd_aload_n E (pc := 88) d_M_findCosts_88 rfl ?_
          refine zd_iload E (pc := 89) d_M_findCosts_89 rfl ?_
          refine zd_iload_n E (pc := 91) d_M_findCosts_91 rfl ?_
          refine zd_callV E (pc := 92) d_M_findCosts_92 kc_M_80 rfl ki_M_after ke_M_after 22 rfl rfl (c_M_after l D t1 ha12) (by decide) rfl (Nat.le_of_ble_eq_true rfl) (fun v1 ws1 hv1 => ?_)
          obtain ⟨rfl, rfl⟩ := hv1
          refine zd_iald E (pc := 95) d_M_findCosts_95 29 rfl (t0 := 0) rfl (tk_af ad dr a s) (rfl) ((by omega)) (by decide) ?_
          rw [hr _ hafs]
          refine zd_iadd E (pc := 96) d_M_findCosts_96 ?_
          rw [nI_add]
          refine zd_aload_n E (pc := 97) d_M_findCosts_97 rfl ?_
          refine zd_get E (pc := 98) d_M_findCosts_98 kf_M_28 22 rfl rfl ?_
          refine zd_iload_n E (pc := 101) d_M_findCosts_101 rfl ?_
          refine zd_iald E (pc := 102) d_M_findCosts_102 29 rfl (t0 := 0) rfl (s) (rfl) ((by omega)) (by decide) ?_
          rw [hr s hs]
          refine zd_nc_ge E (pc := 103) 134 d_M_findCosts_103 (by decide) ((by omega)) ((by omega)) (fun hlt => ?_) (fun hlt => ?_)
          · exact more (fun z _ => by rw [← (hb0 z).1]; exact hlt)
          · refine zd_aload_n E (pc := 106) d_M_findCosts_106 rfl ?_
            refine zd_get E (pc := 107) d_M_findCosts_107 kf_M_28 22 rfl rfl ?_
            refine zd_iload_n E (pc := 110) d_M_findCosts_110 rfl ?_
            refine zd_aload_n E (pc := 111) d_M_findCosts_111 rfl ?_
            refine zd_get E (pc := 112) d_M_findCosts_112 kf_M_7 22 rfl rfl ?_
            refine zd_iload E (pc := 115) d_M_findCosts_115 rfl ?_
            refine zd_iald E (pc := 117) d_M_findCosts_117 23 rfl (t0 := 0) rfl (a) (rfl) (ha12) (by decide) ?_
            rw [c1]
            refine zd_aload_n E (pc := 118) d_M_findCosts_118 rfl ?_
            refine zd_get E (pc := 119) d_M_findCosts_119 kf_M_28 22 rfl rfl ?_
            refine zd_aload_n E (pc := 122) d_M_findCosts_122 rfl ?_
            refine zd_iload E (pc := 123) d_M_findCosts_123 rfl ?_
            refine zd_iload_n E (pc := 125) d_M_findCosts_125 rfl ?_
            refine zd_callV E (pc := 126) d_M_findCosts_126 kc_M_80 rfl ki_M_after ke_M_after 22 rfl rfl (c_M_after l D t1 ha12) (by decide) rfl (Nat.le_of_ble_eq_true rfl) (fun v1 ws1 hv1 => ?_)
            obtain ⟨rfl, rfl⟩ := hv1
            refine zd_iald E (pc := 129) d_M_findCosts_129 29 rfl (t0 := 0) rfl (tk_af ad dr a s) (rfl) ((by omega)) (by decide) ?_
            rw [hr _ hafs]
            refine zd_iadd E (pc := 130) d_M_findCosts_130 ?_
            rw [nI_add]
            refine zd_iast E (pc := 131) d_M_findCosts_131 29 rfl (t0 := 0) rfl (s) (rfl) ((by omega)) (by decide) (ws1 := wd k q v (va_up r1 29 (upd (r1 29) s (nI (co a + D1 (tk_af ad dr a s))))) ex) rfl ?_
            refine zd_iconst E (pc := 132) (v := (nI 1)) d_M_findCosts_132 (by decide) ?_
            refine zd_istore_n E (pc := 133) d_M_findCosts_133 (by decide) ?_
            refine tail (va_up D1 s (co a + D1 (tk_af ad dr a s))) true _ (fun i hi => by rw [va_up_ne _ _ hi]; exact hf i hi) (fun x hx => ?_) (md_I_up hI hafs hs (by omega) hcan hlt) (fun _ => ?_) (fun z => by cases z)
            · rw [va_up_self]
              by_cases e : x = s
              · subst e; rw [pk_us, va_up_self]
              · rw [pk_un e, va_up_ne _ _ e]; exact hr x hx
            · have h1 := md_sum_up hs hlt
              cases b with
              | true => have := hb1 rfl; omega
              | false => rw [(hb0 rfl).1] at h1 ⊢; exact h1
  have pass : ∀ (m s : Nat) (D0 D1 : Nat → Nat) (b : Bool) (r1 : Nat → Nat → Int32) (L4 : Option Value), s + m = 2 ^ nf → (∀ i, i ≠ 29 → r1 i = r i) → (∀ x, x < 2 ^ nf → r1 29 x = nI (D1 x)) → md_I (2 ^ nf) na (tk_can ne) (tk_af ad dr) co (tk_met go) 1048576 D1 → (b = true → lm_sum D1 (2 ^ nf) < lm_sum D0 (2 ^ nf)) → (b = false → D1 = D0 ∧ ∀ x c, x < s ∧ c < na → tk_can ne c x = true → D0 x ≤ co c + D0 (tk_af ad dr c x)) →
      (∀ (D1 : Nat → Nat) (b : Bool) (r1 : Nat → Nat → Int32) (L3 L4 : Option Value), (∀ i, i ≠ 29 → r1 i = r i) → (∀ x, x < 2 ^ nf → r1 29 x = nI (D1 x)) → md_I (2 ^ nf) na (tk_can ne) (tk_af ad dr) co (tk_met go) 1048576 D1 → (b = true → lm_sum D1 (2 ^ nf) < lm_sum D0 (2 ^ nf)) → (b = false → D1 = D0 ∧ ∀ x c, x < 2 ^ nf → c < na → tk_can ne c x = true → D0 x ≤ co c + D0 (tk_af ad dr c x)) → Z (wd k q v r1 ex) [some (.ref (q 22)), some (.int (nI (2 ^ nf))), some (.int (nI (bm_b b))), L3, L4] 146 []) →
      Z (wd k q v r1 ex) [some (.ref (q 22)), some (.int (nI (2 ^ nf))), some (.int (nI (bm_b b))), some (.int (nI s)), L4] 50 [] := by
    intro m
    induction m with
    | zero =>
      intro s D0 D1 b r1 L4 hs hf hr hI hb1 hb0 kk
      have e : s = 2 ^ nf := by omega
      subst e
      refine zd_iload_n E (pc := 50) d_M_findCosts_50 rfl ?_
      refine zd_iload_n E (pc := 51) d_M_findCosts_51 rfl ?_
      refine zd_nc_ge E (pc := 52) 146 d_M_findCosts_52 (by decide) ((by omega)) ((by omega)) (fun hq => ?_) (fun hq => ?_)
      · exact kk D1 b r1 _ _ hf hr hI hb1 (fun z => ⟨(hb0 z).1, fun x c hx hc hcan => (hb0 z).2 x c ⟨hx, hc⟩ hcan⟩)
      · omega
    | succ m ih =>
      intro s D0 D1 b r1 L4 hs hf hr hI hb1 hb0 kk
      refine zd_iload_n E (pc := 50) d_M_findCosts_50 rfl ?_
      refine zd_iload_n E (pc := 51) d_M_findCosts_51 rfl ?_
      refine zd_nc_ge E (pc := 52) 146 d_M_findCosts_52 (by decide) ((by omega)) ((by omega)) (fun hq => ?_) (fun hq => ?_)
      · omega
      · refine zd_iconst E (pc := 55) (v := (nI 0)) d_M_findCosts_55 (by decide) ?_
        refine zd_istore E (pc := 56) d_M_findCosts_56 (by decide) ?_
        refine acts na 0 s D0 D1 b r1 (by omega) (by omega) hf hr hI hb1 (fun z => ⟨(hb0 z).1, fun x c hx hc => (hb0 z).2 x c (by omega) hc⟩) (fun D2 b2 r2 L4 hf2 hr2 hI2 hb12 hb02 => ?_)
        refine zd_iinc E (pc := 140) d_M_findCosts_140 rfl (bm_inc s) (by decide) ?_
        refine zd_goto E (pc := 143) 50 d_M_findCosts_143 (by decide) ?_
        exact ih (s + 1) D0 D2 b2 r2 L4 (by omega) hf2 hr2 hI2 hb12 hb02 kk
  have whole : ∀ (B : Nat) (D0 : Nat → Nat) (r1 : Nat → Nat → Int32) (L3 L4 : Option Value), lm_sum D0 (2 ^ nf) ≤ B → (∀ i, i ≠ 29 → r1 i = r i) → (∀ x, x < 2 ^ nf → r1 29 x = nI (D0 x)) → md_I (2 ^ nf) na (tk_can ne) (tk_af ad dr) co (tk_met go) 1048576 D0 → Z (wd k q v r1 ex) [some (.ref (q 22)), some (.int (nI (2 ^ nf))), some (.int (nI (bm_b true))), L3, L4] 42 [] := by
    intro B
    induction B with
    | zero =>
      intro D0 r1 L3 L4 hB hf hr hI
      refine zd_iload_n E (pc := 42) d_M_findCosts_42 rfl ?_
      refine zd_bf_eq E (pc := 43) 149 d_M_findCosts_43 (by decide) (fun hb => ?_) (fun hb => ?_)
      · exact absurd rfl hb
      · refine zd_iconst E (pc := 46) (v := (nI 0)) d_M_findCosts_46 (by decide) ?_
        refine zd_istore_n E (pc := 47) d_M_findCosts_47 (by decide) ?_
        refine zd_iconst E (pc := 48) (v := (nI 0)) d_M_findCosts_48 (by decide) ?_
        refine zd_istore_n E (pc := 49) d_M_findCosts_49 (by decide) ?_
        refine pass (2 ^ nf) 0 D0 D0 false r1 L4 (by omega) hf hr hI (fun z => by cases z) (fun _ => ⟨rfl, fun x c hx => by omega⟩) (fun D2 b2 r2 L3 L4 hf2 hr2 hI2 hb12 hb02 => ?_)
        refine zd_goto E (pc := 146) 42 d_M_findCosts_146 (by decide) ?_
        cases b2 with
        | true => have := hb12 rfl; omega
        | false =>
          obtain ⟨rfl, hfix⟩ := hb02 rfl
          refine zd_iload_n E (pc := 42) d_M_findCosts_42 rfl ?_
          refine zd_bf_eq E (pc := 43) 149 d_M_findCosts_43 (by decide) (fun hb2 => ?_) (fun hb2 => ?_)
          · exact zd_vret E (pc := 149) d_M_findCosts_149 ⟨r2, D2, hf2, hr2, ⟨hI2.1, hI2.2.1, hI2.2.2, fun s a hs ha hc => hfix s a hs ha hc⟩, rfl, rfl⟩
          · cases hb2
    | succ B ih =>
      intro D0 r1 L3 L4 hB hf hr hI
      refine zd_iload_n E (pc := 42) d_M_findCosts_42 rfl ?_
      refine zd_bf_eq E (pc := 43) 149 d_M_findCosts_43 (by decide) (fun hb => ?_) (fun hb => ?_)
      · exact absurd rfl hb
      · refine zd_iconst E (pc := 46) (v := (nI 0)) d_M_findCosts_46 (by decide) ?_
        refine zd_istore_n E (pc := 47) d_M_findCosts_47 (by decide) ?_
        refine zd_iconst E (pc := 48) (v := (nI 0)) d_M_findCosts_48 (by decide) ?_
        refine zd_istore_n E (pc := 49) d_M_findCosts_49 (by decide) ?_
        refine pass (2 ^ nf) 0 D0 D0 false r1 L4 (by omega) hf hr hI (fun z => by cases z) (fun _ => ⟨rfl, fun x c hx => by omega⟩) (fun D2 b2 r2 L3 L4 hf2 hr2 hI2 hb12 hb02 => ?_)
        refine zd_goto E (pc := 146) 42 d_M_findCosts_146 (by decide) ?_
        cases b2 with
        | true =>
          have := hb12 rfl
          exact ih D2 r2 L3 L4 (by omega) hf2 hr2 hI2
        | false =>
          obtain ⟨rfl, hfix⟩ := hb02 rfl
          refine zd_iload_n E (pc := 42) d_M_findCosts_42 rfl ?_
          refine zd_bf_eq E (pc := 43) 149 d_M_findCosts_43 (by decide) (fun hb2 => ?_) (fun hb2 => ?_)
          · exact zd_vret E (pc := 149) d_M_findCosts_149 ⟨r2, D2, hf2, hr2, ⟨hI2.1, hI2.2.1, hI2.2.2, fun s a hs ha hc => hfix s a hs ha hc⟩, rfl, rfl⟩
          · cases hb2
  have inits : ∀ (m s : Nat) (r1 : Nat → Nat → Int32), s + m = 2 ^ nf → (∀ i, i ≠ 29 → r1 i = r i) → (∀ x, x < s → r1 29 x = nI (if tk_met go x = true then 0 else 1048576)) → Z (wd k q v r1 ex) [some (.ref (q 22)), some (.int (nI (2 ^ nf))), some (.int (nI s)), none, none] 9 [] := by
    intro m
    induction m with
    | zero =>
      intro s r1 hs hf hr
      have e : s = 2 ^ nf := by omega
      subst e
      refine zd_iload_n E (pc := 9) d_M_findCosts_9 rfl ?_
      refine zd_iload_n E (pc := 10) d_M_findCosts_10 rfl ?_
      refine zd_nc_ge E (pc := 11) 40 d_M_findCosts_11 (by decide) ((by omega)) ((by omega)) (fun hq => ?_) (fun hq => ?_)
      · refine zd_iconst E (pc := 40) (v := (nI 1)) d_M_findCosts_40 (by decide) ?_
        refine zd_istore_n E (pc := 41) d_M_findCosts_41 (by decide) ?_
        refine whole _ (fun x => if tk_met go x = true then 0 else 1048576) r1 none none (Nat.le_refl _) hf hr ⟨fun x hx => ?_, fun x hx hd => ?_, fun x hx hm => ?_⟩
        · show (if tk_met go x = true then 0 else 1048576) ≤ 1048576
          split <;> omega
        · have hd : (if tk_met go x = true then 0 else 1048576) < 1048576 := hd
          by_cases hm : tk_met go x = true
          · refine ⟨x, hm, ?_⟩
            show gw_R na (tk_can ne) (tk_af ad dr) co x x (if tk_met go x = true then 0 else 1048576)
            rw [if_pos hm]
            exact gw_R_0 x
          · rw [if_neg hm] at hd; omega
        · show (if tk_met go x = true then 0 else 1048576) = 0
          rw [if_pos hm]
      · omega
    | succ m ih =>
      intro s r1 hs hf hr
      have t1 := tr r1 hf
      have fin : ∀ x, x = (if tk_met go s = true then 0 else 1048576) → Z (wd k q v r1 ex) [some (.ref (q 22)), some (.int (nI (2 ^ nf))), some (.int (nI s)), none, none] 33 [.int (nI x), .int (nI s), .ref (q 29)] := by
        intro x hx
        refine zd_iast E (pc := 33) d_M_findCosts_33 29 rfl (t0 := 0) rfl (s) (rfl) ((by omega)) (by decide) (ws1 := wd k q v (va_up r1 29 (upd (r1 29) s (nI x))) ex) rfl ?_
        refine zd_iinc E (pc := 34) d_M_findCosts_34 rfl (bm_inc s) (by decide) ?_
        refine zd_goto E (pc := 37) 9 d_M_findCosts_37 (by decide) ?_
        refine ih (s + 1) _ (by omega) (fun i hi => by rw [va_up_ne _ _ hi]; exact hf i hi) (fun y hy => ?_)
        rw [va_up_self]
        by_cases e : y = s
        · subst e; rw [pk_us, hx]
        · rw [pk_un e]; exact hr y (by omega)
      refine zd_iload_n E (pc := 9) d_M_findCosts_9 rfl ?_
      refine zd_iload_n E (pc := 10) d_M_findCosts_10 rfl ?_
      refine zd_nc_ge E (pc := 11) 40 d_M_findCosts_11 (by decide) ((by omega)) ((by omega)) (fun hq => ?_) (fun hq => ?_)
      · omega
      · refine zd_aload_n E (pc := 14) d_M_findCosts_14 rfl ?_
        refine zd_get E (pc := 15) d_M_findCosts_15 kf_M_28 22 rfl rfl ?_
        refine zd_iload_n E (pc := 18) d_M_findCosts_18 rfl ?_
        refine zd_aload_n E (pc := 19) d_M_findCosts_19 rfl ?_
        refine zd_iload_n E (pc := 20) d_M_findCosts_20 rfl ?_
        refine zd_callV E (pc := 21) d_M_findCosts_21 kc_M_84 rfl ki_M_isMet ke_M_isMet 22 rfl rfl (c_M_isMet l D t1) (by decide) rfl (Nat.le_of_ble_eq_true rfl) (fun v1 ws1 hv1 => ?_)
        obtain ⟨rfl, rfl⟩ := hv1
        refine zd_bf_eq E (pc := 24) 31 d_M_findCosts_24 (by decide) (fun hm => ?_) (fun hm => ?_)
        · refine zd_ldc E (pc := 31) (v := (nI 1048576)) d_M_findCosts_31 kk_M_87 ?_
          exact fin 1048576 (by rw [if_neg hm])
        · refine zd_iconst E (pc := 27) (v := (nI 0)) d_M_findCosts_27 (by decide) ?_
          refine zd_goto E (pc := 28) 33 d_M_findCosts_28 (by decide) ?_
          exact fin 0 (by rw [if_pos hm])
  refine zd_iconst E (pc := 0) (v := (nI 1)) d_M_findCosts_0 (by decide) ?_
  refine zd_aload_n E (pc := 1) d_M_findCosts_1 rfl ?_
  refine zd_get E (pc := 2) d_M_findCosts_2 kf_M_48 22 rfl rfl ?_
  rw [h11]
  refine zd_ishl E (pc := 5) d_M_findCosts_5 ?_
  rw [bm_one (by omega)]
  refine zd_istore_n E (pc := 6) d_M_findCosts_6 (by decide) ?_
  refine zd_iconst E (pc := 7) (v := (nI 0)) d_M_findCosts_7 (by decide) ?_
  refine zd_istore_n E (pc := 8) d_M_findCosts_8 (by decide) ?_
  exact inits (2 ^ nf) 0 r (by omega) (fun _ _ => rfl) (fun x hx => by omega)
set_option maxRecDepth 100000 in
set_option maxHeartbeats 4000000 in
theorem c_M_bestAction (l : Launch) (D : va_G) {s : Nat} {W : Nat → Nat} (t : tk_M v r nf na fi go co ne ad dr) (hs : s < 2 ^ nf) (hr : ∀ s, s < 2 ^ nf → r 29 s = nI (W s)) (hW : ∀ s, s < 2 ^ nf → W s ≤ 1048576) (hlt : pl_nx na (tk_can ne) (tk_af ad dr) co W s < na) : zd_Ct l D classes (wd_ty k) gd_T y_M_bestAction b_M_bestAction 3 (some .int) (zd_rm 1) [.ref (q 22), .int (nI s)] (wd k q v r ex) (zd_is (some (.int (nI (pl_nx na (tk_can ne) (tk_af ad dr) co W s)))) (wd k q v r ex)) := by
  refine zd_met gd_all (by decide) rfl (Nat.le_of_ble_eq_true rfl) (fun Z E => ?_)
  show Z (wd k q v r ex) [some (.ref (q 22)), some (.int (nI s)), none] 0 []
  have hna := t.hna.2
  have hN := t.n31
  have h14 : v 14 = nI na := t.hna.1
  have haf : ∀ a, a < 12 → tk_af ad dr a s < 2 ^ nf := fun a ha => tk_af_lt hs (t.2.2.2.1 a ha).2.2.1
  have loop : ∀ (m a : Nat), a + m = na → (∀ b, b < a → (tk_can ne b s && decide (co b + W (tk_af ad dr b s) = W s)) = false) → Z (wd k q v r ex) [some (.ref (q 22)), some (.int (nI s)), some (.int (nI a))] 2 [] := by
    intro m
    induction m with
    | zero =>
      intro a ha hno
      exfalso
      have h2 := (gw_find_spec (fun b => tk_can ne b s && decide (co b + W (tk_af ad dr b s) = W s)) na).2 hlt
      have h3 := hno (pl_nx na (tk_can ne) (tk_af ad dr) co W s) (by omega)
      have h2 : (tk_can ne (pl_nx na (tk_can ne) (tk_af ad dr) co W s) s && decide (co (pl_nx na (tk_can ne) (tk_af ad dr) co W s) + W (tk_af ad dr (pl_nx na (tk_can ne) (tk_af ad dr) co W s) s) = W s)) = true := h2
      rw [h3] at h2; cases h2
    | succ m ih =>
      intro a ha hno
      have ha12 : a < 12 := by omega
      have c1 : r 23 a = nI (co a) := (t.hco a ha12).1
      have c9 := (t.hco a ha12).2
      have hafs := haf a ha12
      have w1 := hW _ hafs
      have w2 := hW _ hs
      have tail : (tk_can ne a s && decide (co a + W (tk_af ad dr a s) = W s)) = false → Z (wd k q v r ex) [some (.ref (q 22)), some (.int (nI s)), some (.int (nI a))] 48 [] := by
        intro hz
        refine zd_iinc E (pc := 48) d_M_bestAction_48 rfl (bm_inc a) (by decide) ?_
        refine zd_goto E (pc := 51) 2 d_M_bestAction_51 (by decide) ?_
        refine ih (a + 1) (by omega) (fun b hb => ?_)
        by_cases e : b = a
        · subst e; exact hz
        · exact hno b (by omega)
      refine zd_iload_n E (pc := 2) d_M_bestAction_2 rfl ?_
      refine zd_aload_n E (pc := 3) d_M_bestAction_3 rfl ?_
      refine zd_get E (pc := 4) d_M_bestAction_4 kf_M_51 22 rfl rfl ?_
      rw [h14]
      refine zd_nc_ge E (pc := 7) 54 d_M_bestAction_7 (by decide) ((by omega)) ((by omega)) (fun hq => ?_) (fun hq => ?_)
      · omega
      · refine zd_aload_n E (pc := 10) d_M_bestAction_10 rfl ?_
        refine zd_iload_n E (pc := 11) d_M_bestAction_11 rfl ?_
        refine zd_iload_n E (pc := 12) d_M_bestAction_12 rfl ?_
        refine zd_callV E (pc := 13) d_M_bestAction_13 kc_M_76 rfl ki_M_can ke_M_can 22 rfl rfl (c_M_can l D t ha12) (by decide) rfl (Nat.le_of_ble_eq_true rfl) (fun v1 ws1 hv1 => ?_)
        obtain ⟨rfl, rfl⟩ := hv1
        refine zd_bf_eq E (pc := 16) 48 d_M_bestAction_16 (by decide) (fun hcan => ?_) (fun hcan => ?_)
        · exact tail (by rw [ts_f hcan, Bool.false_and])
        · refine zd_aload_n E (pc := 19) d_M_bestAction_19 rfl ?_
          refine zd_get E (pc := 20) d_M_bestAction_20 kf_M_7 22 rfl rfl ?_
          refine zd_iload_n E (pc := 23) d_M_bestAction_23 rfl ?_
          refine zd_iald E (pc := 24) d_M_bestAction_24 23 rfl (t0 := 0) rfl (a) (rfl) (ha12) (by decide) ?_
          rw [c1]
          refine zd_aload_n E (pc := 25) d_M_bestAction_25 rfl ?_
          refine zd_get E (pc := 26) d_M_bestAction_26 kf_M_28 22 rfl rfl ?_
          refine zd_aload_n E (pc := 29) d_M_bestAction_29 rfl ?_
          refine zd_iload_n E (pc := 30) d_M_bestAction_30 rfl ?_
          refine zd_iload_n E (pc := 31) d_M_bestAction_31 rfl ?_
          refine zd_callV E (pc := 32) d_M_bestAction_32 kc_M_80 rfl ki_M_after ke_M_after 22 rfl rfl (c_M_after l D t ha12) (by decide) rfl (Nat.le_of_ble_eq_true rfl) (fun v1 ws1 hv1 => ?_)
          obtain ⟨rfl, rfl⟩ := hv1
          refine zd_iald E (pc := 35) d_M_bestAction_35 29 rfl (t0 := 0) rfl (tk_af ad dr a s) (rfl) ((by omega)) (by decide) ?_
          rw [hr _ hafs]
          refine zd_iadd E (pc := 36) d_M_bestAction_36 ?_
          rw [nI_add]
          refine zd_aload_n E (pc := 37) d_M_bestAction_37 rfl ?_
          refine zd_get E (pc := 38) d_M_bestAction_38 kf_M_28 22 rfl rfl ?_
          refine zd_iload_n E (pc := 41) d_M_bestAction_41 rfl ?_
          refine zd_iald E (pc := 42) d_M_bestAction_42 29 rfl (t0 := 0) rfl (s) (rfl) ((by omega)) (by decide) ?_
          rw [hr s hs]
          refine zd_nc_ne E (pc := 43) 48 d_M_bestAction_43 (by decide) ((by omega)) ((by omega)) (fun hne => ?_) (fun hne => ?_)
          · exact tail (by rw [decide_eq_false hne, Bool.and_false])
          · refine zd_iload_n E (pc := 46) d_M_bestAction_46 rfl ?_
            exact zd_iret E (pc := 47) d_M_bestAction_47 ⟨by
              have e : pl_nx na (tk_can ne) (tk_af ad dr) co W s = a := gw_find_eq (show a < na by omega) (by rw [hcan, decide_eq_true hne]; rfl) hno
              rw [e], rfl⟩
  refine zd_iconst E (pc := 0) (v := (nI 0)) d_M_bestAction_0 (by decide) ?_
  refine zd_istore_n E (pc := 1) d_M_bestAction_1 (by decide) ?_
  exact loop na 0 (by omega) (fun b hb => by omega)
/-- the reference's plan, as its cells hold it -/
def md_pl (v : Nat → Int32) (r : Nat → Nat → Int32) (nf na go : Nat) (co ne ad dr : Nat → Nat) (s : Nat) (ans : Int32) : Prop :=
  ∃ W : Nat → Nat, gw_dear (2 ^ nf) na (tk_can ne) (tk_af ad dr) co (tk_met go) 1048576 W ∧ ((1048576 ≤ W s ∧ ans = -1 ∧ v 16 = nI 0) ∨ (W s < 1048576 ∧ ans = nI (W s) ∧ ∃ m, m ≤ 1023 ∧ W (pl_s na (tk_can ne) (tk_af ad dr) co W s m) = 0 ∧ (∀ j, j < m → 0 < W (pl_s na (tk_can ne) (tk_af ad dr) co W s j)) ∧ v 16 = nI m ∧ ∀ j, j < m → r 27 j = nI (pl_nx na (tk_can ne) (tk_af ad dr) co W (pl_s na (tk_can ne) (tk_af ad dr) co W s j))))
set_option maxRecDepth 100000 in
set_option maxHeartbeats 4000000 in
theorem c_M_plan (l : Launch) (D : va_G) {s : Nat} (t : tk_M v r nf na fi go co ne ad dr) (hs : v 15 = nI s) (hs2 : s < 2 ^ nf) : zd_Ct l D classes (wd_ty k) gd_T y_M_plan b_M_plan 3 (some .int) (zd_rm 2) [.ref (q 22)] (wd k q v r ex)
    (fun v1 w1 => ∃ (v2 : Nat → Int32) (r2 : Nat → Nat → Int32) (ans : Int32), (∀ i, i ≠ 10 → i ≠ 16 → v2 i = v i) ∧ v2 10 = nI 0 ∧ (∀ i, i ≠ 27 → i ≠ 29 → r2 i = r i) ∧ md_pl v2 r2 nf na go co ne ad dr s ans ∧ v1 = some (.int ans) ∧ w1 = wd k q v2 r2 ex) := by
  refine zd_met gd_all (by decide) rfl (Nat.le_of_ble_eq_true rfl) (fun Z E => ?_)
  show Z (wd k q v r ex) [some (.ref (q 22)), none, none] 0 []
  have hna := t.hna.2
  have hN := t.n31
  have haf : ∀ s a, s < 2 ^ nf → a < na → tk_can ne a s = true → tk_af ad dr a s < 2 ^ nf := fun s a hs ha _ => tk_af_lt hs (t.2.2.2.1 a (by omega)).2.2.1
  have hco1 := t.2.2.2.2
  have t0 : tk_M (upd v 10 (nI 0)) r nf na fi go co ne ad dr := tk_mfr t rfl rfl rfl rfl rfl rfl rfl rfl
  refine zd_aload_n E (pc := 0) d_M_plan_0 rfl ?_
  refine zd_iconst E (pc := 1) (v := (nI 0)) d_M_plan_1 (by decide) ?_
  refine zd_put E (pc := 2) d_M_plan_2 kp_M_44 22 rfl (Nat.le_of_ble_eq_true rfl) (ws1 := wd k q (upd v 10 (nI 0)) r ex) rfl ?_
  refine zd_aload_n E (pc := 5) d_M_plan_5 rfl ?_
  refine zd_callV E (pc := 6) d_M_plan_6 kc_M_88 rfl ki_M_findCosts ke_M_findCosts 22 rfl rfl (c_M_findCosts l D (v := upd v 10 (nI 0)) t0) (by decide) rfl (Nat.le_of_ble_eq_true rfl) (fun v1 ws1 hv1 => ?_)
  obtain ⟨r1, W, hf, hr, hW, rfl, rfl⟩ := hv1
  refine zd_aload_n E (pc := 9) d_M_plan_9 rfl ?_
  refine zd_iconst E (pc := 10) (v := (nI 0)) d_M_plan_10 (by decide) ?_
  refine zd_put E (pc := 11) d_M_plan_11 kp_M_91 22 rfl (Nat.le_of_ble_eq_true rfl) (ws1 := wd k q (upd (upd v 10 (nI 0)) 16 (nI 0)) r1 ex) rfl ?_
  refine zd_aload_n E (pc := 14) d_M_plan_14 rfl ?_
  refine zd_get E (pc := 15) d_M_plan_15 kf_M_28 22 rfl rfl ?_
  refine zd_aload_n E (pc := 18) d_M_plan_18 rfl ?_
  refine zd_get E (pc := 19) d_M_plan_19 kf_M_60 22 rfl rfl ?_
  show Z (wd k q (upd (upd v 10 (nI 0)) 16 (nI 0)) r1 ex) _ 22 [.int (v 15), .ref (q 29)]
  rw [hs]
  refine zd_iald E (pc := 22) d_M_plan_22 29 rfl (t0 := 0) rfl (s) (rfl) ((by omega)) (by decide) ?_
  rw [hr s hs2]
  have hWs := hW.1 s hs2
  refine zd_ldc E (pc := 23) (v := (nI 1048576)) d_M_plan_23 kk_M_87 ?_
  refine zd_nc_lt E (pc := 25) 30 d_M_plan_25 (by decide) ((by omega)) ((by omega)) (fun hq => ?_) (fun hq => ?_)
  · -- the way
    have good : ∀ j, (∀ i, i < j → 0 < W (pl_s na (tk_can ne) (tk_af ad dr) co W s i)) → pl_s na (tk_can ne) (tk_af ad dr) co W s j < 2 ^ nf ∧ W (pl_s na (tk_can ne) (tk_af ad dr) co W s j) < 1048576 := by
      intro j
      induction j with
      | zero => intro _; exact ⟨hs2, hq⟩
      | succ j ih =>
        intro hp
        obtain ⟨g1, g2⟩ := ih fun i hi => hp i (by omega)
        obtain ⟨n1, n2, n3⟩ := pl_next haf hW g1 (hp j (by omega)) g2
        have e : pl_s na (tk_can ne) (tk_af ad dr) co W s (j + 1) = tk_af ad dr (pl_nx na (tk_can ne) (tk_af ad dr) co W (pl_s na (tk_can ne) (tk_af ad dr) co W s j)) (pl_s na (tk_can ne) (tk_af ad dr) co W s j) := rfl
        rw [e]
        exact ⟨haf _ _ g1 n1 n2, by omega⟩
    obtain ⟨M, hM, hM0, hMp⟩ := pl_len (na := na) (can := tk_can ne) (af := tk_af ad dr) (co := co) (dear := W) (s0 := s) (fun j hp => by
      obtain ⟨g1, g2⟩ := good j hp
      refine ⟨by omega, fun h0 => ?_⟩
      obtain ⟨n1, n2, n3⟩ := pl_next haf hW g1 h0 g2
      have e : pl_s na (tk_can ne) (tk_af ad dr) co W s (j + 1) = tk_af ad dr (pl_nx na (tk_can ne) (tk_af ad dr) co W (pl_s na (tk_can ne) (tk_af ad dr) co W s j)) (pl_s na (tk_can ne) (tk_af ad dr) co W s j) := rfl
      rw [e]
      have := hco1 _ n1
      omega)
    have loop : ∀ (c j : Nat) (v1 : Nat → Int32) (r2 : Nat → Nat → Int32) (L2 : Option Value), j + c = M → (∀ i, i ≠ 10 → i ≠ 16 → v1 i = v i) → v1 10 = nI 0 → v1 16 = nI j → (∀ i, i ≠ 27 → i ≠ 29 → r2 i = r i) → (∀ s, s < 2 ^ nf → r2 29 s = nI (W s)) → (∀ i, i < j → r2 27 i = nI (pl_nx na (tk_can ne) (tk_af ad dr) co W (pl_s na (tk_can ne) (tk_af ad dr) co W s i))) → Z (wd k q v1 r2 ex) [some (.ref (q 22)), some (.int (nI (pl_s na (tk_can ne) (tk_af ad dr) co W s j))), L2] 35 [] := by
      intro c
      induction c with
      | zero =>
        intro j v1 r2 L2 hj hfv h10 h16 hfr h29 h27
        have e : j = M := by omega
        subst e
        obtain ⟨g1, g2⟩ := good j hMp
        refine zd_aload_n E (pc := 35) d_M_plan_35 rfl ?_
        refine zd_get E (pc := 36) d_M_plan_36 kf_M_28 22 rfl rfl ?_
        refine zd_iload_n E (pc := 39) d_M_plan_39 rfl ?_
        refine zd_iald E (pc := 40) d_M_plan_40 29 rfl (t0 := 0) rfl (pl_s na (tk_can ne) (tk_af ad dr) co W s j) (rfl) ((by omega)) (by decide) ?_
        rw [h29 _ g1, hM0]
        refine zd_if_le E (pc := 41) 80 d_M_plan_41 (by decide) (fun hz => ?_) (fun hz => ?_)
        · refine zd_aload_n E (pc := 80) d_M_plan_80 rfl ?_
          refine zd_get E (pc := 81) d_M_plan_81 kf_M_28 22 rfl rfl ?_
          refine zd_aload_n E (pc := 84) d_M_plan_84 rfl ?_
          refine zd_get E (pc := 85) d_M_plan_85 kf_M_60 22 rfl rfl ?_
          rw [hfv 15 (by decide) (by decide), hs]
          refine zd_iald E (pc := 88) d_M_plan_88 29 rfl (t0 := 0) rfl (s) (rfl) ((by omega)) (by decide) ?_
          rw [h29 s hs2]
          exact zd_iret E (pc := 89) d_M_plan_89 ⟨v1, r2, nI (W s), hfv, h10, hfr, ⟨W, hW, Or.inr ⟨hq, rfl, j, hM, hM0, hMp, h16, h27⟩⟩, rfl, rfl⟩
        · exact absurd (show nI 0 ≤ 0 by decide) hz
      | succ c ih =>
        intro j v1 r2 L2 hj hfv h10 h16 hfr h29 h27
        have hp : ∀ i, i < j → 0 < W (pl_s na (tk_can ne) (tk_af ad dr) co W s i) := fun i hi => hMp i (by omega)
        obtain ⟨g1, g2⟩ := good j hp
        obtain ⟨n1, n2, n3⟩ := pl_next haf hW g1 (hMp j (by omega)) g2
        have t1 : tk_M v1 r2 nf na fi go co ne ad dr := tk_mfr t (hfv 11 (by decide) (by decide)) (hfv 12 (by decide) (by decide)) (hfv 13 (by decide) (by decide)) (hfv 14 (by decide) (by decide)) (hfr 23 (by decide) (by decide)) (hfr 24 (by decide) (by decide)) (hfr 25 (by decide) (by decide)) (hfr 26 (by decide) (by decide))
        refine zd_aload_n E (pc := 35) d_M_plan_35 rfl ?_
        refine zd_get E (pc := 36) d_M_plan_36 kf_M_28 22 rfl rfl ?_
        refine zd_iload_n E (pc := 39) d_M_plan_39 rfl ?_
        refine zd_iald E (pc := 40) d_M_plan_40 29 rfl (t0 := 0) rfl (pl_s na (tk_can ne) (tk_af ad dr) co W s j) (rfl) ((by omega)) (by decide) ?_
        rw [h29 _ g1]
        refine zd_if_le E (pc := 41) 80 d_M_plan_41 (by decide) (fun hz => ?_) (fun hz => ?_)
        · exact absurd hz (nI_nle (hMp j (by omega)) (by omega))
        · refine zd_aload_n E (pc := 44) d_M_plan_44 rfl ?_
          refine zd_iload_n E (pc := 45) d_M_plan_45 rfl ?_
          refine zd_callV E (pc := 46) d_M_plan_46 kc_M_94 rfl ki_M_bestAction ke_M_bestAction 22 rfl rfl (c_M_bestAction l D t1 g1 h29 hW.1 n1) (by decide) rfl (Nat.le_of_ble_eq_true rfl) (fun v1 ws1 hv1 => ?_)
          obtain ⟨rfl, rfl⟩ := hv1
          refine zd_istore_n E (pc := 49) d_M_plan_49 (by decide) ?_
          refine zd_aload_n E (pc := 50) d_M_plan_50 rfl ?_
          refine zd_get E (pc := 51) d_M_plan_51 kf_M_22 22 rfl rfl ?_
          refine zd_aload_n E (pc := 54) d_M_plan_54 rfl ?_
          refine zd_get E (pc := 55) d_M_plan_55 kf_M_91 22 rfl rfl ?_
          rw [h16]
          refine zd_iload_n E (pc := 58) d_M_plan_58 rfl ?_
          refine zd_iast E (pc := 59) d_M_plan_59 27 rfl (t0 := 0) rfl (j) (rfl) ((by omega)) (by decide) (ws1 := wd k q v1 (va_up r2 27 (upd (r2 27) j (nI (pl_nx na (tk_can ne) (tk_af ad dr) co W (pl_s na (tk_can ne) (tk_af ad dr) co W s j))))) ex) rfl ?_
          refine zd_aload_n E (pc := 60) d_M_plan_60 rfl ?_
          refine zd_dup E (pc := 61) d_M_plan_61 rfl ?_
          refine zd_get E (pc := 62) d_M_plan_62 kf_M_91 22 rfl rfl ?_
          rw [h16]
          refine zd_iconst E (pc := 65) (v := (nI 1)) d_M_plan_65 (by decide) ?_
          refine zd_iadd E (pc := 66) d_M_plan_66 ?_
          rw [nI_add]
          refine zd_put E (pc := 67) d_M_plan_67 kp_M_91 22 rfl (Nat.le_of_ble_eq_true rfl) (ws1 := wd k q (upd v1 16 (nI (j + 1))) (va_up r2 27 (upd (r2 27) j (nI (pl_nx na (tk_can ne) (tk_af ad dr) co W (pl_s na (tk_can ne) (tk_af ad dr) co W s j))))) ex) rfl ?_
          refine zd_aload_n E (pc := 70) d_M_plan_70 rfl ?_
          refine zd_iload_n E (pc := 71) d_M_plan_71 rfl ?_
          refine zd_iload_n E (pc := 72) d_M_plan_72 rfl ?_
          have t2 : tk_M (upd v1 16 (nI (j + 1))) (va_up r2 27 (upd (r2 27) j (nI (pl_nx na (tk_can ne) (tk_af ad dr) co W (pl_s na (tk_can ne) (tk_af ad dr) co W s j))))) nf na fi go co ne ad dr := tk_mfr t1 rfl rfl rfl rfl rfl rfl rfl rfl
          refine zd_callV E (pc := 73) d_M_plan_73 kc_M_80 rfl ki_M_after ke_M_after 22 rfl rfl (c_M_after l D t2 (show pl_nx na (tk_can ne) (tk_af ad dr) co W (pl_s na (tk_can ne) (tk_af ad dr) co W s j) < 12 by omega)) (by decide) rfl (Nat.le_of_ble_eq_true rfl) (fun v1 ws1 hv1 => ?_)
          obtain ⟨rfl, rfl⟩ := hv1
          refine zd_istore_n E (pc := 76) d_M_plan_76 (by decide) ?_
          refine zd_goto E (pc := 77) 35 d_M_plan_77 (by decide) ?_
          refine ih (j + 1) _ _ _ (by omega) (fun i a b => by rw [pk_un b]; exact hfv i a b) (by rw [pk_un (by decide)]; exact h10) pk_us (fun i a b => by rw [va_up_ne _ _ a]; exact hfr i a b) (fun x hx => by rw [va_up_ne _ _ (by decide)]; exact h29 x hx) (fun i hi => ?_)
          rw [va_up_self]
          by_cases e : i = j
          · subst e; rw [pk_us]
          · rw [pk_un e]; exact h27 i (by omega)
    refine zd_aload_n E (pc := 30) d_M_plan_30 rfl ?_
    refine zd_get E (pc := 31) d_M_plan_31 kf_M_60 22 rfl rfl ?_
    show Z (wd k q (upd (upd v 10 (nI 0)) 16 (nI 0)) r1 ex) _ 34 [.int (v 15)]
    rw [hs]
    refine zd_istore_n E (pc := 34) d_M_plan_34 (by decide) ?_
    exact loop M 0 (upd (upd v 10 (nI 0)) 16 (nI 0)) r1 none (by omega) (fun i a b => by rw [pk_un b, pk_un a]) rfl pk_us (fun i a b => hf i b) hr (fun i hi => by omega)
  · refine zd_iconst E (pc := 28) (v := (-1)) d_M_plan_28 (by decide) ?_
    exact zd_iret E (pc := 29) d_M_plan_29 ⟨upd (upd v 10 (nI 0)) 16 (nI 0), r1, -1, fun i a b => by rw [pk_un b, pk_un a], rfl, fun i a b => hf i b, ⟨W, hW, Or.inl ⟨hq, rfl, pk_us⟩⟩, rfl, rfl⟩
end M4
