/-! explore: all states that come from one, in the order of the least cost. -/
theorem se_one {na s0 : Nat} {can : Nat → Nat → Bool} {af : Nat → Nat → Nat} {co o d : Nat → Nat} {N : Nat} (hs : s0 < N) (ho : o 0 = s0) (hd : d 0 = 0) : se_inv N na can af co s0 0 1 o d := by
  have e : ∀ i, i < 1 → i = 0 := fun i hi => by omega
  refine ⟨by omega, ho, hd, fun i hi => ?_, fun i j hi hj _ => by omega, fun i j hij hj => ?_, fun i hi => ?_, fun i hi => ?_, fun i hi => by omega⟩
  · rw [e i hi, ho]; exact hs
  · rw [e i (by omega), e j hj]; exact Nat.le_refl _
  · rw [e i hi, ho, hd]; exact gw_R_0 _
  · rw [e i hi, hd]; exact Nat.le_refl _
section EX
variable {k : Nat → ClassId} {q : Nat → Nat} {v : Nat → Int32} {r : Nat → Nat → Int32} {ex : va_W} {nf na fi go : Nat} {co ne ad dr : Nat → Nat}
set_option maxRecDepth 100000 in
set_option maxHeartbeats 4000000 in
theorem c_S_explore (l : Launch) (D : va_G) {n0 s0 : Nat} {o0 d0 : Nat → Nat} (t : tk_C v r nf na fi go co ne ad dr) (h : sr_st v r n0 o0 d0) (hs0 : s0 < 1024) : zd_Ct l D classes (wd_ty k) gd_T y_S_explore b_S_explore 5 none (zd_rm 3) [.ref (q 7), .int (nI s0)] (wd k q v r ex)
    (fun v1 w1 => ∃ v2 r2 n o d, sr_fr v v2 r r2 ∧ sr_st v2 r2 n o d ∧ gw_ok 1024 na (tk_can ne) (tk_af ad dr) co s0 n o d ∧ v1 = none ∧ w1 = wd k q v2 r2 ex) := by
  refine zd_met gd_all (by decide) rfl (Nat.le_of_ble_eq_true rfl) (fun Z E => ?_)
  show Z (wd k q v r ex) [some (.ref (q 7)), some (.int (nI s0)), none, none, none] 0 []
  have hna := t.hna.2
  have hco1 := t.2.2.2.2
  have hco9 : ∀ a, a < na → co a ≤ 9 := fun a ha => (t.hco a (by omega)).2
  have acts : ∀ m a now v1 r1 n o d L4, a + m = na → 1 ≤ now → now ≤ 9207 → sr_fr v v1 r r1 → sr_st v1 r1 n o d → se_inv 1024 na (tk_can ne) (tk_af ad dr) co s0 now n o d → se_done na (tk_can ne) (tk_af ad dr) co n o d now → (∀ x, x ≤ now → now ≤ x + 9 → ∃ e, r1 11 (x % 10) = nI e ∧ sr_B n d x e) → (∀ i b, i < n → b < a → tk_can ne b (o i) = true → d i + co b = now → ∃ j, j < n ∧ o j = tk_af ad dr b (o i)) →
      (∀ v1 r1 n o d L4, sr_fr v v1 r r1 → sr_st v1 r1 n o d → se_inv 1024 na (tk_can ne) (tk_af ad dr) co s0 now n o d → se_done na (tk_can ne) (tk_af ad dr) co n o d (now + 1) → (∀ x, x ≤ now → now ≤ x + 9 → ∃ e, r1 11 (x % 10) = nI e ∧ sr_B n d x e) → Z (wd k q v1 r1 ex) [some (.ref (q 7)), some (.int (nI s0)), some (.int (nI now)), none, L4] 95 []) →
      Z (wd k q v1 r1 ex) [some (.ref (q 7)), some (.int (nI s0)), some (.int (nI now)), some (.int (nI a)), L4] 52 [] := by
    intro m
    induction m with
    | zero =>
      intro a now v1 r1 n o d L4 ha hn1 hn2 hf hst hinv hdn hB hall kk
      have e : a = na := by omega
      subst e
      have t1 := hf.tk t
      refine zd_iload_n E (pc := 52) d_S_explore_52 rfl ?_
      refine zd_aload_n E (pc := 53) d_S_explore_53 rfl ?_
      refine zd_get E (pc := 54) d_S_explore_54 kf_S_24 7 rfl rfl ?_
      refine zd_get E (pc := 57) d_S_explore_57 kf_S_49 1 rfl rfl ?_
      rw [t1.hna.1]
      refine zd_nc_ge E (pc := 60) 95 d_S_explore_60 (by decide) ((by omega)) ((by omega)) (fun hq => ?_) (fun hq => ?_)
      · refine zd_less E ?_ (kk v1 r1 n o d L4 hf hst hinv (fun i b hi hb hcan hlt => ?_) hB)
        · cases L4 <;> exact ⟨rfl, rfl, rfl, by first | exact trivial | exact ⟨rfl, trivial⟩⟩
        · by_cases z : d i + co b < now
          · exact hdn i b hi hb hcan z
          · obtain ⟨j, hj, he⟩ := hall i b hi hb hcan (by omega)
            exact ⟨j, hj, he, by have := hinv.2.2.2.2.2.2.2.1 j hj; omega⟩
      · omega
    | succ m ih =>
      intro a now v1 r1 n o d L4 ha hn1 hn2 hf hst hinv hdn hB hall kk
      have t1 := hf.tk t
      have ha12 : a < 12 := by omega
      have han : a < na := by omega
      have c9 := hco9 a han
      have c1 := hco1 a han
      have tail : ∀ v1 r1 n o d L4, sr_fr v v1 r r1 → sr_st v1 r1 n o d → se_inv 1024 na (tk_can ne) (tk_af ad dr) co s0 now n o d → se_done na (tk_can ne) (tk_af ad dr) co n o d now → (∀ x, x ≤ now → now ≤ x + 9 → ∃ e, r1 11 (x % 10) = nI e ∧ sr_B n d x e) → (∀ i b, i < n → b < a + 1 → tk_can ne b (o i) = true → d i + co b = now → ∃ j, j < n ∧ o j = tk_af ad dr b (o i)) → Z (wd k q v1 r1 ex) [some (.ref (q 7)), some (.int (nI s0)), some (.int (nI now)), some (.int (nI a)), L4] 89 [] := by
        intro v1 r1 n o d L4 hf hst hinv hdn hB hall
        refine zd_iinc E (pc := 89) d_S_explore_89 rfl (bm_inc a) (by decide) ?_
        refine zd_goto E (pc := 92) 52 d_S_explore_92 (by decide) ?_
        exact ih (a + 1) now v1 r1 n o d L4 (by omega) hn1 hn2 hf hst hinv hdn hB hall kk
      refine zd_iload_n E (pc := 52) d_S_explore_52 rfl ?_
      refine zd_aload_n E (pc := 53) d_S_explore_53 rfl ?_
      refine zd_get E (pc := 54) d_S_explore_54 kf_S_24 7 rfl rfl ?_
      refine zd_get E (pc := 57) d_S_explore_57 kf_S_49 1 rfl rfl ?_
      rw [t1.hna.1]
      refine zd_nc_ge E (pc := 60) 95 d_S_explore_60 (by decide) ((by omega)) ((by omega)) (fun hq => ?_) (fun hq => ?_)
      · omega
      · refine zd_iload_n E (pc := 63) d_S_explore_63 rfl ?_
        refine zd_aload_n E (pc := 64) d_S_explore_64 rfl ?_
        refine zd_get E (pc := 65) d_S_explore_65 kf_S_24 7 rfl rfl ?_
        refine zd_get E (pc := 68) d_S_explore_68 kf_S_54 1 rfl rfl ?_
        refine zd_iload_n E (pc := 71) d_S_explore_71 rfl ?_
        refine zd_iald E (pc := 72) d_S_explore_72 2 rfl (t0 := 0) rfl (a) (rfl) (ha12) (by decide) ?_
        rw [(t1.hco a ha12).1]
        by_cases hle : co a ≤ now
        · refine zd_isub E (pc := 73) d_S_explore_73 ?_
          rw [pk_sub hle]
          refine zd_istore E (pc := 74) d_S_explore_74 (by decide) ?_
          refine zd_iload E (pc := 76) d_S_explore_76 rfl ?_
          refine zd_if_lt E (pc := 78) 89 d_S_explore_78 (by decide) (fun hneg => ?_) (fun hneg => ?_)
          · exact absurd hneg (nI_pos (by omega))
          · refine zd_aload_n E (pc := 81) d_S_explore_81 rfl ?_
            refine zd_iload_n E (pc := 82) d_S_explore_82 rfl ?_
            refine zd_iload E (pc := 83) d_S_explore_83 rfl ?_
            refine zd_iload_n E (pc := 85) d_S_explore_85 rfl ?_
            obtain ⟨e0, g0, b0⟩ := hB (now - co a) (by omega) (by omega)
            obtain ⟨e1, g1, b1⟩ := hB (now - co a + 1) (by omega) (by omega)
            refine zd_callV E (pc := 86) d_S_explore_86 kc_S_57 rfl ki_S_spread ke_S_spread 7 rfl rfl (c_S_spread l D t1 hst hinv han (show now - co a + co a = now by omega) (by omega) g0 g1 b0 b1 hdn) (by decide) rfl (Nat.le_of_ble_eq_true rfl) (fun v1 ws1 hv1 => ?_)
            obtain ⟨v2, r2, n2, o2, d2, hf2, hf11, hst2, hinv2, hdn2, hex, hsp, rfl, rfl⟩ := hv1
            refine tail v2 r2 n2 o2 d2 _ (hf.tr hf2) hst2 hinv2 hdn2 (fun x hx1 hx2 => ?_) (fun i b hi hb hcan hd => ?_)
            · obtain ⟨e, z1, z2⟩ := hB x hx1 hx2
              exact ⟨e, by rw [hf11]; exact z1, z2.ex hex hx1⟩
            · by_cases z : i < n
              · obtain ⟨eo, ed⟩ := hex.2.1 i z
                rw [eo] at hcan ⊢
                rw [ed] at hd
                by_cases hba : b = a
                · subst hba
                  exact hsp i z (by omega) hcan
                · obtain ⟨j, hj, he⟩ := hall i b z (by omega) hcan hd
                  exact ⟨j, Nat.lt_of_lt_of_le hj hex.1, by rw [(hex.2.1 j hj).1]; exact he⟩
              · have := hex.2.2 i (by omega) hi
                have := hco1 b (by omega)
                omega
        · refine zd_isub E (pc := 73) d_S_explore_73 ?_
          refine zd_istore E (pc := 74) d_S_explore_74 (by decide) ?_
          refine zd_iload E (pc := 76) d_S_explore_76 rfl ?_
          refine zd_if_lt E (pc := 78) 89 d_S_explore_78 (by decide) (fun hneg => ?_) (fun hneg => ?_)
          · refine tail v1 r1 n o d _ hf hst hinv hdn hB (fun i b hi hb hcan hd => ?_)
            by_cases hba : b = a
            · subst hba; omega
            · exact hall i b hi (by omega) hcan hd
          · exact absurd (pk_sneg (by omega) (by omega)) hneg
  have levels : ∀ m now v1 r1 n o d L3 L4, now + m = 9208 → 1 ≤ now → sr_fr v v1 r r1 → sr_st v1 r1 n o d → se_inv 1024 na (tk_can ne) (tk_af ad dr) co s0 (now - 1) n o d → se_done na (tk_can ne) (tk_af ad dr) co n o d now → (∀ x, x < now → now ≤ x + 9 → ∃ e, r1 11 (x % 10) = nI e ∧ sr_B n d x e) →
      Z (wd k q v1 r1 ex) [some (.ref (q 7)), some (.int (nI s0)), some (.int (nI now)), L3, L4] 19 [] := by
    intro m
    induction m with
    | zero =>
      intro now v1 r1 n o d L3 L4 hm hn1 hf hst hinv hdn hB
      have e : now = 9208 := by omega
      subst e
      refine zd_iload_n E (pc := 19) d_S_explore_19 rfl ?_
      refine zd_sipush E (pc := 20) (v := (nI 9207)) d_S_explore_20 (by decide) ?_
      refine zd_nc_gt E (pc := 23) 101 d_S_explore_23 (by decide) ((by omega)) ((by omega)) (fun hq => ?_) (fun hq => ?_)
      · exact zd_vret E (pc := 101) d_S_explore_101 ⟨v1, r1, n, o, d, hf, hst, se_end hinv (fun s a hs ha _ => t.haf (by omega) hs) hco9 hdn (Or.inr rfl), rfl, rfl⟩
      · omega
    | succ m ih =>
      intro now v1 r1 n o d L3 L4 hm hn1 hf hst hinv hdn hB
      have hn0 := hinv.1
      have hlast : d (n - 1) ≤ now - 1 := hinv.2.2.2.2.2.2.2.1 (n - 1) (by omega)
      refine zd_iload_n E (pc := 19) d_S_explore_19 rfl ?_
      refine zd_sipush E (pc := 20) (v := (nI 9207)) d_S_explore_20 (by decide) ?_
      refine zd_nc_gt E (pc := 23) 101 d_S_explore_23 (by decide) ((by omega)) ((by omega)) (fun hq => ?_) (fun hq => ?_)
      · omega
      · refine zd_iload_n E (pc := 26) d_S_explore_26 rfl ?_
        refine zd_aload_n E (pc := 27) d_S_explore_27 rfl ?_
        refine zd_callV E (pc := 28) d_S_explore_28 kc_S_41 rfl ki_S_lastSpent ke_S_lastSpent 7 rfl rfl (c_S_lastSpent l D hst hn0) (by decide) rfl (Nat.le_of_ble_eq_true rfl) (fun v1 ws1 hv1 => ?_)
        obtain ⟨rfl, rfl⟩ := hv1
        refine zd_bipush E (pc := 31) (v := (nI 9)) d_S_explore_31 (by decide) ?_
        refine zd_iadd E (pc := 33) d_S_explore_33 ?_
        rw [nI_add]
        refine zd_nc_gt E (pc := 34) 101 d_S_explore_34 (by decide) ((by omega)) ((by omega)) (fun hq2 => ?_) (fun hq2 => ?_)
        · exact zd_vret E (pc := 101) d_S_explore_101 ⟨v1, r1, n, o, d, hf, hst, se_end hinv (fun s a hs ha _ => t.haf (by omega) hs) hco9 hdn (Or.inl hq2), rfl, rfl⟩
        · refine zd_aload_n E (pc := 37) d_S_explore_37 rfl ?_
          refine zd_get E (pc := 38) d_S_explore_38 kf_S_21 7 rfl rfl ?_
          refine zd_iload_n E (pc := 41) d_S_explore_41 rfl ?_
          refine zd_bipush E (pc := 42) (v := (nI 10)) d_S_explore_42 (by decide) ?_
          refine zd_irem E (pc := 44) d_S_explore_44 (by decide) ?_
          rw [pk_rem (by omega) (by decide) (by decide)]
          refine zd_aload_n E (pc := 45) d_S_explore_45 rfl ?_
          refine zd_get E (pc := 46) d_S_explore_46 kf_S_45 7 rfl rfl ?_
          rw [hst.1]
          refine zd_iast E (pc := 49) d_S_explore_49 11 rfl (t0 := 0) rfl (now % 10) (rfl) (Nat.mod_lt _ (by decide)) (by decide) (ws1 := wd k q v1 (va_up r1 11 (upd (r1 11) (now % 10) (nI n))) ex) rfl ?_
          refine zd_iconst E (pc := 50) (v := (nI 0)) d_S_explore_50 (by decide) ?_
          refine zd_istore_n E (pc := 51) d_S_explore_51 (by decide) ?_
          have hf2 : sr_fr v1 v1 r1 (va_up r1 11 (upd (r1 11) (now % 10) (nI n))) := ⟨fun _ _ => rfl, fun i a b c e => va_up_ne _ _ e⟩
          have hinv2 : se_inv 1024 na (tk_can ne) (tk_af ad dr) co s0 now n o d := by
            have := se_next hinv
            rw [show now - 1 + 1 = now by omega] at this
            exact this
          refine acts na 0 now v1 _ n o d _ (by omega) hn1 (by omega) (hf.tr hf2) ⟨hst.1, hst.2.1, hst.2.2.1, fun i hi => hst.2.2.2.1 i hi, fun i hi => hst.2.2.2.2.1 i hi, fun s hs hne => hst.2.2.2.2.2 s hs hne⟩ hinv2 hdn (fun x hx1 hx2 => ?_) (fun i b hi hb => by omega) (fun v2 r2 n2 o2 d2 L5 hf3 hst3 hinv3 hdn3 hB3 => ?_)
          · rw [va_up_self]
            by_cases e : x = now
            · subst e
              refine ⟨n, by rw [pk_us], Nat.le_refl _, fun i hi => ⟨fun _ => hi, fun _ => ?_⟩⟩
              have := hinv.2.2.2.2.2.2.2.1 i hi
              omega
            · obtain ⟨e1, z1, z2⟩ := hB x (by omega) hx2
              exact ⟨e1, by rw [pk_un (by omega)]; exact z1, z2⟩
          · refine zd_iinc E (pc := 95) d_S_explore_95 rfl (bm_inc now) (by decide) ?_
            refine zd_goto E (pc := 98) 19 d_S_explore_98 (by decide) ?_
            exact ih (now + 1) v2 r2 n2 o2 d2 none L5 (by omega) (by omega) hf3 hst3 (by rw [Nat.add_sub_cancel]; exact hinv3) hdn3 (fun x hx1 hx2 => hB3 x (by omega) (by omega))
  refine zd_aload_n E (pc := 0) d_S_explore_0 rfl ?_
  refine zd_callV E (pc := 1) d_S_explore_1 kc_S_34 rfl ki_S_forget ke_S_forget 7 rfl rfl (c_S_forget l D h) (by decide) rfl (Nat.le_of_ble_eq_true rfl) (fun v1 ws1 hv1 => ?_)
  obtain ⟨v1, r1, hf, hst, rfl, rfl⟩ := hv1
  refine zd_aload_n E (pc := 4) d_S_explore_4 rfl ?_
  refine zd_get E (pc := 5) d_S_explore_5 kf_S_21 7 rfl rfl ?_
  refine zd_iconst E (pc := 8) (v := (nI 0)) d_S_explore_8 (by decide) ?_
  refine zd_iconst E (pc := 9) (v := (nI 0)) d_S_explore_9 (by decide) ?_
  refine zd_iast E (pc := 10) d_S_explore_10 11 rfl (t0 := 0) rfl (0) (rfl) (by decide) (by decide) (ws1 := wd k q v1 (va_up r1 11 (upd (r1 11) 0 (nI 0))) ex) rfl ?_
  refine zd_aload_n E (pc := 11) d_S_explore_11 rfl ?_
  refine zd_iload_n E (pc := 12) d_S_explore_12 rfl ?_
  refine zd_iconst E (pc := 13) (v := (nI 0)) d_S_explore_13 (by decide) ?_
  have hst1 : sr_st v1 (va_up r1 11 (upd (r1 11) 0 (nI 0))) 0 o0 d0 := ⟨hst.1, hst.2.1, hst.2.2.1, fun i hi => by omega, fun i hi => by omega, fun s hs hne => hst.2.2.2.2.2 s hs hne⟩
  have hf1 : sr_fr v1 v1 r1 (va_up r1 11 (upd (r1 11) 0 (nI 0))) := ⟨fun _ _ => rfl, fun i a b c e => va_up_ne _ _ e⟩
  refine zd_callV E (pc := 14) d_S_explore_14 kc_S_37 rfl ki_S_settle ke_S_settle 7 rfl rfl (c_S_settle l D hst1 hs0 (show 0 < 20000 by decide)) (by decide) rfl (Nat.le_of_ble_eq_true rfl) (fun v1 ws1 hv1 => ?_)
  obtain ⟨v2, r2, n2, o2, d2, hf2, hf11, hst2, hcase, rfl, rfl⟩ := hv1
  rcases hcase with ⟨⟨j, hj, -⟩, -⟩ | ⟨-, rfl, rfl, rfl⟩
  · omega
  · refine zd_iconst E (pc := 17) (v := (nI 1)) d_S_explore_17 (by decide) ?_
    refine zd_istore_n E (pc := 18) d_S_explore_18 (by decide) ?_
    have hinv := se_one (na := na) (can := tk_can ne) (af := tk_af ad dr) (co := co) (o := va_up o0 0 s0) (d := va_up d0 0 0) hs0 (va_up_self _ _ _) (va_up_self _ _ _)
    refine levels 9207 1 v2 r2 1 _ _ none none rfl (Nat.le_refl _) ((hf.tr hf1).tr hf2) hst2 hinv (fun i a hi ha hcan hlt => ?_) (fun x hx1 hx2 => ⟨0, ?_, Nat.zero_le _, fun i hi => ?_⟩)
    · have := hco1 a ha
      omega
    · rw [show x = 0 by omega, hf11, va_up_self]
      exact pk_us
    · omega
end EX
