/-! The law's turns: the calls that don't refuse. -/
section LC
variable {Zf : Nat → Nat → va_W → List (Option Value) → Nat → List Value → Prop} {l : Launch} {D : va_G} {k : Nat → ClassId} {q : Nat → Nat} {o b Ln nc ns i : Nat} {xs : Nat → Int32} {v : Nat → Int32} {r : Nat → Nat → Int32} {f : Nat → Int64} {L5 L6 : Option Value}
set_option maxRecDepth 100000 in
set_option maxHeartbeats 4000000 in
theorem lw_c3 (K : lw_K Zf l D k b Ln xs) (hnc : nc + 1 ≤ 601024) (hns : ns + 6 ≤ 7293034) (hi : i + 4 ≤ Ln) (I : sy_I v r) (kk : lw_G Zf k q o b nc ns i) : Zf nc ns (wd k q v r (ow k o f)) [some (.ref b), some (.ref (q 0)), some (.ref (q 22)), some (.ref o), some (.int (nI i)), L5, L6] 352 [] := by
  obtain ⟨hl, X, hsld, hslen, hLn⟩ := K
  obtain ⟨nf, na, fi, go, co, ne, ad, dr, s, np, nd, dd, n0, o0, d0, J⟩ := I
  obtain ⟨tC, tM, hz, ⟨hs2, hs9, hs15⟩, ⟨hnp, hp5, hp16, hprow⟩, ⟨hnd, hd6, hd17, hdrow⟩, hsr⟩ := id J
  have E := X.E (nc := nc) (ns := ns) (by omega) (by omega)
  have hnf := tC.2.2.1.1
  have hna := tC.2.2.1.2.1
  have hgo := tC.2.2.1.2.2.2
  have hN := tC.n31
  have hs10 : s < 1024 := by omega
  have hne : ∀ a, a < na → ne a < 2 ^ nf := fun a ha => (tC.2.2.2.1 a (by omega)).2.1
  have had : ∀ a, a < na → ad a < 2 ^ nf := fun a ha => (tC.2.2.2.1 a (by omega)).2.2.1
  have hco9 : ∀ a, a < na → co a ≤ 9 := fun a ha => (tC.2.2.2.1 a (by omega)).1
  have hco1 : ∀ a, a < na → 1 ≤ co a := tC.2.2.2.2
  refine zd_aload_n E (pc := 352) d_law_352 rfl ?_
  refine zd_callVR E (pc := 353) d_law_353 kc_L_73 rfl ki_P_reset ke_P_reset 0 rfl rfl (c_P_reset l D) ⟨by decide, by decide⟩ rfl (Nat.le_of_ble_eq_true rfl) (fun v1 ws1 hv1 => ?_)
  obtain ⟨rfl, rfl⟩ := hv1
  refine zd_aload_n E (pc := 356) d_law_356 rfl ?_
  refine zd_callVR E (pc := 357) d_law_357 kc_L_76 rfl ki_M_reset ke_M_reset 22 rfl rfl (c_M_reset l D) ⟨by decide, by decide⟩ rfl (Nat.le_of_ble_eq_true rfl) (fun v1 ws1 hv1 => ?_)
  obtain ⟨rfl, rfl⟩ := hv1
  refine zd_goto E (pc := 360) 1010 d_law_360 (by decide) ?_
  have h2 : v 2 = nI fi := tC.1.2.2.1
  have h12 : v 12 = nI fi := tM.1.2.2.1
  refine zx_widen X (Nat.le_succ nc) (Nat.le_add_right ns 6) (kk _ r f _ _ ⟨nf, na, fi, go, co, ne, ad, dr, fi, np, nd, dd, n0, o0, d0, ?_⟩)
  exact ⟨tC.fr (fun i hi => by match i, hi with | 0, _ => rfl | 1, _ => rfl | 2, _ => rfl | 3, _ => rfl) rfl rfl rfl rfl, tk_mfr tM rfl rfl rfl rfl rfl rfl rfl rfl, hz, ⟨tC.2.2.1.2.2.1, h2, h12⟩, ⟨hnp, hp5, hp16, hprow⟩, ⟨hnd, hd6, hd17, hdrow⟩, sr_keep hsr rfl rfl rfl⟩
set_option maxRecDepth 100000 in
set_option maxHeartbeats 4000000 in
theorem lw_c18 (K : lw_K Zf l D k b Ln xs) (hnc : nc + 1 ≤ 601024) (hns : ns + 6 ≤ 7293034) (hi : i + 4 ≤ Ln) (I : sy_I v r) (kk : lw_G Zf k q o b nc ns i) : Zf nc ns (wd k q v r (ow k o f)) [some (.ref b), some (.ref (q 0)), some (.ref (q 22)), some (.ref o), some (.int (nI i)), L5, L6] 973 [] := by
  obtain ⟨hl, X, hsld, hslen, hLn⟩ := K
  obtain ⟨nf, na, fi, go, co, ne, ad, dr, s, np, nd, dd, n0, o0, d0, J⟩ := I
  obtain ⟨tC, tM, hz, ⟨hs2, hs9, hs15⟩, ⟨hnp, hp5, hp16, hprow⟩, ⟨hnd, hd6, hd17, hdrow⟩, hsr⟩ := id J
  have E := X.E (nc := nc) (ns := ns) (by omega) (by omega)
  have hnf := tC.2.2.1.1
  have hna := tC.2.2.1.2.1
  have hgo := tC.2.2.1.2.2.2
  have hN := tC.n31
  have hs10 : s < 1024 := by omega
  have hne : ∀ a, a < na → ne a < 2 ^ nf := fun a ha => (tC.2.2.2.1 a (by omega)).2.1
  have had : ∀ a, a < na → ad a < 2 ^ nf := fun a ha => (tC.2.2.2.1 a (by omega)).2.2.1
  have hco9 : ∀ a, a < na → co a ≤ 9 := fun a ha => (tC.2.2.2.1 a (by omega)).1
  have hco1 : ∀ a, a < na → 1 ≤ co a := tC.2.2.2.2
  refine zd_aload_n E (pc := 973) d_law_973 rfl ?_
  refine zd_callVR E (pc := 974) d_law_974 kc_L_129 rfl ki_P_wipe ke_P_wipe 0 rfl rfl (c_P_wipe l D) ⟨by decide, by decide⟩ rfl (Nat.le_of_ble_eq_true rfl) (fun v1 ws1 hv1 => ?_)
  obtain ⟨rfl, rfl⟩ := hv1
  refine zd_aload_n E (pc := 977) d_law_977 rfl ?_
  refine zd_callVR E (pc := 978) d_law_978 kc_L_132 rfl ki_M_wipe ke_M_wipe 22 rfl rfl (c_M_wipe l D) ⟨by decide, by decide⟩ rfl (Nat.le_of_ble_eq_true rfl) (fun v1 ws1 hv1 => ?_)
  obtain ⟨rfl, rfl⟩ := hv1
  refine zd_goto E (pc := 981) 1010 d_law_981 (by decide) ?_
  refine zx_widen X (Nat.le_succ nc) (Nat.le_add_right ns 6) (kk _ r f _ _ ⟨nf, na, fi, go, co, ne, ad, dr, s, np, 0, dd, n0, o0, d0, ?_⟩)
  exact ⟨tC.fr (fun i hi => by match i, hi with | 0, _ => rfl | 1, _ => rfl | 2, _ => rfl | 3, _ => rfl) rfl rfl rfl rfl, tk_mfr tM rfl rfl rfl rfl rfl rfl rfl rfl, hz, ⟨hs2, hs9, hs15⟩, ⟨hnp, hp5, hp16, hprow⟩, ⟨by omega, rfl, rfl, fun j hj => by omega⟩, sr_keep hsr rfl rfl rfl⟩
set_option maxRecDepth 100000 in
set_option maxHeartbeats 4000000 in
theorem lw_c7 (K : lw_K Zf l D k b Ln xs) (hnc : nc + 1 ≤ 601024) (hns : ns + 6 ≤ 7293034) (hi : i + 4 ≤ Ln) (I : sy_I v r) (kk : lw_G Zf k q o b nc ns i) : Zf nc ns (wd k q v r (ow k o f)) [some (.ref b), some (.ref (q 0)), some (.ref (q 22)), some (.ref o), some (.int (nI i)), L5, L6] 552 [] := by
  obtain ⟨hl, X, hsld, hslen, hLn⟩ := K
  obtain ⟨nf, na, fi, go, co, ne, ad, dr, s, np, nd, dd, n0, o0, d0, J⟩ := I
  obtain ⟨tC, tM, hz, ⟨hs2, hs9, hs15⟩, ⟨hnp, hp5, hp16, hprow⟩, ⟨hnd, hd6, hd17, hdrow⟩, hsr⟩ := id J
  have E := X.E (nc := nc) (ns := ns) (by omega) (by omega)
  have hnf := tC.2.2.1.1
  have hna := tC.2.2.1.2.1
  have hgo := tC.2.2.1.2.2.2
  have hN := tC.n31
  have hs10 : s < 1024 := by omega
  have hne : ∀ a, a < na → ne a < 2 ^ nf := fun a ha => (tC.2.2.2.1 a (by omega)).2.1
  have had : ∀ a, a < na → ad a < 2 ^ nf := fun a ha => (tC.2.2.2.1 a (by omega)).2.2.1
  have hco9 : ∀ a, a < na → co a ≤ 9 := fun a ha => (tC.2.2.2.1 a (by omega)).1
  have hco1 : ∀ a, a < na → 1 ≤ co a := tC.2.2.2.2
  refine zd_aload_n E (pc := 552) d_law_552 rfl ?_
  refine zd_callVR E (pc := 553) d_law_553 kc_L_86 rfl ki_P_plan ke_P_plan 0 rfl rfl (c_P_plan l D tC hs9 hs10 hsr) ⟨by decide, by decide⟩ rfl (Nat.le_of_ble_eq_true rfl) (fun v1 ws1 hv1 => ?_)
  obtain ⟨v1, r1, x, hv1, hr1, ⟨n1, o1, d1, hs1⟩, hpl, rfl, rfl⟩ := hv1
  have tM1 : tk_M v1 r1 nf na fi go co ne ad dr := tk_mfr tM (hv1 11 (by decide) (by decide)) (hv1 12 (by decide) (by decide)) (hv1 13 (by decide) (by decide)) (hv1 14 (by decide) (by decide)) (hr1 23 (by decide) (by decide) (by decide) (by decide) (by decide)) (hr1 24 (by decide) (by decide) (by decide) (by decide) (by decide)) (hr1 25 (by decide) (by decide) (by decide) (by decide) (by decide)) (hr1 26 (by decide) (by decide) (by decide) (by decide) (by decide))
  have tC1 : tk_C v1 r1 nf na fi go co ne ad dr := tC.fr (fun i hi => hv1 i (by omega) (by omega)) (hr1 2 (by decide) (by decide) (by decide) (by decide) (by decide)) (hr1 4 (by decide) (by decide) (by decide) (by decide) (by decide)) (hr1 5 (by decide) (by decide) (by decide) (by decide) (by decide)) (hr1 6 (by decide) (by decide) (by decide) (by decide) (by decide))
  refine zd_aload_n E (pc := 556) d_law_556 rfl ?_
  refine zd_callVR E (pc := 557) d_law_557 kc_L_89 rfl ki_M_plan ke_M_plan 22 rfl rfl (c_M_plan l D tM1 ((hv1 15 (by decide) (by decide)).trans hs15) hs2) ⟨by decide, by decide⟩ rfl (Nat.le_of_ble_eq_true rfl) (fun v1 ws1 hv1 => ?_)
  obtain ⟨v2, r2, y, hv2, h10, hr2, hmp, rfl, rfl⟩ := hv1
  obtain ⟨rfl, m, hm, h5, h16, hrow⟩ := ti_plan had hco1 hs2 hpl hmp
  refine zd_ic_eq E (pc := 560) 1010 d_law_560 (by decide) (fun h => ?_) (fun h => ?_)
  · refine zx_widen X (Nat.le_succ nc) (Nat.le_add_right ns 6) (kk v2 r2 f _ _ ⟨nf, na, fi, go, co, ne, ad, dr, s, m, nd, dd, n1, o1, d1, ?_⟩)
    refine ⟨tC1.fr (fun i hi => hv2 i (by omega) (by omega)) (hr2 2 (by decide) (by decide)) (hr2 4 (by decide) (by decide)) (hr2 5 (by decide) (by decide)) (hr2 6 (by decide) (by decide)), tk_mfr tM1 (hv2 11 (by decide) (by decide)) (hv2 12 (by decide) (by decide)) (hv2 13 (by decide) (by decide)) (hv2 14 (by decide) (by decide)) (hr2 23 (by decide) (by decide)) (hr2 24 (by decide) (by decide)) (hr2 25 (by decide) (by decide)) (hr2 26 (by decide) (by decide)), hz, ⟨hs2, ?_, ?_⟩, ⟨hm, ?_, h16, fun j hj => ?_⟩, ⟨hnd, ?_, ?_, fun j hj => ?_⟩, sr_keep hs1 (hv2 4 (by decide) (by decide)) (hr2 8 (by decide) (by decide)) (hr2 9 (by decide) (by decide))⟩
    · rw [hv2 9 (by decide) (by decide), hv1 9 (by decide) (by decide)]; exact hs9
    · rw [hv2 15 (by decide) (by decide), hv1 15 (by decide) (by decide)]; exact hs15
    · rw [hv2 5 (by decide) (by decide)]; exact h5
    · rw [hr2 13 (by decide) (by decide)]; exact hrow j hj
    · rw [hv2 6 (by decide) (by decide), hv1 6 (by decide) (by decide)]; exact hd6
    · rw [hv2 17 (by decide) (by decide), hv1 17 (by decide) (by decide)]; exact hd17
    · rw [hr2 15 (by decide) (by decide), hr2 28 (by decide) (by decide), hr1 15 (by decide) (by decide) (by decide) (by decide) (by decide), hr1 28 (by decide) (by decide) (by decide) (by decide) (by decide)]; exact hdrow j hj
  · exact absurd rfl h
set_option maxRecDepth 100000 in
set_option maxHeartbeats 4000000 in
theorem lw_c8 (K : lw_K Zf l D k b Ln xs) (hnc : nc + 1 ≤ 601024) (hns : ns + 6 ≤ 7293034) (hi : i + 4 ≤ Ln) (I : sy_I v r) (kk : lw_G Zf k q o b nc ns i) : Zf nc ns (wd k q v r (ow k o f)) [some (.ref b), some (.ref (q 0)), some (.ref (q 22)), some (.ref o), some (.int (nI i)), L5, L6] 565 [] := by
  obtain ⟨hl, X, hsld, hslen, hLn⟩ := K
  obtain ⟨nf, na, fi, go, co, ne, ad, dr, s, np, nd, dd, n0, o0, d0, J⟩ := I
  obtain ⟨tC, tM, hz, ⟨hs2, hs9, hs15⟩, ⟨hnp, hp5, hp16, hprow⟩, ⟨hnd, hd6, hd17, hdrow⟩, hsr⟩ := id J
  have E := X.E (nc := nc) (ns := ns) (by omega) (by omega)
  have hnf := tC.2.2.1.1
  have hna := tC.2.2.1.2.1
  have hgo := tC.2.2.1.2.2.2
  have hN := tC.n31
  have hs10 : s < 1024 := by omega
  have hne : ∀ a, a < na → ne a < 2 ^ nf := fun a ha => (tC.2.2.2.1 a (by omega)).2.1
  have had : ∀ a, a < na → ad a < 2 ^ nf := fun a ha => (tC.2.2.2.1 a (by omega)).2.2.1
  have hco9 : ∀ a, a < na → co a ≤ 9 := fun a ha => (tC.2.2.2.1 a (by omega)).1
  have hco1 : ∀ a, a < na → 1 ≤ co a := tC.2.2.2.2
  refine zd_aload_n E (pc := 565) d_law_565 rfl ?_
  refine zd_callVR E (pc := 566) d_law_566 kc_L_90 rfl ki_P_length ke_P_length 0 rfl rfl (c_P_length l D) ⟨by decide, by decide⟩ rfl (Nat.le_of_ble_eq_true rfl) (fun v1 ws1 hv1 => ?_)
  obtain ⟨rfl, rfl⟩ := hv1
  refine zd_aload_n E (pc := 569) d_law_569 rfl ?_
  refine zd_callVR E (pc := 570) d_law_570 kc_L_93 rfl ki_M_length ke_M_length 22 rfl rfl (c_M_length l D) ⟨by decide, by decide⟩ rfl (Nat.le_of_ble_eq_true rfl) (fun v1 ws1 hv1 => ?_)
  obtain ⟨rfl, rfl⟩ := hv1
  rw [hp5, hp16]
  refine zd_ic_eq E (pc := 573) 1010 d_law_573 (by decide) (fun h => ?_) (fun h => ?_)
  · exact zx_widen X (Nat.le_succ nc) (Nat.le_add_right ns 6) (kk _ r f _ _ ⟨nf, na, fi, go, co, ne, ad, dr, s, np, nd, dd, n0, o0, d0, sy_keep J (sy_eq.up v r _ rfl) (sr_keep hsr rfl rfl rfl)⟩)
  · exact absurd rfl h
set_option maxRecDepth 100000 in
set_option maxHeartbeats 4000000 in
theorem lw_c9 (K : lw_K Zf l D k b Ln xs) (hnc : nc + 1 ≤ 601024) (hns : ns + 6 ≤ 7293034) (hi : i + 4 ≤ Ln) (I : sy_I v r) (kk : lw_G Zf k q o b nc ns i) : Zf nc ns (wd k q v r (ow k o f)) [some (.ref b), some (.ref (q 0)), some (.ref (q 22)), some (.ref o), some (.int (nI i)), L5, L6] 578 [] := by
  obtain ⟨hl, X, hsld, hslen, hLn⟩ := K
  obtain ⟨nf, na, fi, go, co, ne, ad, dr, s, np, nd, dd, n0, o0, d0, J⟩ := I
  obtain ⟨tC, tM, hz, ⟨hs2, hs9, hs15⟩, ⟨hnp, hp5, hp16, hprow⟩, ⟨hnd, hd6, hd17, hdrow⟩, hsr⟩ := id J
  have E := X.E (nc := nc) (ns := ns) (by omega) (by omega)
  have hnf := tC.2.2.1.1
  have hna := tC.2.2.1.2.1
  have hgo := tC.2.2.1.2.2.2
  have hN := tC.n31
  have hs10 : s < 1024 := by omega
  have hne : ∀ a, a < na → ne a < 2 ^ nf := fun a ha => (tC.2.2.2.1 a (by omega)).2.1
  have had : ∀ a, a < na → ad a < 2 ^ nf := fun a ha => (tC.2.2.2.1 a (by omega)).2.2.1
  have hco9 : ∀ a, a < na → co a ≤ 9 := fun a ha => (tC.2.2.2.1 a (by omega)).1
  have hco1 : ∀ a, a < na → 1 ≤ co a := tC.2.2.2.2
  refine zd_aload_n E (pc := 578) d_law_578 rfl ?_
  refine zd_aload_n E (pc := 579) d_law_579 rfl ?_
  refine zd_iload E (pc := 580) d_law_580 rfl ?_
  refine zd_iconst E (pc := 582) (v := (nI 1)) d_law_582 (by decide) ?_
  refine zd_iadd E (pc := 583) d_law_583 ?_
  rw [nI_add]
  refine hsld _ _ _ _ _ _ (i + 1) d_law_584 (by omega) ?_
  refine zd_callVR E (pc := 585) d_law_585 kc_L_94 rfl ki_P_step ke_P_step 0 rfl rfl (c_P_step l D (xs (i + 1)) hp5 hnp) ⟨by decide, by decide⟩ rfl (Nat.le_of_ble_eq_true rfl) (fun v1 ws1 hv1 => ?_)
  obtain ⟨hA, rfl⟩ := hv1
  obtain ⟨x, rfl, hx⟩ : ∃ x, v1 = some (.int x) ∧ ((∃ j, j < np ∧ xs (i + 1) = nI j ∧ x = r 13 j) ∨ ((xs (i + 1) < 0 ∨ nI np ≤ xs (i + 1)) ∧ x = -1)) := by
    rcases hA with ⟨j, h1, h2, rfl⟩ | ⟨h1, rfl⟩
    · exact ⟨_, rfl, Or.inl ⟨j, h1, h2, rfl⟩⟩
    · exact ⟨_, rfl, Or.inr ⟨h1, rfl⟩⟩
  refine zd_aload_n E (pc := 588) d_law_588 rfl ?_
  refine zd_aload_n E (pc := 589) d_law_589 rfl ?_
  refine zd_iload E (pc := 590) d_law_590 rfl ?_
  refine zd_iconst E (pc := 592) (v := (nI 1)) d_law_592 (by decide) ?_
  refine zd_iadd E (pc := 593) d_law_593 ?_
  rw [nI_add]
  refine hsld _ _ _ _ _ _ (i + 1) d_law_594 (by omega) ?_
  refine zd_callVR E (pc := 595) d_law_595 kc_L_97 rfl ki_M_step ke_M_step 22 rfl rfl (c_M_step l D (xs (i + 1)) hp16 (by omega)) ⟨by decide, by decide⟩ rfl (Nat.le_of_ble_eq_true rfl) (fun v1 ws1 hv1 => ?_)
  obtain ⟨hB, rfl⟩ := hv1
  obtain ⟨y, rfl, hy⟩ : ∃ y, v1 = some (.int y) ∧ ((∃ j, j < np ∧ xs (i + 1) = nI j ∧ y = r 27 j) ∨ ((xs (i + 1) < 0 ∨ nI np ≤ xs (i + 1)) ∧ y = -1)) := by
    rcases hB with ⟨j, h1, h2, rfl⟩ | ⟨h1, rfl⟩
    · exact ⟨_, rfl, Or.inl ⟨j, h1, h2, rfl⟩⟩
    · exact ⟨_, rfl, Or.inr ⟨h1, rfl⟩⟩
  have hxy : x = y := by
    rcases hx with ⟨j, h1, h2, rfl⟩ | ⟨h1, rfl⟩
    · rcases hy with ⟨j', h3, h4, rfl⟩ | ⟨h3, rfl⟩
      · have e : j = j' := (nI_eq (by omega) (by omega)).mp (h2.symm.trans h4)
        subst e
        exact hprow j h1
      · rw [h2] at h3
        exfalso
        rcases h3 with z | z
        · exact nI_pos (by omega) z
        · have := (nI_leI (show np < 2 ^ 31 by omega) (show j < 2 ^ 31 by omega)).mp z
          omega
    · rcases hy with ⟨j', h3, h4, rfl⟩ | ⟨h3, rfl⟩
      · rw [h4] at h1
        exfalso
        rcases h1 with z | z
        · exact nI_pos (by omega) z
        · have := (nI_leI (show np < 2 ^ 31 by omega) (show j' < 2 ^ 31 by omega)).mp z
          omega
      · rfl
  subst hxy
  refine zd_ic_eq E (pc := 598) 1010 d_law_598 (by decide) (fun h => ?_) (fun h => ?_)
  · exact zx_widen X (Nat.le_succ nc) (Nat.le_add_right ns 6) (kk _ r f _ _ ⟨nf, na, fi, go, co, ne, ad, dr, s, np, nd, dd, n0, o0, d0, sy_keep J (sy_eq.up v r _ rfl) (sr_keep hsr rfl rfl rfl)⟩)
  · exact absurd rfl h
set_option maxRecDepth 100000 in
set_option maxHeartbeats 4000000 in
theorem lw_c10 (K : lw_K Zf l D k b Ln xs) (hnc : nc + 1 ≤ 601024) (hns : ns + 6 ≤ 7293034) (hi : i + 4 ≤ Ln) (I : sy_I v r) (kk : lw_G Zf k q o b nc ns i) : Zf nc ns (wd k q v r (ow k o f)) [some (.ref b), some (.ref (q 0)), some (.ref (q 22)), some (.ref o), some (.int (nI i)), L5, L6] 603 [] := by
  obtain ⟨hl, X, hsld, hslen, hLn⟩ := K
  obtain ⟨nf, na, fi, go, co, ne, ad, dr, s, np, nd, dd, n0, o0, d0, J⟩ := I
  obtain ⟨tC, tM, hz, ⟨hs2, hs9, hs15⟩, ⟨hnp, hp5, hp16, hprow⟩, ⟨hnd, hd6, hd17, hdrow⟩, hsr⟩ := id J
  have E := X.E (nc := nc) (ns := ns) (by omega) (by omega)
  have hnf := tC.2.2.1.1
  have hna := tC.2.2.1.2.1
  have hgo := tC.2.2.1.2.2.2
  have hN := tC.n31
  have hs10 : s < 1024 := by omega
  have hne : ∀ a, a < na → ne a < 2 ^ nf := fun a ha => (tC.2.2.2.1 a (by omega)).2.1
  have had : ∀ a, a < na → ad a < 2 ^ nf := fun a ha => (tC.2.2.2.1 a (by omega)).2.2.1
  have hco9 : ∀ a, a < na → co a ≤ 9 := fun a ha => (tC.2.2.2.1 a (by omega)).1
  have hco1 : ∀ a, a < na → 1 ≤ co a := tC.2.2.2.2
  refine zd_aload_n E (pc := 603) d_law_603 rfl ?_
  refine zd_callVR E (pc := 604) d_law_604 kc_L_98 rfl ki_P_states ke_P_states 0 rfl rfl (c_P_states l D tC hs9 hs10 hsr) ⟨by decide, by decide⟩ rfl (Nat.le_of_ble_eq_true rfl) (fun v1 ws1 hv1 => ?_)
  obtain ⟨v1, r1, n1, o1, d1, hfr, hs1, hok, rfl, rfl⟩ := hv1
  have S1 : sy_eq v v1 r r1 := ⟨fun i hi => hfr.1 i (by rintro rfl; cases hi), fun i hi => hfr.2 i (by rintro rfl; cases hi) (by rintro rfl; cases hi) (by rintro rfl; cases hi) (by rintro rfl; cases hi)⟩
  refine zd_aload_n E (pc := 607) d_law_607 rfl ?_
  refine zd_callVR E (pc := 608) d_law_608 kc_L_101 rfl ki_M_states ke_M_states 22 rfl rfl (c_M_states l D (sy_M tM S1) ((S1.1 15 rfl).trans hs15) hs2) ⟨by decide, by decide⟩ rfl (Nat.le_of_ble_eq_true rfl) (fun v1 ws1 hv1 => ?_)
  obtain ⟨r2, C, hr2, hC, rfl, rfl⟩ := hv1
  rw [ti_states had hs2 hok hC]
  have S2 : sy_eq v (upd v1 10 (nI 0)) r r2 := S1.trans ⟨fun i hi => pk_un (by rintro rfl; cases hi), fun i hi => hr2 i (by rintro rfl; cases hi)⟩
  refine zd_ic_eq E (pc := 611) 1010 d_law_611 (by decide) (fun h => ?_) (fun h => ?_)
  · exact zx_widen X (Nat.le_succ nc) (Nat.le_add_right ns 6) (kk _ r2 f _ _ ⟨nf, na, fi, go, co, ne, ad, dr, s, np, nd, dd, n1, o1, d1, sy_keep J S2 (sr_keep hs1 rfl (hr2 8 (by decide)) (hr2 9 (by decide)))⟩)
  · exact absurd rfl h
set_option maxRecDepth 100000 in
set_option maxHeartbeats 4000000 in
theorem lw_c13 (K : lw_K Zf l D k b Ln xs) (hnc : nc + 1 ≤ 601024) (hns : ns + 6 ≤ 7293034) (hi : i + 4 ≤ Ln) (I : sy_I v r) (kk : lw_G Zf k q o b nc ns i) : Zf nc ns (wd k q v r (ow k o f)) [some (.ref b), some (.ref (q 0)), some (.ref (q 22)), some (.ref o), some (.int (nI i)), L5, L6] 775 [] := by
  obtain ⟨hl, X, hsld, hslen, hLn⟩ := K
  obtain ⟨nf, na, fi, go, co, ne, ad, dr, s, np, nd, dd, n0, o0, d0, J⟩ := I
  obtain ⟨tC, tM, hz, ⟨hs2, hs9, hs15⟩, ⟨hnp, hp5, hp16, hprow⟩, ⟨hnd, hd6, hd17, hdrow⟩, hsr⟩ := id J
  have E := X.E (nc := nc) (ns := ns) (by omega) (by omega)
  have hnf := tC.2.2.1.1
  have hna := tC.2.2.1.2.1
  have hgo := tC.2.2.1.2.2.2
  have hN := tC.n31
  have hs10 : s < 1024 := by omega
  have hne : ∀ a, a < na → ne a < 2 ^ nf := fun a ha => (tC.2.2.2.1 a (by omega)).2.1
  have had : ∀ a, a < na → ad a < 2 ^ nf := fun a ha => (tC.2.2.2.1 a (by omega)).2.2.1
  have hco9 : ∀ a, a < na → co a ≤ 9 := fun a ha => (tC.2.2.2.1 a (by omega)).1
  have hco1 : ∀ a, a < na → 1 ≤ co a := tC.2.2.2.2
  have fin : ∀ w : Bool, Zf nc ns (wd k q v r (ow k o f)) [some (.ref b), some (.ref (q 0)), some (.ref (q 22)), some (.ref o), some (.int (nI i)), L5, L6] 790 [.int (nI (bm_b w)), .ref (q 0)] → True := fun _ _ => trivial
  have go1 : ∀ (w : Bool), (xs (i + 1) = 0 ↔ w = false) → Zf nc ns (wd k q v r (ow k o f)) [some (.ref b), some (.ref (q 0)), some (.ref (q 22)), some (.ref o), some (.int (nI i)), L5, L6] 790 [.int (nI (bm_b w)), .ref (q 0)] := by
    intro w hw
    refine zd_callVR E (pc := 790) d_law_790 kc_L_110 rfl ki_P_bound ke_P_bound 0 rfl rfl (c_P_bound l D (w := w) tC hs9 hs10) ⟨by decide, by decide⟩ rfl (Nat.le_of_ble_eq_true rfl) (fun v1 ws1 hv1 => ?_)
    obtain ⟨r1, x, hr1, hx, rfl, rfl⟩ := hv1
    have S1 : sy_eq v v r r1 := ⟨fun _ _ => rfl, fun i hi => hr1 i (by rintro rfl; cases hi)⟩
    have go2 : Zf nc ns (wd k q v r1 (ow k o f)) [some (.ref b), some (.ref (q 0)), some (.ref (q 22)), some (.ref o), some (.int (nI i)), L5, L6] 808 [.int (nI (bm_b w)), .ref (q 22), .int (if 1000000 ≤ x then -1 else nI x)] := by
      refine zd_callVR E (pc := 808) d_law_808 kc_L_114 rfl ki_M_bound ke_M_bound 22 rfl rfl (c_M_bound l D (w := w) (sy_M tM S1) hs15 hs2) ⟨by decide, by decide⟩ rfl (Nat.le_of_ble_eq_true rfl) (fun v1 ws1 hv1 => ?_)
      obtain ⟨r2, h, hr2, hlv, rfl, rfl⟩ := hv1
      obtain ⟨hL, hf1, -⟩ := ti_lv hnf hne hco9 (bar := fun _ => false) (fun _ _ => rfl) hlv
      obtain ⟨g1, g2⟩ := ti_join (w := w) hnf hgo hL hf1
      rw [← hx] at g1 g2
      rw [ti_ans g1 g2]
      have S2 : sy_eq v (upd v 10 (nI 0)) r r2 := S1.trans ⟨fun i hi => pk_un (by rintro rfl; cases hi), fun i hi => hr2 i (by rintro rfl; cases hi) (by rintro rfl; cases hi)⟩
      refine zd_ic_eq E (pc := 811) 1010 d_law_811 (by decide) (fun h => ?_) (fun h => ?_)
      · exact zx_widen X (Nat.le_succ nc) (Nat.le_add_right ns 6) (kk _ r2 f _ _ ⟨nf, na, fi, go, co, ne, ad, dr, s, np, nd, dd, n0, o0, d0, sy_keep J S2 (sr_keep hsr rfl ((hr2 8 (by decide) (by decide)).trans (hr1 8 (by decide))) ((hr2 9 (by decide) (by decide)).trans (hr1 9 (by decide))))⟩)
      · exact absurd rfl h
    refine zd_aload_n E (pc := 793) d_law_793 rfl ?_
    refine zd_aload_n E (pc := 794) d_law_794 rfl ?_
    refine zd_iload E (pc := 795) d_law_795 rfl ?_
    refine zd_iconst E (pc := 797) (v := (nI 1)) d_law_797 (by decide) ?_
    refine zd_iadd E (pc := 798) d_law_798 ?_
    rw [nI_add]
    refine hsld _ _ _ _ _ _ (i + 1) d_law_799 (by omega) ?_
    refine zd_if_eq E (pc := 800) 807 d_law_800 (by decide) (fun h0 => ?_) (fun h0 => ?_)
    · refine zd_iconst E (pc := 807) (v := (nI 0)) d_law_807 (by decide) ?_
      have e := hw.mp h0
      subst e
      exact go2
    · refine zd_iconst E (pc := 803) (v := (nI 1)) d_law_803 (by decide) ?_
      refine zd_goto E (pc := 804) 808 d_law_804 (by decide) ?_
      have e : w = true := by
        cases w with
        | false => exact absurd (hw.mpr rfl) h0
        | true => rfl
      subst e
      exact go2
  refine zd_aload_n E (pc := 775) d_law_775 rfl ?_
  refine zd_aload_n E (pc := 776) d_law_776 rfl ?_
  refine zd_iload E (pc := 777) d_law_777 rfl ?_
  refine zd_iconst E (pc := 779) (v := (nI 1)) d_law_779 (by decide) ?_
  refine zd_iadd E (pc := 780) d_law_780 ?_
  rw [nI_add]
  refine hsld _ _ _ _ _ _ (i + 1) d_law_781 (by omega) ?_
  refine zd_if_eq E (pc := 782) 789 d_law_782 (by decide) (fun h0 => ?_) (fun h0 => ?_)
  · refine zd_iconst E (pc := 789) (v := (nI 0)) d_law_789 (by decide) ?_
    exact go1 false ⟨fun _ => rfl, fun _ => h0⟩
  · refine zd_iconst E (pc := 785) (v := (nI 1)) d_law_785 (by decide) ?_
    refine zd_goto E (pc := 786) 790 d_law_786 (by decide) ?_
    exact go1 true ⟨fun z => absurd z h0, fun z => by cases z⟩
set_option maxRecDepth 100000 in
set_option maxHeartbeats 4000000 in
theorem lw_c14 (K : lw_K Zf l D k b Ln xs) (hnc : nc + 1 ≤ 601024) (hns : ns + 6 ≤ 7293034) (hi : i + 4 ≤ Ln) (I : sy_I v r) (kk : lw_G Zf k q o b nc ns i) : Zf nc ns (wd k q v r (ow k o f)) [some (.ref b), some (.ref (q 0)), some (.ref (q 22)), some (.ref o), some (.int (nI i)), L5, L6] 816 [] := by
  obtain ⟨hl, X, hsld, hslen, hLn⟩ := K
  obtain ⟨nf, na, fi, go, co, ne, ad, dr, s, np, nd, dd, n0, o0, d0, J⟩ := I
  obtain ⟨tC, tM, hz, ⟨hs2, hs9, hs15⟩, ⟨hnp, hp5, hp16, hprow⟩, ⟨hnd, hd6, hd17, hdrow⟩, hsr⟩ := id J
  have E := X.E (nc := nc) (ns := ns) (by omega) (by omega)
  have hnf := tC.2.2.1.1
  have hna := tC.2.2.1.2.1
  have hgo := tC.2.2.1.2.2.2
  have hN := tC.n31
  have hs10 : s < 1024 := by omega
  have hne : ∀ a, a < na → ne a < 2 ^ nf := fun a ha => (tC.2.2.2.1 a (by omega)).2.1
  have had : ∀ a, a < na → ad a < 2 ^ nf := fun a ha => (tC.2.2.2.1 a (by omega)).2.2.1
  have hco9 : ∀ a, a < na → co a ≤ 9 := fun a ha => (tC.2.2.2.1 a (by omega)).1
  have hco1 : ∀ a, a < na → 1 ≤ co a := tC.2.2.2.2
  refine zd_aload_n E (pc := 816) d_law_816 rfl ?_
  refine zd_callVR E (pc := 817) d_law_817 kc_L_115 rfl ki_P_cuts ke_P_cuts 0 rfl rfl (c_P_cuts l D tC hs9 hs10) ⟨by decide, by decide⟩ rfl (Nat.le_of_ble_eq_true rfl) (fun v1 ws1 hv1 => ?_)
  obtain ⟨v1, r1, m1, C1, x, hv1, hr1, hcs, rfl, rfl⟩ := hv1
  have S1 : sy_eq v v1 r r1 := ⟨fun i hi => hv1 i (by rintro rfl; cases hi) (by rintro rfl; cases hi), fun i hi => hr1 i (by rintro rfl; cases hi) (by rintro rfl; cases hi) (by rintro rfl; cases hi) (by rintro rfl; cases hi)⟩
  refine zd_aload_n E (pc := 820) d_law_820 rfl ?_
  refine zd_callVR E (pc := 821) d_law_821 kc_L_118 rfl ki_M_cuts ke_M_cuts 22 rfl rfl (c_M_cuts l D (sy_M tM S1) ((S1.1 15 rfl).trans hs15) hs2) ⟨by decide, by decide⟩ rfl (Nat.le_of_ble_eq_true rfl) (fun v1 ws1 hv1 => ?_)
  obtain ⟨v2, r2, m2, C2, y, hv2, hr2, hmc, rfl, rfl⟩ := hv1
  obtain ⟨rfl, -, -⟩ := ti_cuts hnf hne hgo hco9 hcs hmc
  have S2 : sy_eq v v2 r r2 := S1.trans ⟨fun i hi => hv2 i (by rintro rfl; cases hi) (by rintro rfl; cases hi) (by rintro rfl; cases hi), fun i hi => hr2 i (by rintro rfl; cases hi) (by rintro rfl; cases hi) (by rintro rfl; cases hi)⟩
  refine zd_ic_eq E (pc := 824) 1010 d_law_824 (by decide) (fun h => ?_) (fun h => ?_)
  · exact zx_widen X (Nat.le_succ nc) (Nat.le_add_right ns 6) (kk _ r2 f _ _ ⟨nf, na, fi, go, co, ne, ad, dr, s, np, nd, dd, n0, o0, d0, sy_keep J S2 (sr_keep hsr ((hv2 4 (by decide) (by decide) (by decide)).trans (hv1 4 (by decide) (by decide))) ((hr2 8 (by decide) (by decide) (by decide)).trans (hr1 8 (by decide) (by decide) (by decide) (by decide))) ((hr2 9 (by decide) (by decide) (by decide)).trans (hr1 9 (by decide) (by decide) (by decide) (by decide))))⟩)
  · exact absurd rfl h
set_option maxRecDepth 100000 in
set_option maxHeartbeats 4000000 in
theorem lw_c15 (K : lw_K Zf l D k b Ln xs) (hnc : nc + 1 ≤ 601024) (hns : ns + 6 ≤ 7293034) (hi : i + 4 ≤ Ln) (I : sy_I v r) (kk : lw_G Zf k q o b nc ns i) : Zf nc ns (wd k q v r (ow k o f)) [some (.ref b), some (.ref (q 0)), some (.ref (q 22)), some (.ref o), some (.int (nI i)), L5, L6] 829 [] := by
  obtain ⟨hl, X, hsld, hslen, hLn⟩ := K
  obtain ⟨nf, na, fi, go, co, ne, ad, dr, s, np, nd, dd, n0, o0, d0, J⟩ := I
  obtain ⟨tC, tM, hz, ⟨hs2, hs9, hs15⟩, ⟨hnp, hp5, hp16, hprow⟩, ⟨hnd, hd6, hd17, hdrow⟩, hsr⟩ := id J
  have E := X.E (nc := nc) (ns := ns) (by omega) (by omega)
  have hnf := tC.2.2.1.1
  have hna := tC.2.2.1.2.1
  have hgo := tC.2.2.1.2.2.2
  have hN := tC.n31
  have hs10 : s < 1024 := by omega
  have hne : ∀ a, a < na → ne a < 2 ^ nf := fun a ha => (tC.2.2.2.1 a (by omega)).2.1
  have had : ∀ a, a < na → ad a < 2 ^ nf := fun a ha => (tC.2.2.2.1 a (by omega)).2.2.1
  have hco9 : ∀ a, a < na → co a ≤ 9 := fun a ha => (tC.2.2.2.1 a (by omega)).1
  have hco1 : ∀ a, a < na → 1 ≤ co a := tC.2.2.2.2
  refine zd_aload_n E (pc := 829) d_law_829 rfl ?_
  refine zd_aload_n E (pc := 830) d_law_830 rfl ?_
  refine zd_iload E (pc := 831) d_law_831 rfl ?_
  refine zd_iconst E (pc := 833) (v := (nI 1)) d_law_833 (by decide) ?_
  refine zd_iadd E (pc := 834) d_law_834 ?_
  rw [nI_add]
  refine hsld _ _ _ _ _ _ (i + 1) d_law_835 (by omega) ?_
  refine zd_callVR E (pc := 836) d_law_836 kc_L_119 rfl ki_P_cut ke_P_cut 0 rfl rfl (c_P_cut l D (xs (i + 1)) tC hs9 hs10) ⟨by decide, by decide⟩ rfl (Nat.le_of_ble_eq_true rfl) (fun v1 ws1 hv1 => ?_)
  obtain ⟨u1, r1, m1, C1, x, hu1, hr1, hcs, hA, rfl⟩ := hv1
  have S1 : sy_eq v u1 r r1 := ⟨fun i hi => hu1 i (by rintro rfl; cases hi) (by rintro rfl; cases hi), fun i hi => hr1 i (by rintro rfl; cases hi) (by rintro rfl; cases hi) (by rintro rfl; cases hi) (by rintro rfl; cases hi)⟩
  obtain ⟨x1, rfl, hx⟩ : ∃ x1, v1 = some (.int x1) ∧ ((∃ j, j < m1 ∧ xs (i + 1) = nI j ∧ x1 = nI (C1 j)) ∨ ((xs (i + 1) < 0 ∨ nI m1 ≤ xs (i + 1)) ∧ x1 = nI 0)) := by
    rcases hA with ⟨j, h1, h2, rfl⟩ | ⟨h1, rfl⟩
    · exact ⟨_, rfl, Or.inl ⟨j, h1, h2, rfl⟩⟩
    · exact ⟨_, rfl, Or.inr ⟨h1, rfl⟩⟩
  refine zd_aload_n E (pc := 839) d_law_839 rfl ?_
  refine zd_aload_n E (pc := 840) d_law_840 rfl ?_
  refine zd_iload E (pc := 841) d_law_841 rfl ?_
  refine zd_iconst E (pc := 843) (v := (nI 1)) d_law_843 (by decide) ?_
  refine zd_iadd E (pc := 844) d_law_844 ?_
  rw [nI_add]
  refine hsld _ _ _ _ _ _ (i + 1) d_law_845 (by omega) ?_
  refine zd_callVR E (pc := 846) d_law_846 kc_L_122 rfl ki_M_cut ke_M_cut 22 rfl rfl (c_M_cut l D (xs (i + 1)) (sy_M tM S1) ((S1.1 15 rfl).trans hs15) hs2) ⟨by decide, by decide⟩ rfl (Nat.le_of_ble_eq_true rfl) (fun v1 ws1 hv1 => ?_)
  obtain ⟨v2, r2, m2, C2, y, y1, hv2, hr2, hmc, hy, rfl, rfl⟩ := hv1
  obtain ⟨-, rfl, hCC⟩ := ti_cuts hnf hne hgo hco9 hcs hmc
  obtain ⟨cc, pp, hh, -, hm12, -⟩ := hmc
  have hxy : x1 = y1 := by
    rcases hx with ⟨j, h1, h2, rfl⟩ | ⟨h1, rfl⟩
    · rcases hy with ⟨j', h3, h4, rfl⟩ | ⟨h3, rfl⟩
      · have e : j = j' := (nI_eq (by omega) (by omega)).mp (h2.symm.trans h4)
        subst e
        rw [hCC j h1]
      · rw [h2] at h3
        exfalso
        rcases h3 with z | z
        · exact nI_pos (by omega) z
        · have := (nI_leI (show m1 < 2 ^ 31 by omega) (show j < 2 ^ 31 by omega)).mp z
          omega
    · rcases hy with ⟨j', h3, h4, rfl⟩ | ⟨h3, rfl⟩
      · rw [h4] at h1
        exfalso
        rcases h1 with z | z
        · exact nI_pos (by omega) z
        · have := (nI_leI (show m1 < 2 ^ 31 by omega) (show j' < 2 ^ 31 by omega)).mp z
          omega
      · rfl
  subst hxy
  have S2 : sy_eq v v2 r r2 := S1.trans ⟨fun i hi => hv2 i (by rintro rfl; cases hi) (by rintro rfl; cases hi) (by rintro rfl; cases hi), fun i hi => hr2 i (by rintro rfl; cases hi) (by rintro rfl; cases hi) (by rintro rfl; cases hi)⟩
  refine zd_ic_eq E (pc := 849) 1010 d_law_849 (by decide) (fun h => ?_) (fun h => ?_)
  · exact zx_widen X (Nat.le_succ nc) (Nat.le_add_right ns 6) (kk _ r2 f _ _ ⟨nf, na, fi, go, co, ne, ad, dr, s, np, nd, dd, n0, o0, d0, sy_keep J S2 (sr_keep hsr ((hv2 4 (by decide) (by decide) (by decide)).trans (hu1 4 (by decide) (by decide))) ((hr2 8 (by decide) (by decide) (by decide)).trans (hr1 8 (by decide) (by decide) (by decide) (by decide))) ((hr2 9 (by decide) (by decide) (by decide)).trans (hr1 9 (by decide) (by decide) (by decide) (by decide))))⟩)
  · exact absurd rfl h
set_option maxRecDepth 100000 in
set_option maxHeartbeats 4000000 in
theorem lw_c19 (K : lw_K Zf l D k b Ln xs) (hnc : nc + 1 ≤ 601024) (hns : ns + 6 ≤ 7293034) (hi : i + 4 ≤ Ln) (I : sy_I v r) (kk : lw_G Zf k q o b nc ns i) : Zf nc ns (wd k q v r (ow k o f)) [some (.ref b), some (.ref (q 0)), some (.ref (q 22)), some (.ref o), some (.int (nI i)), L5, L6] 984 [] := by
  obtain ⟨hl, X, hsld, hslen, hLn⟩ := K
  obtain ⟨nf, na, fi, go, co, ne, ad, dr, s, np, nd, dd, n0, o0, d0, J⟩ := I
  obtain ⟨tC, tM, hz, ⟨hs2, hs9, hs15⟩, ⟨hnp, hp5, hp16, hprow⟩, ⟨hnd, hd6, hd17, hdrow⟩, hsr⟩ := id J
  have E := X.E (nc := nc) (ns := ns) (by omega) (by omega)
  have hnf := tC.2.2.1.1
  have hna := tC.2.2.1.2.1
  have hgo := tC.2.2.1.2.2.2
  have hN := tC.n31
  have hs10 : s < 1024 := by omega
  have hne : ∀ a, a < na → ne a < 2 ^ nf := fun a ha => (tC.2.2.2.1 a (by omega)).2.1
  have had : ∀ a, a < na → ad a < 2 ^ nf := fun a ha => (tC.2.2.2.1 a (by omega)).2.2.1
  have hco9 : ∀ a, a < na → co a ≤ 9 := fun a ha => (tC.2.2.2.1 a (by omega)).1
  have hco1 : ∀ a, a < na → 1 ≤ co a := tC.2.2.2.2
  refine zd_aload_n E (pc := 984) d_law_984 rfl ?_
  refine zd_callVR E (pc := 985) d_law_985 kc_L_133 rfl ki_P_check ke_P_check 0 rfl rfl (c_P_check l D (di := dd) tC hs9 hs10 hd6 hnd (fun j hj => ⟨(hdrow j hj).1, (hdrow j hj).2.2⟩)) ⟨by decide, by decide⟩ rfl (Nat.le_of_ble_eq_true rfl) (fun v1 ws1 hv1 => ?_)
  obtain ⟨rfl, rfl⟩ := hv1
  refine zd_aload_n E (pc := 988) d_law_988 rfl ?_
  refine zd_callVR E (pc := 989) d_law_989 kc_L_136 rfl ki_M_check ke_M_check 22 rfl rfl (c_M_check l D (di := dd) tM hs15 hs10 hd17 hnd (fun j hj => ⟨(hdrow j hj).2.1, (hdrow j hj).2.2⟩)) ⟨by decide, by decide⟩ rfl (Nat.le_of_ble_eq_true rfl) (fun v1 ws1 hv1 => ?_)
  obtain ⟨rfl, rfl⟩ := hv1
  refine zd_ic_eq E (pc := 992) 1010 d_law_992 (by decide) (fun h => ?_) (fun h => ?_)
  · exact zx_widen X (Nat.le_succ nc) (Nat.le_add_right ns 6) (kk _ r f _ _ ⟨nf, na, fi, go, co, ne, ad, dr, s, np, nd, dd, n0, o0, d0, sy_keep J (sy_eq.up v r _ rfl) (sr_keep hsr rfl rfl rfl)⟩)
  · exact absurd rfl h
set_option maxRecDepth 100000 in
set_option maxHeartbeats 4000000 in
theorem lw_c20 (K : lw_K Zf l D k b Ln xs) (hnc : nc + 1 ≤ 601024) (hns : ns + 6 ≤ 7293034) (hi : i + 4 ≤ Ln) (I : sy_I v r) (kk : lw_G Zf k q o b nc ns i) : Zf nc ns (wd k q v r (ow k o f)) [some (.ref b), some (.ref (q 0)), some (.ref (q 22)), some (.ref o), some (.int (nI i)), L5, L6] 997 [] := by
  obtain ⟨hl, X, hsld, hslen, hLn⟩ := K
  obtain ⟨nf, na, fi, go, co, ne, ad, dr, s, np, nd, dd, n0, o0, d0, J⟩ := I
  obtain ⟨tC, tM, hz, ⟨hs2, hs9, hs15⟩, ⟨hnp, hp5, hp16, hprow⟩, ⟨hnd, hd6, hd17, hdrow⟩, hsr⟩ := id J
  have E := X.E (nc := nc) (ns := ns) (by omega) (by omega)
  have hnf := tC.2.2.1.1
  have hna := tC.2.2.1.2.1
  have hgo := tC.2.2.1.2.2.2
  have hN := tC.n31
  have hs10 : s < 1024 := by omega
  have hne : ∀ a, a < na → ne a < 2 ^ nf := fun a ha => (tC.2.2.2.1 a (by omega)).2.1
  have had : ∀ a, a < na → ad a < 2 ^ nf := fun a ha => (tC.2.2.2.1 a (by omega)).2.2.1
  have hco9 : ∀ a, a < na → co a ≤ 9 := fun a ha => (tC.2.2.2.1 a (by omega)).1
  have hco1 : ∀ a, a < na → 1 ≤ co a := tC.2.2.2.2
  refine zd_aload_n E (pc := 997) d_law_997 rfl ?_
  refine zd_callVR E (pc := 998) d_law_998 kc_L_137 rfl ki_P_cost ke_P_cost 0 rfl rfl (c_P_cost l D (di := dd) tC hd6 hnd (fun j hj => ⟨(hdrow j hj).1, (hdrow j hj).2.2⟩)) ⟨by decide, by decide⟩ rfl (Nat.le_of_ble_eq_true rfl) (fun v1 ws1 hv1 => ?_)
  obtain ⟨rfl, rfl⟩ := hv1
  refine zd_aload_n E (pc := 1001) d_law_1001 rfl ?_
  refine zd_callVR E (pc := 1002) d_law_1002 kc_L_140 rfl ki_M_cost ke_M_cost 22 rfl rfl (c_M_cost l D (di := dd) tM hd17 hnd (fun j hj => ⟨(hdrow j hj).2.1, (hdrow j hj).2.2⟩)) ⟨by decide, by decide⟩ rfl (Nat.le_of_ble_eq_true rfl) (fun v1 ws1 hv1 => ?_)
  obtain ⟨rfl, rfl⟩ := hv1
  refine zd_ic_eq E (pc := 1005) 1010 d_law_1005 (by decide) (fun h => ?_) (fun h => ?_)
  · exact zx_widen X (Nat.le_succ nc) (Nat.le_add_right ns 6) (kk _ r f _ _ ⟨nf, na, fi, go, co, ne, ad, dr, s, np, nd, dd, n0, o0, d0, sy_keep J (sy_eq.up v r _ rfl) (sr_keep hsr rfl rfl rfl)⟩)
  · exact absurd rfl h
end LC
