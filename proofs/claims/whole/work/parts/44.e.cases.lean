/-! The law's turns: the calls that may refuse, whole. -/
section LE
variable {Zf : Nat → Nat → va_W → List (Option Value) → Nat → List Value → Prop} {l : Launch} {D : va_G} {k : Nat → ClassId} {q : Nat → Nat} {o b Ln nc ns i : Nat} {xs : Nat → Int32} {v : Nat → Int32} {r : Nat → Nat → Int32} {f : Nat → Int64} {L5 L6 : Option Value}
theorem lx_b (x : Int32) : ∃ w : Bool, (x = 0 ↔ w = false) := by
  by_cases h : x = 0
  · exact ⟨false, fun _ => rfl, fun _ => h⟩
  · exact ⟨true, fun z => absurd z h, fun z => by cases z⟩
theorem lx_bt {x : Int32} {w : Bool} (hw : x = 0 ↔ w = false) (h : ¬ x = 0) : w = true := by
  cases w with
  | false => exact absurd (hw.mpr rfl) h
  | true => rfl
theorem lx_ix (x : Int32) {n : Nat} (hn : n < 100) : (x < 0 ∨ nI n ≤ x) ∨ ∃ a : Nat, a < n ∧ x = nI a := by
  rcases pk_ix x (n := n) (by omega) with z | z | z
  · exact Or.inl (Or.inl z)
  · exact Or.inl (Or.inr z)
  · exact Or.inr z
theorem lx_row {r : Nat → Int32} {m : Nat → Nat} (h : ∀ i, i < 12 → r i = nI (m i)) (a y : Nat) : ∀ i, i < 12 → upd r a (nI y) i = nI (va_up m a y i) := fun i hi => by
  by_cases e : i = a
  · subst e; rw [pk_us, va_up_self]
  · rw [pk_un e, va_up_ne _ _ e]; exact h i hi
theorem lx_bb {b : Bool} : (if nI (bm_b b) = 0 then (0 : Int64) else 1) = (if b = true then 1 else 0) := by cases b <;> decide
theorem lx_01 {P : Prop} [Decidable P] : (if nI (if P then 1 else 0) = 0 then (0 : Int64) else 1) = (if P then 1 else 0) := by
  by_cases h : P
  · rw [if_pos h, if_pos h]; decide
  · rw [if_neg h, if_neg h]; decide
section TG
variable {vv vv' : Nat → Int32} {rr rr' : Nat → Nat → Int32} {nf na fi go : Nat} {co ne ad dr : Nat → Nat}
theorem tk_fact (t : tk_C vv rr nf na fi go co ne ad dr) (hn : nf < 10) {b1 b2 : Bool} (h0 : vv' 0 = nI (nf + 1)) (h1 : vv' 1 = vv 1) (h2 : vv' 2 = nI (if b1 = true then fi ||| 2 ^ nf else fi)) (h3 : vv' 3 = nI (if b2 = true then go ||| 2 ^ nf else go)) : tk_C vv' rr (nf + 1) na (if b1 = true then fi ||| 2 ^ nf else fi) (if b2 = true then go ||| 2 ^ nf else go) co ne ad dr := by
  obtain ⟨⟨a0, a1, a2, a3⟩, hb, ⟨c1, c2, c3, c4⟩, hd, he⟩ := t
  have hp : 2 ^ nf < 2 ^ (nf + 1) := Nat.pow_lt_pow_right (by omega) (by omega)
  have or_lt : ∀ x, x < 2 ^ nf → x ||| 2 ^ nf < 2 ^ (nf + 1) := fun x hx => Nat.or_lt_two_pow (by omega) hp
  refine ⟨⟨h0, h1.trans a1, h2, h3⟩, hb, ⟨by omega, c2, ?_, ?_⟩, fun i hi => ?_, he⟩
  · split
    · exact or_lt fi c3
    · omega
  · split
    · exact or_lt go c4
    · omega
  · obtain ⟨d1, d2, d3, d4⟩ := hd i hi
    exact ⟨d1, by omega, by omega, by omega⟩
theorem tk_action (t : tk_C vv rr nf na fi go co ne ad dr) (hn : na < 12) {p : Nat} (hp1 : 1 ≤ p) (hp9 : p ≤ 9) (h0 : vv' 0 = vv 0) (h1 : vv' 1 = nI (na + 1)) (h2 : vv' 2 = vv 2) (h3 : vv' 3 = vv 3) (hr2 : ∀ i, i < 12 → rr' 2 i = nI (va_up co na p i)) (hr4 : ∀ i, i < 12 → rr' 4 i = nI (ne i)) (hr5 : ∀ i, i < 12 → rr' 5 i = nI (ad i)) (hr6 : ∀ i, i < 12 → rr' 6 i = nI (dr i)) : tk_C vv' rr' nf (na + 1) fi go (va_up co na p) ne ad dr := by
  obtain ⟨⟨a0, a1, a2, a3⟩, hb, ⟨c1, c2, c3, c4⟩, hd, he⟩ := t
  refine ⟨⟨h0.trans a0, h1, h2.trans a2, h3.trans a3⟩, fun i hi => ⟨hr2 i hi, hr4 i hi, hr5 i hi, hr6 i hi⟩, ⟨c1, by omega, c3, c4⟩, fun i hi => ?_, fun i hi => ?_⟩
  · obtain ⟨d1, d2, d3, d4⟩ := hd i hi
    refine ⟨?_, d2, d3, d4⟩
    by_cases e : i = na
    · subst e; rw [va_up_self]; exact hp9
    · rw [va_up_ne _ _ e]; exact d1
  · by_cases e : i = na
    · subst e; rw [va_up_self]; exact hp1
    · rw [va_up_ne _ _ e]; exact he i (by omega)
theorem tk_link0 (t : tk_C vv rr nf na fi go co ne ad dr) {a f : Nat} (hf : f < nf) (hv : ∀ i, i < 4 → vv' i = vv i) (hr2 : rr' 2 = rr 2) (hr4 : ∀ i, i < 12 → rr' 4 i = nI (va_up ne a (ne a ||| 2 ^ f) i)) (hr5 : rr' 5 = rr 5) (hr6 : rr' 6 = rr 6) (ha : a < 12) : tk_C vv' rr' nf na fi go co (va_up ne a (ne a ||| 2 ^ f)) ad dr := by
  obtain ⟨⟨a0, a1, a2, a3⟩, hb, c, hd, he⟩ := t
  refine ⟨⟨(hv 0 (by decide)).trans a0, (hv 1 (by decide)).trans a1, (hv 2 (by decide)).trans a2, (hv 3 (by decide)).trans a3⟩, fun i hi => ⟨by rw [hr2]; exact (hb i hi).1, hr4 i hi, by rw [hr5]; exact (hb i hi).2.2.1, by rw [hr6]; exact (hb i hi).2.2.2⟩, c, fun i hi => ?_, he⟩
  obtain ⟨d1, d2, d3, d4⟩ := hd i hi
  refine ⟨d1, ?_, d3, d4⟩
  by_cases e : i = a
  · subst e; rw [va_up_self]; exact Nat.or_lt_two_pow d2 (Nat.pow_lt_pow_right (by omega) hf)
  · rw [va_up_ne _ _ e]; exact d2
theorem tk_link1 (t : tk_C vv rr nf na fi go co ne ad dr) {a f : Nat} (hf : f < nf) (hv : ∀ i, i < 4 → vv' i = vv i) (hr2 : rr' 2 = rr 2) (hr4 : rr' 4 = rr 4) (hr5 : ∀ i, i < 12 → rr' 5 i = nI (va_up ad a (ad a ||| 2 ^ f) i)) (hr6 : rr' 6 = rr 6) (ha : a < 12) : tk_C vv' rr' nf na fi go co ne (va_up ad a (ad a ||| 2 ^ f)) dr := by
  obtain ⟨⟨a0, a1, a2, a3⟩, hb, c, hd, he⟩ := t
  refine ⟨⟨(hv 0 (by decide)).trans a0, (hv 1 (by decide)).trans a1, (hv 2 (by decide)).trans a2, (hv 3 (by decide)).trans a3⟩, fun i hi => ⟨by rw [hr2]; exact (hb i hi).1, by rw [hr4]; exact (hb i hi).2.1, hr5 i hi, by rw [hr6]; exact (hb i hi).2.2.2⟩, c, fun i hi => ?_, he⟩
  obtain ⟨d1, d2, d3, d4⟩ := hd i hi
  refine ⟨d1, d2, ?_, d4⟩
  by_cases e : i = a
  · subst e; rw [va_up_self]; exact Nat.or_lt_two_pow d3 (Nat.pow_lt_pow_right (by omega) hf)
  · rw [va_up_ne _ _ e]; exact d3
theorem tk_link2 (t : tk_C vv rr nf na fi go co ne ad dr) {a f : Nat} (hf : f < nf) (hv : ∀ i, i < 4 → vv' i = vv i) (hr2 : rr' 2 = rr 2) (hr4 : rr' 4 = rr 4) (hr5 : rr' 5 = rr 5) (hr6 : ∀ i, i < 12 → rr' 6 i = nI (va_up dr a (dr a ||| 2 ^ f) i)) (ha : a < 12) : tk_C vv' rr' nf na fi go co ne ad (va_up dr a (dr a ||| 2 ^ f)) := by
  obtain ⟨⟨a0, a1, a2, a3⟩, hb, c, hd, he⟩ := t
  refine ⟨⟨(hv 0 (by decide)).trans a0, (hv 1 (by decide)).trans a1, (hv 2 (by decide)).trans a2, (hv 3 (by decide)).trans a3⟩, fun i hi => ⟨by rw [hr2]; exact (hb i hi).1, by rw [hr4]; exact (hb i hi).2.1, by rw [hr5]; exact (hb i hi).2.2.1, hr6 i hi⟩, c, fun i hi => ?_, he⟩
  obtain ⟨d1, d2, d3, d4⟩ := hd i hi
  refine ⟨d1, d2, d3, ?_⟩
  by_cases e : i = a
  · subst e; rw [va_up_self]; exact Nat.or_lt_two_pow d4 (Nat.pow_lt_pow_right (by omega) hf)
  · rw [va_up_ne _ _ e]; exact d4
end TG
set_option maxRecDepth 100000 in
set_option maxHeartbeats 4000000 in
theorem lw_c1 (K : lw_K Zf l D k b Ln xs) (hnc : nc + 1 ≤ 601024) (hns : ns + 6 ≤ 7293034) (hi : i + 4 ≤ Ln) (I : sy_I v r) (kk : lw_G Zf k q o b nc ns i) : Zf nc ns (wd k q v r (ow k o f)) [some (.ref b), some (.ref (q 0)), some (.ref (q 22)), some (.ref o), some (.int (nI i)), L5, L6] 236 [] := by
  obtain ⟨hl, X, hsld, hslen, hLn⟩ := id K
  obtain ⟨nf, na, fi, go, co, ne, ad, dr, s, np, nd, dd, n0, o0, d0, J⟩ := I
  obtain ⟨tC, tM, hz, ⟨hs2, hs9, hs15⟩, ⟨hnp, hp5, hp16, hprow⟩, ⟨hnd, hd6, hd17, hdrow⟩, hsr⟩ := id J
  have E := X.E (nc := nc) (ns := ns) (by omega) (by omega)
  have hnf := tC.2.2.1.1
  have hna := tC.2.2.1.2.1
  have hgo := tC.2.2.1.2.2.2
  have hN := tC.n31
  have hs10 : s < 1024 := by omega
  have hne : ∀ a, a < na → ne a < 2 ^ nf := fun a ha => (tC.2.2.2.1 a (by omega)).2.1
  have had : ∀ a, a < na → ad a < 2 ^ nf := fun a ha => (tC.2.2.2.1 a (by omega)).2.2.1
  have hco9 : ∀ a, a < na → co a ≤ 9 := fun a ha => (tC.2.2.2.1 a (by omega)).1
  have hco1 : ∀ a, a < na → 1 ≤ co a := tC.2.2.2.2
  have mid : ∀ (v1 : Nat → Int32) (r1 : Nat → Nat → Int32) (f1 : Nat → Int64) (kc : Nat), Zf (nc + 1) (ns + 6) (wd k q v1 r1 (ow k o f1)) [some (.ref b), some (.ref (q 0)), some (.ref (q 22)), some (.ref o), some (.int (nI i)), some (.int (nI kc)), L6] 256 [.int (xs (i + 1)), .ref (q 22)] → Zf (nc + 1) (ns + 6) (wd k q v1 r1 (ow k o f1)) [some (.ref b), some (.ref (q 0)), some (.ref (q 22)), some (.ref o), some (.int (nI i)), L5, L6] 247 [.int (nI kc)] := by
    intro v1 r1 f1 kc c
    have E := X.E (nc := nc + 1) (ns := ns + 6) hnc hns
    refine zd_istore E (pc := 247) d_law_247 (by decide) ?_
    refine zd_aload_n E (pc := 249) d_law_249 rfl ?_
    refine zd_aload_n E (pc := 250) d_law_250 rfl ?_
    refine zd_iload E (pc := 251) d_law_251 rfl ?_
    refine zd_iconst E (pc := 253) (v := (nI 1)) d_law_253 (by decide) ?_
    refine zd_iadd E (pc := 254) d_law_254 ?_
    rw [nI_add]
    refine hsld _ _ _ _ _ _ (i + 1) d_law_255 (by omega) ?_
    exact c
  refine zd_aload_n E (pc := 236) d_law_236 rfl ?_
  refine zd_aload_n E (pc := 237) d_law_237 rfl ?_
  refine zd_iload E (pc := 238) d_law_238 rfl ?_
  refine zd_iconst E (pc := 240) (v := (nI 1)) d_law_240 (by decide) ?_
  refine zd_iadd E (pc := 241) d_law_241 ?_
  rw [nI_add]
  refine hsld _ _ _ _ _ _ (i + 1) d_law_242 (by omega) ?_
  refine zd_aload_n E (pc := 243) d_law_243 rfl ?_
  by_cases hx : xs (i + 1) < nI 1 ∨ nI 9 < xs (i + 1)
  · refine zx_callW X (pc := 244) (n := 3) d_law_244 kw_action kini_L ⟨by decide, by decide⟩ (by decide +kernel) (by decide) klw_action rfl kst_action th_Xk (fun _ h => h.1) (w_action_A l D (e_P_action1 l hl D (xs (i + 1)) hx)) ⟨rfl, rfl⟩ ⟨by decide, by decide⟩ hnc hns rfl (Nat.le_of_ble_eq_true rfl) (fun v1 ws1 hv1 => ?_)
    obtain ⟨rfl, rfl⟩ := hv1
    have E := X.E (nc := nc + 1) (ns := ns + 6) hnc hns
    refine mid v r f 1 ?_
    refine zd_callVR E (pc := 256) d_law_256 kc_L_68 rfl ki_M_action ke_M_action 22 rfl rfl (c_M_action1 l D (xs (i + 1)) hx) ⟨by decide, by decide⟩ rfl (Nat.le_of_ble_eq_true rfl) (fun v1 ws1 hv1 => ?_)
    obtain ⟨rfl, rfl⟩ := hv1
    exact lw_t1 K hnc hns (kc := 1) (by decide) pk_us (fun z => by cases z) ⟨nf, na, fi, go, co, ne, ad, dr, s, np, nd, dd, n0, o0, d0, sy_keep J (sy_eq.up v r _ rfl) (sr_keep hsr rfl rfl rfl)⟩ kk
  · obtain ⟨p, hp1, hp9, hxp⟩ : ∃ p : Nat, 1 ≤ p ∧ p ≤ 9 ∧ xs (i + 1) = nI p := by
      have z1 : ¬ xs (i + 1) < nI 1 := fun z => hx (Or.inl z)
      have z2 : ¬ nI 9 < xs (i + 1) := fun z => hx (Or.inr z)
      have e1 : (nI 1).toInt = 1 := rfl
      have e9 : (nI 9).toInt = 9 := rfl
      have z0 : ¬ xs (i + 1) < 0 := fun z => z1 (by rw [Int32.lt_iff_toInt_lt] at z ⊢; have e0 : (0 : Int32).toInt = 0 := rfl; omega)
      obtain ⟨p, hp, e⟩ := nI_of z0
      rw [e] at z1 z2
      refine ⟨p, ?_, ?_, e⟩
      · exact Nat.not_lt.mp fun z => z1 ((nI_ltI hp (by decide)).mpr z)
      · exact Nat.not_lt.mp fun z => z2 ((nI_ltI (by decide) hp).mpr z)
    rw [hxp] at mid ⊢
    by_cases hn : na < 12
    · refine zx_callW X (pc := 244) (n := 3) d_law_244 kw_action kini_L ⟨by decide, by decide⟩ (by decide +kernel) (by decide) klw_action rfl kst_action th_Xk (fun _ h => h.1) (w_action l D (P := fun n v2 r2 => n = nI na ∧ v2 = upd (upd (upd v 1 (nI (na + 1))) 6 (nI 0)) 9 (v 2) ∧ r2 = va_up r 2 (upd (r 2) na (nI p))) (c_P_action l D tC hn hp1 hp9) (by decide) (fun v1 w1 h => ⟨_, _, _, ⟨rfl, rfl, rfl⟩, h.1, h.2⟩)) ⟨rfl, rfl⟩ ⟨by decide, by decide⟩ hnc hns rfl (Nat.le_of_ble_eq_true rfl) (fun v1 ws1 hv1 => ?_)
      obtain ⟨x, v1, r1, ⟨rfl, rfl, rfl⟩, rfl, rfl⟩ := hv1
      have E := X.E (nc := nc + 1) (ns := ns + 6) hnc hns
      refine mid _ _ _ 0 ?_
      have tM1 : tk_M (upd (upd (upd v 1 (nI (na + 1))) 6 (nI 0)) 9 (v 2)) (va_up r 2 (upd (r 2) na (nI p))) nf na fi go co ne ad dr := tk_mfr tM rfl rfl rfl rfl rfl rfl rfl rfl
      refine zd_callVR E (pc := 256) d_law_256 kc_L_68 rfl ki_M_action ke_M_action 22 rfl rfl (c_M_action l D tM1 hn hp1 hp9) ⟨by decide, by decide⟩ rfl (Nat.le_of_ble_eq_true rfl) (fun v1 ws1 hv1 => ?_)
      obtain ⟨rfl, rfl⟩ := hv1
      have hza := hz na (Nat.le_refl _)
      have z0 : ∀ (m : Nat → Nat), m na = 0 → va_up m na 0 = m := fun m hm => by
        funext j
        by_cases e : j = na
        · subst e; rw [va_up_self, hm]
        · rw [va_up_ne _ _ e]
      have r4 := lx_row (fun i hi => (tM.2.1 i hi).2.1) na 0
      have r5 := lx_row (fun i hi => (tM.2.1 i hi).2.2.1) na 0
      have r6 := lx_row (fun i hi => (tM.2.1 i hi).2.2.2) na 0
      rw [z0 ne hza.1] at r4
      rw [z0 ad hza.2.1] at r5
      rw [z0 dr hza.2.2] at r6
      refine lw_t1 K hnc hns (kc := 0) (by decide) rfl (fun _ => pk_uLs) ⟨nf, na + 1, fi, go, va_up co na p, ne, ad, dr, fi, np, 0, dd, n0, o0, d0, ?_⟩ kk
      refine ⟨tk_action tC hn hp1 hp9 rfl rfl rfl rfl (lx_row (fun i hi => (tC.2.1 i hi).1) na p) (fun i hi => (tC.2.1 i hi).2.1) (fun i hi => (tC.2.1 i hi).2.2.1) (fun i hi => (tC.2.1 i hi).2.2.2), tk_action tM hn hp1 hp9 rfl rfl rfl rfl (lx_row (fun i hi => (tM.2.1 i hi).1) na p) r4 r5 r6, fun i hi => hz i (by omega), ⟨tC.2.2.1.2.2.1, tC.1.2.2.1, tM.1.2.2.1⟩, ⟨hnp, hp5, hp16, hprow⟩, ⟨by omega, rfl, rfl, fun j hj => by omega⟩, sr_keep hsr rfl rfl rfl⟩
    · have e12 : na = 12 := by omega
      refine zx_callW X (pc := 244) (n := 3) d_law_244 kw_action kini_L ⟨by decide, by decide⟩ (by decide +kernel) (by decide) klw_action rfl kst_action th_Xk (fun _ h => h.1) (w_action_S l D (e_P_action2 l hl D hp1 hp9 (by rw [← e12]; exact tC.hna.1))) ⟨rfl, rfl⟩ ⟨by decide, by decide⟩ hnc hns rfl (Nat.le_of_ble_eq_true rfl) (fun v1 ws1 hv1 => ?_)
      obtain ⟨rfl, rfl⟩ := hv1
      have E := X.E (nc := nc + 1) (ns := ns + 6) hnc hns
      refine mid v r f 2 ?_
      refine zd_callVR E (pc := 256) d_law_256 kc_L_68 rfl ki_M_action ke_M_action 22 rfl rfl (c_M_action2 l D hp1 hp9 (by rw [← e12]; exact tM.hna.1)) ⟨by decide, by decide⟩ rfl (Nat.le_of_ble_eq_true rfl) (fun v1 ws1 hv1 => ?_)
      obtain ⟨rfl, rfl⟩ := hv1
      exact lw_t1 K hnc hns (kc := 2) (by decide) pk_us (fun z => by cases z) ⟨nf, na, fi, go, co, ne, ad, dr, s, np, nd, dd, n0, o0, d0, sy_keep J (sy_eq.up v r _ rfl) (sr_keep hsr rfl rfl rfl)⟩ kk
set_option maxRecDepth 100000 in
set_option maxHeartbeats 4000000 in
theorem lw_c4 (K : lw_K Zf l D k b Ln xs) (hnc : nc + 1 ≤ 601024) (hns : ns + 6 ≤ 7293034) (hi : i + 4 ≤ Ln) (I : sy_I v r) (kk : lw_G Zf k q o b nc ns i) : Zf nc ns (wd k q v r (ow k o f)) [some (.ref b), some (.ref (q 0)), some (.ref (q 22)), some (.ref o), some (.int (nI i)), L5, L6] 363 [] := by
  obtain ⟨hl, X, hsld, hslen, hLn⟩ := id K
  obtain ⟨nf, na, fi, go, co, ne, ad, dr, s, np, nd, dd, n0, o0, d0, J⟩ := I
  obtain ⟨tC, tM, hz, ⟨hs2, hs9, hs15⟩, ⟨hnp, hp5, hp16, hprow⟩, ⟨hnd, hd6, hd17, hdrow⟩, hsr⟩ := id J
  have E := X.E (nc := nc) (ns := ns) (by omega) (by omega)
  have hnf := tC.2.2.1.1
  have hna := tC.2.2.1.2.1
  have hgo := tC.2.2.1.2.2.2
  have hN := tC.n31
  have hs10 : s < 1024 := by omega
  have hne : ∀ a, a < na → ne a < 2 ^ nf := fun a ha => (tC.2.2.2.1 a (by omega)).2.1
  have had : ∀ a, a < na → ad a < 2 ^ nf := fun a ha => (tC.2.2.2.1 a (by omega)).2.2.1
  have hco9 : ∀ a, a < na → co a ≤ 9 := fun a ha => (tC.2.2.2.1 a (by omega)).1
  have hco1 : ∀ a, a < na → 1 ≤ co a := tC.2.2.2.2
  have mid : ∀ (v1 : Nat → Int32) (r1 : Nat → Nat → Int32) (f1 : Nat → Int64) (kc : Nat), Zf (nc + 1) (ns + 6) (wd k q v1 r1 (ow k o f1)) [some (.ref b), some (.ref (q 0)), some (.ref (q 22)), some (.ref o), some (.int (nI i)), some (.int (nI kc)), L6] 383 [.int (xs (i + 1)), .ref (q 22)] → Zf (nc + 1) (ns + 6) (wd k q v1 r1 (ow k o f1)) [some (.ref b), some (.ref (q 0)), some (.ref (q 22)), some (.ref o), some (.int (nI i)), L5, L6] 374 [.int (nI kc)] := by
    intro v1 r1 f1 kc c
    have E := X.E (nc := nc + 1) (ns := ns + 6) hnc hns
    refine zd_istore E (pc := 374) d_law_374 (by decide) ?_
    refine zd_aload_n E (pc := 376) d_law_376 rfl ?_
    refine zd_aload_n E (pc := 377) d_law_377 rfl ?_
    refine zd_iload E (pc := 378) d_law_378 rfl ?_
    refine zd_iconst E (pc := 380) (v := (nI 1)) d_law_380 (by decide) ?_
    refine zd_iadd E (pc := 381) d_law_381 ?_
    rw [nI_add]
    refine hsld _ _ _ _ _ _ (i + 1) d_law_382 (by omega) ?_
    exact c
  refine zd_aload_n E (pc := 363) d_law_363 rfl ?_
  refine zd_aload_n E (pc := 364) d_law_364 rfl ?_
  refine zd_iload E (pc := 365) d_law_365 rfl ?_
  refine zd_iconst E (pc := 367) (v := (nI 1)) d_law_367 (by decide) ?_
  refine zd_iadd E (pc := 368) d_law_368 ?_
  rw [nI_add]
  refine hsld _ _ _ _ _ _ (i + 1) d_law_369 (by omega) ?_
  refine zd_aload_n E (pc := 370) d_law_370 rfl ?_
  rcases lx_ix (xs (i + 1)) (n := nf) (by omega) with hx | ⟨g, hg, hxg⟩
  · refine zx_callW X (pc := 371) (n := 3) d_law_371 kw_holds kini_L ⟨by decide, by decide⟩ (by decide +kernel) (by decide) klw_holds rfl kst_holds th_Xk (fun _ h => h.1) (w_holds_I l D (e_P_holds l hl D (xs (i + 1)) tC hx)) ⟨rfl, rfl⟩ ⟨by decide, by decide⟩ hnc hns rfl (Nat.le_of_ble_eq_true rfl) (fun v1 ws1 hv1 => ?_)
    obtain ⟨rfl, rfl⟩ := hv1
    have E := X.E (nc := nc + 1) (ns := ns + 6) hnc hns
    refine mid v r f 1 ?_
    refine zd_callVR E (pc := 383) d_law_383 kc_L_79 rfl ki_M_holds ke_M_holds 22 rfl rfl (c_M_holds1 l D (xs (i + 1)) tM hx) ⟨by decide, by decide⟩ rfl (Nat.le_of_ble_eq_true rfl) (fun v1 ws1 hv1 => ?_)
    obtain ⟨rfl, rfl⟩ := hv1
    exact lw_t4 K hnc hns (kc := 1) (by decide) pk_us (fun z => by cases z) ⟨nf, na, fi, go, co, ne, ad, dr, s, np, nd, dd, n0, o0, d0, sy_keep J (sy_eq.up v r _ rfl) (sr_keep hsr rfl rfl rfl)⟩ kk
  · rw [hxg] at mid ⊢
    refine zx_callW X (pc := 371) (n := 3) d_law_371 kw_holds kini_L ⟨by decide, by decide⟩ (by decide +kernel) (by decide) klw_holds rfl kst_holds th_Xk (fun _ h => h.1) (w_holds l D (P := fun n v2 r2 => n = nI (if s.testBit g = true then 1 else 0) ∧ v = v2 ∧ r = r2) (c_P_holds l D tC hs9 hs10 hg) (by decide) (fun v1 w1 h => ⟨_, _, _, ⟨rfl, rfl, rfl⟩, h.1, h.2⟩)) ⟨rfl, rfl⟩ ⟨by decide, by decide⟩ hnc hns rfl (Nat.le_of_ble_eq_true rfl) (fun v1 ws1 hv1 => ?_)
    obtain ⟨x, v1, r1, ⟨rfl, rfl, rfl⟩, rfl, rfl⟩ := hv1
    have E := X.E (nc := nc + 1) (ns := ns + 6) hnc hns
    refine mid _ _ _ 0 ?_
    refine zd_callVR E (pc := 383) d_law_383 kc_L_79 rfl ki_M_holds ke_M_holds 22 rfl rfl (c_M_holds l D tM hs15 hs10 hg) ⟨by decide, by decide⟩ rfl (Nat.le_of_ble_eq_true rfl) (fun v1 ws1 hv1 => ?_)
    obtain ⟨rfl, rfl⟩ := hv1
    exact lw_t4 K hnc hns (kc := 0) (by decide) pk_us (fun _ => pk_uLs) ⟨nf, na, fi, go, co, ne, ad, dr, s, np, nd, dd, n0, o0, d0, sy_keep J (sy_eq.up v r _ rfl) (sr_keep hsr rfl rfl rfl)⟩ kk
set_option maxRecDepth 100000 in
set_option maxHeartbeats 4000000 in
theorem lw_c5 (K : lw_K Zf l D k b Ln xs) (hnc : nc + 1 ≤ 601024) (hns : ns + 6 ≤ 7293034) (hi : i + 4 ≤ Ln) (I : sy_I v r) (kk : lw_G Zf k q o b nc ns i) : Zf nc ns (wd k q v r (ow k o f)) [some (.ref b), some (.ref (q 0)), some (.ref (q 22)), some (.ref o), some (.int (nI i)), L5, L6] 426 [] := by
  obtain ⟨hl, X, hsld, hslen, hLn⟩ := id K
  obtain ⟨nf, na, fi, go, co, ne, ad, dr, s, np, nd, dd, n0, o0, d0, J⟩ := I
  obtain ⟨tC, tM, hz, ⟨hs2, hs9, hs15⟩, ⟨hnp, hp5, hp16, hprow⟩, ⟨hnd, hd6, hd17, hdrow⟩, hsr⟩ := id J
  have E := X.E (nc := nc) (ns := ns) (by omega) (by omega)
  have hnf := tC.2.2.1.1
  have hna := tC.2.2.1.2.1
  have hgo := tC.2.2.1.2.2.2
  have hN := tC.n31
  have hs10 : s < 1024 := by omega
  have hne : ∀ a, a < na → ne a < 2 ^ nf := fun a ha => (tC.2.2.2.1 a (by omega)).2.1
  have had : ∀ a, a < na → ad a < 2 ^ nf := fun a ha => (tC.2.2.2.1 a (by omega)).2.2.1
  have hco9 : ∀ a, a < na → co a ≤ 9 := fun a ha => (tC.2.2.2.1 a (by omega)).1
  have hco1 : ∀ a, a < na → 1 ≤ co a := tC.2.2.2.2
  have mid : ∀ (v1 : Nat → Int32) (r1 : Nat → Nat → Int32) (f1 : Nat → Int64) (kc : Nat), Zf (nc + 1) (ns + 6) (wd k q v1 r1 (ow k o f1)) [some (.ref b), some (.ref (q 0)), some (.ref (q 22)), some (.ref o), some (.int (nI i)), some (.int (nI kc)), L6] 446 [.int (xs (i + 1)), .ref (q 22)] → Zf (nc + 1) (ns + 6) (wd k q v1 r1 (ow k o f1)) [some (.ref b), some (.ref (q 0)), some (.ref (q 22)), some (.ref o), some (.int (nI i)), L5, L6] 437 [.int (nI kc)] := by
    intro v1 r1 f1 kc c
    have E := X.E (nc := nc + 1) (ns := ns + 6) hnc hns
    refine zd_istore E (pc := 437) d_law_437 (by decide) ?_
    refine zd_aload_n E (pc := 439) d_law_439 rfl ?_
    refine zd_aload_n E (pc := 440) d_law_440 rfl ?_
    refine zd_iload E (pc := 441) d_law_441 rfl ?_
    refine zd_iconst E (pc := 443) (v := (nI 1)) d_law_443 (by decide) ?_
    refine zd_iadd E (pc := 444) d_law_444 ?_
    rw [nI_add]
    refine hsld _ _ _ _ _ _ (i + 1) d_law_445 (by omega) ?_
    exact c
  refine zd_aload_n E (pc := 426) d_law_426 rfl ?_
  refine zd_aload_n E (pc := 427) d_law_427 rfl ?_
  refine zd_iload E (pc := 428) d_law_428 rfl ?_
  refine zd_iconst E (pc := 430) (v := (nI 1)) d_law_430 (by decide) ?_
  refine zd_iadd E (pc := 431) d_law_431 ?_
  rw [nI_add]
  refine hsld _ _ _ _ _ _ (i + 1) d_law_432 (by omega) ?_
  refine zd_aload_n E (pc := 433) d_law_433 rfl ?_
  rcases lx_ix (xs (i + 1)) (n := na) (by omega) with hx | ⟨g, hg, hxg⟩
  · refine zx_callW X (pc := 434) (n := 3) d_law_434 kw_applicable kini_L ⟨by decide, by decide⟩ (by decide +kernel) (by decide) klw_applicable rfl kst_applicable th_Xk (fun _ h => h.1) (w_applicable_I l D (e_P_applicable l hl D (xs (i + 1)) tC hx)) ⟨rfl, rfl⟩ ⟨by decide, by decide⟩ hnc hns rfl (Nat.le_of_ble_eq_true rfl) (fun v1 ws1 hv1 => ?_)
    obtain ⟨rfl, rfl⟩ := hv1
    have E := X.E (nc := nc + 1) (ns := ns + 6) hnc hns
    refine mid v r f 1 ?_
    refine zd_callVR E (pc := 446) d_law_446 kc_L_82 rfl ki_M_applicable ke_M_applicable 22 rfl rfl (c_M_applicable1 l D (xs (i + 1)) tM hx) ⟨by decide, by decide⟩ rfl (Nat.le_of_ble_eq_true rfl) (fun v1 ws1 hv1 => ?_)
    obtain ⟨rfl, rfl⟩ := hv1
    exact lw_t5 K hnc hns (kc := 1) (by decide) pk_us (fun z => by cases z) ⟨nf, na, fi, go, co, ne, ad, dr, s, np, nd, dd, n0, o0, d0, sy_keep J (sy_eq.up v r _ rfl) (sr_keep hsr rfl rfl rfl)⟩ kk
  · rw [hxg] at mid ⊢
    refine zx_callW X (pc := 434) (n := 3) d_law_434 kw_applicable kini_L ⟨by decide, by decide⟩ (by decide +kernel) (by decide) klw_applicable rfl kst_applicable th_Xk (fun _ h => h.1) (w_applicable l D (P := fun n v2 r2 => n = nI (if s &&& ne g = ne g then 1 else 0) ∧ v = v2 ∧ r = r2) (c_P_applicable l D tC hs9 hg) (by decide) (fun v1 w1 h => ⟨_, _, _, ⟨rfl, rfl, rfl⟩, h.1, h.2⟩)) ⟨rfl, rfl⟩ ⟨by decide, by decide⟩ hnc hns rfl (Nat.le_of_ble_eq_true rfl) (fun v1 ws1 hv1 => ?_)
    obtain ⟨x, v1, r1, ⟨rfl, rfl, rfl⟩, rfl, rfl⟩ := hv1
    have E := X.E (nc := nc + 1) (ns := ns + 6) hnc hns
    refine mid _ _ _ 0 ?_
    refine zd_callVR E (pc := 446) d_law_446 kc_L_82 rfl ki_M_applicable ke_M_applicable 22 rfl rfl (c_M_applicable l D tM hs15 hg) ⟨by decide, by decide⟩ rfl (Nat.le_of_ble_eq_true rfl) (fun v1 ws1 hv1 => ?_)
    obtain ⟨rfl, rfl⟩ := hv1
    exact lw_t5 K hnc hns (kc := 0) (by decide) pk_us (fun _ => by rw [pk_uLs, lx_01, lx_bb]; unfold tk_can; simp only [decide_eq_true_eq]) ⟨nf, na, fi, go, co, ne, ad, dr, s, np, nd, dd, n0, o0, d0, sy_keep J (sy_eq.up v r _ rfl) (sr_keep hsr rfl rfl rfl)⟩ kk
set_option maxRecDepth 100000 in
set_option maxHeartbeats 4000000 in
theorem lw_c6 (K : lw_K Zf l D k b Ln xs) (hnc : nc + 1 ≤ 601024) (hns : ns + 6 ≤ 7293034) (hi : i + 4 ≤ Ln) (I : sy_I v r) (kk : lw_G Zf k q o b nc ns i) : Zf nc ns (wd k q v r (ow k o f)) [some (.ref b), some (.ref (q 0)), some (.ref (q 22)), some (.ref o), some (.int (nI i)), L5, L6] 489 [] := by
  obtain ⟨hl, X, hsld, hslen, hLn⟩ := id K
  obtain ⟨nf, na, fi, go, co, ne, ad, dr, s, np, nd, dd, n0, o0, d0, J⟩ := I
  obtain ⟨tC, tM, hz, ⟨hs2, hs9, hs15⟩, ⟨hnp, hp5, hp16, hprow⟩, ⟨hnd, hd6, hd17, hdrow⟩, hsr⟩ := id J
  have E := X.E (nc := nc) (ns := ns) (by omega) (by omega)
  have hnf := tC.2.2.1.1
  have hna := tC.2.2.1.2.1
  have hgo := tC.2.2.1.2.2.2
  have hN := tC.n31
  have hs10 : s < 1024 := by omega
  have hne : ∀ a, a < na → ne a < 2 ^ nf := fun a ha => (tC.2.2.2.1 a (by omega)).2.1
  have had : ∀ a, a < na → ad a < 2 ^ nf := fun a ha => (tC.2.2.2.1 a (by omega)).2.2.1
  have hco9 : ∀ a, a < na → co a ≤ 9 := fun a ha => (tC.2.2.2.1 a (by omega)).1
  have hco1 : ∀ a, a < na → 1 ≤ co a := tC.2.2.2.2
  have mid : ∀ (v1 : Nat → Int32) (r1 : Nat → Nat → Int32) (f1 : Nat → Int64) (kc : Nat), Zf (nc + 1) (ns + 6) (wd k q v1 r1 (ow k o f1)) [some (.ref b), some (.ref (q 0)), some (.ref (q 22)), some (.ref o), some (.int (nI i)), some (.int (nI kc)), L6] 509 [.int (xs (i + 1)), .ref (q 22)] → Zf (nc + 1) (ns + 6) (wd k q v1 r1 (ow k o f1)) [some (.ref b), some (.ref (q 0)), some (.ref (q 22)), some (.ref o), some (.int (nI i)), L5, L6] 500 [.int (nI kc)] := by
    intro v1 r1 f1 kc c
    have E := X.E (nc := nc + 1) (ns := ns + 6) hnc hns
    refine zd_istore E (pc := 500) d_law_500 (by decide) ?_
    refine zd_aload_n E (pc := 502) d_law_502 rfl ?_
    refine zd_aload_n E (pc := 503) d_law_503 rfl ?_
    refine zd_iload E (pc := 504) d_law_504 rfl ?_
    refine zd_iconst E (pc := 506) (v := (nI 1)) d_law_506 (by decide) ?_
    refine zd_iadd E (pc := 507) d_law_507 ?_
    rw [nI_add]
    refine hsld _ _ _ _ _ _ (i + 1) d_law_508 (by omega) ?_
    exact c
  refine zd_aload_n E (pc := 489) d_law_489 rfl ?_
  refine zd_aload_n E (pc := 490) d_law_490 rfl ?_
  refine zd_iload E (pc := 491) d_law_491 rfl ?_
  refine zd_iconst E (pc := 493) (v := (nI 1)) d_law_493 (by decide) ?_
  refine zd_iadd E (pc := 494) d_law_494 ?_
  rw [nI_add]
  refine hsld _ _ _ _ _ _ (i + 1) d_law_495 (by omega) ?_
  refine zd_aload_n E (pc := 496) d_law_496 rfl ?_
  rcases lx_ix (xs (i + 1)) (n := na) (by omega) with hx | ⟨g, hg, hxg⟩
  · refine zx_callW X (pc := 497) (n := 3) d_law_497 kw_apply kini_L ⟨by decide, by decide⟩ (by decide +kernel) (by decide) klw_apply rfl kst_apply th_Xk (fun _ h => h.1) (w_apply_I l D (e_P_apply1 l hl D (xs (i + 1)) tC hx)) ⟨rfl, rfl⟩ ⟨by decide, by decide⟩ hnc hns rfl (Nat.le_of_ble_eq_true rfl) (fun v1 ws1 hv1 => ?_)
    obtain ⟨rfl, rfl⟩ := hv1
    have E := X.E (nc := nc + 1) (ns := ns + 6) hnc hns
    refine mid v r f 1 ?_
    refine zd_callVR E (pc := 509) d_law_509 kc_L_85 rfl ki_M_apply ke_M_apply 22 rfl rfl (c_M_apply1 l D (xs (i + 1)) tM hx) ⟨by decide, by decide⟩ rfl (Nat.le_of_ble_eq_true rfl) (fun v1 ws1 hv1 => ?_)
    obtain ⟨rfl, rfl⟩ := hv1
    exact lw_t6 K hnc hns (kc := 1) (by decide) pk_us (fun z => by cases z) ⟨nf, na, fi, go, co, ne, ad, dr, s, np, nd, dd, n0, o0, d0, sy_keep J (sy_eq.up v r _ rfl) (sr_keep hsr rfl rfl rfl)⟩ kk
  · rw [hxg] at mid ⊢
    by_cases hcan : s &&& ne g = ne g
    · refine zx_callW X (pc := 497) (n := 3) d_law_497 kw_apply kini_L ⟨by decide, by decide⟩ (by decide +kernel) (by decide) klw_apply rfl kst_apply th_Xk (fun _ h => h.1) (w_apply l D (P := fun n v2 r2 => n = nI (if tk_af ad dr g s &&& go = go then 1 else 0) ∧ v2 = upd v 9 (nI (tk_af ad dr g s)) ∧ r = r2) (c_P_apply l D tC hs9 hg hcan) (by decide) (fun v1 w1 h => ⟨_, _, _, ⟨rfl, rfl, rfl⟩, h.1, h.2⟩)) ⟨rfl, rfl⟩ ⟨by decide, by decide⟩ hnc hns rfl (Nat.le_of_ble_eq_true rfl) (fun v1 ws1 hv1 => ?_)
      obtain ⟨x, v1, r1, ⟨rfl, rfl, rfl⟩, rfl, rfl⟩ := hv1
      have E := X.E (nc := nc + 1) (ns := ns + 6) hnc hns
      refine mid _ _ _ 0 ?_
      have tM1 : tk_M (upd v 9 (nI (tk_af ad dr g s))) r nf na fi go co ne ad dr := tk_mfr tM rfl rfl rfl rfl rfl rfl rfl rfl
      refine zd_callVR E (pc := 509) d_law_509 kc_L_85 rfl ki_M_apply ke_M_apply 22 rfl rfl (c_M_apply l D tM1 hs15 hg) ⟨by decide, by decide⟩ rfl (Nat.le_of_ble_eq_true rfl) (fun v1 ws1 hv1 => ?_)
      obtain (⟨hno, -, -⟩ | ⟨-, rfl, rfl⟩) := hv1
      · exact absurd hcan (of_decide_eq_false hno)
      · refine lw_t6 K hnc hns (kc := 0) (by decide) rfl (fun _ => by rw [pk_uLs, lx_01, lx_bb]; unfold tk_met; simp only [decide_eq_true_eq]) ⟨nf, na, fi, go, co, ne, ad, dr, tk_af ad dr g s, np, nd, dd, n0, o0, d0, ?_⟩ kk
        exact ⟨tC.fr (fun i hi => by match i, hi with | 0, _ => rfl | 1, _ => rfl | 2, _ => rfl | 3, _ => rfl) rfl rfl rfl rfl, tk_mfr tM rfl rfl rfl rfl rfl rfl rfl rfl, hz, ⟨tk_af_lt hs2 (had g hg), rfl, rfl⟩, ⟨hnp, hp5, hp16, hprow⟩, ⟨hnd, hd6, hd17, hdrow⟩, sr_keep hsr rfl rfl rfl⟩
    · refine zx_callW X (pc := 497) (n := 3) d_law_497 kw_apply kini_L ⟨by decide, by decide⟩ (by decide +kernel) (by decide) klw_apply rfl kst_apply th_Xk (fun _ h => h.1) (w_apply_S l D (e_P_apply2 l hl D tC hs9 hg hcan)) ⟨rfl, rfl⟩ ⟨by decide, by decide⟩ hnc hns rfl (Nat.le_of_ble_eq_true rfl) (fun v1 ws1 hv1 => ?_)
      obtain ⟨rfl, rfl⟩ := hv1
      have E := X.E (nc := nc + 1) (ns := ns + 6) hnc hns
      refine mid v r f 2 ?_
      refine zd_callVR E (pc := 509) d_law_509 kc_L_85 rfl ki_M_apply ke_M_apply 22 rfl rfl (c_M_apply l D tM hs15 hg) ⟨by decide, by decide⟩ rfl (Nat.le_of_ble_eq_true rfl) (fun v1 ws1 hv1 => ?_)
      obtain (⟨-, rfl, rfl⟩ | ⟨hy, -, -⟩) := hv1
      · exact lw_t6 K hnc hns (kc := 2) (by decide) pk_us (fun z => by cases z) ⟨nf, na, fi, go, co, ne, ad, dr, s, np, nd, dd, n0, o0, d0, sy_keep J (sy_eq.up v r _ rfl) (sr_keep hsr rfl rfl rfl)⟩ kk
      · exact absurd (of_decide_eq_true hy) hcan
set_option maxRecDepth 100000 in
set_option maxHeartbeats 4000000 in
theorem lw_c16 (K : lw_K Zf l D k b Ln xs) (hnc : nc + 1 ≤ 601024) (hns : ns + 6 ≤ 7293034) (hi : i + 4 ≤ Ln) (I : sy_I v r) (kk : lw_G Zf k q o b nc ns i) : Zf nc ns (wd k q v r (ow k o f)) [some (.ref b), some (.ref (q 0)), some (.ref (q 22)), some (.ref o), some (.int (nI i)), L5, L6] 854 [] := by
  obtain ⟨hl, X, hsld, hslen, hLn⟩ := id K
  obtain ⟨nf, na, fi, go, co, ne, ad, dr, s, np, nd, dd, n0, o0, d0, J⟩ := I
  obtain ⟨tC, tM, hz, ⟨hs2, hs9, hs15⟩, ⟨hnp, hp5, hp16, hprow⟩, ⟨hnd, hd6, hd17, hdrow⟩, hsr⟩ := id J
  have E := X.E (nc := nc) (ns := ns) (by omega) (by omega)
  have hnf := tC.2.2.1.1
  have hna := tC.2.2.1.2.1
  have hgo := tC.2.2.1.2.2.2
  have hN := tC.n31
  have hs10 : s < 1024 := by omega
  have hne : ∀ a, a < na → ne a < 2 ^ nf := fun a ha => (tC.2.2.2.1 a (by omega)).2.1
  have had : ∀ a, a < na → ad a < 2 ^ nf := fun a ha => (tC.2.2.2.1 a (by omega)).2.2.1
  have hco9 : ∀ a, a < na → co a ≤ 9 := fun a ha => (tC.2.2.2.1 a (by omega)).1
  have hco1 : ∀ a, a < na → 1 ≤ co a := tC.2.2.2.2
  have mid : ∀ (v1 : Nat → Int32) (r1 : Nat → Nat → Int32) (f1 : Nat → Int64) (kc : Nat), Zf (nc + 1) (ns + 6) (wd k q v1 r1 (ow k o f1)) [some (.ref b), some (.ref (q 0)), some (.ref (q 22)), some (.ref o), some (.int (nI i)), some (.int (nI kc)), L6] 874 [.int (xs (i + 1)), .ref (q 22)] → Zf (nc + 1) (ns + 6) (wd k q v1 r1 (ow k o f1)) [some (.ref b), some (.ref (q 0)), some (.ref (q 22)), some (.ref o), some (.int (nI i)), L5, L6] 865 [.int (nI kc)] := by
    intro v1 r1 f1 kc c
    have E := X.E (nc := nc + 1) (ns := ns + 6) hnc hns
    refine zd_istore E (pc := 865) d_law_865 (by decide) ?_
    refine zd_aload_n E (pc := 867) d_law_867 rfl ?_
    refine zd_aload_n E (pc := 868) d_law_868 rfl ?_
    refine zd_iload E (pc := 869) d_law_869 rfl ?_
    refine zd_iconst E (pc := 871) (v := (nI 1)) d_law_871 (by decide) ?_
    refine zd_iadd E (pc := 872) d_law_872 ?_
    rw [nI_add]
    refine hsld _ _ _ _ _ _ (i + 1) d_law_873 (by omega) ?_
    exact c
  refine zd_aload_n E (pc := 854) d_law_854 rfl ?_
  refine zd_aload_n E (pc := 855) d_law_855 rfl ?_
  refine zd_iload E (pc := 856) d_law_856 rfl ?_
  refine zd_iconst E (pc := 858) (v := (nI 1)) d_law_858 (by decide) ?_
  refine zd_iadd E (pc := 859) d_law_859 ?_
  rw [nI_add]
  refine hsld _ _ _ _ _ _ (i + 1) d_law_860 (by omega) ?_
  refine zd_aload_n E (pc := 861) d_law_861 rfl ?_
  rcases lx_ix (xs (i + 1)) (n := nf) (by omega) with hx | ⟨g, hg, hxg⟩
  · refine zx_callW X (pc := 862) (n := 3) d_law_862 kw_landmark kini_L ⟨by decide, by decide⟩ (by decide +kernel) (by decide) klw_landmark rfl kst_landmark th_Xk (fun _ h => h.1) (w_landmark_I l D (e_P_landmark l hl D (xs (i + 1)) tC hx)) ⟨rfl, rfl⟩ ⟨by decide, by decide⟩ hnc hns rfl (Nat.le_of_ble_eq_true rfl) (fun v1 ws1 hv1 => ?_)
    obtain ⟨rfl, rfl⟩ := hv1
    have E := X.E (nc := nc + 1) (ns := ns + 6) hnc hns
    refine mid v r f 1 ?_
    refine zd_callVR E (pc := 874) d_law_874 kc_L_125 rfl ki_M_landmark ke_M_landmark 22 rfl rfl (c_M_landmark1 l D (xs (i + 1)) tM hx) ⟨by decide, by decide⟩ rfl (Nat.le_of_ble_eq_true rfl) (fun v1 ws1 hv1 => ?_)
    obtain ⟨rfl, rfl⟩ := hv1
    exact lw_t16 K hnc hns (kc := 1) (by decide) pk_us (fun z => by cases z) ⟨nf, na, fi, go, co, ne, ad, dr, s, np, nd, dd, n0, o0, d0, sy_keep J (sy_eq.up v r _ rfl) (sr_keep hsr rfl rfl rfl)⟩ kk
  · rw [hxg] at mid ⊢
    refine zx_callW X (pc := 862) (n := 3) d_law_862 kw_landmark kini_L ⟨by decide, by decide⟩ (by decide +kernel) (by decide) klw_landmark rfl kst_landmark th_Xk (fun _ h => h.1) (w_landmark l D (P := fun n v2 r2 => ∃ bb : Bool, n = nI (bm_b bb) ∧ v = v2 ∧ (∀ i, i ≠ 17 → r2 i = r i) ∧ (bb = true ↔ (s.testBit g = true ∨ lm_jn 1000000 false (lm_it 1000000 false 10 na co ne ad (fun a => (cu_mk (fun a => (ad a).testBit g) na).testBit a) (lm_i0 1000000 s) 10) go 10 = 1000000))) (c_P_landmark l D tC hs9 hs10 hg) (by decide) (fun v1 w1 h => by obtain ⟨r2, bb, h1, h2, h3, h4⟩ := h; exact ⟨_, _, _, ⟨bb, rfl, rfl, h1, h2⟩, h3, h4⟩)) ⟨rfl, rfl⟩ ⟨by decide, by decide⟩ hnc hns rfl (Nat.le_of_ble_eq_true rfl) (fun v1 ws1 hv1 => ?_)
    obtain ⟨x, v1, r1, ⟨bb, rfl, rfl, hr1, hbb⟩, rfl, rfl⟩ := hv1
    have E := X.E (nc := nc + 1) (ns := ns + 6) hnc hns
    refine mid _ _ _ 0 ?_
    have S1 : sy_eq v v r r1 := ⟨fun _ _ => rfl, fun i hi => hr1 i (by rintro rfl; cases hi)⟩
    refine zd_callVR E (pc := 874) d_law_874 kc_L_125 rfl ki_M_landmark ke_M_landmark 22 rfl rfl (c_M_landmark l D (sy_M tM S1) hs15 hs2 hg) ⟨by decide, by decide⟩ rfl (Nat.le_of_ble_eq_true rfl) (fun v1 ws1 hv1 => ?_)
    obtain ⟨r2, h, b2, hr2, hlv, hb2, rfl, rfl⟩ := hv1
    have e := ti_landmark hnf hne hgo hco9 hlv hbb hb2
    subst e
    have S2 : sy_eq v (upd v 10 (nI 0)) r r2 := S1.trans ⟨fun i hi => pk_un (by rintro rfl; cases hi), fun i hi => hr2 i (by rintro rfl; cases hi) (by rintro rfl; cases hi)⟩
    exact lw_t16 K hnc hns (kc := 0) (by decide) pk_us (fun _ => pk_uLs) ⟨nf, na, fi, go, co, ne, ad, dr, s, np, nd, dd, n0, o0, d0, sy_keep J S2 (sr_keep hsr rfl ((hr2 8 (by decide) (by decide)).trans (hr1 8 (by decide))) ((hr2 9 (by decide) (by decide)).trans (hr1 9 (by decide))))⟩ kk
set_option maxRecDepth 100000 in
set_option maxHeartbeats 4000000 in
theorem lw_c17 (K : lw_K Zf l D k b Ln xs) (hnc : nc + 1 ≤ 601024) (hns : ns + 6 ≤ 7293034) (hi : i + 4 ≤ Ln) (I : sy_I v r) (kk : lw_G Zf k q o b nc ns i) : Zf nc ns (wd k q v r (ow k o f)) [some (.ref b), some (.ref (q 0)), some (.ref (q 22)), some (.ref o), some (.int (nI i)), L5, L6] 917 [] := by
  obtain ⟨hl, X, hsld, hslen, hLn⟩ := id K
  obtain ⟨nf, na, fi, go, co, ne, ad, dr, s, np, nd, dd, n0, o0, d0, J⟩ := I
  obtain ⟨tC, tM, hz, ⟨hs2, hs9, hs15⟩, ⟨hnp, hp5, hp16, hprow⟩, ⟨hnd, hd6, hd17, hdrow⟩, hsr⟩ := id J
  have E := X.E (nc := nc) (ns := ns) (by omega) (by omega)
  have hnf := tC.2.2.1.1
  have hna := tC.2.2.1.2.1
  have hgo := tC.2.2.1.2.2.2
  have hN := tC.n31
  have hs10 : s < 1024 := by omega
  have hne : ∀ a, a < na → ne a < 2 ^ nf := fun a ha => (tC.2.2.2.1 a (by omega)).2.1
  have had : ∀ a, a < na → ad a < 2 ^ nf := fun a ha => (tC.2.2.2.1 a (by omega)).2.2.1
  have hco9 : ∀ a, a < na → co a ≤ 9 := fun a ha => (tC.2.2.2.1 a (by omega)).1
  have hco1 : ∀ a, a < na → 1 ≤ co a := tC.2.2.2.2
  have mid : ∀ (v1 : Nat → Int32) (r1 : Nat → Nat → Int32) (f1 : Nat → Int64) (kc : Nat), Zf (nc + 1) (ns + 6) (wd k q v1 r1 (ow k o f1)) [some (.ref b), some (.ref (q 0)), some (.ref (q 22)), some (.ref o), some (.int (nI i)), some (.int (nI kc)), L6] 937 [.int (xs (i + 1)), .ref (q 22)] → Zf (nc + 1) (ns + 6) (wd k q v1 r1 (ow k o f1)) [some (.ref b), some (.ref (q 0)), some (.ref (q 22)), some (.ref o), some (.int (nI i)), L5, L6] 928 [.int (nI kc)] := by
    intro v1 r1 f1 kc c
    have E := X.E (nc := nc + 1) (ns := ns + 6) hnc hns
    refine zd_istore E (pc := 928) d_law_928 (by decide) ?_
    refine zd_aload_n E (pc := 930) d_law_930 rfl ?_
    refine zd_aload_n E (pc := 931) d_law_931 rfl ?_
    refine zd_iload E (pc := 932) d_law_932 rfl ?_
    refine zd_iconst E (pc := 934) (v := (nI 1)) d_law_934 (by decide) ?_
    refine zd_iadd E (pc := 935) d_law_935 ?_
    rw [nI_add]
    refine hsld _ _ _ _ _ _ (i + 1) d_law_936 (by omega) ?_
    exact c
  refine zd_aload_n E (pc := 917) d_law_917 rfl ?_
  refine zd_aload_n E (pc := 918) d_law_918 rfl ?_
  refine zd_iload E (pc := 919) d_law_919 rfl ?_
  refine zd_iconst E (pc := 921) (v := (nI 1)) d_law_921 (by decide) ?_
  refine zd_iadd E (pc := 922) d_law_922 ?_
  rw [nI_add]
  refine hsld _ _ _ _ _ _ (i + 1) d_law_923 (by omega) ?_
  refine zd_aload_n E (pc := 924) d_law_924 rfl ?_
  rcases lx_ix (xs (i + 1)) (n := na) (by omega) with hx | ⟨g, hg, hxg⟩
  · refine zx_callW X (pc := 925) (n := 3) d_law_925 kw_draft kini_L ⟨by decide, by decide⟩ (by decide +kernel) (by decide) klw_draft rfl kst_draft th_Xk (fun _ h => h.1) (w_draft_I l D (e_P_draft1 l hl D (xs (i + 1)) tC hx)) ⟨rfl, rfl⟩ ⟨by decide, by decide⟩ hnc hns rfl (Nat.le_of_ble_eq_true rfl) (fun v1 ws1 hv1 => ?_)
    obtain ⟨rfl, rfl⟩ := hv1
    have E := X.E (nc := nc + 1) (ns := ns + 6) hnc hns
    refine mid v r f 1 ?_
    refine zd_callVR E (pc := 937) d_law_937 kc_L_128 rfl ki_M_draft ke_M_draft 22 rfl rfl (c_M_draft1 l D (xs (i + 1)) tM hx) ⟨by decide, by decide⟩ rfl (Nat.le_of_ble_eq_true rfl) (fun v1 ws1 hv1 => ?_)
    obtain ⟨rfl, rfl⟩ := hv1
    exact lw_t17 K hnc hns (kc := 1) (by decide) pk_us (fun z => by cases z) ⟨nf, na, fi, go, co, ne, ad, dr, s, np, nd, dd, n0, o0, d0, sy_keep J (sy_eq.up v r _ rfl) (sr_keep hsr rfl rfl rfl)⟩ kk
  · rw [hxg] at mid ⊢
    by_cases hd24 : nd < 24
    · refine zx_callW X (pc := 925) (n := 3) d_law_925 kw_draft kini_L ⟨by decide, by decide⟩ (by decide +kernel) (by decide) klw_draft rfl kst_draft th_Xk (fun _ h => h.1) (w_draft l D (P := fun n v2 r2 => n = nI (nd + 1) ∧ v2 = upd v 6 (nI (nd + 1)) ∧ r2 = va_up r 15 (upd (r 15) nd (nI g))) (c_P_draft l D tC hg hd6 hd24) (by decide) (fun v1 w1 h => ⟨_, _, _, ⟨rfl, rfl, rfl⟩, h.1, h.2⟩)) ⟨rfl, rfl⟩ ⟨by decide, by decide⟩ hnc hns rfl (Nat.le_of_ble_eq_true rfl) (fun v1 ws1 hv1 => ?_)
      obtain ⟨x, v1, r1, ⟨rfl, rfl, rfl⟩, rfl, rfl⟩ := hv1
      have E := X.E (nc := nc + 1) (ns := ns + 6) hnc hns
      refine mid _ _ _ 0 ?_
      have tM1 : tk_M (upd v 6 (nI (nd + 1))) (va_up r 15 (upd (r 15) nd (nI g))) nf na fi go co ne ad dr := tk_mfr tM rfl rfl rfl rfl rfl rfl rfl rfl
      refine zd_callVR E (pc := 937) d_law_937 kc_L_128 rfl ki_M_draft ke_M_draft 22 rfl rfl (c_M_draft l D tM1 hg hd17 hnd) ⟨by decide, by decide⟩ rfl (Nat.le_of_ble_eq_true rfl) (fun v1 ws1 hv1 => ?_)
      obtain (⟨hno, -, -⟩ | ⟨-, rfl, rfl⟩) := hv1
      · omega
      · refine lw_t17 K hnc hns (kc := 0) (by decide) rfl (fun _ => pk_uLs) ⟨nf, na, fi, go, co, ne, ad, dr, s, np, nd + 1, va_up dd nd g, n0, o0, d0, ?_⟩ kk
        refine ⟨tC.fr (fun i hi => by match i, hi with | 0, _ => rfl | 1, _ => rfl | 2, _ => rfl | 3, _ => rfl) rfl rfl rfl rfl, tk_mfr tM rfl rfl rfl rfl rfl rfl rfl rfl, hz, ⟨hs2, hs9, hs15⟩, ⟨hnp, hp5, hp16, hprow⟩, ⟨by omega, rfl, rfl, fun j hj => ?_⟩, sr_keep hsr rfl rfl rfl⟩
        show upd (r 15) nd (nI g) j = _ ∧ upd (r 28) nd (nI g) j = _ ∧ _
        by_cases e : j = nd
        · subst e; rw [pk_us, pk_us, va_up_self]; exact ⟨rfl, rfl, hg⟩
        · rw [pk_un e, pk_un e, va_up_ne _ _ e]; exact hdrow j (by omega)
    · have e24 : nd = 24 := by omega
      refine zx_callW X (pc := 925) (n := 3) d_law_925 kw_draft kini_L ⟨by decide, by decide⟩ (by decide +kernel) (by decide) klw_draft rfl kst_draft th_Xk (fun _ h => h.1) (w_draft_S l D (e_P_draft2 l hl D tC hg (by rw [← e24]; exact hd6))) ⟨rfl, rfl⟩ ⟨by decide, by decide⟩ hnc hns rfl (Nat.le_of_ble_eq_true rfl) (fun v1 ws1 hv1 => ?_)
      obtain ⟨rfl, rfl⟩ := hv1
      have E := X.E (nc := nc + 1) (ns := ns + 6) hnc hns
      refine mid v r f 2 ?_
      refine zd_callVR E (pc := 937) d_law_937 kc_L_128 rfl ki_M_draft ke_M_draft 22 rfl rfl (c_M_draft l D tM hg hd17 hnd) ⟨by decide, by decide⟩ rfl (Nat.le_of_ble_eq_true rfl) (fun v1 ws1 hv1 => ?_)
      obtain (⟨-, rfl, rfl⟩ | ⟨hy, -, -⟩) := hv1
      · exact lw_t17 K hnc hns (kc := 2) (by decide) pk_us (fun z => by cases z) ⟨nf, na, fi, go, co, ne, ad, dr, s, np, nd, dd, n0, o0, d0, sy_keep J (sy_eq.up v r _ rfl) (sr_keep hsr rfl rfl rfl)⟩ kk
      · omega
set_option maxRecDepth 100000 in
set_option maxHeartbeats 4000000 in
theorem lw_c11 (K : lw_K Zf l D k b Ln xs) (hnc : nc + 1 ≤ 601024) (hns : ns + 6 ≤ 7293034) (hi : i + 4 ≤ Ln) (I : sy_I v r) (kk : lw_G Zf k q o b nc ns i) : Zf nc ns (wd k q v r (ow k o f)) [some (.ref b), some (.ref (q 0)), some (.ref (q 22)), some (.ref o), some (.int (nI i)), L5, L6] 616 [] := by
  obtain ⟨hl, X, hsld, hslen, hLn⟩ := id K
  obtain ⟨nf, na, fi, go, co, ne, ad, dr, s, np, nd, dd, n0, o0, d0, J⟩ := I
  obtain ⟨tC, tM, hz, ⟨hs2, hs9, hs15⟩, ⟨hnp, hp5, hp16, hprow⟩, ⟨hnd, hd6, hd17, hdrow⟩, hsr⟩ := id J
  have E := X.E (nc := nc) (ns := ns) (by omega) (by omega)
  have hnf := tC.2.2.1.1
  have hna := tC.2.2.1.2.1
  have hgo := tC.2.2.1.2.2.2
  have hN := tC.n31
  have hs10 : s < 1024 := by omega
  have hne : ∀ a, a < na → ne a < 2 ^ nf := fun a ha => (tC.2.2.2.1 a (by omega)).2.1
  have had : ∀ a, a < na → ad a < 2 ^ nf := fun a ha => (tC.2.2.2.1 a (by omega)).2.2.1
  have hco9 : ∀ a, a < na → co a ≤ 9 := fun a ha => (tC.2.2.2.1 a (by omega)).1
  have hco1 : ∀ a, a < na → 1 ≤ co a := tC.2.2.2.2
  have mid : ∀ (v1 : Nat → Int32) (r1 : Nat → Nat → Int32) (f1 : Nat → Int64) (kc : Nat), Zf (nc + 1) (ns + 6) (wd k q v1 r1 (ow k o f1)) [some (.ref b), some (.ref (q 0)), some (.ref (q 22)), some (.ref o), some (.int (nI i)), some (.int (nI kc)), L6] 648 [.int (xs (i + 2)), .int (xs (i + 1)), .ref (q 22)] → Zf (nc + 1) (ns + 6) (wd k q v1 r1 (ow k o f1)) [some (.ref b), some (.ref (q 0)), some (.ref (q 22)), some (.ref o), some (.int (nI i)), L5, L6] 633 [.int (nI kc)] := by
    intro v1 r1 f1 kc c
    have E := X.E (nc := nc + 1) (ns := ns + 6) hnc hns
    refine zd_istore E (pc := 633) d_law_633 (by decide) ?_
    refine zd_aload_n E (pc := 635) d_law_635 rfl ?_
    refine zd_aload_n E (pc := 636) d_law_636 rfl ?_
    refine zd_iload E (pc := 637) d_law_637 rfl ?_
    refine zd_iconst E (pc := 639) (v := (nI 1)) d_law_639 (by decide) ?_
    refine zd_iadd E (pc := 640) d_law_640 ?_
    rw [nI_add]
    refine hsld _ _ _ _ _ _ (i + 1) d_law_641 (by omega) ?_
    refine zd_aload_n E (pc := 642) d_law_642 rfl ?_
    refine zd_iload E (pc := 643) d_law_643 rfl ?_
    refine zd_iconst E (pc := 645) (v := (nI 2)) d_law_645 (by decide) ?_
    refine zd_iadd E (pc := 646) d_law_646 ?_
    rw [nI_add]
    refine hsld _ _ _ _ _ _ (i + 2) d_law_647 (by omega) ?_
    exact c
  refine zd_aload_n E (pc := 616) d_law_616 rfl ?_
  refine zd_aload_n E (pc := 617) d_law_617 rfl ?_
  refine zd_iload E (pc := 618) d_law_618 rfl ?_
  refine zd_iconst E (pc := 620) (v := (nI 1)) d_law_620 (by decide) ?_
  refine zd_iadd E (pc := 621) d_law_621 ?_
  rw [nI_add]
  refine hsld _ _ _ _ _ _ (i + 1) d_law_622 (by omega) ?_
  refine zd_aload_n E (pc := 623) d_law_623 rfl ?_
  refine zd_iload E (pc := 624) d_law_624 rfl ?_
  refine zd_iconst E (pc := 626) (v := (nI 2)) d_law_626 (by decide) ?_
  refine zd_iadd E (pc := 627) d_law_627 ?_
  rw [nI_add]
  refine hsld _ _ _ _ _ _ (i + 2) d_law_628 (by omega) ?_
  refine zd_aload_n E (pc := 629) d_law_629 rfl ?_
  by_cases hb : (xs (i + 1) < 0 ∨ nI nf ≤ xs (i + 1)) ∨ (xs (i + 2) < 0 ∨ nI nf ≤ xs (i + 2))
  · refine zx_callW X (pc := 630) (n := 4) d_law_630 kw_together kini_L ⟨by decide, by decide⟩ (by decide +kernel) (by decide) klw_together rfl kst_together th_Xk (fun _ h => h.1) (w_together_I l D (e_P_together l hl D (xs (i + 1)) (xs (i + 2)) tC hb)) ⟨rfl, rfl⟩ ⟨by decide, by decide⟩ hnc hns rfl (Nat.le_of_ble_eq_true rfl) (fun v1 ws1 hv1 => ?_)
    obtain ⟨rfl, rfl⟩ := hv1
    have E := X.E (nc := nc + 1) (ns := ns + 6) hnc hns
    refine mid v r f 1 ?_
    refine zd_callVR E (pc := 648) d_law_648 kc_L_105 rfl ki_M_together ke_M_together 22 rfl rfl (c_M_together1 l D (xs (i + 1)) (xs (i + 2)) tM hb) ⟨by decide, by decide⟩ rfl (Nat.le_of_ble_eq_true rfl) (fun v1 ws1 hv1 => ?_)
    obtain ⟨rfl, rfl⟩ := hv1
    exact lw_t11 K hnc hns (kc := 1) (by decide) pk_us (fun z => by cases z) ⟨nf, na, fi, go, co, ne, ad, dr, s, np, nd, dd, n0, o0, d0, sy_keep J (sy_eq.up v r _ rfl) (sr_keep hsr rfl rfl rfl)⟩ kk
  · obtain ⟨g, hg, hxg⟩ := (lx_ix (xs (i + 1)) (n := nf) (by omega)).resolve_left (fun z => hb (Or.inl z))
    obtain ⟨g2, hg2, hxg2⟩ := (lx_ix (xs (i + 2)) (n := nf) (by omega)).resolve_left (fun z => hb (Or.inr z))
    rw [hxg, hxg2] at mid ⊢
    refine zx_callW X (pc := 630) (n := 4) d_law_630 kw_together kini_L ⟨by decide, by decide⟩ (by decide +kernel) (by decide) klw_together rfl kst_together th_Xk (fun _ h => h.1) (w_together l D (P := fun n v2 r2 => ∃ (n1 : Nat) (o1 d1 : Nat → Nat) (bb : Bool), n = nI (bm_b bb) ∧ sr_fr v v2 r r2 ∧ sr_st v2 r2 n1 o1 d1 ∧ gw_ok 1024 na (tk_can ne) (tk_af ad dr) co s n1 o1 d1 ∧ (bb = true ↔ ∃ i, i < n1 ∧ o1 i &&& (2 ^ g ||| 2 ^ g2) = (2 ^ g ||| 2 ^ g2))) (c_P_together l D tC hs9 hs10 hsr hg hg2) (by decide) (fun v1 w1 h => by obtain ⟨v2, r2, n1, o1, d1, bb, h1, h2, h3, h4, h5, h6⟩ := h; exact ⟨_, _, _, ⟨n1, o1, d1, bb, rfl, h1, h2, h3, h4⟩, h5, h6⟩)) ⟨rfl, rfl⟩ ⟨by decide, by decide⟩ hnc hns rfl (Nat.le_of_ble_eq_true rfl) (fun v1 ws1 hv1 => ?_)
    obtain ⟨x, u1, r1, ⟨n1, o1, d1, bb, rfl, hfr, hs1, hok, hbb⟩, rfl, rfl⟩ := hv1
    have E := X.E (nc := nc + 1) (ns := ns + 6) hnc hns
    refine mid _ _ _ 0 ?_
    have S1 : sy_eq v u1 r r1 := ⟨fun i hi => hfr.1 i (by rintro rfl; cases hi), fun i hi => hfr.2 i (by rintro rfl; cases hi) (by rintro rfl; cases hi) (by rintro rfl; cases hi) (by rintro rfl; cases hi)⟩
    refine zd_callVR E (pc := 648) d_law_648 kc_L_105 rfl ki_M_together ke_M_together 22 rfl rfl (c_M_together l D (sy_M tM S1) ((S1.1 15 rfl).trans hs15) hs2 hg hg2) ⟨by decide, by decide⟩ rfl (Nat.le_of_ble_eq_true rfl) (fun v1 ws1 hv1 => ?_)
    obtain ⟨r2, b2, hr2, hb2, rfl, rfl⟩ := hv1
    have e : bb = b2 := by
      have e1 : bb = true ↔ b2 = true := hbb.trans ((ti_together had hs2 hok).trans hb2.symm)
      cases bb <;> cases b2 <;> simp_all
    subst e
    have S2 : sy_eq v (upd u1 10 (nI 0)) r r2 := S1.trans ⟨fun i hi => pk_un (by rintro rfl; cases hi), fun i hi => hr2 i (by rintro rfl; cases hi)⟩
    exact lw_t11 K hnc hns (kc := 0) (by decide) pk_us (fun _ => pk_uLs) ⟨nf, na, fi, go, co, ne, ad, dr, s, np, nd, dd, n1, o1, d1, sy_keep J S2 (sr_keep hs1 rfl (hr2 8 (by decide)) (hr2 9 (by decide)))⟩ kk
set_option maxRecDepth 100000 in
set_option maxHeartbeats 4000000 in
theorem lw_c12 (K : lw_K Zf l D k b Ln xs) (hnc : nc + 1 ≤ 601024) (hns : ns + 6 ≤ 7293034) (hi : i + 4 ≤ Ln) (I : sy_I v r) (kk : lw_G Zf k q o b nc ns i) : Zf nc ns (wd k q v r (ow k o f)) [some (.ref b), some (.ref (q 0)), some (.ref (q 22)), some (.ref o), some (.int (nI i)), L5, L6] 691 [] := by
  obtain ⟨hl, X, hsld, hslen, hLn⟩ := id K
  obtain ⟨nf, na, fi, go, co, ne, ad, dr, s, np, nd, dd, n0, o0, d0, J⟩ := I
  obtain ⟨tC, tM, hz, ⟨hs2, hs9, hs15⟩, ⟨hnp, hp5, hp16, hprow⟩, ⟨hnd, hd6, hd17, hdrow⟩, hsr⟩ := id J
  have E := X.E (nc := nc) (ns := ns) (by omega) (by omega)
  have hnf := tC.2.2.1.1
  have hna := tC.2.2.1.2.1
  have hgo := tC.2.2.1.2.2.2
  have hN := tC.n31
  have hs10 : s < 1024 := by omega
  have hne : ∀ a, a < na → ne a < 2 ^ nf := fun a ha => (tC.2.2.2.1 a (by omega)).2.1
  have had : ∀ a, a < na → ad a < 2 ^ nf := fun a ha => (tC.2.2.2.1 a (by omega)).2.2.1
  have hco9 : ∀ a, a < na → co a ≤ 9 := fun a ha => (tC.2.2.2.1 a (by omega)).1
  have hco1 : ∀ a, a < na → 1 ≤ co a := tC.2.2.2.2
  obtain ⟨w, hw⟩ := lx_b (xs (i + 2))
  have mid : ∀ (v1 : Nat → Int32) (r1 : Nat → Nat → Int32) (f1 : Nat → Int64) (kc : Nat), Zf (nc + 1) (ns + 6) (wd k q v1 r1 (ow k o f1)) [some (.ref b), some (.ref (q 0)), some (.ref (q 22)), some (.ref o), some (.int (nI i)), some (.int (nI kc)), L6] 739 [.int (nI (bm_b w)), .int (xs (i + 1)), .ref (q 22)] → Zf (nc + 1) (ns + 6) (wd k q v1 r1 (ow k o f1)) [some (.ref b), some (.ref (q 0)), some (.ref (q 22)), some (.ref o), some (.int (nI i)), L5, L6] 716 [.int (nI kc)] := by
    intro v1 r1 f1 kc c
    have E := X.E (nc := nc + 1) (ns := ns + 6) hnc hns
    refine zd_istore E (pc := 716) d_law_716 (by decide) ?_
    refine zd_aload_n E (pc := 718) d_law_718 rfl ?_
    refine zd_aload_n E (pc := 719) d_law_719 rfl ?_
    refine zd_iload E (pc := 720) d_law_720 rfl ?_
    refine zd_iconst E (pc := 722) (v := (nI 1)) d_law_722 (by decide) ?_
    refine zd_iadd E (pc := 723) d_law_723 ?_
    rw [nI_add]
    refine hsld _ _ _ _ _ _ (i + 1) d_law_724 (by omega) ?_
    refine zd_aload_n E (pc := 725) d_law_725 rfl ?_
    refine zd_iload E (pc := 726) d_law_726 rfl ?_
    refine zd_iconst E (pc := 728) (v := (nI 2)) d_law_728 (by decide) ?_
    refine zd_iadd E (pc := 729) d_law_729 ?_
    rw [nI_add]
    refine hsld _ _ _ _ _ _ (i + 2) d_law_730 (by omega) ?_
    refine zd_if_eq E (pc := 731) 738 d_law_731 (by decide) (fun h0 => ?_) (fun h0 => ?_)
    · refine zd_iconst E (pc := 738) (v := (nI 0)) d_law_738 (by decide) ?_
      rw [hw.mp h0] at c
      exact c
    · refine zd_iconst E (pc := 734) (v := (nI 1)) d_law_734 (by decide) ?_
      refine zd_goto E (pc := 735) 739 d_law_735 (by decide) ?_
      rw [lx_bt hw h0] at c
      exact c
  have main : Zf nc ns (wd k q v r (ow k o f)) [some (.ref b), some (.ref (q 0)), some (.ref (q 22)), some (.ref o), some (.int (nI i)), L5, L6] 712 [.int (nI (bm_b w)), .int (xs (i + 1)), .ref (q 0)] := by
    refine zd_aload_n E (pc := 712) d_law_712 rfl ?_
    rcases lx_ix (xs (i + 1)) (n := nf) (by omega) with hx | ⟨g, hg, hxg⟩
    · refine zx_callW X (pc := 713) (n := 4) d_law_713 kw_level kini_L ⟨by decide, by decide⟩ (by decide +kernel) (by decide) klw_level rfl kst_level th_Xk (fun _ h => h.1) (w_level_I l D (e_P_level l hl D (xs (i + 1)) (nI (bm_b w)) tC hx)) ⟨rfl, rfl⟩ ⟨by decide, by decide⟩ hnc hns rfl (Nat.le_of_ble_eq_true rfl) (fun v1 ws1 hv1 => ?_)
      obtain ⟨rfl, rfl⟩ := hv1
      have E := X.E (nc := nc + 1) (ns := ns + 6) hnc hns
      refine mid v r f 1 ?_
      refine zd_callVR E (pc := 739) d_law_739 kc_L_109 rfl ki_M_level ke_M_level 22 rfl rfl (c_M_level1 l D (xs (i + 1)) (nI (bm_b w)) tM hx) ⟨by decide, by decide⟩ rfl (Nat.le_of_ble_eq_true rfl) (fun v1 ws1 hv1 => ?_)
      obtain ⟨rfl, rfl⟩ := hv1
      exact lw_t12 K hnc hns (kc := 1) (by decide) pk_us (fun z => by cases z) ⟨nf, na, fi, go, co, ne, ad, dr, s, np, nd, dd, n0, o0, d0, sy_keep J (sy_eq.up v r _ rfl) (sr_keep hsr rfl rfl rfl)⟩ kk
    · rw [hxg] at mid ⊢
      refine zx_callW X (pc := 713) (n := 4) d_law_713 kw_level kini_L ⟨by decide, by decide⟩ (by decide +kernel) (by decide) klw_level rfl kst_level th_Xk (fun _ h => h.1) (w_level l D (P := fun n v2 r2 => ∃ x : Nat, n = (if 1000000 ≤ x then -1 else nI x) ∧ v = v2 ∧ (∀ i, i ≠ 17 → r2 i = r i) ∧ x = lm_it 1000000 w 10 na co ne ad (fun _ => false) (lm_i0 1000000 s) 10 g) (c_P_level l D (w := w) tC hs9 hs10 hg) (by decide) (fun v1 w1 h => by obtain ⟨r2, x, h1, h2, h3, h4⟩ := h; exact ⟨_, _, _, ⟨x, rfl, rfl, h1, h2⟩, h3, h4⟩)) ⟨rfl, rfl⟩ ⟨by decide, by decide⟩ hnc hns rfl (Nat.le_of_ble_eq_true rfl) (fun v1 ws1 hv1 => ?_)
      obtain ⟨xx, v1, r1, ⟨x, rfl, rfl, hr1, hx⟩, rfl, rfl⟩ := hv1
      have E := X.E (nc := nc + 1) (ns := ns + 6) hnc hns
      refine mid _ _ _ 0 ?_
      have S1 : sy_eq v v r r1 := ⟨fun _ _ => rfl, fun i hi => hr1 i (by rintro rfl; cases hi)⟩
      refine zd_callVR E (pc := 739) d_law_739 kc_L_109 rfl ki_M_level ke_M_level 22 rfl rfl (c_M_level l D (w := w) (sy_M tM S1) hs15 hs2 hg) ⟨by decide, by decide⟩ rfl (Nat.le_of_ble_eq_true rfl) (fun v1 ws1 hv1 => ?_)
      obtain ⟨r2, h, hr2, hlv, rfl, rfl⟩ := hv1
      obtain ⟨hL, -, -⟩ := ti_lv hnf hne hco9 (bar := fun _ => false) (fun _ _ => rfl) hlv
      obtain ⟨-, -, g1, g2⟩ := hL g hg
      rw [← hx] at g1 g2
      have S2 : sy_eq v (upd v 10 (nI 0)) r r2 := S1.trans ⟨fun i hi => pk_un (by rintro rfl; cases hi), fun i hi => hr2 i (by rintro rfl; cases hi) (by rintro rfl; cases hi)⟩
      exact lw_t12 K hnc hns (kc := 0) (by decide) pk_us (fun _ => by rw [pk_uLs, ti_ans g1 g2]) ⟨nf, na, fi, go, co, ne, ad, dr, s, np, nd, dd, n0, o0, d0, sy_keep J S2 (sr_keep hsr rfl ((hr2 8 (by decide) (by decide)).trans (hr1 8 (by decide))) ((hr2 9 (by decide) (by decide)).trans (hr1 9 (by decide))))⟩ kk
  refine zd_aload_n E (pc := 691) d_law_691 rfl ?_
  refine zd_aload_n E (pc := 692) d_law_692 rfl ?_
  refine zd_iload E (pc := 693) d_law_693 rfl ?_
  refine zd_iconst E (pc := 695) (v := (nI 1)) d_law_695 (by decide) ?_
  refine zd_iadd E (pc := 696) d_law_696 ?_
  rw [nI_add]
  refine hsld _ _ _ _ _ _ (i + 1) d_law_697 (by omega) ?_
  refine zd_aload_n E (pc := 698) d_law_698 rfl ?_
  refine zd_iload E (pc := 699) d_law_699 rfl ?_
  refine zd_iconst E (pc := 701) (v := (nI 2)) d_law_701 (by decide) ?_
  refine zd_iadd E (pc := 702) d_law_702 ?_
  rw [nI_add]
  refine hsld _ _ _ _ _ _ (i + 2) d_law_703 (by omega) ?_
  refine zd_if_eq E (pc := 704) 711 d_law_704 (by decide) (fun h0 => ?_) (fun h0 => ?_)
  · refine zd_iconst E (pc := 711) (v := (nI 0)) d_law_711 (by decide) ?_
    rw [hw.mp h0] at main
    exact main
  · refine zd_iconst E (pc := 707) (v := (nI 1)) d_law_707 (by decide) ?_
    refine zd_goto E (pc := 708) 712 d_law_708 (by decide) ?_
    rw [lx_bt hw h0] at main
    exact main
set_option maxRecDepth 100000 in
set_option maxHeartbeats 4000000 in
theorem lw_c0 (K : lw_K Zf l D k b Ln xs) (hnc : nc + 1 ≤ 601024) (hns : ns + 6 ≤ 7293034) (hi : i + 4 ≤ Ln) (I : sy_I v r) (kk : lw_G Zf k q o b nc ns i) : Zf nc ns (wd k q v r (ow k o f)) [some (.ref b), some (.ref (q 0)), some (.ref (q 22)), some (.ref o), some (.int (nI i)), L5, L6] 136 [] := by
  obtain ⟨hl, X, hsld, hslen, hLn⟩ := id K
  obtain ⟨nf, na, fi, go, co, ne, ad, dr, s, np, nd, dd, n0, o0, d0, J⟩ := I
  obtain ⟨tC, tM, hz, ⟨hs2, hs9, hs15⟩, ⟨hnp, hp5, hp16, hprow⟩, ⟨hnd, hd6, hd17, hdrow⟩, hsr⟩ := id J
  have E := X.E (nc := nc) (ns := ns) (by omega) (by omega)
  have hnf := tC.2.2.1.1
  have hna := tC.2.2.1.2.1
  have hgo := tC.2.2.1.2.2.2
  have hN := tC.n31
  have hs10 : s < 1024 := by omega
  have hne : ∀ a, a < na → ne a < 2 ^ nf := fun a ha => (tC.2.2.2.1 a (by omega)).2.1
  have had : ∀ a, a < na → ad a < 2 ^ nf := fun a ha => (tC.2.2.2.1 a (by omega)).2.2.1
  have hco9 : ∀ a, a < na → co a ≤ 9 := fun a ha => (tC.2.2.2.1 a (by omega)).1
  have hco1 : ∀ a, a < na → 1 ≤ co a := tC.2.2.2.2
  obtain ⟨w1, hw1⟩ := lx_b (xs (i + 1))
  obtain ⟨w2, hw2⟩ := lx_b (xs (i + 2))
  have mid : ∀ (v1 : Nat → Int32) (r1 : Nat → Nat → Int32) (f1 : Nat → Int64) (kc : Nat), Zf (nc + 1) (ns + 6) (wd k q v1 r1 (ow k o f1)) [some (.ref b), some (.ref (q 0)), some (.ref (q 22)), some (.ref o), some (.int (nI i)), some (.int (nI kc)), L6] 200 [.int (nI (bm_b w2)), .int (nI (bm_b w1)), .ref (q 22)] → Zf (nc + 1) (ns + 6) (wd k q v1 r1 (ow k o f1)) [some (.ref b), some (.ref (q 0)), some (.ref (q 22)), some (.ref o), some (.int (nI i)), L5, L6] 169 [.int (nI kc)] := by
    intro v1 r1 f1 kc c
    have E := X.E (nc := nc + 1) (ns := ns + 6) hnc hns
    refine zd_istore E (pc := 169) d_law_169 (by decide) ?_
    refine zd_aload_n E (pc := 171) d_law_171 rfl ?_
    refine zd_aload_n E (pc := 172) d_law_172 rfl ?_
    refine zd_iload E (pc := 173) d_law_173 rfl ?_
    refine zd_iconst E (pc := 175) (v := (nI 1)) d_law_175 (by decide) ?_
    refine zd_iadd E (pc := 176) d_law_176 ?_
    rw [nI_add]
    refine hsld _ _ _ _ _ _ (i + 1) d_law_177 (by omega) ?_
    have c1 : Zf (nc + 1) (ns + 6) (wd k q v1 r1 (ow k o f1)) [some (.ref b), some (.ref (q 0)), some (.ref (q 22)), some (.ref o), some (.int (nI i)), some (.int (nI kc)), L6] 186 [.int (nI (bm_b w1)), .ref (q 22)] := by
      refine zd_aload_n E (pc := 186) d_law_186 rfl ?_
      refine zd_iload E (pc := 187) d_law_187 rfl ?_
      refine zd_iconst E (pc := 189) (v := (nI 2)) d_law_189 (by decide) ?_
      refine zd_iadd E (pc := 190) d_law_190 ?_
      rw [nI_add]
      refine hsld _ _ _ _ _ _ (i + 2) d_law_191 (by omega) ?_
      refine zd_if_eq E (pc := 192) 199 d_law_192 (by decide) (fun h0 => ?_) (fun h0 => ?_)
      · refine zd_iconst E (pc := 199) (v := (nI 0)) d_law_199 (by decide) ?_
        rw [hw2.mp h0] at c
        exact c
      · refine zd_iconst E (pc := 195) (v := (nI 1)) d_law_195 (by decide) ?_
        refine zd_goto E (pc := 196) 200 d_law_196 (by decide) ?_
        rw [lx_bt hw2 h0] at c
        exact c
    refine zd_if_eq E (pc := 178) 185 d_law_178 (by decide) (fun h0 => ?_) (fun h0 => ?_)
    · refine zd_iconst E (pc := 185) (v := (nI 0)) d_law_185 (by decide) ?_
      rw [hw1.mp h0] at c1
      exact c1
    · refine zd_iconst E (pc := 181) (v := (nI 1)) d_law_181 (by decide) ?_
      refine zd_goto E (pc := 182) 186 d_law_182 (by decide) ?_
      rw [lx_bt hw1 h0] at c1
      exact c1
  have main : Zf nc ns (wd k q v r (ow k o f)) [some (.ref b), some (.ref (q 0)), some (.ref (q 22)), some (.ref o), some (.int (nI i)), L5, L6] 165 [.int (nI (bm_b w2)), .int (nI (bm_b w1)), .ref (q 0)] := by
    refine zd_aload_n E (pc := 165) d_law_165 rfl ?_
    by_cases hn : nf < 10
    · refine zx_callW X (pc := 166) (n := 4) d_law_166 kw_fact kini_L ⟨by decide, by decide⟩ (by decide +kernel) (by decide) klw_fact rfl kst_fact th_Xk (fun _ h => h.1) (w_fact l D (P := fun n v2 r2 => n = nI nf ∧ r = r2 ∧ (∀ i, i ≠ 0 → i ≠ 2 → i ≠ 3 → i ≠ 6 → i ≠ 9 → v2 i = v i) ∧ v2 0 = nI (nf + 1) ∧ v2 2 = nI (if w1 = true then fi ||| 2 ^ nf else fi) ∧ v2 3 = nI (if w2 = true then go ||| 2 ^ nf else go) ∧ v2 6 = nI 0 ∧ v2 9 = nI (if w1 = true then fi ||| 2 ^ nf else fi)) (c_P_fact l D (b1 := w1) (b2 := w2) tC hn) (by decide) (fun v1 w1 h => by obtain ⟨v2, h1, h2, h3, h4, h5, h6, h7, h8⟩ := h; exact ⟨_, _, _, ⟨rfl, rfl, h1, h2, h3, h4, h5, h6⟩, h7, h8⟩)) ⟨rfl, rfl⟩ ⟨by decide, by decide⟩ hnc hns rfl (Nat.le_of_ble_eq_true rfl) (fun v1 ws1 hv1 => ?_)
      obtain ⟨x, u1, r1, ⟨rfl, rfl, hu, a0, a2, a3, a6, a9⟩, rfl, rfl⟩ := hv1
      have E := X.E (nc := nc + 1) (ns := ns + 6) hnc hns
      refine mid _ _ _ 0 ?_
      have tM1 : tk_M u1 r nf na fi go co ne ad dr := tk_mfr tM (hu 11 (by decide) (by decide) (by decide) (by decide) (by decide)) (hu 12 (by decide) (by decide) (by decide) (by decide) (by decide)) (hu 13 (by decide) (by decide) (by decide) (by decide) (by decide)) (hu 14 (by decide) (by decide) (by decide) (by decide) (by decide)) rfl rfl rfl rfl
      refine zd_callVR E (pc := 200) d_law_200 kc_L_60 rfl ki_M_fact ke_M_fact 22 rfl rfl (c_M_fact l D (b1 := w1) (b2 := w2) tM1 hn) ⟨by decide, by decide⟩ rfl (Nat.le_of_ble_eq_true rfl) (fun v1 ws1 hv1 => ?_)
      obtain ⟨u2, hu2, b10, b11, b12, b13, b17, b15, rfl, rfl⟩ := hv1
      refine lw_t0 K hnc hns (kc := 0) (by decide) b10 (fun _ => pk_uLs) ⟨nf + 1, na, (if w1 = true then fi ||| 2 ^ nf else fi), (if w2 = true then go ||| 2 ^ nf else go), co, ne, ad, dr, (if w1 = true then fi ||| 2 ^ nf else fi), np, 0, dd, n0, o0, d0, ?_⟩ kk
      have e1 : ∀ j, j ≠ 10 → j ≠ 11 → j ≠ 12 → j ≠ 13 → j ≠ 15 → j ≠ 17 → u2 j = u1 j := hu2
      have tC2 := tk_fact (vv' := u2) tC hn (b1 := w1) (b2 := w2) ((hu2 0 (by decide) (by decide) (by decide) (by decide) (by decide) (by decide)).trans a0) ((hu2 1 (by decide) (by decide) (by decide) (by decide) (by decide) (by decide)).trans (hu 1 (by decide) (by decide) (by decide) (by decide) (by decide))) ((hu2 2 (by decide) (by decide) (by decide) (by decide) (by decide) (by decide)).trans a2) ((hu2 3 (by decide) (by decide) (by decide) (by decide) (by decide) (by decide)).trans a3)
      have tM2 : tk_M u2 r (nf + 1) na _ _ co ne ad dr := tk_fact (vv := tk_mv u1) (vv' := tk_mv u2) (rr := tk_mr r) tM1 hn (b1 := w1) (b2 := w2) b11 (hu2 14 (by decide) (by decide) (by decide) (by decide) (by decide) (by decide)) b12 b13
      exact ⟨tC2, tM2, hz, ⟨tC2.2.2.1.2.2.1, (hu2 9 (by decide) (by decide) (by decide) (by decide) (by decide) (by decide)).trans a9, b15⟩, ⟨hnp, (hu2 5 (by decide) (by decide) (by decide) (by decide) (by decide) (by decide)).trans ((hu 5 (by decide) (by decide) (by decide) (by decide) (by decide)).trans hp5), (hu2 16 (by decide) (by decide) (by decide) (by decide) (by decide) (by decide)).trans ((hu 16 (by decide) (by decide) (by decide) (by decide) (by decide)).trans hp16), hprow⟩, ⟨by omega, (hu2 6 (by decide) (by decide) (by decide) (by decide) (by decide) (by decide)).trans a6, b17, fun j hj => by omega⟩, sr_keep hsr ((hu2 4 (by decide) (by decide) (by decide) (by decide) (by decide) (by decide)).trans (hu 4 (by decide) (by decide) (by decide) (by decide) (by decide))) rfl rfl⟩
    · have e10 : nf = 10 := by omega
      refine zx_callW X (pc := 166) (n := 4) d_law_166 kw_fact kini_L ⟨by decide, by decide⟩ (by decide +kernel) (by decide) klw_fact rfl kst_fact th_Xk (fun _ h => h.1) (w_fact_S l D (e_P_fact l hl D (nI (bm_b w1)) (nI (bm_b w2)) (by rw [← e10]; exact tC.1.1))) ⟨rfl, rfl⟩ ⟨by decide, by decide⟩ hnc hns rfl (Nat.le_of_ble_eq_true rfl) (fun v1 ws1 hv1 => ?_)
      obtain ⟨rfl, rfl⟩ := hv1
      have E := X.E (nc := nc + 1) (ns := ns + 6) hnc hns
      refine mid v r f 1 ?_
      refine zd_callVR E (pc := 200) d_law_200 kc_L_60 rfl ki_M_fact ke_M_fact 22 rfl rfl (c_M_fact1 l D (nI (bm_b w1)) (nI (bm_b w2)) (by rw [← e10]; exact tM.1.1)) ⟨by decide, by decide⟩ rfl (Nat.le_of_ble_eq_true rfl) (fun v1 ws1 hv1 => ?_)
      obtain ⟨rfl, rfl⟩ := hv1
      exact lw_t0 K hnc hns (kc := 1) (by decide) pk_us (fun z => by cases z) ⟨nf, na, fi, go, co, ne, ad, dr, s, np, nd, dd, n0, o0, d0, sy_keep J (sy_eq.up v r _ rfl) (sr_keep hsr rfl rfl rfl)⟩ kk
  have c1 : Zf nc ns (wd k q v r (ow k o f)) [some (.ref b), some (.ref (q 0)), some (.ref (q 22)), some (.ref o), some (.int (nI i)), L5, L6] 151 [.int (nI (bm_b w1)), .ref (q 0)] := by
    refine zd_aload_n E (pc := 151) d_law_151 rfl ?_
    refine zd_iload E (pc := 152) d_law_152 rfl ?_
    refine zd_iconst E (pc := 154) (v := (nI 2)) d_law_154 (by decide) ?_
    refine zd_iadd E (pc := 155) d_law_155 ?_
    rw [nI_add]
    refine hsld _ _ _ _ _ _ (i + 2) d_law_156 (by omega) ?_
    refine zd_if_eq E (pc := 157) 164 d_law_157 (by decide) (fun h0 => ?_) (fun h0 => ?_)
    · refine zd_iconst E (pc := 164) (v := (nI 0)) d_law_164 (by decide) ?_
      rw [hw2.mp h0] at main
      exact main
    · refine zd_iconst E (pc := 160) (v := (nI 1)) d_law_160 (by decide) ?_
      refine zd_goto E (pc := 161) 165 d_law_161 (by decide) ?_
      rw [lx_bt hw2 h0] at main
      exact main
  refine zd_aload_n E (pc := 136) d_law_136 rfl ?_
  refine zd_aload_n E (pc := 137) d_law_137 rfl ?_
  refine zd_iload E (pc := 138) d_law_138 rfl ?_
  refine zd_iconst E (pc := 140) (v := (nI 1)) d_law_140 (by decide) ?_
  refine zd_iadd E (pc := 141) d_law_141 ?_
  rw [nI_add]
  refine hsld _ _ _ _ _ _ (i + 1) d_law_142 (by omega) ?_
  refine zd_if_eq E (pc := 143) 150 d_law_143 (by decide) (fun h0 => ?_) (fun h0 => ?_)
  · refine zd_iconst E (pc := 150) (v := (nI 0)) d_law_150 (by decide) ?_
    rw [hw1.mp h0] at c1
    exact c1
  · refine zd_iconst E (pc := 146) (v := (nI 1)) d_law_146 (by decide) ?_
    refine zd_goto E (pc := 147) 151 d_law_147 (by decide) ?_
    rw [lx_bt hw1 h0] at c1
    exact c1
set_option maxRecDepth 100000 in
set_option maxHeartbeats 4000000 in
theorem lw_c2 (K : lw_K Zf l D k b Ln xs) (hnc : nc + 1 ≤ 601024) (hns : ns + 6 ≤ 7293034) (hi : i + 4 ≤ Ln) (I : sy_I v r) (kk : lw_G Zf k q o b nc ns i) : Zf nc ns (wd k q v r (ow k o f)) [some (.ref b), some (.ref (q 0)), some (.ref (q 22)), some (.ref o), some (.int (nI i)), L5, L6] 292 [] := by
  obtain ⟨hl, X, hsld, hslen, hLn⟩ := id K
  obtain ⟨nf, na, fi, go, co, ne, ad, dr, s, np, nd, dd, n0, o0, d0, J⟩ := I
  obtain ⟨tC, tM, hz, ⟨hs2, hs9, hs15⟩, ⟨hnp, hp5, hp16, hprow⟩, ⟨hnd, hd6, hd17, hdrow⟩, hsr⟩ := id J
  have E := X.E (nc := nc) (ns := ns) (by omega) (by omega)
  have hnf := tC.2.2.1.1
  have hna := tC.2.2.1.2.1
  have hgo := tC.2.2.1.2.2.2
  have hN := tC.n31
  have hs10 : s < 1024 := by omega
  have hne : ∀ a, a < na → ne a < 2 ^ nf := fun a ha => (tC.2.2.2.1 a (by omega)).2.1
  have had : ∀ a, a < na → ad a < 2 ^ nf := fun a ha => (tC.2.2.2.1 a (by omega)).2.2.1
  have hco9 : ∀ a, a < na → co a ≤ 9 := fun a ha => (tC.2.2.2.1 a (by omega)).1
  have hco1 : ∀ a, a < na → 1 ≤ co a := tC.2.2.2.2
  have mid : ∀ (v1 : Nat → Int32) (r1 : Nat → Nat → Int32) (f1 : Nat → Int64) (kc : Nat), Zf (nc + 1) (ns + 6) (wd k q v1 r1 (ow k o f1)) [some (.ref b), some (.ref (q 0)), some (.ref (q 22)), some (.ref o), some (.int (nI i)), some (.int (nI kc)), L6] 335 [.int (xs (i + 3)), .int (xs (i + 2)), .int (xs (i + 1)), .ref (q 22)] → Zf (nc + 1) (ns + 6) (wd k q v1 r1 (ow k o f1)) [some (.ref b), some (.ref (q 0)), some (.ref (q 22)), some (.ref o), some (.int (nI i)), L5, L6] 314 [.int (nI kc)] := by
    intro v1 r1 f1 kc c
    have E := X.E (nc := nc + 1) (ns := ns + 6) hnc hns
    refine zd_istore E (pc := 314) d_law_314 (by decide) ?_
    refine zd_aload_n E (pc := 316) d_law_316 rfl ?_
    refine zd_aload_n E (pc := 317) d_law_317 rfl ?_
    refine zd_iload E (pc := 318) d_law_318 rfl ?_
    refine zd_iconst E (pc := 320) (v := (nI 1)) d_law_320 (by decide) ?_
    refine zd_iadd E (pc := 321) d_law_321 ?_
    rw [nI_add]
    refine hsld _ _ _ _ _ _ (i + 1) d_law_322 (by omega) ?_
    refine zd_aload_n E (pc := 323) d_law_323 rfl ?_
    refine zd_iload E (pc := 324) d_law_324 rfl ?_
    refine zd_iconst E (pc := 326) (v := (nI 2)) d_law_326 (by decide) ?_
    refine zd_iadd E (pc := 327) d_law_327 ?_
    rw [nI_add]
    refine hsld _ _ _ _ _ _ (i + 2) d_law_328 (by omega) ?_
    refine zd_aload_n E (pc := 329) d_law_329 rfl ?_
    refine zd_iload E (pc := 330) d_law_330 rfl ?_
    refine zd_iconst E (pc := 332) (v := (nI 3)) d_law_332 (by decide) ?_
    refine zd_iadd E (pc := 333) d_law_333 ?_
    rw [nI_add]
    refine hsld _ _ _ _ _ _ (i + 3) d_law_334 (by omega) ?_
    exact c
  refine zd_aload_n E (pc := 292) d_law_292 rfl ?_
  refine zd_aload_n E (pc := 293) d_law_293 rfl ?_
  refine zd_iload E (pc := 294) d_law_294 rfl ?_
  refine zd_iconst E (pc := 296) (v := (nI 1)) d_law_296 (by decide) ?_
  refine zd_iadd E (pc := 297) d_law_297 ?_
  rw [nI_add]
  refine hsld _ _ _ _ _ _ (i + 1) d_law_298 (by omega) ?_
  refine zd_aload_n E (pc := 299) d_law_299 rfl ?_
  refine zd_iload E (pc := 300) d_law_300 rfl ?_
  refine zd_iconst E (pc := 302) (v := (nI 2)) d_law_302 (by decide) ?_
  refine zd_iadd E (pc := 303) d_law_303 ?_
  rw [nI_add]
  refine hsld _ _ _ _ _ _ (i + 2) d_law_304 (by omega) ?_
  refine zd_aload_n E (pc := 305) d_law_305 rfl ?_
  refine zd_iload E (pc := 306) d_law_306 rfl ?_
  refine zd_iconst E (pc := 308) (v := (nI 3)) d_law_308 (by decide) ?_
  refine zd_iadd E (pc := 309) d_law_309 ?_
  rw [nI_add]
  refine hsld _ _ _ _ _ _ (i + 3) d_law_310 (by omega) ?_
  by_cases hb : (xs (i + 2) < 0 ∨ nI na ≤ xs (i + 2)) ∨ (xs (i + 3) < 0 ∨ nI nf ≤ xs (i + 3))
  · refine zx_callW X (pc := 311) (n := 4) d_law_311 kw_link kini_L ⟨by decide, by decide⟩ (by decide +kernel) (by decide) klw_link rfl kst_link th_Xk (fun _ h => h.1) (w_link_I l D (e_P_link1 l hl D (xs (i + 1)) (xs (i + 2)) (xs (i + 3)) tC hb)) ⟨rfl, rfl⟩ ⟨by decide, by decide⟩ hnc hns rfl (Nat.le_of_ble_eq_true rfl) (fun v1 ws1 hv1 => ?_)
    obtain ⟨rfl, rfl⟩ := hv1
    have E := X.E (nc := nc + 1) (ns := ns + 6) hnc hns
    refine mid v r f 1 ?_
    refine zd_callVR E (pc := 335) d_law_335 kc_L_72 rfl ki_M_link ke_M_link 22 rfl rfl (c_M_link1 l D (xs (i + 1)) (xs (i + 2)) (xs (i + 3)) tM hb) ⟨by decide, by decide⟩ rfl (Nat.le_of_ble_eq_true rfl) (fun v1 ws1 hv1 => ?_)
    obtain ⟨rfl, rfl⟩ := hv1
    exact lw_t2 K hnc hns (kc := 1) (by decide) pk_us ⟨nf, na, fi, go, co, ne, ad, dr, s, np, nd, dd, n0, o0, d0, sy_keep J (sy_eq.up v r _ rfl) (sr_keep hsr rfl rfl rfl)⟩ kk
  · obtain ⟨a, ha, hxa⟩ := (lx_ix (xs (i + 2)) (n := na) (by omega)).resolve_left (fun z => hb (Or.inl z))
    obtain ⟨g, hg, hxg⟩ := (lx_ix (xs (i + 3)) (n := nf) (by omega)).resolve_left (fun z => hb (Or.inr z))
    rw [hxa, hxg] at mid ⊢
    by_cases hw : xs (i + 1) < 0 ∨ nI 2 < xs (i + 1)
    · refine zx_callW X (pc := 311) (n := 4) d_law_311 kw_link kini_L ⟨by decide, by decide⟩ (by decide +kernel) (by decide) klw_link rfl kst_link th_Xk (fun _ h => h.1) (w_link_A l D (e_P_link2 l hl D (xs (i + 1)) tC ha hg hw)) ⟨rfl, rfl⟩ ⟨by decide, by decide⟩ hnc hns rfl (Nat.le_of_ble_eq_true rfl) (fun v1 ws1 hv1 => ?_)
      obtain ⟨rfl, rfl⟩ := hv1
      have E := X.E (nc := nc + 1) (ns := ns + 6) hnc hns
      refine mid v r f 2 ?_
      refine zd_callVR E (pc := 335) d_law_335 kc_L_72 rfl ki_M_link ke_M_link 22 rfl rfl (c_M_link2 l D (xs (i + 1)) tM ha hg hw) ⟨by decide, by decide⟩ rfl (Nat.le_of_ble_eq_true rfl) (fun v1 ws1 hv1 => ?_)
      obtain ⟨rfl, rfl⟩ := hv1
      exact lw_t2 K hnc hns (kc := 2) (by decide) pk_us ⟨nf, na, fi, go, co, ne, ad, dr, s, np, nd, dd, n0, o0, d0, sy_keep J (sy_eq.up v r _ rfl) (sr_keep hsr rfl rfl rfl)⟩ kk
    · have hk3 : xs (i + 1) = nI 0 ∨ xs (i + 1) = nI 1 ∨ xs (i + 1) = nI 2 := by
        obtain ⟨p, hp, e⟩ := nI_of (fun z => hw (Or.inl z))
        have z2 : ¬ nI 2 < nI p := fun z => hw (Or.inr (by rw [e]; exact z))
        have hp2 : p ≤ 2 := Nat.not_lt.mp fun z => z2 ((nI_ltI (by decide) hp).mpr z)
        rw [e]
        have : p = 0 ∨ p = 1 ∨ p = 2 := by omega
        rcases this with rfl | rfl | rfl
        · exact Or.inl rfl
        · exact Or.inr (Or.inl rfl)
        · exact Or.inr (Or.inr rfl)
      rcases hk3 with hk0 | hk1 | hk2
      · rw [hk0] at mid ⊢
        cases hbit : (ne a).testBit g with
        | true =>
          refine zx_callW X (pc := 311) (n := 4) d_law_311 kw_link kini_L ⟨by decide, by decide⟩ (by decide +kernel) (by decide) klw_link rfl kst_link th_Xk (fun _ h => h.1) (w_link_S l D (e_P_link3_0 l hl D (m := ne) tC ha hg (fun i hi => ⟨(tC.2.1 i hi).2.1, by have := (tC.2.2.2.1 i hi).2; omega⟩) hbit)) ⟨rfl, rfl⟩ ⟨by decide, by decide⟩ hnc hns rfl (Nat.le_of_ble_eq_true rfl) (fun v1 ws1 hv1 => ?_)
          obtain ⟨rfl, rfl⟩ := hv1
          have E := X.E (nc := nc + 1) (ns := ns + 6) hnc hns
          refine mid v r f 3 ?_
          refine zd_callVR E (pc := 335) d_law_335 kc_L_72 rfl ki_M_link ke_M_link 22 rfl rfl (c_M_link_0 l D (m := ne) tM ha hg (fun i hi => ⟨(tM.2.1 i hi).2.1, by have := (tC.2.2.2.1 i hi).2; omega⟩)) ⟨by decide, by decide⟩ rfl (Nat.le_of_ble_eq_true rfl) (fun v1 ws1 hv1 => ?_)
          obtain ⟨hB, rfl⟩ := hv1
          rcases hB with ⟨-, rfl⟩ | ⟨hno, -⟩
          · exact lw_t2 K hnc hns (kc := 3) (by decide) pk_us ⟨nf, na, fi, go, co, ne, ad, dr, s, np, nd, dd, n0, o0, d0, sy_keep J ((sy_eq.up v r _ rfl).trans (sy_eq.up _ r _ rfl)) (sr_keep hsr rfl rfl rfl)⟩ kk
          · rw [hbit] at hno; cases hno
        | false =>
          refine zx_callW X (pc := 311) (n := 4) d_law_311 kw_link kini_L ⟨by decide, by decide⟩ (by decide +kernel) (by decide) klw_link rfl kst_link th_Xk (fun _ h => h.1) (w_link l D (P := fun v2 r2 => v2 = upd (upd v 6 (nI 0)) 9 (v 2) ∧ r2 = va_up r (4 + 0) (upd (r (4 + 0)) a (nI (ne a ||| 2 ^ g)))) (c_P_link0 l D (m := ne) tC ha hg (fun i hi => ⟨(tC.2.1 i hi).2.1, by have := (tC.2.2.2.1 i hi).2; omega⟩) hbit) (by decide) (fun v1 w1 h => ⟨_, _, ⟨rfl, rfl⟩, h.1, h.2⟩)) ⟨rfl, rfl⟩ ⟨by decide, by decide⟩ hnc hns rfl (Nat.le_of_ble_eq_true rfl) (fun v1 ws1 hv1 => ?_)
          obtain ⟨v1, r1, ⟨rfl, rfl⟩, rfl, rfl⟩ := hv1
          have E := X.E (nc := nc + 1) (ns := ns + 6) hnc hns
          refine mid _ _ _ 0 ?_
          have tM1 : tk_M (upd (upd v 6 (nI 0)) 9 (v 2)) (va_up r (4 + 0) (upd (r (4 + 0)) a (nI (ne a ||| 2 ^ g)))) nf na fi go co ne ad dr := tk_mfr tM rfl rfl rfl rfl rfl rfl rfl rfl
          refine zd_callVR E (pc := 335) d_law_335 kc_L_72 rfl ki_M_link ke_M_link 22 rfl rfl (c_M_link_0 l D (m := ne) tM1 ha hg (fun i hi => ⟨(tM.2.1 i hi).2.1, by have := (tC.2.2.2.1 i hi).2; omega⟩)) ⟨by decide, by decide⟩ rfl (Nat.le_of_ble_eq_true rfl) (fun v1 ws1 hv1 => ?_)
          obtain ⟨hB, rfl⟩ := hv1
          rcases hB with ⟨hy, -⟩ | ⟨-, rfl⟩
          · rw [hbit] at hy; cases hy
          · refine lw_t2 K hnc hns (kc := 0) (by decide) rfl ⟨nf, na, fi, go, co, va_up ne a (ne a ||| 2 ^ g), ad, dr, fi, np, 0, dd, n0, o0, d0, ?_⟩ kk
            exact ⟨tk_link0 tC hg (fun i hi => by match i, hi with | 0, _ => rfl | 1, _ => rfl | 2, _ => rfl | 3, _ => rfl) rfl (lx_row (fun i hi => (tC.2.1 i hi).2.1) a (ne a ||| 2 ^ g)) rfl rfl (by omega), tk_link0 tM hg (fun i hi => by match i, hi with | 0, _ => rfl | 1, _ => rfl | 2, _ => rfl | 3, _ => rfl) rfl (lx_row (fun i hi => (tM.2.1 i hi).2.1) a (ne a ||| 2 ^ g)) rfl rfl (by omega), fun i hi => ⟨by rw [va_up_ne _ _ (by omega)]; exact (hz i hi).1, (hz i hi).2⟩, ⟨tC.2.2.1.2.2.1, tC.1.2.2.1, tM.1.2.2.1⟩, ⟨hnp, hp5, hp16, hprow⟩, ⟨by omega, rfl, rfl, fun j hj => by omega⟩, sr_keep hsr rfl rfl rfl⟩
      · rw [hk1] at mid ⊢
        cases hbit : (ad a).testBit g with
        | true =>
          refine zx_callW X (pc := 311) (n := 4) d_law_311 kw_link kini_L ⟨by decide, by decide⟩ (by decide +kernel) (by decide) klw_link rfl kst_link th_Xk (fun _ h => h.1) (w_link_S l D (e_P_link3_1 l hl D (m := ad) tC ha hg (fun i hi => ⟨(tC.2.1 i hi).2.2.1, by have := (tC.2.2.2.1 i hi).2; omega⟩) hbit)) ⟨rfl, rfl⟩ ⟨by decide, by decide⟩ hnc hns rfl (Nat.le_of_ble_eq_true rfl) (fun v1 ws1 hv1 => ?_)
          obtain ⟨rfl, rfl⟩ := hv1
          have E := X.E (nc := nc + 1) (ns := ns + 6) hnc hns
          refine mid v r f 3 ?_
          refine zd_callVR E (pc := 335) d_law_335 kc_L_72 rfl ki_M_link ke_M_link 22 rfl rfl (c_M_link_1 l D (m := ad) tM ha hg (fun i hi => ⟨(tM.2.1 i hi).2.2.1, by have := (tC.2.2.2.1 i hi).2; omega⟩)) ⟨by decide, by decide⟩ rfl (Nat.le_of_ble_eq_true rfl) (fun v1 ws1 hv1 => ?_)
          obtain ⟨hB, rfl⟩ := hv1
          rcases hB with ⟨-, rfl⟩ | ⟨hno, -⟩
          · exact lw_t2 K hnc hns (kc := 3) (by decide) pk_us ⟨nf, na, fi, go, co, ne, ad, dr, s, np, nd, dd, n0, o0, d0, sy_keep J ((sy_eq.up v r _ rfl).trans (sy_eq.up _ r _ rfl)) (sr_keep hsr rfl rfl rfl)⟩ kk
          · rw [hbit] at hno; cases hno
        | false =>
          refine zx_callW X (pc := 311) (n := 4) d_law_311 kw_link kini_L ⟨by decide, by decide⟩ (by decide +kernel) (by decide) klw_link rfl kst_link th_Xk (fun _ h => h.1) (w_link l D (P := fun v2 r2 => v2 = upd (upd v 6 (nI 0)) 9 (v 2) ∧ r2 = va_up r (4 + 1) (upd (r (4 + 1)) a (nI (ad a ||| 2 ^ g)))) (c_P_link1 l D (m := ad) tC ha hg (fun i hi => ⟨(tC.2.1 i hi).2.2.1, by have := (tC.2.2.2.1 i hi).2; omega⟩) hbit) (by decide) (fun v1 w1 h => ⟨_, _, ⟨rfl, rfl⟩, h.1, h.2⟩)) ⟨rfl, rfl⟩ ⟨by decide, by decide⟩ hnc hns rfl (Nat.le_of_ble_eq_true rfl) (fun v1 ws1 hv1 => ?_)
          obtain ⟨v1, r1, ⟨rfl, rfl⟩, rfl, rfl⟩ := hv1
          have E := X.E (nc := nc + 1) (ns := ns + 6) hnc hns
          refine mid _ _ _ 0 ?_
          have tM1 : tk_M (upd (upd v 6 (nI 0)) 9 (v 2)) (va_up r (4 + 1) (upd (r (4 + 1)) a (nI (ad a ||| 2 ^ g)))) nf na fi go co ne ad dr := tk_mfr tM rfl rfl rfl rfl rfl rfl rfl rfl
          refine zd_callVR E (pc := 335) d_law_335 kc_L_72 rfl ki_M_link ke_M_link 22 rfl rfl (c_M_link_1 l D (m := ad) tM1 ha hg (fun i hi => ⟨(tM.2.1 i hi).2.2.1, by have := (tC.2.2.2.1 i hi).2; omega⟩)) ⟨by decide, by decide⟩ rfl (Nat.le_of_ble_eq_true rfl) (fun v1 ws1 hv1 => ?_)
          obtain ⟨hB, rfl⟩ := hv1
          rcases hB with ⟨hy, -⟩ | ⟨-, rfl⟩
          · rw [hbit] at hy; cases hy
          · refine lw_t2 K hnc hns (kc := 0) (by decide) rfl ⟨nf, na, fi, go, co, ne, va_up ad a (ad a ||| 2 ^ g), dr, fi, np, 0, dd, n0, o0, d0, ?_⟩ kk
            exact ⟨tk_link1 tC hg (fun i hi => by match i, hi with | 0, _ => rfl | 1, _ => rfl | 2, _ => rfl | 3, _ => rfl) rfl rfl (lx_row (fun i hi => (tC.2.1 i hi).2.2.1) a (ad a ||| 2 ^ g)) rfl (by omega), tk_link1 tM hg (fun i hi => by match i, hi with | 0, _ => rfl | 1, _ => rfl | 2, _ => rfl | 3, _ => rfl) rfl rfl (lx_row (fun i hi => (tM.2.1 i hi).2.2.1) a (ad a ||| 2 ^ g)) rfl (by omega), fun i hi => ⟨(hz i hi).1, by rw [va_up_ne _ _ (by omega)]; exact (hz i hi).2.1, (hz i hi).2.2⟩, ⟨tC.2.2.1.2.2.1, tC.1.2.2.1, tM.1.2.2.1⟩, ⟨hnp, hp5, hp16, hprow⟩, ⟨by omega, rfl, rfl, fun j hj => by omega⟩, sr_keep hsr rfl rfl rfl⟩
      · rw [hk2] at mid ⊢
        cases hbit : (dr a).testBit g with
        | true =>
          refine zx_callW X (pc := 311) (n := 4) d_law_311 kw_link kini_L ⟨by decide, by decide⟩ (by decide +kernel) (by decide) klw_link rfl kst_link th_Xk (fun _ h => h.1) (w_link_S l D (e_P_link3_2 l hl D (m := dr) tC ha hg (fun i hi => ⟨(tC.2.1 i hi).2.2.2, by have := (tC.2.2.2.1 i hi).2; omega⟩) hbit)) ⟨rfl, rfl⟩ ⟨by decide, by decide⟩ hnc hns rfl (Nat.le_of_ble_eq_true rfl) (fun v1 ws1 hv1 => ?_)
          obtain ⟨rfl, rfl⟩ := hv1
          have E := X.E (nc := nc + 1) (ns := ns + 6) hnc hns
          refine mid v r f 3 ?_
          refine zd_callVR E (pc := 335) d_law_335 kc_L_72 rfl ki_M_link ke_M_link 22 rfl rfl (c_M_link_2 l D (m := dr) tM ha hg (fun i hi => ⟨(tM.2.1 i hi).2.2.2, by have := (tC.2.2.2.1 i hi).2; omega⟩)) ⟨by decide, by decide⟩ rfl (Nat.le_of_ble_eq_true rfl) (fun v1 ws1 hv1 => ?_)
          obtain ⟨hB, rfl⟩ := hv1
          rcases hB with ⟨-, rfl⟩ | ⟨hno, -⟩
          · exact lw_t2 K hnc hns (kc := 3) (by decide) pk_us ⟨nf, na, fi, go, co, ne, ad, dr, s, np, nd, dd, n0, o0, d0, sy_keep J ((sy_eq.up v r _ rfl).trans (sy_eq.up _ r _ rfl)) (sr_keep hsr rfl rfl rfl)⟩ kk
          · rw [hbit] at hno; cases hno
        | false =>
          refine zx_callW X (pc := 311) (n := 4) d_law_311 kw_link kini_L ⟨by decide, by decide⟩ (by decide +kernel) (by decide) klw_link rfl kst_link th_Xk (fun _ h => h.1) (w_link l D (P := fun v2 r2 => v2 = upd (upd v 6 (nI 0)) 9 (v 2) ∧ r2 = va_up r (4 + 2) (upd (r (4 + 2)) a (nI (dr a ||| 2 ^ g)))) (c_P_link2 l D (m := dr) tC ha hg (fun i hi => ⟨(tC.2.1 i hi).2.2.2, by have := (tC.2.2.2.1 i hi).2; omega⟩) hbit) (by decide) (fun v1 w1 h => ⟨_, _, ⟨rfl, rfl⟩, h.1, h.2⟩)) ⟨rfl, rfl⟩ ⟨by decide, by decide⟩ hnc hns rfl (Nat.le_of_ble_eq_true rfl) (fun v1 ws1 hv1 => ?_)
          obtain ⟨v1, r1, ⟨rfl, rfl⟩, rfl, rfl⟩ := hv1
          have E := X.E (nc := nc + 1) (ns := ns + 6) hnc hns
          refine mid _ _ _ 0 ?_
          have tM1 : tk_M (upd (upd v 6 (nI 0)) 9 (v 2)) (va_up r (4 + 2) (upd (r (4 + 2)) a (nI (dr a ||| 2 ^ g)))) nf na fi go co ne ad dr := tk_mfr tM rfl rfl rfl rfl rfl rfl rfl rfl
          refine zd_callVR E (pc := 335) d_law_335 kc_L_72 rfl ki_M_link ke_M_link 22 rfl rfl (c_M_link_2 l D (m := dr) tM1 ha hg (fun i hi => ⟨(tM.2.1 i hi).2.2.2, by have := (tC.2.2.2.1 i hi).2; omega⟩)) ⟨by decide, by decide⟩ rfl (Nat.le_of_ble_eq_true rfl) (fun v1 ws1 hv1 => ?_)
          obtain ⟨hB, rfl⟩ := hv1
          rcases hB with ⟨hy, -⟩ | ⟨-, rfl⟩
          · rw [hbit] at hy; cases hy
          · refine lw_t2 K hnc hns (kc := 0) (by decide) rfl ⟨nf, na, fi, go, co, ne, ad, va_up dr a (dr a ||| 2 ^ g), fi, np, 0, dd, n0, o0, d0, ?_⟩ kk
            exact ⟨tk_link2 tC hg (fun i hi => by match i, hi with | 0, _ => rfl | 1, _ => rfl | 2, _ => rfl | 3, _ => rfl) rfl rfl rfl (lx_row (fun i hi => (tC.2.1 i hi).2.2.2) a (dr a ||| 2 ^ g)) (by omega), tk_link2 tM hg (fun i hi => by match i, hi with | 0, _ => rfl | 1, _ => rfl | 2, _ => rfl | 3, _ => rfl) rfl rfl rfl (lx_row (fun i hi => (tM.2.1 i hi).2.2.2) a (dr a ||| 2 ^ g)) (by omega), fun i hi => ⟨(hz i hi).1, (hz i hi).2.1, by rw [va_up_ne _ _ (by omega)]; exact (hz i hi).2.2⟩, ⟨tC.2.2.1.2.2.1, tC.1.2.2.1, tM.1.2.2.1⟩, ⟨hnp, hp5, hp16, hprow⟩, ⟨by omega, rfl, rfl, fun j hj => by omega⟩, sr_keep hsr rfl rfl rfl⟩
end LE
