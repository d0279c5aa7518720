/-! writeBest: the best plan, written into the row of cell 12. -/
section WB
variable {k : Nat → ClassId} {q : Nat → Nat} {v : Nat → Int32} {r : Nat → Nat → Int32} {ex : va_W} {nf na fi go : Nat} {co ne ad dr : Nat → Nat}
theorem gw_on1_congr {n : Nat} {can : Nat → Nat → Bool} {af : Nat → Nat → Nat} {co o d : Nat → Nat} {on on2 : Nat → Int} {i a : Nat} (h : ∀ j, j < n → d j = d i + co a → on (o j) = on2 (o j)) : gw_on1 n can af co o d on i a ↔ gw_on1 n can af co o d on2 i a := by
  constructor
  · rintro ⟨h1, j, h2, h3, h4, h5⟩
    exact ⟨h1, j, h2, h3, h4, by rw [← h j h2 h4]; exact h5⟩
  · rintro ⟨h1, j, h2, h3, h4, h5⟩
    exact ⟨h1, j, h2, h3, h4, by rw [h j h2 h4]; exact h5⟩
theorem gw_onc_congr {n na : Nat} {can : Nat → Nat → Bool} {af : Nat → Nat → Nat} {co o d : Nat → Nat} {met : Nat → Bool} {least : Nat} {on on2 : Nat → Int} {i : Nat} (hco : ∀ a, a < na → 1 ≤ co a) (hd : ∀ i j, i ≤ j → j < n → d i ≤ d j) (hi : i < n) (h : ∀ j, i ≤ j → j < n → on (o j) = on2 (o j)) (hc : gw_onc n na can af co met least o d on i) : gw_onc n na can af co met least o d on2 i := by
  have e : ∀ a, a < na → (gw_on1 n can af co o d on i a ↔ gw_on1 n can af co o d on2 i a) := fun a ha => gw_on1_congr fun j hj hdj => h j (by
    by_cases z : i ≤ j
    · exact z
    · have := hd j i (by omega) hi
      have := hco a ha
      omega) hj
  have e0 := h i (Nat.le_refl _) hi
  rcases hc with ⟨h1, h2⟩ | ⟨h1, ⟨a, ha, h2, h3, h4⟩ | ⟨h2, h3⟩⟩
  · exact Or.inl ⟨h1, by rw [← e0]; exact h2⟩
  · exact Or.inr ⟨h1, Or.inl ⟨a, ha, (e a ha).mp h2, fun b hb z => h3 b hb ((e b (by omega)).mpr z), by rw [← e0]; exact h4⟩⟩
  · exact Or.inr ⟨h1, Or.inr ⟨fun a ha z => h2 a ha ((e a ha).mpr z), by rw [← e0]; exact h3⟩⟩
set_option maxRecDepth 100000 in
set_option maxHeartbeats 4000000 in
theorem c_S_writeBest (l : Launch) (D : va_G) {n s0 least : Nat} {o d : Nat → Nat} (t : tk_C v r nf na fi go co ne ad dr) (h : sr_st v r n o d) (hok : gw_ok 1024 na (tk_can ne) (tk_af ad dr) co s0 n o d) (hl : least < 20000) (hv5 : v 5 = nI 0) : zd_Ct l D classes (wd_ty k) gd_T y_S_writeBest b_S_writeBest 7 none (zd_rm 3) [.ref (q 7), .int (nI s0), .int (nI least), .ref (q 12)] (wd k q v r ex)
    (fun v1 w1 => ∃ (v2 : Nat → Int32) (r2 : Nat → Nat → Int32) (m : Nat) (p it : Nat → Nat), (∀ i, i ≠ 5 → v2 i = v i) ∧ (∀ i, i ≠ 10 → i ≠ 13 → r2 i = r i) ∧ gw_on n na (tk_can ne) (tk_af ad dr) co (tk_met go) least o d (sr_on r2) ∧ gw_way (tk_af ad dr) (sr_on r2) s0 m p it ∧ v2 5 = nI m ∧ (∀ j, j < m → r2 13 j = nI (it j)) ∧ v1 = none ∧ w1 = wd k q v2 r2 ex) := by
  refine zd_met gd_all (by decide) rfl (Nat.le_of_ble_eq_true rfl) (fun Z E => ?_)
  show Z (wd k q v r ex) [some (.ref (q 7)), some (.int (nI s0)), some (.int (nI least)), some (.ref (q 12)), none, none, none] 0 []
  have hn := sr_le h
  have hst := h
  have hna := t.hna.2
  have hco1 := t.2.2.2.2
  obtain ⟨h1, h2, h3, h4, h5, h6⟩ := h
  have hmono := hok.2.2.2.2.2.1
  have trk : ∀ r1 : Nat → Nat → Int32, (∀ i, i ≠ 10 → r1 i = r i) → tk_C v r1 nf na fi go co ne ad dr := fun r1 hf => t.fr (fun _ _ => rfl) (hf 2 (by decide)) (hf 4 (by decide)) (hf 5 (by decide)) (hf 6 (by decide))
  have srk : ∀ r1 : Nat → Nat → Int32, (∀ i, i ≠ 10 → r1 i = r i) → sr_st v r1 n o d := fun r1 hf => ⟨h1, h2, h3, fun i hi => by rw [hf 8 (by decide)]; exact h4 i hi, fun i hi => by rw [hf 9 (by decide)]; exact h5 i hi, fun s hs hne => by rw [hf 9 (by decide)]; exact h6 s hs hne⟩
  -- the walk along the ways on
  have walk : ∀ (c m : Nat) (v1 : Nat → Int32) (r1 : Nat → Nat → Int32) (p it : Nat → Nat) (L6 : Option Value), m + c = 1023 → (∀ i, i ≠ 5 → v1 i = v i) → (∀ i, i ≠ 10 → i ≠ 13 → r1 i = r i) → gw_on n na (tk_can ne) (tk_af ad dr) co (tk_met go) least o d (sr_on r1) → p 0 = s0 → (∀ j, j < m → sr_on r1 (p j) = (it j : Int) ∧ p (j + 1) = tk_af ad dr (it j) (p j)) → (∃ i, i < n ∧ o i = p m) → v1 5 = nI m → (∀ j, j < m → r1 13 j = nI (it j)) → Z (wd k q v1 r1 ex) [some (.ref (q 7)), some (.int (nI s0)), some (.int (nI least)), some (.ref (q 12)), some (.int (nI (p m))), some (.int (nI m)), L6] 87 [] := by
    intro c
    induction c with
    | zero =>
      intro m v1 r1 p it L6 hm hfv hfr hon hp0 hps hpi hm5 hit
      have e : m = 1023 := by omega
      refine zd_iload E (pc := 87) d_S_writeBest_87 rfl ?_
      refine zd_sipush E (pc := 89) (v := (nI 1023)) d_S_writeBest_89 (by decide) ?_
      refine zd_nc_ge E (pc := 92) 140 d_S_writeBest_92 (by decide) ((by omega)) ((by omega)) (fun hc => ?_) (fun hc => ?_)
      · exact zd_vret E (pc := 140) d_S_writeBest_140 ⟨v1, r1, m, p, it, hfv, hfr, hon, ⟨hp0, hps, Or.inl e, by omega⟩, hm5, hit, rfl, rfl⟩
      · omega
    | succ c ih =>
      intro m v1 r1 p it L6 hm hfv hfr hon hp0 hps hpi hm5 hit
      obtain ⟨i, hi, hpi⟩ := hpi
      have hpN : p m < 1024 := by rw [← hpi]; exact h2 i hi
      have t1 : tk_C v1 r1 nf na fi go co ne ad dr := t.fr (fun j hj => hfv j (by omega)) (hfr 2 (by decide) (by decide)) (hfr 4 (by decide) (by decide)) (hfr 5 (by decide) (by decide)) (hfr 6 (by decide) (by decide))
      refine zd_iload E (pc := 87) d_S_writeBest_87 rfl ?_
      refine zd_sipush E (pc := 89) (v := (nI 1023)) d_S_writeBest_89 (by decide) ?_
      refine zd_nc_ge E (pc := 92) 140 d_S_writeBest_92 (by decide) ((by omega)) ((by omega)) (fun hc => ?_) (fun hc => ?_)
      · omega
      · refine zd_aload_n E (pc := 95) d_S_writeBest_95 rfl ?_
        refine zd_get E (pc := 96) d_S_writeBest_96 kf_S_18 7 rfl rfl ?_
        refine zd_iload E (pc := 99) d_S_writeBest_99 rfl ?_
        refine zd_iald E (pc := 101) d_S_writeBest_101 10 rfl (t0 := 0) rfl (p m) (rfl) (hpN) (by decide) ?_
        rcases hon i hi with ⟨-, hz⟩ | ⟨-, ⟨a, ha, ⟨hcan, j, hj, hje, hjd, hj1⟩, -, hz⟩ | ⟨-, hz⟩⟩
        · rw [hpi] at hz
          have hz1 : r1 10 (p m) = -2 := Int32.toInt_inj.mp (hz.trans (by decide))
          rw [hz1]
          refine zd_if_lt E (pc := 102) 140 d_S_writeBest_102 (by decide) (fun hneg => ?_) (fun hneg => ?_)
          · exact zd_vret E (pc := 140) d_S_writeBest_140 ⟨v1, r1, m, p, it, hfv, hfr, hon, ⟨hp0, hps, Or.inr (by rw [hz]; decide), by omega⟩, hm5, hit, rfl, rfl⟩
          · exact absurd (by decide) hneg
        · rw [hpi] at hz hcan hje
          have ha12 : a < 12 := by omega
          have hz1 : r1 10 (p m) = nI a := Int32.toInt_inj.mp (hz.trans (nI_toInt (by omega)).symm)
          rw [hz1]
          refine zd_if_lt E (pc := 102) 140 d_S_writeBest_102 (by decide) (fun hneg => ?_) (fun hneg => ?_)
          · exact absurd hneg (nI_pos (by omega))
          · refine zd_aload_n E (pc := 105) d_S_writeBest_105 rfl ?_
            refine zd_aload_n E (pc := 106) d_S_writeBest_106 rfl ?_
            refine zd_get E (pc := 107) d_S_writeBest_107 kf_S_18 7 rfl rfl ?_
            refine zd_iload E (pc := 110) d_S_writeBest_110 rfl ?_
            refine zd_iald E (pc := 112) d_S_writeBest_112 10 rfl (t0 := 0) rfl (p m) (rfl) (hpN) (by decide) ?_
            rw [hz1]
            refine zd_callV E (pc := 113) d_S_writeBest_113 kc_S_73 rfl ki_R_append ke_R_append 12 rfl rfl (c_R_append12 l D hm5 (show m < 1023 by omega)) (by decide) rfl (Nat.le_of_ble_eq_true rfl) (fun v1 ws1 hv1 => ?_)
            obtain ⟨rfl, rfl⟩ := hv1
            refine zd_aload_n E (pc := 116) d_S_writeBest_116 rfl ?_
            refine zd_get E (pc := 117) d_S_writeBest_117 kf_S_24 7 rfl rfl ?_
            refine zd_aload_n E (pc := 120) d_S_writeBest_120 rfl ?_
            refine zd_get E (pc := 121) d_S_writeBest_121 kf_S_18 7 rfl rfl ?_
            refine zd_iload E (pc := 124) d_S_writeBest_124 rfl ?_
            refine zd_iald E (pc := 126) d_S_writeBest_126 10 rfl (t0 := 0) rfl (p m) (rfl) (hpN) (by decide) ?_
            show Z (wd k q (upd v1 5 (nI (m + 1))) (va_up r1 13 (upd (r1 13) m (nI a))) ex) _ 127 [.int (r1 10 (p m)), .ref (q 1)]
            rw [hz1]
            refine zd_iload E (pc := 127) d_S_writeBest_127 rfl ?_
            have t2 : tk_C (upd v1 5 (nI (m + 1))) (va_up r1 13 (upd (r1 13) m (nI a))) nf na fi go co ne ad dr := t1.fr (fun j hj => pk_un (by omega)) rfl rfl rfl rfl
            refine zd_callV E (pc := 129) d_S_writeBest_129 kc_S_79 rfl ki_T_after ke_T_after 1 rfl rfl (c_T_after l D ha12 t2.had0 t2.hdr0) (by decide) rfl (Nat.le_of_ble_eq_true rfl) (fun v1 ws1 hv1 => ?_)
            obtain ⟨rfl, rfl⟩ := hv1
            refine zd_istore E (pc := 132) d_S_writeBest_132 (by decide) ?_
            refine zd_iinc E (pc := 134) d_S_writeBest_134 rfl (bm_inc m) (by decide) ?_
            refine zd_goto E (pc := 137) 87 d_S_writeBest_137 (by decide) ?_
            have hsr : sr_on (va_up r1 13 (upd (r1 13) m (nI a))) = sr_on r1 := rfl
            have pm1 : va_up p (m + 1) (tk_af ad dr a (p m)) (m + 1) = tk_af ad dr a (p m) := va_up_self _ _ _
            have key := ih (m + 1) (upd v1 5 (nI (m + 1))) (va_up r1 13 (upd (r1 13) m (nI a))) (va_up p (m + 1) (tk_af ad dr a (p m))) (va_up it m a) L6 (by omega) (fun j hj => by rw [pk_un hj]; exact hfv j hj) (fun j a1 a2 => by rw [va_up_ne _ _ a2]; exact hfr j a1 a2) hon (by rw [va_up_ne _ _ (by omega)]; exact hp0)
              (fun j hj => by
                rw [hsr]
                by_cases e : j = m
                · subst e
                  rw [va_up_ne _ _ (by omega), va_up_self, va_up_self]
                  exact ⟨hz, rfl⟩
                · rw [va_up_ne _ _ (by omega), va_up_ne _ _ (by omega), va_up_ne _ _ (by omega)]
                  exact hps j (by omega))
              ⟨j, hj, by rw [pm1]; exact hje⟩ pk_us
              (fun j hj => by
                rw [va_up_self]
                by_cases e : j = m
                · subst e; rw [pk_us, va_up_self]
                · rw [pk_un e, va_up_ne _ _ e]; exact hit j (by omega))
            rw [pm1] at key
            exact key
        · rw [hpi] at hz
          have hz1 : r1 10 (p m) = -1 := Int32.toInt_inj.mp (hz.trans (by decide))
          rw [hz1]
          refine zd_if_lt E (pc := 102) 140 d_S_writeBest_102 (by decide) (fun hneg => ?_) (fun hneg => ?_)
          · exact zd_vret E (pc := 140) d_S_writeBest_140 ⟨v1, r1, m, p, it, hfv, hfr, hon, ⟨hp0, hps, Or.inr (by rw [hz]; decide), by omega⟩, hm5, hit, rfl, rfl⟩
          · exact absurd (by decide) hneg
  have begin2 : ∀ (r1 : Nat → Nat → Int32) (L4 L5 L6 : Option Value), (∀ i, i ≠ 10 → r1 i = r i) → gw_on n na (tk_can ne) (tk_af ad dr) co (tk_met go) least o d (sr_on r1) → Z (wd k q v r1 ex) [some (.ref (q 7)), some (.int (nI s0)), some (.int (nI least)), some (.ref (q 12)), L4, L5, L6] 81 [] := by
    intro r1 L4 L5 L6 hf hon
    refine zd_iload_n E (pc := 81) d_S_writeBest_81 rfl ?_
    refine zd_istore E (pc := 82) d_S_writeBest_82 (by decide) ?_
    refine zd_iconst E (pc := 84) (v := (nI 0)) d_S_writeBest_84 (by decide) ?_
    refine zd_istore E (pc := 85) d_S_writeBest_85 (by decide) ?_
    exact walk 1023 0 v r1 (fun _ => s0) (fun _ => 0) L6 rfl (fun _ _ => rfl) (fun i a b => hf i a) hon rfl (fun j hj => by omega) ⟨0, hok.1, hok.2.1⟩ hv5 (fun j hj => by omega)
  -- one state, from behind
  have body : ∀ (i : Nat) (r1 : Nat → Nat → Int32) (L5 L6 : Option Value), i < n → (∀ j, j ≠ 10 → r1 j = r j) → (∀ j, i < j → j < n → gw_onc n na (tk_can ne) (tk_af ad dr) co (tk_met go) least o d (sr_on r1) j) →
      (∀ (r1 : Nat → Nat → Int32) (L5 L6 : Option Value), (∀ j, j ≠ 10 → r1 j = r j) → (∀ j, i ≤ j → j < n → gw_onc n na (tk_can ne) (tk_af ad dr) co (tk_met go) least o d (sr_on r1) j) → Z (wd k q v r1 ex) [some (.ref (q 7)), some (.int (nI s0)), some (.int (nI least)), some (.ref (q 12)), some (.int (nI i)), L5, L6] 75 []) →
      Z (wd k q v r1 ex) [some (.ref (q 7)), some (.int (nI s0)), some (.int (nI least)), some (.ref (q 12)), some (.int (nI i)), L5, L6] 8 [] := by
    intro i r1 L5 L6 hi hf hall kk
    have t1 := trk r1 hf
    have st1 := srk r1 hf
    have oN := h2 i hi
    obtain ⟨d1, d2⟩ := st1.2.2.2.2.1 i hi
    -- the store, and what holds behind it
    have store : ∀ (x : Int32) (L6 : Option Value), (((d i = least ∧ tk_met go (o i) = true) ∧ x = -2) ∨ (¬ (d i = least ∧ tk_met go (o i) = true) ∧ ((∃ a, a < na ∧ gw_on1 n (tk_can ne) (tk_af ad dr) co o d (sr_on r1) i a ∧ (∀ b, b < a → ¬ gw_on1 n (tk_can ne) (tk_af ad dr) co o d (sr_on r1) i b) ∧ x = nI a) ∨ ((∀ a, a < na → ¬ gw_on1 n (tk_can ne) (tk_af ad dr) co o d (sr_on r1) i a) ∧ x = -1)))) →
        Z (wd k q v r1 ex) [some (.ref (q 7)), some (.int (nI s0)), some (.int (nI least)), some (.ref (q 12)), some (.int (nI i)), some (.int (nI (o i))), L6] 74 [.int x, .int (nI (o i)), .ref (q 10)] := by
      intro x L6 hx
      refine zd_iast E (pc := 74) d_S_writeBest_74 10 rfl (t0 := 0) rfl (o i) (rfl) (oN) (by decide) (ws1 := wd k q v (va_up r1 10 (upd (r1 10) (o i) x)) ex) rfl ?_
      have same : ∀ j, i < j → j < n → sr_on r1 (o j) = sr_on (va_up r1 10 (upd (r1 10) (o i) x)) (o j) := fun j a b => by
        show _ = (upd (r1 10) (o i) x (o j)).toInt
        rw [pk_un (fun z => by have := h3 j i b hi z; omega)]
        rfl
      have here : sr_on (va_up r1 10 (upd (r1 10) (o i) x)) (o i) = x.toInt := by
        show (upd (r1 10) (o i) x (o i)).toInt = _
        rw [pk_us]
      refine kk _ _ _ (fun j hj => by rw [va_up_ne _ _ hj]; exact hf j hj) (fun j a b => ?_)
      by_cases e : j = i
      · subst e
        have e1 : ∀ a, a < na → (gw_on1 n (tk_can ne) (tk_af ad dr) co o d (sr_on r1) j a ↔ gw_on1 n (tk_can ne) (tk_af ad dr) co o d (sr_on (va_up r1 10 (upd (r1 10) (o j) x))) j a) := fun a ha => gw_on1_congr fun j2 hj2 hd => same j2 (by
          by_cases z : j < j2
          · exact z
          · have := hmono j2 j (by omega) b
            have := hco1 a ha
            omega) hj2
        rcases hx with ⟨x1, x2⟩ | ⟨x1, ⟨a, ha, x2, x3, x4⟩ | ⟨x2, x3⟩⟩
        · exact Or.inl ⟨x1, by rw [here, x2]; decide⟩
        · exact Or.inr ⟨x1, Or.inl ⟨a, ha, (e1 a ha).mp x2, fun b hb z => x3 b hb ((e1 b (by omega)).mpr z), by rw [here, x4]; exact nI_toInt (by omega)⟩⟩
        · exact Or.inr ⟨x1, Or.inr ⟨fun a ha z => x2 a ha ((e1 a ha).mpr z), by rw [here, x3]; decide⟩⟩
      · exact gw_onc_congr hco1 hmono b (fun j2 a2 b2 => same j2 (by omega) b2) (hall j (by omega) b)
    have other : ∀ (L6 : Option Value), ¬ (d i = least ∧ tk_met go (o i) = true) → Z (wd k q v r1 ex) [some (.ref (q 7)), some (.int (nI s0)), some (.int (nI least)), some (.ref (q 12)), some (.int (nI i)), some (.int (nI (o i))), L6] 49 [] := by
      intro L6 hno
      refine zd_iconst E (pc := 49) (v := (nI 0)) d_S_writeBest_49 (by decide) ?_
      refine zd_istore E (pc := 50) d_S_writeBest_50 (by decide) ?_
      refine zd_aload_n E (pc := 52) d_S_writeBest_52 rfl ?_
      refine zd_get E (pc := 53) d_S_writeBest_53 kf_S_18 7 rfl rfl ?_
      refine zd_iload E (pc := 56) d_S_writeBest_56 rfl ?_
      refine zd_iload E (pc := 58) d_S_writeBest_58 rfl ?_
      refine zd_if_eq E (pc := 60) 68 d_S_writeBest_60 (by decide) (fun hz => ?_) (fun hz => ?_)
      · refine zd_aload_n E (pc := 68) d_S_writeBest_68 rfl ?_
        refine zd_iload E (pc := 69) d_S_writeBest_69 rfl ?_
        refine zd_callV E (pc := 71) d_S_writeBest_71 kc_S_69 rfl ki_S_leastOnward ke_S_leastOnward 7 rfl rfl (c_S_leastOnward l D t1 st1 hok hi) (by decide) rfl (Nat.le_of_ble_eq_true rfl) (fun v1 ws1 hv1 => ?_)
        obtain ⟨hcase, rfl⟩ := hv1
        rcases hcase with ⟨a, a1, a2, a3, rfl⟩ | ⟨a1, rfl⟩
        · exact store _ _ (Or.inr ⟨hno, Or.inl ⟨a, a1, a2, a3, rfl⟩⟩)
        · exact store _ _ (Or.inr ⟨hno, Or.inr ⟨a1, rfl⟩⟩)
      · exact absurd rfl hz
    refine zd_iload E (pc := 8) d_S_writeBest_8 rfl ?_
    refine zd_if_lt E (pc := 10) 81 d_S_writeBest_10 (by decide) (fun hneg => ?_) (fun hneg => ?_)
    · exact absurd hneg (nI_pos (by omega))
    · refine zd_aload_n E (pc := 13) d_S_writeBest_13 rfl ?_
      refine zd_get E (pc := 14) d_S_writeBest_14 kf_S_9 7 rfl rfl ?_
      refine zd_iload E (pc := 17) d_S_writeBest_17 rfl ?_
      refine zd_iald E (pc := 19) d_S_writeBest_19 8 rfl (t0 := 0) rfl (i) (rfl) ((by omega)) (by decide) ?_
      rw [st1.2.2.2.1 i hi]
      refine zd_istore E (pc := 20) d_S_writeBest_20 (by decide) ?_
      refine zd_aload_n E (pc := 22) d_S_writeBest_22 rfl ?_
      refine zd_get E (pc := 23) d_S_writeBest_23 kf_S_15 7 rfl rfl ?_
      refine zd_iload E (pc := 26) d_S_writeBest_26 rfl ?_
      refine zd_iald E (pc := 28) d_S_writeBest_28 9 rfl (t0 := 0) rfl (o i) (rfl) (oN) (by decide) ?_
      rw [d1]
      refine zd_iload_n E (pc := 29) d_S_writeBest_29 rfl ?_
      refine zd_nc_ne E (pc := 30) 49 d_S_writeBest_30 (by decide) ((by omega)) ((by omega)) (fun hd => ?_) (fun hd => ?_)
      · exact other _ (fun z => hd z.1)
      · refine zd_aload_n E (pc := 33) d_S_writeBest_33 rfl ?_
        refine zd_get E (pc := 34) d_S_writeBest_34 kf_S_24 7 rfl rfl ?_
        refine zd_iload E (pc := 37) d_S_writeBest_37 rfl ?_
        refine zd_callV E (pc := 39) d_S_writeBest_39 kc_S_65 rfl ki_T_isMet ke_T_isMet 1 rfl rfl (c_T_isMet l D t1.hgo.1 t1.hgo.2) (by decide) rfl (Nat.le_of_ble_eq_true rfl) (fun v1 ws1 hv1 => ?_)
        obtain ⟨rfl, rfl⟩ := hv1
        refine zd_bf_eq E (pc := 42) 49 d_S_writeBest_42 (by decide) (fun hb => ?_) (fun hb => ?_)
        · exact other _ (fun z => hb (by simpa [tk_met] using z.2))
        · refine zd_iconst E (pc := 45) (v := (nI 1)) d_S_writeBest_45 (by decide) ?_
          refine zd_goto E (pc := 46) 50 d_S_writeBest_46 (by decide) ?_
          refine zd_istore E (pc := 50) d_S_writeBest_50 (by decide) ?_
          refine zd_aload_n E (pc := 52) d_S_writeBest_52 rfl ?_
          refine zd_get E (pc := 53) d_S_writeBest_53 kf_S_18 7 rfl rfl ?_
          refine zd_iload E (pc := 56) d_S_writeBest_56 rfl ?_
          refine zd_iload E (pc := 58) d_S_writeBest_58 rfl ?_
          refine zd_if_eq E (pc := 60) 68 d_S_writeBest_60 (by decide) (fun hz => ?_) (fun hz => ?_)
          · exact absurd hz (by decide)
          · refine zd_bipush E (pc := 63) (v := (-2)) d_S_writeBest_63 (by decide) ?_
            refine zd_goto E (pc := 65) 74 d_S_writeBest_65 (by decide) ?_
            exact store _ _ (Or.inl ⟨⟨hd, by simpa [tk_met] using hb⟩, rfl⟩)
  have loop : ∀ (i : Nat) (r1 : Nat → Nat → Int32) (L5 L6 : Option Value), i < n → (∀ j, j ≠ 10 → r1 j = r j) → (∀ j, i < j → j < n → gw_onc n na (tk_can ne) (tk_af ad dr) co (tk_met go) least o d (sr_on r1) j) → Z (wd k q v r1 ex) [some (.ref (q 7)), some (.int (nI s0)), some (.int (nI least)), some (.ref (q 12)), some (.int (nI i)), L5, L6] 8 [] := by
    intro i
    induction i with
    | zero =>
      intro r1 L5 L6 hi hf hall
      refine body 0 r1 L5 L6 hi hf hall (fun r2 L5 L6 hf2 hall2 => ?_)
      refine zd_iinc E (pc := 75) d_S_writeBest_75 rfl ((show nI 0 + Int32.ofInt (-1) = -1 by decide)) (by decide) ?_
      refine zd_goto E (pc := 78) 8 d_S_writeBest_78 (by decide) ?_
      refine zd_iload E (pc := 8) d_S_writeBest_8 rfl ?_
      refine zd_if_lt E (pc := 10) 81 d_S_writeBest_10 (by decide) (fun hneg => ?_) (fun hneg => ?_)
      · exact begin2 r2 _ _ _ hf2 (fun j hj => hall2 j (Nat.zero_le _) hj)
      · exact absurd (by decide) hneg
    | succ i ih =>
      intro r1 L5 L6 hi hf hall
      refine body (i + 1) r1 L5 L6 hi hf hall (fun r2 L5 L6 hf2 hall2 => ?_)
      refine zd_iinc E (pc := 75) d_S_writeBest_75 rfl ((show nI (i + 1) + Int32.ofInt (-1) = nI i from pk_m1 i)) (by decide) ?_
      refine zd_goto E (pc := 78) 8 d_S_writeBest_78 (by decide) ?_
      exact ih r2 L5 L6 (by omega) hf2 (fun j a b => hall2 j (by omega) b)
  have hn0 := hok.1
  refine zd_aload_n E (pc := 0) d_S_writeBest_0 rfl ?_
  refine zd_get E (pc := 1) d_S_writeBest_1 kf_S_45 7 rfl rfl ?_
  rw [h1]
  refine zd_iconst E (pc := 4) (v := (nI 1)) d_S_writeBest_4 (by decide) ?_
  refine zd_isub E (pc := 5) d_S_writeBest_5 ?_
  rw [pk_sub (by omega)]
  refine zd_istore E (pc := 6) d_S_writeBest_6 (by decide) ?_
  exact loop (n - 1) r none none (by omega) (fun _ _ => rfl) (fun j a b => by omega)
end WB
