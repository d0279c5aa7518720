/-! The search by rising cost. -/
/-- what a level of the search adds: states of the cost now, behind the others -/
def sr_ex (now n : Nat) (o d : Nat → Nat) (n1 : Nat) (o1 d1 : Nat → Nat) : Prop := n ≤ n1 ∧ (∀ i, i < n → o1 i = o i ∧ d1 i = d i) ∧ (∀ i, n ≤ i → i < n1 → d1 i = now)
theorem sr_ex.rf (now n : Nat) (o d : Nat → Nat) : sr_ex now n o d n o d := ⟨Nat.le_refl _, fun _ _ => ⟨rfl, rfl⟩, fun i a b => by omega⟩
theorem sr_ex.tr {now n n1 n2 : Nat} {o d o1 d1 o2 d2 : Nat → Nat} (h : sr_ex now n o d n1 o1 d1) (g : sr_ex now n1 o1 d1 n2 o2 d2) : sr_ex now n o d n2 o2 d2 := by
  refine ⟨Nat.le_trans h.1 g.1, fun i hi => ?_, fun i a b => ?_⟩
  · obtain ⟨a, b⟩ := g.2.1 i (Nat.lt_of_lt_of_le hi h.1)
    obtain ⟨c, e⟩ := h.2.1 i hi
    exact ⟨a.trans c, b.trans e⟩
  · by_cases q : i < n1
    · rw [(g.2.1 i q).2]; exact h.2.2 i a q
    · exact g.2.2 i (by omega) b
/-- where the states of a cost below x end -/
def sr_B (n : Nat) (d : Nat → Nat) (x e : Nat) : Prop := e ≤ n ∧ ∀ i, i < n → (d i < x ↔ i < e)
theorem sr_B.ex {now n n1 x e : Nat} {o d o1 d1 : Nat → Nat} (h : sr_B n d x e) (g : sr_ex now n o d n1 o1 d1) (hx : x ≤ now) : sr_B n1 d1 x e := by
  refine ⟨Nat.le_trans h.1 g.1, fun i hi => ?_⟩
  have h1 := h.1
  by_cases q : i < n
  · rw [(g.2.1 i q).2]; exact h.2 i q
  · rw [g.2.2 i (by omega) hi]
    constructor
    · intro z; omega
    · intro z; omega
section XP
variable {k : Nat → ClassId} {q : Nat → Nat} {v : Nat → Int32} {r : Nat → Nat → Int32} {ex : va_W} {nf na fi go : Nat} {co ne ad dr : Nat → Nat}
set_option maxRecDepth 100000 in
set_option maxHeartbeats 4000000 in
theorem c_S_lastSpent (l : Launch) (D : va_G) {n : Nat} {o d : Nat → Nat} (h : sr_st v r n o d) (hn0 : 0 < n) : zd_Ct l D classes (wd_ty k) gd_T y_S_lastSpent b_S_lastSpent 1 (some .int) (zd_rm 0) [.ref (q 7)] (wd k q v r ex) (zd_is (some (.int (nI (d (n - 1))))) (wd k q v r ex)) := by
  refine zd_met gd_all (by decide) rfl (Nat.le_of_ble_eq_true rfl) (fun Z E => ?_)
  show Z (wd k q v r ex) [some (.ref (q 7))] 0 []
  have hn := sr_le h
  obtain ⟨h1, h2, h3, h4, h5, h6⟩ := h
  refine zd_aload_n E (pc := 0) d_S_lastSpent_0 rfl ?_
  refine zd_get E (pc := 1) d_S_lastSpent_1 kf_S_45 7 rfl rfl ?_
  rw [h1]
  refine zd_if_ne E (pc := 4) 11 d_S_lastSpent_4 (by decide) (fun hc => ?_) (fun hc => ?_)
  · refine zd_aload_n E (pc := 11) d_S_lastSpent_11 rfl ?_
    refine zd_get E (pc := 12) d_S_lastSpent_12 kf_S_15 7 rfl rfl ?_
    refine zd_aload_n E (pc := 15) d_S_lastSpent_15 rfl ?_
    refine zd_get E (pc := 16) d_S_lastSpent_16 kf_S_9 7 rfl rfl ?_
    refine zd_aload_n E (pc := 19) d_S_lastSpent_19 rfl ?_
    refine zd_get E (pc := 20) d_S_lastSpent_20 kf_S_45 7 rfl rfl ?_
    rw [h1]
    refine zd_iconst E (pc := 23) (v := (nI 1)) d_S_lastSpent_23 (by decide) ?_
    refine zd_isub E (pc := 24) d_S_lastSpent_24 ?_
    rw [pk_sub (by omega)]
    refine zd_iald E (pc := 25) d_S_lastSpent_25 8 rfl (t0 := 0) rfl (n - 1) (rfl) ((by omega)) (by decide) ?_
    rw [h4 (n - 1) (by omega)]
    refine zd_iald E (pc := 26) d_S_lastSpent_26 9 rfl (t0 := 0) rfl (o (n - 1)) (rfl) (h2 (n - 1) (by omega)) (by decide) ?_
    rw [(h5 (n - 1) (by omega)).1]
    exact zd_iret E (pc := 27) d_S_lastSpent_27 ⟨rfl, rfl⟩
  · exact absurd (Classical.not_not.mp hc) (nI_ne0 hn0 (by omega))
set_option maxRecDepth 100000 in
set_option maxHeartbeats 4000000 in
theorem c_S_spread (l : Launch) (D : va_G) {n s0 a before now e0 e1 : Nat} {o d : Nat → Nat} (t : tk_C v r nf na fi go co ne ad dr) (h : sr_st v r n o d) (hi : se_inv 1024 na (tk_can ne) (tk_af ad dr) co s0 now n o d) (ha : a < na) (hb : before + co a = now) (hnow : now < 10000) (h0 : r 11 (before % 10) = nI e0) (h1 : r 11 ((before + 1) % 10) = nI e1) (hB0 : sr_B n d before e0) (hB1 : sr_B n d (before + 1) e1) (hdone : se_done na (tk_can ne) (tk_af ad dr) co n o d now) :
    zd_Ct l D classes (wd_ty k) gd_T y_S_spread b_S_spread 6 none (zd_rm 2) [.ref (q 7), .int (nI a), .int (nI before), .int (nI now)] (wd k q v r ex)
    (fun v1 w1 => ∃ v2 r2 n2 o2 d2, sr_fr v v2 r r2 ∧ r2 11 = r 11 ∧ sr_st v2 r2 n2 o2 d2 ∧ se_inv 1024 na (tk_can ne) (tk_af ad dr) co s0 now n2 o2 d2 ∧ se_done na (tk_can ne) (tk_af ad dr) co n2 o2 d2 now ∧ sr_ex now n o d n2 o2 d2 ∧ (∀ i, i < n → d i = before → tk_can ne a (o i) = true → ∃ j, j < n2 ∧ o2 j = tk_af ad dr a (o i)) ∧ v1 = none ∧ w1 = wd k q v2 r2 ex) := by
  refine zd_met gd_all (by decide) rfl (Nat.le_of_ble_eq_true rfl) (fun Z E => ?_)
  show Z (wd k q v r ex) [some (.ref (q 7)), some (.int (nI a)), some (.int (nI before)), some (.int (nI now)), none, none] 0 []
  have ha12 : a < 12 := by have := t.hna.2; omega
  have hco9 := (t.hco a ha12).2
  have hco1 := t.2.2.2.2 a ha
  have hn := sr_le h
  have loop : ∀ m i v1 r1 n1 o1 d1, i + m = e1 → e0 ≤ i → sr_fr v v1 r r1 → r1 11 = r 11 → sr_st v1 r1 n1 o1 d1 → se_inv 1024 na (tk_can ne) (tk_af ad dr) co s0 now n1 o1 d1 → se_done na (tk_can ne) (tk_af ad dr) co n1 o1 d1 now → sr_ex now n o d n1 o1 d1 → (∀ j, e0 ≤ j → j < i → tk_can ne a (o j) = true → ∃ j2, j2 < n1 ∧ o1 j2 = tk_af ad dr a (o j)) → Z (wd k q v1 r1 ex) [some (.ref (q 7)), some (.int (nI a)), some (.int (nI before)), some (.int (nI now)), some (.int (nI e1)), some (.int (nI i))] 24 [] := by
    intro m
    induction m with
    | zero =>
      intro i v1 r1 n1 o1 d1 hi1 hi0 hf hf11 hst hinv hdn hex hall
      have e : i = e1 := by omega
      subst e
      have := hB1.1
      refine zd_iload E (pc := 24) d_S_spread_24 rfl ?_
      refine zd_iload E (pc := 26) d_S_spread_26 rfl ?_
      refine zd_nc_ge E (pc := 28) 75 d_S_spread_28 (by decide) ((by omega)) ((by omega)) (fun hc => ?_) (fun hc => ?_)
      · exact zd_vret E (pc := 75) d_S_spread_75 ⟨v1, r1, n1, o1, d1, hf, hf11, hst, hinv, hdn, hex, fun j hj hd hcan => hall j (Nat.not_lt.mp fun z => by have := (hB0.2 j hj).mpr z; omega) ((hB1.2 j hj).mp (by omega)) hcan, rfl, rfl⟩
      · omega
    | succ m ih =>
      intro i v1 r1 n1 o1 d1 hi1 hi0 hf hf11 hst hinv hdn hex hall
      have hB1n := hB1.1
      have hin : i < n := by omega
      have hin1 : i < n1 := Nat.lt_of_lt_of_le hin hex.1
      have hn1 := sr_le hst
      have t1 := hf.tk t
      have hdi : d i = before := by
        have z1 := (hB1.2 i hin).mpr (by omega)
        have z0 : ¬ d i < before := fun z => by have := (hB0.2 i hin).mp z; omega
        omega
      obtain ⟨eo, ed⟩ := hex.2.1 i hin
      have o8 : r1 8 i = nI (o1 i) := hst.2.2.2.1 i hin1
      have oN : o1 i < 1024 := hst.2.1 i hin1
      have tail : ∀ v2 r2 n2 o2 d2, sr_fr v v2 r r2 → r2 11 = r 11 → sr_st v2 r2 n2 o2 d2 → se_inv 1024 na (tk_can ne) (tk_af ad dr) co s0 now n2 o2 d2 → se_done na (tk_can ne) (tk_af ad dr) co n2 o2 d2 now → sr_ex now n1 o1 d1 n2 o2 d2 → (tk_can ne a (o i) = true → ∃ j2, j2 < n2 ∧ o2 j2 = tk_af ad dr a (o i)) → Z (wd k q v2 r2 ex) [some (.ref (q 7)), some (.int (nI a)), some (.int (nI before)), some (.int (nI now)), some (.int (nI e1)), some (.int (nI i))] 69 [] := by
        intro v2 r2 n2 o2 d2 hf2 hf112 hst2 hinv2 hdn2 hex2 hone
        refine zd_iinc E (pc := 69) d_S_spread_69 rfl (bm_inc i) (by decide) ?_
        refine zd_goto E (pc := 72) 24 d_S_spread_72 (by decide) ?_
        refine ih (i + 1) v2 r2 n2 o2 d2 (by omega) (by omega) hf2 hf112 hst2 hinv2 hdn2 (hex.tr hex2) (fun j a1 a2 hcan => ?_)
        by_cases e : j = i
        · subst e; exact hone hcan
        · obtain ⟨j2, b1, b2⟩ := hall j a1 (by omega) hcan
          exact ⟨j2, Nat.lt_of_lt_of_le b1 hex2.1, by rw [(hex2.2.1 j2 b1).1]; exact b2⟩
      refine zd_iload E (pc := 24) d_S_spread_24 rfl ?_
      refine zd_iload E (pc := 26) d_S_spread_26 rfl ?_
      refine zd_nc_ge E (pc := 28) 75 d_S_spread_28 (by decide) ((by omega)) ((by omega)) (fun hc => ?_) (fun hc => ?_)
      · omega
      · refine zd_aload_n E (pc := 31) d_S_spread_31 rfl ?_
        refine zd_get E (pc := 32) d_S_spread_32 kf_S_24 7 rfl rfl ?_
        refine zd_iload_n E (pc := 35) d_S_spread_35 rfl ?_
        refine zd_aload_n E (pc := 36) d_S_spread_36 rfl ?_
        refine zd_get E (pc := 37) d_S_spread_37 kf_S_9 7 rfl rfl ?_
        refine zd_iload E (pc := 40) d_S_spread_40 rfl ?_
        refine zd_iald E (pc := 42) d_S_spread_42 8 rfl (t0 := 0) rfl (i) (rfl) ((by omega)) (by decide) ?_
        rw [o8]
        refine zd_callV E (pc := 43) d_S_spread_43 kc_S_83 rfl ki_T_allows ke_T_allows 1 rfl rfl (c_T_allows l D ha12 t1.hne) (by decide) rfl (Nat.le_of_ble_eq_true rfl) (fun v1 ws1 hv1 => ?_)
        obtain ⟨rfl, rfl⟩ := hv1
        refine zd_bf_eq E (pc := 46) 69 d_S_spread_46 (by decide) (fun hcan => ?_) (fun hcan => ?_)
        · refine tail v1 r1 n1 o1 d1 hf hf11 hst hinv hdn (sr_ex.rf _ _ _ _) (fun hz => ?_)
          exfalso
          apply hcan
          rw [eo]
          simpa [tk_can] using hz
        · refine zd_aload_n E (pc := 49) d_S_spread_49 rfl ?_
          refine zd_aload_n E (pc := 50) d_S_spread_50 rfl ?_
          refine zd_get E (pc := 51) d_S_spread_51 kf_S_24 7 rfl rfl ?_
          refine zd_iload_n E (pc := 54) d_S_spread_54 rfl ?_
          refine zd_aload_n E (pc := 55) d_S_spread_55 rfl ?_
          refine zd_get E (pc := 56) d_S_spread_56 kf_S_9 7 rfl rfl ?_
          refine zd_iload E (pc := 59) d_S_spread_59 rfl ?_
          refine zd_iald E (pc := 61) d_S_spread_61 8 rfl (t0 := 0) rfl (i) (rfl) ((by omega)) (by decide) ?_
          rw [o8]
          refine zd_callV E (pc := 62) d_S_spread_62 kc_S_79 rfl ki_T_after ke_T_after 1 rfl rfl (c_T_after l D ha12 t1.had0 t1.hdr0) (by decide) rfl (Nat.le_of_ble_eq_true rfl) (fun v1 ws1 hv1 => ?_)
          obtain ⟨rfl, rfl⟩ := hv1
          refine zd_iload_n E (pc := 65) d_S_spread_65 rfl ?_
          have haf : bm_dif (o1 i) (dr a) ||| ad a < 1024 := t1.haf ha12 oN
          refine zd_callV E (pc := 66) d_S_spread_66 kc_S_37 rfl ki_S_settle ke_S_settle 7 rfl rfl (c_S_settle l D hst haf (by omega)) (by decide) rfl (Nat.le_of_ble_eq_true rfl) (fun v1 ws1 hv1 => ?_)
          obtain ⟨v2, r2, n2, o2, d2, hf2, hf112, hst2, hcase, rfl, rfl⟩ := hv1
          have hcan1 : tk_can ne a (o1 i) = true := by simp [tk_can, hcan]
          rcases hcase with ⟨⟨j, hj, hje⟩, rfl, rfl, rfl⟩ | ⟨hnew, rfl, rfl, rfl⟩
          · exact tail v2 r2 n2 o2 d2 (hf.tr hf2) (hf112.trans hf11) hst2 hinv hdn (sr_ex.rf _ _ _ _) (fun _ => ⟨j, hj, by rw [hje, ← eo]; rfl⟩)
          · refine tail v2 r2 _ _ _ (hf.tr hf2) (hf112.trans hf11) hst2 (se_push hinv hin1 ha hcan1 (by rw [ed, hdi]; exact hb) hco9 haf hnew) (se_done_push hdn t.2.2.2.2 (by omega)) ⟨by omega, fun j hj => ⟨va_up_ne _ _ (by omega), va_up_ne _ _ (by omega)⟩, fun j a1 a2 => by rw [show j = n1 by omega, va_up_self]⟩ (fun _ => ⟨n1, by omega, by rw [va_up_self, ← eo]; rfl⟩)
  have hB0n := hB0.1
  have hB1n := hB1.1
  have he : e0 ≤ e1 := by
    by_cases z : e0 ≤ e1
    · exact z
    · exfalso
      have z1 := (hB0.2 e1 (by omega)).mpr (by omega)
      have z2 := (hB1.2 e1 (by omega)).mp (by omega)
      omega
  refine zd_aload_n E (pc := 0) d_S_spread_0 rfl ?_
  refine zd_get E (pc := 1) d_S_spread_1 kf_S_21 7 rfl rfl ?_
  refine zd_iload_n E (pc := 4) d_S_spread_4 rfl ?_
  refine zd_iconst E (pc := 5) (v := (nI 1)) d_S_spread_5 (by decide) ?_
  refine zd_iadd E (pc := 6) d_S_spread_6 ?_
  rw [nI_add]
  refine zd_bipush E (pc := 7) (v := (nI 10)) d_S_spread_7 (by decide) ?_
  refine zd_irem E (pc := 9) d_S_spread_9 (by decide) ?_
  rw [pk_rem (by omega) (by decide) (by decide)]
  refine zd_iald E (pc := 10) d_S_spread_10 11 rfl (t0 := 0) rfl ((before + 1) % 10) (rfl) (Nat.mod_lt _ (by decide)) (by decide) ?_
  rw [h1]
  refine zd_istore E (pc := 11) d_S_spread_11 (by decide) ?_
  refine zd_aload_n E (pc := 13) d_S_spread_13 rfl ?_
  refine zd_get E (pc := 14) d_S_spread_14 kf_S_21 7 rfl rfl ?_
  refine zd_iload_n E (pc := 17) d_S_spread_17 rfl ?_
  refine zd_bipush E (pc := 18) (v := (nI 10)) d_S_spread_18 (by decide) ?_
  refine zd_irem E (pc := 20) d_S_spread_20 (by decide) ?_
  rw [pk_rem (by omega) (by decide) (by decide)]
  refine zd_iald E (pc := 21) d_S_spread_21 11 rfl (t0 := 0) rfl (before % 10) (rfl) (Nat.mod_lt _ (by decide)) (by decide) ?_
  rw [h0]
  refine zd_istore E (pc := 22) d_S_spread_22 (by decide) ?_
  exact loop (e1 - e0) e0 v r n o d (by omega) (Nat.le_refl _) (sr_fr.rf v r) rfl h hi hdone (sr_ex.rf _ _ _ _) (fun j a1 a2 => by omega)
end XP
