/-! The reference: cutAll, cuts, cut. -/
theorem cu_B_ex (h : Nat → Nat) (S : Nat) : ∀ n, ∃ b, cu_B h S n b
  | 0 => ⟨10, Or.inl ⟨rfl, fun f hf => by omega⟩⟩
  | n + 1 => by
    obtain ⟨b, hb⟩ := cu_B_ex h S n
    by_cases hs : S.testBit n = true
    · rcases hb with ⟨z1, z2⟩ | ⟨z1, z2, z3, z4⟩
      · refine ⟨n, Or.inr ⟨by omega, hs, fun f a1 a2 => ?_, fun f a1 a2 => ?_⟩⟩
        · by_cases e : f = n
          · subst e; exact Nat.le_refl _
          · rw [z2 f (by omega)] at a2; cases a2
        · rw [z2 f a1] at a2; cases a2
      · by_cases hlt : h b < h n
        · exact ⟨n, Or.inr ⟨by omega, hs, fun f a1 a2 => by
            by_cases e : f = n
            · subst e; exact Nat.le_refl _
            · have := z3 f (by omega) a2; omega, fun f a1 a2 => by have := z3 f a1 a2; omega⟩⟩
        · exact ⟨b, Or.inr ⟨by omega, z2, fun f a1 a2 => by
            by_cases e : f = n
            · subst e; omega
            · exact z3 f (by omega) a2, z4⟩⟩
    · have hs0 := ts_f hs
      rcases hb with ⟨z1, z2⟩ | ⟨z1, z2, z3, z4⟩
      · exact ⟨b, Or.inl ⟨z1, fun f a1 => by
          by_cases e : f = n
          · subst e; exact hs0
          · exact z2 f (by omega)⟩⟩
      · exact ⟨b, Or.inr ⟨by omega, z2, fun f a1 a2 => by
          by_cases e : f = n
          · subst e; rw [hs0] at a2; cases a2
          · exact z3 f (by omega) a2, z4⟩⟩
theorem lm_min_at {c : Nat → Nat} {C : Nat} : ∀ {n : Nat}, (∀ a, a < n → c a ≤ 9) → (∃ a, a < n ∧ C.testBit a = true) → ∃ a, a < n ∧ C.testBit a = true ∧ lm_min c C n = c a
  | 0, _, ⟨a, h, _⟩ => by omega
  | n + 1, hc, ⟨a, h, hb⟩ => by
    have h9 := lm_min_9 c C n
    by_cases q : ∃ b, b < n ∧ C.testBit b = true
    · obtain ⟨b, h1, h2, h3⟩ := lm_min_at (c := c) (C := C) (n := n) (fun a ha => hc a (by omega)) q
      unfold lm_min
      by_cases z : C.testBit n = true
      · rw [if_pos z]
        by_cases y : lm_min c C n ≤ c n
        · exact ⟨b, by omega, h2, by omega⟩
        · exact ⟨n, by omega, z, by omega⟩
      · rw [if_neg z]; exact ⟨b, by omega, h2, h3⟩
    · have e : a = n := by
        by_cases e : a = n
        · exact e
        · exact absurd ⟨a, by omega, hb⟩ q
      subst e
      have hn : ∀ m, m ≤ a → lm_min c C m = 9 := by
        intro m
        induction m with
        | zero => intro _; rfl
        | succ m ih =>
          intro hm
          unfold lm_min
          rw [if_neg (fun z => q ⟨m, by omega, z⟩)]
          exact ih (by omega)
      refine ⟨a, by omega, hb, ?_⟩
      unfold lm_min
      rw [if_pos hb, hn a (Nat.le_refl _)]
      have := hc a (by omega)
      omega
/-- a cut is not empty, and with it paid there are fewer actions that cost something -/
theorem cu_step {K n na s go gb X R : Nat} {c ne ad ba : Nat → Nat} {L : Nat → Nat} (hp : lm_px K false n na c ne ad (fun _ => false) L) (hL : ∀ f, f < n → L f ≤ lm_i0 K s f) (hmax : ∀ Y, lm_px K false n na c ne ad (fun _ => false) Y → (∀ f, f < n → Y f ≤ lm_i0 K s f) → ∀ f, f < n → Y f ≤ L f)
    (hB : ∀ a, a < na → cu_B L (ne a) n (ba a)) (hgb : cu_B L go n gb) (had : ∀ a, a < na → ad a < 2 ^ n) (hs : s < 2 ^ n) (hn : n ≤ 10) (h0 : 0 < lm_jn K false L go n) (h1 : lm_jn K false L go n < K) (hc : ∀ a, a < na → c a ≤ 9)
    (hX : cu_is na (cu_tz K n c ne ad L) (fun a => 2 ^ ba a) (2 ^ gb) X) (hR : cu_is na (cu_tr K n ne ba L) (fun a => bm_dif (ad a) X) (bm_dif (s ||| 2 ^ 10) X) R) :
    (∃ a, a < na ∧ (cu_mk (cu_ac K n ne ad ba L X R) na).testBit a = true) ∧ lm_cnt (fun a => decide (0 < cs_pay na c (cu_mk (cu_ac K n ne ad ba L X R) na) (lm_min c (cu_mk (cu_ac K n ne ad ba L X R) na) na) a)) na < lm_cnt (fun a => decide (0 < c a)) na := by
  have hg : gb < n ∧ lm_jn K false L go n = L gb := by
    rcases hgb with ⟨z1, z2⟩ | ⟨z1, z2, z3, z4⟩
    · exfalso
      unfold lm_jn at h0
      rw [cu_jp_0 z2] at h0
      omega
    · refine ⟨z1, ?_⟩
      unfold lm_jn at h1 ⊢
      rw [cu_B_jp z1 z2 z3] at h1 ⊢
      omega
  obtain ⟨a, ha, hac⟩ := cu_some hp hL hmax (fun a ha _ => hB a ha) had hs hn hg.1 (by omega) (by omega) hX hR
  have hex : ∃ a, a < na ∧ (cu_mk (cu_ac K n ne ad ba L X R) na).testBit a = true := ⟨a, ha, by rw [cu_mk_bit, hac]; simp [ha]⟩
  refine ⟨hex, ?_⟩
  obtain ⟨b, hb, hbt, hbm⟩ := lm_min_at (c := c) hc hex
  have hbt2 := hbt
  rw [cu_mk_bit] at hbt2
  simp only [Bool.and_eq_true, decide_eq_true_eq] at hbt2
  have hpos := cu_pos hb hX.2.1 (cu_rest hR) hbt2.2
  refine lm_cnt_lt (fun f hf hq => ?_) ⟨b, hb, ?_, ?_⟩
  · simp only [decide_eq_true_eq] at hq ⊢
    unfold cs_pay lm_pay at hq
    rw [if_pos hf] at hq
    split at hq <;> omega
  · refine decide_eq_false ?_
    unfold cs_pay lm_pay
    rw [if_pos hb, if_pos hbt, hbm]
    omega
  · exact decide_eq_true hpos
/-- C is the reference's cut under the costs c, with the levels h -/
def md_one (nf na : Nat) (c ne ad : Nat → Nat) (s go : Nat) (h : Nat → Nat) (C : Nat) : Prop := ∃ (ba : Nat → Nat) (gb X Y : Nat), (∀ a, a < na → cu_B h (ne a) nf (ba a)) ∧ cu_B h go nf gb ∧ cu_is na (cu_tz 1048576 nf c ne ad h) (fun a => 2 ^ ba a) (2 ^ gb) X ∧ cu_is na (cu_tr 1048576 nf ne ba h) (fun a => bm_dif (ad a) X) (bm_dif (s ||| 2 ^ 10) X) Y ∧ C = cu_mk (cu_ac 1048576 nf ne ad ba h X Y) na
def md_run (nf na : Nat) (co ne ad : Nat → Nat) (s go m : Nat) (cc : Nat → Nat → Nat) (CC pp : Nat → Nat) : Prop := cc 0 = co ∧ ∀ j, j < m → ∃ h, md_lv false nf na (cc j) ne ad (fun _ => false) s h ∧ 0 < lm_jn 1048576 false h go nf ∧ lm_jn 1048576 false h go nf < 1048576 ∧ md_one nf na (cc j) ne ad s go h (CC j) ∧ pp j = lm_min (cc j) (CC j) na ∧ cc (j + 1) = cs_pay na (cc j) (CC j) (pp j)
theorem md_step {nf na s go gb X R : Nat} {c ne ad ba : Nat → Nat} {h : Nat → Nat} (hlv : md_lv false nf na c ne ad (fun _ => false) s h)
    (hB : ∀ a, a < na → cu_B h (ne a) nf (ba a)) (hgb : cu_B h go nf gb) (had : ∀ a, a < na → ad a < 2 ^ nf) (hs : s < 2 ^ nf) (hn : nf ≤ 10) (h0 : 0 < lm_jn 1048576 false h go nf) (h1 : lm_jn 1048576 false h go nf < 1048576) (hc : ∀ a, a < na → c a ≤ 9)
    (hX : cu_is na (cu_tz 1048576 nf c ne ad h) (fun a => 2 ^ ba a) (2 ^ gb) X) (hR : cu_is na (cu_tr 1048576 nf ne ba h) (fun a => bm_dif (ad a) X) (bm_dif (s ||| 2 ^ 10) X) R) :
    md_min c (cu_mk (cu_ac 1048576 nf ne ad ba h X R) na) na = lm_min c (cu_mk (cu_ac 1048576 nf ne ad ba h X R) na) na ∧ lm_cnt (fun a => decide (0 < cs_pay na c (cu_mk (cu_ac 1048576 nf ne ad ba h X R) na) (lm_min c (cu_mk (cu_ac 1048576 nf ne ad ba h X R) na) na) a)) na < lm_cnt (fun a => decide (0 < c a)) na := by
  obtain ⟨kk, rfl, hp⟩ := hlv
  have st := cu_step hp (fun f _ => lm_it_le _ _ _) (fun Y hY hY0 f hf => lm_it_px hY hY0 kk f hf) hB hgb had hs hn h0 h1 hc hX hR
  exact ⟨md_min_eq hc st.1, st.2⟩
section M9
variable {k : Nat → ClassId} {q : Nat → Nat} {v : Nat → Int32} {r : Nat → Nat → Int32} {ex : va_W} {nf na fi go : Nat} {co ne ad dr : Nat → Nat}
set_option maxRecDepth 100000 in
set_option maxHeartbeats 4000000 in
theorem c_M_cutAll (l : Launch) (D : va_G) {s : Nat} (t : tk_M v r nf na fi go co ne ad dr) (hs : v 15 = nI s) (hs2 : s < 2 ^ nf) : zd_Ct l D classes (wd_ty k) gd_T y_M_cutAll b_M_cutAll 6 none (zd_rm 3) [.ref (q 22)] (wd k q v r ex)
    (fun v1 w1 => ∃ (v2 : Nat → Int32) (r2 : Nat → Nat → Int32) (m : Nat) (cc : Nat → Nat → Nat) (CC pp h : Nat → Nat), (∀ i, i ≠ 18 → i ≠ 19 → v2 i = v i) ∧ (∀ i, i ≠ 31 → i ≠ 32 → i ≠ 33 → r2 i = r i) ∧ md_run nf na co ne ad s go m cc CC pp ∧ m ≤ 12 ∧ md_lv false nf na (cc m) ne ad (fun _ => false) s h ∧ (lm_jn 1048576 false h go nf = 0 ∨ 1048576 ≤ lm_jn 1048576 false h go nf) ∧ v2 18 = nI m ∧ (∀ j, j < m → r2 33 j = nI (CC j)) ∧ v2 19 = (if 1048576 ≤ lm_jn 1048576 false h go nf then -1 else nI (lm_sum pp m)) ∧ v1 = none ∧ w1 = wd k q v2 r2 ex) := by
  refine zd_met gd_all (by decide) rfl (Nat.le_of_ble_eq_true rfl) (fun Z E => ?_)
  show Z (wd k q v r ex) [some (.ref (q 22)), none, none, none, none, none] 0 []
  have hnf := t.2.2.1.1
  have hna := t.hna.2
  have had : ∀ a, a < na → ad a < 2 ^ nf := fun a ha => (t.2.2.2.1 a (by omega)).2.2.1
  obtain ⟨g1, g2⟩ := t.hgo
  have g1 : v 13 = nI go := g1
  have h14 : v 14 = nI na := t.hna.1
  have tr : ∀ (v1 : Nat → Int32) (r1 : Nat → Nat → Int32), (∀ i, i ≠ 18 → i ≠ 19 → v1 i = v i) → (∀ i, i ≠ 31 → i ≠ 32 → i ≠ 33 → r1 i = r i) → tk_M v1 r1 nf na fi go co ne ad dr := fun v1 r1 hv hf => tk_mfr t (hv 11 (by decide) (by decide)) (hv 12 (by decide) (by decide)) (hv 13 (by decide) (by decide)) (hv 14 (by decide) (by decide)) (hf 23 (by decide) (by decide) (by decide)) (hf 24 (by decide) (by decide) (by decide)) (hf 25 (by decide) (by decide) (by decide)) (hf 26 (by decide) (by decide) (by decide))
  have fin : ∀ (v1 : Nat → Int32) (r1 : Nat → Nat → Int32) (m : Nat) (cc : Nat → Nat → Nat) (CC pp h : Nat → Nat) (L2 L3 L4 L5 : Option Value), (∀ i, i ≠ 18 → i ≠ 19 → v1 i = v i) → (∀ i, i ≠ 31 → i ≠ 32 → i ≠ 33 → r1 i = r i) → md_run nf na co ne ad s go m cc CC pp → m ≤ 12 → md_lv false nf na (cc m) ne ad (fun _ => false) s h → (lm_jn 1048576 false h go nf = 0 ∨ 1048576 ≤ lm_jn 1048576 false h go nf) → v1 18 = nI m → (∀ j, j < m → r1 33 j = nI (CC j)) → v1 19 = nI (lm_sum pp m) →
      Z (wd k q v1 r1 ex) [some (.ref (q 22)), some (.int (nI (lm_jn 1048576 false h go nf))), L2, L3, L4, L5] 168 [] := by
    intro v1 r1 m cc CC pp h L2 L3 L4 L5 hfv hfr hrun hm hlv hend h18 h33 h19
    have hG := lm_jn_le 1048576 false h go nf
    refine zd_aload_n E (pc := 168) d_M_cutAll_168 rfl ?_
    refine zd_iload_n E (pc := 169) d_M_cutAll_169 rfl ?_
    refine zd_ldc E (pc := 170) (v := (nI 1048576)) d_M_cutAll_170 kk_M_87 ?_
    refine zd_nc_lt E (pc := 172) 179 d_M_cutAll_172 (by decide) ((by omega)) ((by omega)) (fun hq => ?_) (fun hq => ?_)
    · refine zd_aload_n E (pc := 179) d_M_cutAll_179 rfl ?_
      refine zd_get E (pc := 180) d_M_cutAll_180 kf_M_121 22 rfl rfl ?_
      rw [h19]
      refine zd_put E (pc := 183) d_M_cutAll_183 kp_M_121 22 rfl (Nat.le_of_ble_eq_true rfl) (ws1 := wd k q (upd v1 19 (nI (lm_sum pp m))) r1 ex) rfl ?_
      exact zd_vret E (pc := 186) d_M_cutAll_186 ⟨upd v1 19 (nI (lm_sum pp m)), r1, m, cc, CC, pp, h, (fun i a b => by rw [pk_un b]; exact hfv i a b), hfr, hrun, hm, hlv, hend, (by rw [pk_un (by decide)]; exact h18), h33, (by rw [if_neg (by omega), pk_us]), rfl, rfl⟩
    · refine zd_iconst E (pc := 175) (v := (-1)) d_M_cutAll_175 (by decide) ?_
      refine zd_goto E (pc := 176) 183 d_M_cutAll_176 (by decide) ?_
      refine zd_put E (pc := 183) d_M_cutAll_183 kp_M_121 22 rfl (Nat.le_of_ble_eq_true rfl) (ws1 := wd k q (upd v1 19 (-1)) r1 ex) rfl ?_
      exact zd_vret E (pc := 186) d_M_cutAll_186 ⟨upd v1 19 (-1), r1, m, cc, CC, pp, h, (fun i a b => by rw [pk_un b]; exact hfv i a b), hfr, hrun, hm, hlv, hend, (by rw [pk_un (by decide)]; exact h18), h33, (by rw [if_pos hq, pk_us]), rfl, rfl⟩
  -- the costs, one after another
  have pay : ∀ (n a : Nat) (v1 : Nat → Int32) (r0 r1 : Nat → Nat → Int32) (c : Nat → Nat) (C p : Nat) (L1 L2 : Option Value), a + n = na → v1 14 = nI na → C < 2 ^ 31 → (∀ i, i < na → C.testBit i = true → p ≤ c i) → (∀ i, i ≠ 31 → r1 i = r0 i) → (∀ i, i < na → r1 31 i = nI (if i < a then lm_pay c C p i else c i)) →
      (∀ (r1 : Nat → Nat → Int32) (L5 : Option Value), (∀ i, i ≠ 31 → r1 i = r0 i) → (∀ i, i < na → r1 31 i = nI (lm_pay c C p i)) → Z (wd k q v1 r1 ex) [some (.ref (q 22)), L1, L2, some (.int (nI C)), some (.int (nI p)), L5] 118 []) →
      Z (wd k q v1 r1 ex) [some (.ref (q 22)), L1, L2, some (.int (nI C)), some (.int (nI p)), some (.int (nI a))] 66 [] := by
    intro n
    induction n with
    | zero =>
      intro a v1 r0 r1 c C p L1 L2 ha h14 hC hp hf hr kk
      have e : a = na := by omega
      subst e
      refine zd_iload E (pc := 66) d_M_cutAll_66 rfl ?_
      refine zd_aload_n E (pc := 68) d_M_cutAll_68 rfl ?_
      refine zd_get E (pc := 69) d_M_cutAll_69 kf_M_51 22 rfl rfl ?_
      rw [h14]
      refine zd_nc_ge E (pc := 72) 118 d_M_cutAll_72 (by decide) ((by omega)) ((by omega)) (fun hq => ?_) (fun hq => ?_)
      · exact kk r1 _ hf (fun i hi => by rw [hr i hi, if_pos hi])
      · omega
    | succ n ih =>
      intro a v1 r0 r1 c C p L1 L2 ha h14 hC hp hf hr kk
      have ha12 : a < 12 := by omega
      have han : a < na := by omega
      have ra : r1 31 a = nI (c a) := by rw [hr a han, if_neg (Nat.lt_irrefl _)]
      have tail : ∀ x, x = lm_pay c C p a → Z (wd k q v1 r1 ex) [some (.ref (q 22)), L1, L2, some (.int (nI C)), some (.int (nI p)), some (.int (nI a))] 111 [.int (nI x), .int (nI a), .ref (q 31)] := by
        intro x hx
        subst hx
        refine zd_iast E (pc := 111) d_M_cutAll_111 31 rfl (t0 := 0) rfl (a) (rfl) (ha12) (by decide) (ws1 := wd k q v1 (va_up r1 31 (upd (r1 31) a (nI (lm_pay c C p a)))) ex) rfl ?_
        refine zd_iinc E (pc := 112) d_M_cutAll_112 rfl (bm_inc a) (by decide) ?_
        refine zd_goto E (pc := 115) 66 d_M_cutAll_115 (by decide) ?_
        refine ih (a + 1) v1 r0 _ c C p L1 L2 (by omega) h14 hC hp (fun i hi => by rw [va_up_ne _ _ hi]; exact hf i hi) (fun i hi => ?_) kk
        rw [va_up_self]
        by_cases e : i = a
        · subst e; rw [pk_us, if_pos (by omega)]
        · rw [pk_un e, hr i hi]
          by_cases z : i < a
          · rw [if_pos z, if_pos (by omega)]
          · rw [if_neg z, if_neg (by omega)]
      refine zd_iload E (pc := 66) d_M_cutAll_66 rfl ?_
      refine zd_aload_n E (pc := 68) d_M_cutAll_68 rfl ?_
      refine zd_get E (pc := 69) d_M_cutAll_69 kf_M_51 22 rfl rfl ?_
      rw [h14]
      refine zd_nc_ge E (pc := 72) 118 d_M_cutAll_72 (by decide) ((by omega)) ((by omega)) (fun hq => ?_) (fun hq => ?_)
      · omega
      · refine zd_aload_n E (pc := 75) d_M_cutAll_75 rfl ?_
        refine zd_get E (pc := 76) d_M_cutAll_76 kf_M_35 22 rfl rfl ?_
        refine zd_iload E (pc := 79) d_M_cutAll_79 rfl ?_
        refine zd_iload_n E (pc := 81) d_M_cutAll_81 rfl ?_
        refine zd_iload E (pc := 82) d_M_cutAll_82 rfl ?_
        refine zd_ishr E (pc := 84) d_M_cutAll_84 ?_
        refine zd_iconst E (pc := 85) (v := (nI 1)) d_M_cutAll_85 (by decide) ?_
        refine zd_iand E (pc := 86) d_M_cutAll_86 ?_
        rw [bm_has hC (show a < 32 by omega)]
        refine zd_iconst E (pc := 87) (v := (nI 1)) d_M_cutAll_87 (by decide) ?_
        refine zd_hb_ne E (pc := 88) 104 d_M_cutAll_88 (by decide) (fun hbit => ?_) (fun hbit => ?_)
        · refine zd_aload_n E (pc := 104) d_M_cutAll_104 rfl ?_
          refine zd_get E (pc := 105) d_M_cutAll_105 kf_M_35 22 rfl rfl ?_
          refine zd_iload E (pc := 108) d_M_cutAll_108 rfl ?_
          refine zd_iald E (pc := 110) d_M_cutAll_110 31 rfl (t0 := 0) rfl (a) (rfl) (ha12) (by decide) ?_
          rw [ra]
          exact tail _ (by unfold lm_pay; rw [if_neg hbit])
        · refine zd_aload_n E (pc := 91) d_M_cutAll_91 rfl ?_
          refine zd_get E (pc := 92) d_M_cutAll_92 kf_M_35 22 rfl rfl ?_
          refine zd_iload E (pc := 95) d_M_cutAll_95 rfl ?_
          refine zd_iald E (pc := 97) d_M_cutAll_97 31 rfl (t0 := 0) rfl (a) (rfl) (ha12) (by decide) ?_
          rw [ra]
          refine zd_iload E (pc := 98) d_M_cutAll_98 rfl ?_
          refine zd_isub E (pc := 100) d_M_cutAll_100 ?_
          rw [pk_sub (hp a han hbit)]
          refine zd_goto E (pc := 101) 111 d_M_cutAll_101 (by decide) ?_
          exact tail _ (by unfold lm_pay; rw [if_pos hbit])
  have loop : ∀ (n m : Nat) (v1 : Nat → Int32) (r1 : Nat → Nat → Int32) (cc : Nat → Nat → Nat) (CC pp h : Nat → Nat) (L2 L3 L4 L5 : Option Value), lm_cnt (fun a => decide (0 < cc m a)) na ≤ n → m + n ≤ 12 → (∀ i, i ≠ 18 → i ≠ 19 → v1 i = v i) → (∀ i, i ≠ 31 → i ≠ 32 → i ≠ 33 → r1 i = r i) → md_run nf na co ne ad s go m cc CC pp → md_lv false nf na (cc m) ne ad (fun _ => false) s h → v1 18 = nI m → (∀ j, j < m → r1 33 j = nI (CC j)) → v1 19 = nI (lm_sum pp m) → (∀ i, i < na → r1 31 i = nI (cc m i) ∧ cc m i ≤ 9) → (∀ j, j < nf → r1 32 j = nI (h j)) →
      Z (wd k q v1 r1 ex) [some (.ref (q 22)), some (.int (nI (lm_jn 1048576 false h go nf))), L2, L3, L4, L5] 30 [] := by
    intro n
    induction n with
    | zero =>
      intro m v1 r1 cc CC pp h L2 L3 L4 L5 hcnt hm hfv hfr hrun hlv h18 h33 h19 h31 h32
      have hG := lm_jn_le 1048576 false h go nf
      refine zd_iload_n E (pc := 30) d_M_cutAll_30 rfl ?_
      refine zd_if_le E (pc := 31) 168 d_M_cutAll_31 (by decide) (fun hz => ?_) (fun hz => ?_)
      · refine fin v1 r1 m cc CC pp h _ _ _ _ hfv hfr hrun (by omega) hlv (Or.inl ?_) h18 h33 h19
        by_cases z : lm_jn 1048576 false h go nf = 0
        · exact z
        · exact absurd hz (nI_nle (by omega) (by omega))
      · have hG0 : 0 < lm_jn 1048576 false h go nf := by
          by_cases z : lm_jn 1048576 false h go nf = 0
          · rw [z] at hz; exact absurd (by decide) hz
          · omega
        refine zd_iload_n E (pc := 34) d_M_cutAll_34 rfl ?_
        refine zd_ldc E (pc := 35) (v := (nI 1048576)) d_M_cutAll_35 kk_M_87 ?_
        refine zd_nc_ge E (pc := 37) 168 d_M_cutAll_37 (by decide) ((by omega)) ((by omega)) (fun hq2 => ?_) (fun hq2 => ?_)
        · exact fin v1 r1 m cc CC pp h _ _ _ _ hfv hfr hrun (by omega) hlv (Or.inr hq2) h18 h33 h19
        · exfalso
          have hc0 : ∀ a, a < na → cc m a = 0 := fun a ha => by
            have := lm_cnt_0 (Nat.le_zero.mp hcnt) a ha
            have := of_decide_eq_false this
            omega
          obtain ⟨kk, rfl, hp⟩ := hlv
          have fr := cu_free (K := 1048576) (n := nf) (s := s) (ne := ne) (ad := ad) (bar := fun _ => false) hc0 kk
          obtain ⟨gb, hgb⟩ := cu_B_ex (lm_it 1048576 false nf na (cc m) ne ad (fun _ => false) (lm_i0 1048576 s) kk) go nf
          rcases hgb with ⟨z1, z2⟩ | ⟨z1, z2, z3, z4⟩
          · unfold lm_jn at hG0
            rw [cu_jp_0 z2] at hG0
            omega
          · unfold lm_jn at hG0 hq2
            rw [cu_B_jp z1 z2 z3] at hG0 hq2
            rcases fr gb with y | y <;> rw [y] at hG0 hq2 <;> omega
    | succ n ih =>
      intro m v1 r1 cc CC pp h L2 L3 L4 L5 hcnt hm hfv hfr hrun hlv h18 h33 h19 h31 h32
      have hG := lm_jn_le 1048576 false h go nf
      have t1 := tr v1 r1 hfv hfr
      have s1 : v1 15 = nI s := (hfv 15 (by decide) (by decide)).trans hs
      have hh : ∀ i, i < nf → r1 32 i = nI (h i) ∧ h i ≤ 1048576 := fun i hi => ⟨h32 i hi, md_lv_le hlv i⟩
      refine zd_iload_n E (pc := 30) d_M_cutAll_30 rfl ?_
      refine zd_if_le E (pc := 31) 168 d_M_cutAll_31 (by decide) (fun hz => ?_) (fun hz => ?_)
      · refine fin v1 r1 m cc CC pp h _ _ _ _ hfv hfr hrun (by omega) hlv (Or.inl ?_) h18 h33 h19
        by_cases z : lm_jn 1048576 false h go nf = 0
        · exact z
        · exact absurd hz (nI_nle (by omega) (by omega))
      · have hG0 : 0 < lm_jn 1048576 false h go nf := by
          by_cases z : lm_jn 1048576 false h go nf = 0
          · rw [z] at hz; exact absurd (by decide) hz
          · omega
        refine zd_iload_n E (pc := 34) d_M_cutAll_34 rfl ?_
        refine zd_ldc E (pc := 35) (v := (nI 1048576)) d_M_cutAll_35 kk_M_87 ?_
        refine zd_nc_ge E (pc := 37) 168 d_M_cutAll_37 (by decide) ((by omega)) ((by omega)) (fun hq2 => ?_) (fun hq2 => ?_)
        · exact fin v1 r1 m cc CC pp h _ _ _ _ hfv hfr hrun (by omega) hlv (Or.inr hq2) h18 h33 h19
        · obtain ⟨ba, hba⟩ : ∃ ba : Nat → Nat, ∀ a, cu_B h (ne a) nf (ba a) := ⟨fun a => Classical.choose (cu_B_ex h (ne a) nf), fun a => Classical.choose_spec (cu_B_ex h (ne a) nf)⟩
          obtain ⟨gb, hgb⟩ := cu_B_ex h go nf
          refine zd_aload_n E (pc := 40) d_M_cutAll_40 rfl ?_
          refine zd_callV E (pc := 41) d_M_cutAll_41 kc_M_124 rfl ki_M_zone ke_M_zone 22 rfl rfl (c_M_zone l D (c := cc m) t1 hh h31 (fun a _ => hba a) hgb hq2) (by decide) rfl (Nat.le_of_ble_eq_true rfl) (fun v1 ws1 hv1 => ?_)
          obtain ⟨X, hX, hX2, rfl, rfl⟩ := hv1
          refine zd_istore_n E (pc := 44) d_M_cutAll_44 (by decide) ?_
          refine zd_aload_n E (pc := 45) d_M_cutAll_45 rfl ?_
          refine zd_aload_n E (pc := 46) d_M_cutAll_46 rfl ?_
          refine zd_iload_n E (pc := 47) d_M_cutAll_47 rfl ?_
          refine zd_callV E (pc := 48) d_M_cutAll_48 kc_M_128 rfl ki_M_rest ke_M_rest 22 rfl rfl (c_M_rest l D (V := X) t1 s1 hs2 hh (fun a _ => hba a)) (by decide) rfl (Nat.le_of_ble_eq_true rfl) (fun v1 ws1 hv1 => ?_)
          obtain ⟨Y, hY, hY2, rfl, rfl⟩ := hv1
          refine zd_iload_n E (pc := 51) d_M_cutAll_51 rfl ?_
          refine zd_callV E (pc := 52) d_M_cutAll_52 kc_M_131 rfl ki_M_actionsAcross ke_M_actionsAcross 22 rfl rfl (c_M_actionsAcross l D (X := X) (Y := Y) t1 hX2 hY2 hh (fun a _ => hba a)) (by decide) rfl (Nat.le_of_ble_eq_true rfl) (fun v1 ws1 hv1 => ?_)
          obtain ⟨rfl, rfl⟩ := hv1
          have st := md_step (X := X) (R := Y) hlv (fun a _ => hba a) hgb had hs2 hnf hG0 hq2 (fun a ha => (h31 a ha).2) hX hY
          generalize hC : cu_mk (cu_ac 1048576 nf ne ad ba h X Y) na = C at st
          have hClt : C < 2 ^ 12 := by
            have h1 := cu_mk_lt (cu_ac 1048576 nf ne ad ba h X Y) na
            have h2 := Nat.pow_le_pow_right (n := 2) (by decide) hna
            omega
          refine zd_istore_n E (pc := 55) d_M_cutAll_55 (by decide) ?_
          refine zd_aload_n E (pc := 56) d_M_cutAll_56 rfl ?_
          refine zd_iload_n E (pc := 57) d_M_cutAll_57 rfl ?_
          refine zd_callV E (pc := 58) d_M_cutAll_58 kc_M_134 rfl ki_M_least ke_M_least 22 rfl rfl (c_M_least l D (C := C) (c := cc m) t1 (by omega) h31) (by decide) rfl (Nat.le_of_ble_eq_true rfl) (fun v1 ws1 hv1 => ?_)
          obtain ⟨rfl, rfl⟩ := hv1
          rw [st.1]
          generalize hp : lm_min (cc m) C na = p at st
          have hp9 : p ≤ 9 := by rw [← hp]; exact lm_min_9 _ _ _
          have hple : ∀ i, i < na → C.testBit i = true → p ≤ cc m i := fun i hi hb => by rw [← hp]; exact lm_min_le hi hb
          refine zd_istore E (pc := 61) d_M_cutAll_61 (by decide) ?_
          refine zd_iconst E (pc := 63) (v := (nI 0)) d_M_cutAll_63 (by decide) ?_
          refine zd_istore E (pc := 64) d_M_cutAll_64 (by decide) ?_
          refine pay na 0 v1 r1 r1 (cc m) C p _ _ (by omega) ((hfv 14 (by decide) (by decide)).trans h14) (by omega) hple (fun _ _ => rfl) (fun i hi => by rw [if_neg (Nat.not_lt_zero _)]; exact (h31 i hi).1) (fun r2 L5 hf2 hr2 => ?_)
          refine zd_aload_n E (pc := 118) d_M_cutAll_118 rfl ?_
          refine zd_get E (pc := 119) d_M_cutAll_119 kf_M_41 22 rfl rfl ?_
          refine zd_aload_n E (pc := 122) d_M_cutAll_122 rfl ?_
          refine zd_get E (pc := 123) d_M_cutAll_123 kf_M_118 22 rfl rfl ?_
          rw [h18]
          refine zd_iload_n E (pc := 126) d_M_cutAll_126 rfl ?_
          refine zd_iast E (pc := 127) d_M_cutAll_127 33 rfl (t0 := 0) rfl (m) (rfl) ((by omega)) (by decide) (ws1 := wd k q v1 (va_up r2 33 (upd (r2 33) m (nI C))) ex) rfl ?_
          refine zd_aload_n E (pc := 128) d_M_cutAll_128 rfl ?_
          refine zd_dup E (pc := 129) d_M_cutAll_129 rfl ?_
          refine zd_get E (pc := 130) d_M_cutAll_130 kf_M_118 22 rfl rfl ?_
          rw [h18]
          refine zd_iconst E (pc := 133) (v := (nI 1)) d_M_cutAll_133 (by decide) ?_
          refine zd_iadd E (pc := 134) d_M_cutAll_134 ?_
          rw [nI_add]
          refine zd_put E (pc := 135) d_M_cutAll_135 kp_M_118 22 rfl (Nat.le_of_ble_eq_true rfl) (ws1 := wd k q (upd v1 18 (nI (m + 1))) (va_up r2 33 (upd (r2 33) m (nI C))) ex) rfl ?_
          refine zd_aload_n E (pc := 138) d_M_cutAll_138 rfl ?_
          refine zd_aload_n E (pc := 139) d_M_cutAll_139 rfl ?_
          refine zd_get E (pc := 140) d_M_cutAll_140 kf_M_121 22 rfl rfl ?_
          show Z (wd k q (upd v1 18 (nI (m + 1))) (va_up r2 33 (upd (r2 33) m (nI C))) ex) _ 143 [.int (v1 19), .ref (q 22)]
          rw [h19]
          refine zd_iload E (pc := 143) d_M_cutAll_143 rfl ?_
          refine zd_iadd E (pc := 145) d_M_cutAll_145 ?_
          rw [nI_add]
          refine zd_put E (pc := 146) d_M_cutAll_146 kp_M_121 22 rfl (Nat.le_of_ble_eq_true rfl) (ws1 := wd k q (upd (upd v1 18 (nI (m + 1))) 19 (nI (lm_sum pp m + p))) (va_up r2 33 (upd (r2 33) m (nI C))) ex) rfl ?_
          refine zd_aload_n E (pc := 149) d_M_cutAll_149 rfl ?_
          refine zd_iconst E (pc := 150) (v := (nI 0)) d_M_cutAll_150 (by decide) ?_
          refine zd_iconst E (pc := 151) (v := (nI 0)) d_M_cutAll_151 (by decide) ?_
          have hfv3 : ∀ i, i ≠ 18 → i ≠ 19 → upd (upd v1 18 (nI (m + 1))) 19 (nI (lm_sum pp m + p)) i = v i := fun i a b => by rw [pk_un b, pk_un a]; exact hfv i a b
          have hfr3 : ∀ i, i ≠ 31 → i ≠ 32 → i ≠ 33 → va_up r2 33 (upd (r2 33) m (nI C)) i = r i := fun i a b c => by rw [va_up_ne _ _ c, hf2 i a]; exact hfr i a b c
          have t3 := tr _ _ hfv3 hfr3
          have h31c : ∀ i, i < na → va_up r2 33 (upd (r2 33) m (nI C)) 31 i = nI (cs_pay na (cc m) C p i) ∧ cs_pay na (cc m) C p i ≤ 9 := fun i hi => by
            have h9 := (h31 i hi).2
            rw [va_up_ne _ _ (by decide), hr2 i hi]
            unfold cs_pay
            rw [if_pos hi]
            refine ⟨rfl, ?_⟩
            unfold lm_pay
            split <;> omega
          refine zd_callV E (pc := 152) d_M_cutAll_152 kc_M_108 rfl ki_M_findLevels ke_M_findLevels 22 rfl rfl (c_M_findLevels l D (w := false) (B := 0) (c := cs_pay na (cc m) C p) t3 (by rw [hfv3 15 (by decide) (by decide)]; exact hs) hs2 (by decide) h31c) (by decide) rfl (Nat.le_of_ble_eq_true rfl) (fun v1 ws1 hv1 => ?_)
          obtain ⟨r4, kk4, hf4, hr4, hp4, rfl, rfl⟩ := hv1
          rw [md_bar0] at hr4 hp4
          have hlv4 : md_lv false nf na (cs_pay na (cc m) C p) ne ad (fun _ => false) s (lm_it 1048576 false nf na (cs_pay na (cc m) C p) ne ad (fun _ => false) (lm_i0 1048576 s) kk4) := ⟨kk4, rfl, hp4⟩
          generalize lm_it 1048576 false nf na (cs_pay na (cc m) C p) ne ad (fun _ => false) (lm_i0 1048576 s) kk4 = h4 at hlv4 hr4 hp4
          have hfr4 : ∀ i, i ≠ 31 → i ≠ 32 → i ≠ 33 → r4 i = r i := fun i a b c => by rw [hf4 i b]; exact hfr3 i a b c
          have t4 := tr _ _ hfv3 hfr4
          refine zd_aload_n E (pc := 155) d_M_cutAll_155 rfl ?_
          refine zd_aload_n E (pc := 156) d_M_cutAll_156 rfl ?_
          refine zd_get E (pc := 157) d_M_cutAll_157 kf_M_63 22 rfl rfl ?_
          rw [show upd (upd v1 18 (nI (m + 1))) 19 (nI (lm_sum pp m + p)) 13 = nI go from (hfv3 13 (by decide) (by decide)).trans g1]
          refine zd_iconst E (pc := 160) (v := (nI 0)) d_M_cutAll_160 (by decide) ?_
          refine zd_callV E (pc := 161) d_M_cutAll_161 kc_M_101 rfl ki_M_over ke_M_over 22 rfl rfl (c_M_over l D (w := false) (h := h4) t4 g2 (fun i hi => ⟨hr4 i hi, md_lv_le hlv4 i⟩)) (by decide) rfl (Nat.le_of_ble_eq_true rfl) (fun v1 ws1 hv1 => ?_)
          obtain ⟨rfl, rfl⟩ := hv1
          refine zd_istore_n E (pc := 164) d_M_cutAll_164 (by decide) ?_
          refine zd_goto E (pc := 165) 30 d_M_cutAll_165 (by decide) ?_
          have hcc : ∀ j, j ≤ m → va_up cc (m + 1) (cs_pay na (cc m) C p) j = cc j := fun j hj => va_up_ne _ _ (by omega)
          have hccm : va_up cc (m + 1) (cs_pay na (cc m) C p) (m + 1) = cs_pay na (cc m) C p := va_up_self _ _ _
          have hsum : lm_sum (va_up pp m p) (m + 1) = lm_sum pp m + p := by
            have e1 : ∀ n, n ≤ m → lm_sum (va_up pp m p) n = lm_sum pp n := fun n => by
              induction n with
              | zero => intro _; rfl
              | succ n ihn => intro hn; rw [lm_sum, lm_sum, ihn (by omega), va_up_ne _ _ (by omega)]
            rw [lm_sum, e1 m (Nat.le_refl _), va_up_self]
          refine ih (m + 1) _ r4 (va_up cc (m + 1) (cs_pay na (cc m) C p)) (va_up CC m C) (va_up pp m p) h4 _ _ _ _ ?_ (by omega) hfv3 hfr4 ?_ ?_ ?_ ?_ ?_ ?_ hr4
          · rw [hccm]; have := st.2; omega
          · refine ⟨by rw [hcc 0 (by omega)]; exact hrun.1, fun j hj => ?_⟩
            by_cases e : j = m
            · subst e
              rw [hcc j (Nat.le_refl _), hccm, va_up_self, va_up_self]
              exact ⟨h, hlv, hG0, hq2, ⟨ba, gb, X, Y, fun a _ => hba a, hgb, hX, hY, hC.symm⟩, hp.symm, rfl⟩
            · rw [hcc j (by omega), hcc (j + 1) (by omega), va_up_ne _ _ e, va_up_ne _ _ e]
              exact hrun.2 j (by omega)
          · rw [hccm]; exact hlv4
          · rw [pk_un (by decide), pk_us]
          · intro j hj
            rw [hf4 33 (by decide), va_up_self]
            by_cases e : j = m
            · subst e; rw [pk_us, va_up_self]
            · rw [pk_un e, va_up_ne _ _ e, hf2 33 (by decide)]; exact h33 j (by omega)
          · rw [pk_us, hsum]
          · intro i hi
            rw [hccm, hf4 31 (by decide)]
            exact h31c i hi
  refine zd_aload_n E (pc := 0) d_M_cutAll_0 rfl ?_
  refine zd_callV E (pc := 1) d_M_cutAll_1 kc_M_105 rfl ki_M_ownRates ke_M_ownRates 22 rfl rfl (c_M_ownRates l D t) (by decide) rfl (Nat.le_of_ble_eq_true rfl) (fun v1 ws1 hv1 => ?_)
  obtain ⟨r1, hf1, hr1, rfl, rfl⟩ := hv1
  refine zd_aload_n E (pc := 4) d_M_cutAll_4 rfl ?_
  refine zd_iconst E (pc := 5) (v := (nI 0)) d_M_cutAll_5 (by decide) ?_
  refine zd_put E (pc := 6) d_M_cutAll_6 kp_M_118 22 rfl (Nat.le_of_ble_eq_true rfl) (ws1 := wd k q (upd v 18 (nI 0)) r1 ex) rfl ?_
  refine zd_aload_n E (pc := 9) d_M_cutAll_9 rfl ?_
  refine zd_iconst E (pc := 10) (v := (nI 0)) d_M_cutAll_10 (by decide) ?_
  refine zd_put E (pc := 11) d_M_cutAll_11 kp_M_121 22 rfl (Nat.le_of_ble_eq_true rfl) (ws1 := wd k q (upd (upd v 18 (nI 0)) 19 (nI 0)) r1 ex) rfl ?_
  refine zd_aload_n E (pc := 14) d_M_cutAll_14 rfl ?_
  refine zd_iconst E (pc := 15) (v := (nI 0)) d_M_cutAll_15 (by decide) ?_
  refine zd_iconst E (pc := 16) (v := (nI 0)) d_M_cutAll_16 (by decide) ?_
  have hfv1 : ∀ i, i ≠ 18 → i ≠ 19 → upd (upd v 18 (nI 0)) 19 (nI 0) i = v i := fun i a b => by rw [pk_un b, pk_un a]
  have t1 := tr _ r1 hfv1 (fun i a b c => hf1 i a)
  refine zd_callV E (pc := 17) d_M_cutAll_17 kc_M_108 rfl ki_M_findLevels ke_M_findLevels 22 rfl rfl (c_M_findLevels l D (w := false) (B := 0) (c := co) t1 hs hs2 (by decide) (fun i hi => ⟨hr1 i hi, (t.hco i (by omega)).2⟩)) (by decide) rfl (Nat.le_of_ble_eq_true rfl) (fun v1 ws1 hv1 => ?_)
  obtain ⟨r4, kk4, hf4, hr4, hp4, rfl, rfl⟩ := hv1
  rw [md_bar0] at hr4 hp4
  have hlv4 : md_lv false nf na co ne ad (fun _ => false) s (lm_it 1048576 false nf na co ne ad (fun _ => false) (lm_i0 1048576 s) kk4) := ⟨kk4, rfl, hp4⟩
  generalize lm_it 1048576 false nf na co ne ad (fun _ => false) (lm_i0 1048576 s) kk4 = h4 at hlv4 hr4 hp4
  have hfr4 : ∀ i, i ≠ 31 → i ≠ 32 → i ≠ 33 → r4 i = r i := fun i a b c => by rw [hf4 i b]; exact hf1 i a
  have t4 := tr _ _ hfv1 hfr4
  refine zd_aload_n E (pc := 20) d_M_cutAll_20 rfl ?_
  refine zd_aload_n E (pc := 21) d_M_cutAll_21 rfl ?_
  refine zd_get E (pc := 22) d_M_cutAll_22 kf_M_63 22 rfl rfl ?_
  rw [show upd (upd v 18 (nI 0)) 19 (nI 0) 13 = nI go from (hfv1 13 (by decide) (by decide)).trans g1]
  refine zd_iconst E (pc := 25) (v := (nI 0)) d_M_cutAll_25 (by decide) ?_
  refine zd_callV E (pc := 26) d_M_cutAll_26 kc_M_101 rfl ki_M_over ke_M_over 22 rfl rfl (c_M_over l D (w := false) (h := h4) t4 g2 (fun i hi => ⟨hr4 i hi, md_lv_le hlv4 i⟩)) (by decide) rfl (Nat.le_of_ble_eq_true rfl) (fun v1 ws1 hv1 => ?_)
  obtain ⟨rfl, rfl⟩ := hv1
  refine zd_istore_n E (pc := 29) d_M_cutAll_29 (by decide) ?_
  refine loop 12 0 _ r4 (fun _ => co) (fun _ => 0) (fun _ => 0) h4 _ _ _ _ (Nat.le_trans (lm_cnt_le _ _) hna) (Nat.le_refl _) hfv1 hfr4 ⟨rfl, fun j hj => by omega⟩ hlv4 (by rw [pk_un (by decide), pk_us]) (fun j hj => by omega) pk_us (fun i hi => ?_) hr4
  rw [hf4 31 (by decide)]
  exact ⟨hr1 i hi, (t.hco i (by omega)).2⟩
/-- what the reference's cuts come to -/
def md_cs (v2 : Nat → Int32) (r2 : Nat → Nat → Int32) (nf na : Nat) (co ne ad : Nat → Nat) (s go m : Nat) (CC : Nat → Nat) (x : Int32) : Prop := ∃ (cc : Nat → Nat → Nat) (pp h : Nat → Nat), md_run nf na co ne ad s go m cc CC pp ∧ m ≤ 12 ∧ md_lv false nf na (cc m) ne ad (fun _ => false) s h ∧ (lm_jn 1048576 false h go nf = 0 ∨ 1048576 ≤ lm_jn 1048576 false h go nf) ∧ v2 18 = nI m ∧ (∀ j, j < m → r2 33 j = nI (CC j)) ∧ x = (if 1048576 ≤ lm_jn 1048576 false h go nf then -1 else nI (lm_sum pp m))
set_option maxRecDepth 100000 in
set_option maxHeartbeats 4000000 in
theorem c_M_cuts (l : Launch) (D : va_G) {s : Nat} (t : tk_M v r nf na fi go co ne ad dr) (hs : v 15 = nI s) (hs2 : s < 2 ^ nf) : zd_Ct l D classes (wd_ty k) gd_T y_M_cuts b_M_cuts 1 (some .int) (zd_rm 4) [.ref (q 22)] (wd k q v r ex)
    (fun v1 w1 => ∃ (v2 : Nat → Int32) (r2 : Nat → Nat → Int32) (m : Nat) (CC : Nat → Nat) (x : Int32), (∀ i, i ≠ 10 → i ≠ 18 → i ≠ 19 → v2 i = v i) ∧ (∀ i, i ≠ 31 → i ≠ 32 → i ≠ 33 → r2 i = r i) ∧ md_cs v2 r2 nf na co ne ad s go m CC x ∧ v1 = some (.int x) ∧ w1 = wd k q v2 r2 ex) := by
  refine zd_met gd_all (by decide) rfl (Nat.le_of_ble_eq_true rfl) (fun Z E => ?_)
  show Z (wd k q v r ex) [some (.ref (q 22))] 0 []
  have t0 : tk_M (upd v 10 (nI 0)) r nf na fi go co ne ad dr := tk_mfr t rfl rfl rfl rfl rfl rfl rfl rfl
  refine zd_aload_n E (pc := 0) d_M_cuts_0 rfl ?_
  refine zd_iconst E (pc := 1) (v := (nI 0)) d_M_cuts_1 (by decide) ?_
  refine zd_put E (pc := 2) d_M_cuts_2 kp_M_44 22 rfl (Nat.le_of_ble_eq_true rfl) (ws1 := wd k q (upd v 10 (nI 0)) r ex) rfl ?_
  refine zd_aload_n E (pc := 5) d_M_cuts_5 rfl ?_
  refine zd_callV E (pc := 6) d_M_cuts_6 kc_M_137 rfl ki_M_cutAll ke_M_cutAll 22 rfl rfl (c_M_cutAll l D (v := upd v 10 (nI 0)) t0 hs hs2) (by decide) rfl (Nat.le_of_ble_eq_true rfl) (fun v1 ws1 hv1 => ?_)
  obtain ⟨v2, r2, m, cc, CC, pp, h, hfv, hfr, hrun, hm, hlv, hend, h18, h33, h19, rfl, rfl⟩ := hv1
  refine zd_aload_n E (pc := 9) d_M_cuts_9 rfl ?_
  refine zd_get E (pc := 10) d_M_cuts_10 kf_M_121 22 rfl rfl ?_
  exact zd_iret E (pc := 13) d_M_cuts_13 ⟨v2, r2, m, CC, v2 19, (fun i a b c => by rw [hfv i b c, pk_un a]), hfr, ⟨cc, pp, h, hrun, hm, hlv, hend, h18, h33, h19⟩, rfl, rfl⟩
set_option maxRecDepth 100000 in
set_option maxHeartbeats 4000000 in
theorem c_M_cut (l : Launch) (D : va_G) {s : Nat} (y : Int32) (t : tk_M v r nf na fi go co ne ad dr) (hs : v 15 = nI s) (hs2 : s < 2 ^ nf) : zd_Ct l D classes (wd_ty k) gd_T y_M_cut b_M_cut 2 (some .int) (zd_rm 4) [.ref (q 22), .int y] (wd k q v r ex)
    (fun v1 w1 => ∃ (v2 : Nat → Int32) (r2 : Nat → Nat → Int32) (m : Nat) (CC : Nat → Nat) (x z : Int32), (∀ i, i ≠ 10 → i ≠ 18 → i ≠ 19 → v2 i = v i) ∧ (∀ i, i ≠ 31 → i ≠ 32 → i ≠ 33 → r2 i = r i) ∧ md_cs v2 r2 nf na co ne ad s go m CC x ∧ ((∃ j, j < m ∧ y = nI j ∧ z = nI (CC j)) ∨ ((y < 0 ∨ nI m ≤ y) ∧ z = nI 0)) ∧ v1 = some (.int z) ∧ w1 = wd k q v2 r2 ex) := by
  refine zd_met gd_all (by decide) rfl (Nat.le_of_ble_eq_true rfl) (fun Z E => ?_)
  show Z (wd k q v r ex) [some (.ref (q 22)), some (.int y)] 0 []
  have t0 : tk_M (upd v 10 (nI 0)) r nf na fi go co ne ad dr := tk_mfr t rfl rfl rfl rfl rfl rfl rfl rfl
  refine zd_aload_n E (pc := 0) d_M_cut_0 rfl ?_
  refine zd_iconst E (pc := 1) (v := (nI 0)) d_M_cut_1 (by decide) ?_
  refine zd_put E (pc := 2) d_M_cut_2 kp_M_44 22 rfl (Nat.le_of_ble_eq_true rfl) (ws1 := wd k q (upd v 10 (nI 0)) r ex) rfl ?_
  refine zd_aload_n E (pc := 5) d_M_cut_5 rfl ?_
  refine zd_callV E (pc := 6) d_M_cut_6 kc_M_137 rfl ki_M_cutAll ke_M_cutAll 22 rfl rfl (c_M_cutAll l D (v := upd v 10 (nI 0)) t0 hs hs2) (by decide) rfl (Nat.le_of_ble_eq_true rfl) (fun v1 ws1 hv1 => ?_)
  obtain ⟨v2, r2, m, cc, CC, pp, h, hfv, hfr, hrun, hm, hlv, hend, h18, h33, h19, rfl, rfl⟩ := hv1
  have cs : md_cs v2 r2 nf na co ne ad s go m CC (v2 19) := ⟨cc, pp, h, hrun, hm, hlv, hend, h18, h33, h19⟩
  have hfv2 : ∀ i, i ≠ 10 → i ≠ 18 → i ≠ 19 → v2 i = v i := fun i a b c => by rw [hfv i b c, pk_un a]
  have no : (y < 0 ∨ nI m ≤ y) → Z (wd k q v2 r2 ex) [some (.ref (q 22)), some (.int y)] 21 [] := by
    intro hy
    refine zd_iconst E (pc := 21) (v := (nI 0)) d_M_cut_21 (by decide) ?_
    refine zd_goto E (pc := 22) 31 d_M_cut_22 (by decide) ?_
    exact zd_iret E (pc := 31) d_M_cut_31 ⟨v2, r2, m, CC, v2 19, nI 0, hfv2, hfr, cs, Or.inr ⟨hy, rfl⟩, rfl, rfl⟩
  refine zd_iload_n E (pc := 9) d_M_cut_9 rfl ?_
  refine zd_if_lt E (pc := 10) 21 d_M_cut_10 (by decide) (fun h0 => ?_) (fun h0 => ?_)
  · exact no (Or.inl h0)
  · refine zd_iload_n E (pc := 13) d_M_cut_13 rfl ?_
    refine zd_aload_n E (pc := 14) d_M_cut_14 rfl ?_
    refine zd_get E (pc := 15) d_M_cut_15 kf_M_118 22 rfl rfl ?_
    rw [h18]
    refine zd_ic_lt E (pc := 18) 25 d_M_cut_18 (by decide) (fun h1 => ?_) (fun h1 => ?_)
    · rcases pk_ix y (n := m) (by omega) with z | z | ⟨j, hj, rfl⟩
      · exact absurd z h0
      · exact absurd h1 (by rw [Int32.lt_iff_toInt_lt]; rw [Int32.le_iff_toInt_le] at z; omega)
      · refine zd_aload_n E (pc := 25) d_M_cut_25 rfl ?_
        refine zd_get E (pc := 26) d_M_cut_26 kf_M_41 22 rfl rfl ?_
        refine zd_iload_n E (pc := 29) d_M_cut_29 rfl ?_
        refine zd_iald E (pc := 30) d_M_cut_30 33 rfl (t0 := 0) rfl (j) (rfl) ((by omega)) (by decide) ?_
        rw [h33 j hj]
        exact zd_iret E (pc := 31) d_M_cut_31 ⟨v2, r2, m, CC, v2 19, nI (CC j), hfv2, hfr, cs, Or.inl ⟨j, hj, rfl, rfl⟩, rfl, rfl⟩
    · refine no (Or.inr ?_)
      rw [Int32.le_iff_toInt_le]; rw [Int32.lt_iff_toInt_lt] at h1; omega
end M9
