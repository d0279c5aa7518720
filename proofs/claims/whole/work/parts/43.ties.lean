/-! Class and reference: the same numbers. -/
theorem ti_hi {S n f : Nat} (hS : S < 2 ^ n) (hf : n ≤ f) : S.testBit f = false := by
  cases h : S.testBit f with
  | false => rfl
  | true => have := bm_bit_lt hS h; omega
theorem ti_jp {w : Bool} {h : Nat → Nat} {S nf : Nat} (hS : S < 2 ^ nf) : ∀ n, nf ≤ n → lm_jp w h S n = lm_jp w h S nf
  | 0, hn => by have e : nf = 0 := by omega
                subst e; rfl
  | n + 1, hn => by
    by_cases e : nf = n + 1
    · rw [e]
    · show (if S.testBit n = true then _ else lm_jp w h S n) = _
      rw [if_neg (by rw [ti_hi hS (by omega)]; decide)]
      exact ti_jp hS n (by omega)
theorem ti_jn {K : Nat} {w : Bool} {h : Nat → Nat} {S nf n : Nat} (hS : S < 2 ^ nf) (hn : nf ≤ n) : lm_jn K w h S n = lm_jn K w h S nf := by
  unfold lm_jn; rw [ti_jp hS n hn]
theorem ti_rd {K : Nat} {w : Bool} {nf n na : Nat} {c ne ad : Nat → Nat} {bar bar' : Nat → Bool} {h : Nat → Nat} (hne : ∀ a, a < na → ne a < 2 ^ nf) (hn : nf ≤ n) (hb : ∀ a, a < na → bar a = bar' a) : ∀ k, k ≤ na → lm_rd K w n c ne ad bar h k = lm_rd K w nf c ne ad bar' h k
  | 0, _ => rfl
  | k + 1, hk => by
    have ih := ti_rd (K := K) (w := w) (c := c) (ad := ad) (h := h) hne hn hb k (by omega)
    show (if bar k = true then lm_rd K w n c ne ad bar h k else lm_act K w n c ne ad k (lm_rd K w n c ne ad bar h k)) = (if bar' k = true then lm_rd K w nf c ne ad bar' h k else lm_act K w nf c ne ad k (lm_rd K w nf c ne ad bar' h k))
    rw [ih, hb k (by omega)]
    congr 1
    unfold lm_act
    rw [ti_jn (hne k (by omega)) hn]
theorem ti_it {K : Nat} {w : Bool} {nf n na : Nat} {c ne ad : Nat → Nat} {bar bar' : Nat → Bool} {h : Nat → Nat} (hne : ∀ a, a < na → ne a < 2 ^ nf) (hn : nf ≤ n) (hb : ∀ a, a < na → bar a = bar' a) : ∀ k, lm_it K w n na c ne ad bar h k = lm_it K w nf na c ne ad bar' h k
  | 0 => rfl
  | k + 1 => by
    show lm_rd K w n c ne ad bar (lm_it K w n na c ne ad bar h k) na = lm_rd K w nf c ne ad bar' (lm_it K w nf na c ne ad bar' h k) na
    rw [ti_it hne hn hb k, ti_rd hne hn hb na (Nat.le_refl _)]
/-- the levels of the class and those of the reference -/
def ti_L (nf : Nat) (x h : Nat → Nat) : Prop := ∀ f, f < nf → x f ≤ 1000000 ∧ h f ≤ 1048576 ∧ (x f < 1000000 ↔ h f < 1048576) ∧ (x f < 1000000 → x f = h f)
theorem ti_lv {w : Bool} {nf na s : Nat} {c ne ad : Nat → Nat} {bar bar' : Nat → Bool} {h : Nat → Nat} (hnf : nf ≤ 10) (hne : ∀ a, a < na → ne a < 2 ^ nf) (hc : ∀ a, a < na → c a ≤ 9) (hb : ∀ a, a < na → bar a = bar' a) (hl : md_lv w nf na c ne ad bar' s h) :
    ti_L nf (lm_it 1000000 w 10 na c ne ad bar (lm_i0 1000000 s) 10) h ∧ lm_fs 1000000 (lm_it 1000000 w 10 na c ne ad bar (lm_i0 1000000 s) 10) nf + 9 ≤ 9 * 2 ^ nf ∧ lm_fs 1048576 h nf + 9 ≤ 9 * 2 ^ nf := by
  have hp2 := tk_pow hnf
  obtain ⟨kk, rfl, hp⟩ := hl
  have hp10 := lm_it_n (K := 1000000) (w := w) (n := 10) (na := na) (c := c) (ne := ne) (ad := ad) (bar := bar) (h := lm_i0 1000000 s) (fun f _ => lm_i0_le _ _ _)
  have e10 : lm_it 1000000 w 10 na c ne ad bar (lm_i0 1000000 s) 10 = lm_it 1000000 w nf na c ne ad bar' (lm_i0 1000000 s) 10 := ti_it hne hnf hb 10
  rw [e10] at hp10 ⊢
  have hp1 : lm_px 1000000 w nf na c ne ad bar' (lm_it 1000000 w nf na c ne ad bar' (lm_i0 1000000 s) 10) := by
    intro a f ha hba hf hq
    have := hp10 a f ha (by rw [hb a ha]; exact hba) (by omega) hq
    rw [ti_jn (hne a ha) hnf] at this
    exact this
  have sm := lm_same (C := 9) (s := s) hc (by omega) (by omega) hp1 hp
  exact ⟨fun f hf => ⟨Nat.le_trans (lm_it_le _ _ _) (lm_i0_le _ _ _), Nat.le_trans (lm_it_le _ _ _) (lm_i0_le _ _ _), sm f hf⟩, lm_it_fs hc _, lm_it_fs hc _⟩
theorem ti_join {w : Bool} {nf S : Nat} {x h : Nat → Nat} (hnf : nf ≤ 10) (hS : S < 2 ^ nf) (hl : ti_L nf x h) (h1 : lm_fs 1000000 x nf + 9 ≤ 9 * 2 ^ nf) : (lm_jn 1000000 w x S 10 < 1000000 ↔ lm_jn 1048576 w h S nf < 1048576) ∧ (lm_jn 1000000 w x S 10 < 1000000 → lm_jn 1000000 w x S 10 = lm_jn 1048576 w h S nf) := by
  have hp2 := tk_pow hnf
  rw [ti_jn hS hnf]
  by_cases q : ∃ f, f < nf ∧ S.testBit f = true ∧ ¬ x f < 1000000
  · obtain ⟨f, hf, hb, hx⟩ := q
    obtain ⟨l1, l2, l3, l4⟩ := hl f hf
    have g1 := lm_jn_ge (K := 1000000) (w := w) (h := x) hf hb l1
    have g2 := lm_jn_ge (K := 1048576) (w := w) (h := h) hf hb l2
    have hx2 : ¬ h f < 1048576 := fun z => hx (l3.mpr z)
    exact ⟨⟨fun z => by omega, fun z => by omega⟩, fun z => by omega⟩
  · have hfin : ∀ f, f < nf → S.testBit f = true → x f < 1000000 := fun f hf hb => Classical.byContradiction fun z => q ⟨f, hf, hb, z⟩
    have e1 : lm_jp w x S nf = lm_jp w h S nf := lm_jp_congr fun f hf hb => (hl f hf).2.2.2 (hfin f hf hb)
    have b1 := lm_jp_fs (w := w) hfin
    unfold lm_jn
    rw [← e1]
    omega
theorem ti_ans {x y : Nat} (h1 : x < 1000000 ↔ y < 1048576) (h2 : x < 1000000 → x = y) : (if 1000000 ≤ x then (-1 : Int32) else nI x) = (if 1048576 ≤ y then -1 else nI y) := by
  by_cases z : x < 1000000
  · rw [if_neg (by omega), if_neg (by have := h1.mp z; omega), h2 z]
  · rw [if_pos (by omega), if_pos (by have : ¬ y < 1048576 := fun t => z (h1.mpr t); omega)]
/-- states that come from one below 2^nf stay there -/
theorem ti_P {na nf : Nat} {ne ad dr co : Nat → Nat} (had : ∀ a, a < na → ad a < 2 ^ nf) : ∀ {k s t c : Nat}, s < 2 ^ nf → gw_P na (tk_can ne) (tk_af ad dr) co k s t c → t < 2 ^ nf
  | 0, s, t, c, hs, h => by obtain ⟨rfl, -⟩ := h; exact hs
  | k + 1, s, t, c, hs, h => by
    obtain ⟨a, c', ha, -, hp, -⟩ := h
    exact ti_P had (tk_af_lt hs (had a ha)) hp
theorem ti_ok {na nf s n : Nat} {ne ad dr co o d : Nat → Nat} (had : ∀ a, a < na → ad a < 2 ^ nf) (hs : s < 2 ^ nf) (h : gw_ok 1024 na (tk_can ne) (tk_af ad dr) co s n o d) : gw_ok (2 ^ nf) na (tk_can ne) (tk_af ad dr) co s n o d := by
  obtain ⟨h1, h2, h3, h4, h5, h6, h7, h8⟩ := h
  refine ⟨h1, h2, h3, fun i hi => ?_, h5, h6, h7, h8⟩
  obtain ⟨k, hp⟩ := h7 i hi
  exact ti_P had hs hp
theorem ti_states {na nf s n : Nat} {ne ad dr co o d : Nat → Nat} {C : Nat → Bool} (had : ∀ a, a < na → ad a < 2 ^ nf) (hs : s < 2 ^ nf) (h : gw_ok 1024 na (tk_can ne) (tk_af ad dr) co s n o d) (hC : ∀ t, t < 2 ^ nf → (C t = true ↔ ∃ c, gw_R na (tk_can ne) (tk_af ad dr) co s t c)) : lm_cnt C (2 ^ nf) = n := by
  have g := ti_ok had hs h
  refine gw_count (2 ^ nf) g.2.2.2.1 g.2.2.2.2.1 (fun t ht => (hC t ht).trans ⟨fun ⟨c, hr⟩ => ?_, fun ⟨i, hi, he⟩ => ?_⟩)
  · obtain ⟨j, h1, h2, -⟩ := gw_ok_reach g hr
    exact ⟨j, h1, h2⟩
  · rw [← he]
    exact ⟨_, g.2.2.2.2.2.2.1 i hi⟩
theorem ti_together {na nf s n M : Nat} {ne ad dr co o d : Nat → Nat} (had : ∀ a, a < na → ad a < 2 ^ nf) (hs : s < 2 ^ nf) (h : gw_ok 1024 na (tk_can ne) (tk_af ad dr) co s n o d) : (∃ i, i < n ∧ o i &&& M = M) ↔ (∃ t, t < 2 ^ nf ∧ (∃ c, gw_R na (tk_can ne) (tk_af ad dr) co s t c) ∧ t &&& M = M) := by
  have g := ti_ok had hs h
  constructor
  · rintro ⟨i, hi, he⟩
    exact ⟨o i, g.2.2.2.1 i hi, ⟨_, g.2.2.2.2.2.2.1 i hi⟩, he⟩
  · rintro ⟨t, ht, ⟨c, hr⟩, he⟩
    obtain ⟨j, h1, h2, -⟩ := gw_ok_reach g hr
    exact ⟨j, h1, by rw [h2]; exact he⟩
/-- the plans are the same -/
theorem ti_plan {v r v' r'} {nf na go s : Nat} {co ne ad dr : Nat → Nat} {x y : Int32} (had : ∀ a, a < na → ad a < 2 ^ nf) (hco : ∀ a, a < na → 1 ≤ co a) (hs : s < 2 ^ nf) (h : pl_ok v r na go co ne ad dr s x) (g : md_pl v' r' nf na go co ne ad dr s y) :
    x = y ∧ ∃ m, m ≤ 1023 ∧ v 5 = nI m ∧ v' 16 = nI m ∧ ∀ j, j < m → r 13 j = r' 27 j := by
  obtain ⟨n, o, d, hok, hc⟩ := h
  obtain ⟨W, hW, gc⟩ := g
  have ho := ti_ok had hs hok
  have hN : ∀ s a, s < 2 ^ nf → a < na → tk_can ne a s = true → tk_af ad dr a s < 2 ^ nf := fun s a hs ha _ => tk_af_lt hs (had a ha)
  rcases hc with ⟨i, hi, hm, hl, hd, rfl, on, m, p, it, hon, ⟨w0, w1, w2, w3⟩, h5, h13⟩ | ⟨hno, rfl, h5⟩
  · have e1 : W s = d i := gw_least hN hs ho hW hi hm hl (by omega)
    rcases gc with ⟨z, -, -⟩ | ⟨z, rfl, m', hm', hz, hpos, h16, h27⟩
    · omega
    · refine ⟨by rw [e1], ?_⟩
      have hmin : ∀ t c, tk_met go t = true → gw_R na (tk_can ne) (tk_af ad dr) co s t c → d i ≤ c := fun t c ht hr => by
        obtain ⟨j, j1, j2, j3⟩ := gw_ok_reach ho hr
        have h2 : ¬ j < i := fun z => by
          have := hl j z
          rw [j2, ht] at this; cases this
        have h3 := ho.2.2.2.2.2.1 i j (by omega) j1
        omega
      have walk := pl_walk hco hN ho hW hmin (show d i < 1048576 by omega) hon e1
      -- the class's states are the walk's
      have same : ∀ j, j ≤ m → j ≤ m' → p j = pl_s na (tk_can ne) (tk_af ad dr) co W s j := by
        intro j
        induction j with
        | zero => intro _ _; exact w0
        | succ j ih =>
          intro h1 h2
          have e := ih (by omega) (by omega)
          obtain ⟨i', -, -, -, -, q⟩ := walk j (fun j' hj' => hpos j' (by omega))
          obtain ⟨w4, w5⟩ := w1 j (by omega)
          rw [e] at w4 w5
          rcases q with ⟨q1, -⟩ | ⟨-, -, q3, -⟩
          · have := hpos j (by omega); omega
          · have e2 : it j = pl_nx na (tk_can ne) (tk_af ad dr) co W (pl_s na (tk_can ne) (tk_af ad dr) co W s j) := Int.ofNat.inj (w4.symm.trans q3)
            rw [w5, e2]
            rfl
      have hmm : m = m' := by
        by_cases a1 : m < m'
        · exfalso
          have e := same m (Nat.le_refl _) (by omega)
          obtain ⟨i', -, -, -, -, q⟩ := walk m (fun j' hj' => hpos j' (by omega))
          rcases w2 with z | z
          · omega
          · rw [e] at z
            rcases q with ⟨q1, -⟩ | ⟨-, -, q3, -⟩
            · have := hpos m a1; omega
            · rw [q3] at z; omega
        · by_cases a2 : m' < m
          · exfalso
            have e := same m' (by omega) (Nat.le_refl _)
            obtain ⟨i', -, -, -, -, q⟩ := walk m' (fun j' hj' => hpos j' hj')
            obtain ⟨w4, -⟩ := w1 m' a2
            rw [e] at w4
            rcases q with ⟨-, q2⟩ | ⟨q1, -⟩
            · rw [q2] at w4
              have : (0 : Int) ≤ (it m' : Int) := Int.natCast_nonneg _
              omega
            · omega
          · omega
      subst hmm
      refine ⟨m, w3, h5, h16, fun j hj => ?_⟩
      rw [h13 j hj, h27 j hj]
      have e := same j (by omega) (by omega)
      obtain ⟨i', -, -, -, -, q⟩ := walk j (fun j' hj' => hpos j' (by omega))
      obtain ⟨w4, -⟩ := w1 j hj
      rw [e] at w4
      rcases q with ⟨q1, -⟩ | ⟨-, -, q3, -⟩
      · have := hpos j hj; omega
      · have e2 : it j = pl_nx na (tk_can ne) (tk_af ad dr) co W (pl_s na (tk_can ne) (tk_af ad dr) co W s j) := Int.ofNat.inj (w4.symm.trans q3)
        rw [e2]
  · have e1 : W s = 1048576 := gw_none hs ho hW hno
    rcases gc with ⟨-, rfl, h16⟩ | ⟨z, -⟩
    · exact ⟨rfl, 0, by omega, h5, h16, fun j hj => by omega⟩
    · omega
/-! The cuts. -/
theorem ti_B {nf S b b' : Nat} {x h : Nat → Nat} (hnf : nf ≤ 10) (hS : S < 2 ^ nf) (hl : ti_L nf x h) (hb : cu_B x S 10 b) (hb' : cu_B h S nf b') : b = b' := by
  refine cu_B_eq (h := h) (S := S) (n := nf) ?_ hb'
  have hle : ∀ f g, f < nf → g < nf → x f ≤ x g → h f ≤ h g := fun f g hf hg z => by
    obtain ⟨f1, f2, f3, f4⟩ := hl f hf
    obtain ⟨g1, g2, g3, g4⟩ := hl g hg
    by_cases q : h g < 1048576
    · have q1 := g3.mpr q
      have q2 := g4 q1
      have q3 := f4 (by omega)
      omega
    · omega
  have hlt : ∀ f g, f < nf → g < nf → x f < x g → h f < h g := fun f g hf hg z => by
    obtain ⟨f1, f2, f3, f4⟩ := hl f hf
    obtain ⟨g1, g2, g3, g4⟩ := hl g hg
    have q3 := f4 (by omega)
    by_cases q : h g < 1048576
    · have q2 := g4 (g3.mpr q)
      omega
    · have := f3.mp (by omega)
      omega
  rcases hb with ⟨z1, z2⟩ | ⟨z1, z2, z3, z4⟩
  · exact Or.inl ⟨z1, fun f hf => z2 f (by omega)⟩
  · have hbn : b < nf := bm_bit_lt hS z2
    exact Or.inr ⟨hbn, z2, fun f hf hs => hle f b hf hbn (z3 f (by omega) hs), fun f hf hs => hlt f b (by omega) hbn (z4 f hf hs)⟩
theorem ti_is {na : Nat} {te te' : Nat → Nat → Bool} {pu pu' : Nat → Nat} {X0 X : Nat} (ht : ∀ a V, a < na → te a V = te' a V) (hp : ∀ a, a < na → pu a = pu' a) (h : cu_is na te pu X0 X) : cu_is na te' pu' X0 X := by
  refine ⟨h.1, fun a ha z => ?_, fun Y hY hc => h.2.2 Y hY fun a ha z => ?_⟩
  · rw [← hp a ha]; exact h.2.1 a ha (by rw [ht a X ha]; exact z)
  · rw [hp a ha]; exact hc a ha (by rw [← ht a Y ha]; exact z)
theorem ti_mk {P Q : Nat → Bool} : ∀ {n : Nat}, (∀ a, a < n → P a = Q a) → cu_mk P n = cu_mk Q n
  | 0, _ => rfl
  | n + 1, h => by
    unfold cu_mk
    rw [ti_mk fun a ha => h a (by omega), h n (by omega)]
theorem ti_one {nf na s go C C' : Nat} {c ne ad : Nat → Nat} {h : Nat → Nat} (hnf : nf ≤ 10) (hne : ∀ a, a < na → ne a < 2 ^ nf) (hgo : go < 2 ^ nf) (hc : ∀ a, a < na → c a ≤ 9) (hlv : md_lv false nf na c ne ad (fun _ => false) s h) (h1 : cs_one na c ne ad s go C) (h2 : md_one nf na c ne ad s go h C') : C = C' := by
  obtain ⟨hl, hf1, -⟩ := ti_lv hnf hne hc (bar := fun _ => false) (fun _ _ => rfl) hlv
  obtain ⟨ba, gb, X, Y, b1, b2, b3, b4, rfl⟩ := h1
  obtain ⟨ba', gb', X', Y', c1, c2, c3, c4, rfl⟩ := h2
  have eb : ∀ a, a < na → ba a = ba' a := fun a ha => ti_B hnf (hne a ha) hl (b1 a ha) (c1 a ha)
  have eg : gb = gb' := ti_B hnf hgo hl b2 c2
  have ef : ∀ a, a < na → cu_fin 1000000 10 ne (cs_L na c ne ad s) a = cu_fin 1048576 nf ne h a := fun a ha => by
    unfold cu_fin
    exact decide_eq_decide.mpr (ti_join hnf (hne a ha) hl hf1).1
  subst eg
  have eX : X = X' := cu_is_eq (ti_is (te' := cu_tz 1048576 nf c ne ad h) (pu' := fun a => 2 ^ ba' a) (fun a V ha => by unfold cu_tz; rw [ef a ha]) (fun a ha => by rw [eb a ha]) b3) c3
  subst eX
  have eY : Y = Y' := cu_is_eq (ti_is (te' := cu_tr 1048576 nf ne ba' h) (pu' := fun a => bm_dif (ad a) X) (fun a V ha => by unfold cu_tr; rw [ef a ha, eb a ha]) (fun a ha => rfl) b4) c4
  subst eY
  exact ti_mk fun a ha => by unfold cu_ac; rw [ef a ha, eb a ha]
theorem ti_G {nf na s go : Nat} {c ne ad : Nat → Nat} {h : Nat → Nat} (hnf : nf ≤ 10) (hne : ∀ a, a < na → ne a < 2 ^ nf) (hgo : go < 2 ^ nf) (hc : ∀ a, a < na → c a ≤ 9) (hlv : md_lv false nf na c ne ad (fun _ => false) s h) : (cs_G na c ne ad s go < 1000000 ↔ lm_jn 1048576 false h go nf < 1048576) ∧ (cs_G na c ne ad s go < 1000000 → cs_G na c ne ad s go = lm_jn 1048576 false h go nf) := by
  obtain ⟨hl, hf1, -⟩ := ti_lv hnf hne hc (bar := fun _ => false) (fun _ _ => rfl) hlv
  exact ti_join hnf hgo hl hf1
/-- the cuts are the same -/
theorem ti_cuts {v r v' r'} {nf na s go m m' : Nat} {co ne ad : Nat → Nat} {CC CC' : Nat → Nat} {x y : Int32} (hnf : nf ≤ 10) (hne : ∀ a, a < na → ne a < 2 ^ nf) (hgo : go < 2 ^ nf) (hco : ∀ a, a < na → co a ≤ 9) (h : cs_ok v r na go co ne ad s m CC x) (g : md_cs v' r' nf na co ne ad s go m' CC' y) : x = y ∧ m = m' ∧ ∀ j, j < m → CC j = CC' j := by
  obtain ⟨cc, pp, ⟨r0, r1⟩, hm, hend, rfl⟩ := h
  obtain ⟨cc', pp', hh, ⟨r0', r1'⟩, hm', hlv, hend', -, -, rfl⟩ := g
  have key : ∀ j, j ≤ m → j ≤ m' → cc j = cc' j ∧ (∀ a, a < na → cc j a ≤ 9) ∧ ∀ i, i < j → CC i = CC' i ∧ pp i = pp' i := by
    intro j
    induction j with
    | zero => intro _ _; exact ⟨r0.trans r0'.symm, fun a ha => by rw [r0]; exact hco a ha, fun i hi => by omega⟩
    | succ j ih =>
      intro h1 h2
      obtain ⟨e1, e2, e3⟩ := ih (by omega) (by omega)
      obtain ⟨a1, a2, a3, a4, a5⟩ := r1 j (by omega)
      obtain ⟨hj, b0, b1, b2, b3, b4, b5⟩ := r1' j (by omega)
      rw [← e1] at b0 b3 b4 b5
      have eC : CC j = CC' j := ti_one hnf hne hgo e2 b0 a3 b3
      have ep : pp j = pp' j := by rw [a4, b4, eC]
      refine ⟨by rw [a5, b5, eC, ep], fun a ha => ?_, fun i hi => ?_⟩
      · have := e2 a ha
        rw [a5]
        unfold cs_pay lm_pay
        rw [if_pos ha]
        split <;> omega
      · by_cases e : i = j
        · subst e; exact ⟨eC, ep⟩
        · exact e3 i (by omega)
  have hmm : m = m' := by
    by_cases a1 : m < m'
    · exfalso
      obtain ⟨e1, e2, -⟩ := key m (Nat.le_refl _) (by omega)
      obtain ⟨hj, b0, b1, b2, -⟩ := r1' m a1
      rw [← e1] at b0
      obtain ⟨g1, g2⟩ := ti_G (s := s) hnf hne hgo e2 b0
      have g3 := g1.mpr b2
      have g4 := g2 g3
      rcases hend with z | z | z <;> omega
    · by_cases a2 : m' < m
      · exfalso
        obtain ⟨e1, e2, -⟩ := key m' (by omega) (Nat.le_refl _)
        obtain ⟨b1, b2, -⟩ := r1 m' a2
        rw [← e1] at hlv
        obtain ⟨g1, g2⟩ := ti_G (s := s) hnf hne hgo e2 hlv
        have g3 := g1.mp b2
        have g4 := g2 b2
        rcases hend' with z | z <;> omega
      · omega
  subst hmm
  obtain ⟨e1, e2, e3⟩ := key m (Nat.le_refl _) (Nat.le_refl _)
  rw [← e1] at hlv
  obtain ⟨g1, g2⟩ := ti_G (s := s) hnf hne hgo e2 hlv
  have es : lm_sum pp m = lm_sum pp' m := by
    have : ∀ i, i ≤ m → lm_sum pp i = lm_sum pp' i := by
      intro i
      induction i with
      | zero => intro _; rfl
      | succ i ih => intro hi; rw [lm_sum, lm_sum, ih (by omega), (e3 i (by omega)).2]
    exact this m (Nat.le_refl _)
  refine ⟨?_, rfl, fun j hj => (e3 j hj).1⟩
  by_cases z : cs_G na (cc m) ne ad s go < 1000000
  · rw [if_neg (by omega), if_neg (by have := g1.mp z; omega), es]
  · rw [if_pos (by omega), if_pos (by have : ¬ lm_jn 1048576 false hh go nf < 1048576 := fun t => z (g1.mpr t); omega)]
theorem ti_landmark {nf na s go f : Nat} {c ne ad : Nat → Nat} {h : Nat → Nat} {b b' : Bool} (hnf : nf ≤ 10) (hne : ∀ a, a < na → ne a < 2 ^ nf) (hgo : go < 2 ^ nf) (hc : ∀ a, a < na → c a ≤ 9) (hlv : md_lv false nf na c ne ad (fun a => (ad a).testBit f) s h)
    (hb : b = true ↔ (s.testBit f = true ∨ lm_jn 1000000 false (lm_it 1000000 false 10 na c ne ad (fun a => (cu_mk (fun a => (ad a).testBit f) na).testBit a) (lm_i0 1000000 s) 10) go 10 = 1000000)) (hb' : b' = true ↔ (s.testBit f = true ∨ 1048576 ≤ lm_jn 1048576 false h go nf)) : b = b' := by
  obtain ⟨hl, hf1, -⟩ := ti_lv hnf hne hc (bar := fun a => (cu_mk (fun a => (ad a).testBit f) na).testBit a) (fun a ha => by rw [cu_mk_bit]; simp [ha]) hlv
  obtain ⟨g1, -⟩ := ti_join (w := false) hnf hgo hl hf1
  have l1 := lm_jn_le 1000000 false (lm_it 1000000 false 10 na c ne ad (fun a => (cu_mk (fun a => (ad a).testBit f) na).testBit a) (lm_i0 1000000 s) 10) go 10
  have e : b = true ↔ b' = true := by
    rw [hb, hb']
    refine or_congr_right ⟨fun z => ?_, fun z => ?_⟩
    · have : ¬ lm_jn 1048576 false h go nf < 1048576 := fun t => by have := g1.mpr t; omega
      omega
    · have : ¬ lm_jn 1000000 false (lm_it 1000000 false 10 na c ne ad (fun a => (cu_mk (fun a => (ad a).testBit f) na).testBit a) (lm_i0 1000000 s) 10) go 10 < 1000000 := fun t => by have := g1.mp t; omega
      omega
  cases b <;> cases b' <;> simp_all
