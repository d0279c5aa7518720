/-! One cut, as numbers alone: the zone before the goal's base, what is behind it, the actions across. -/
/-- b is the base of S: 10 for no fact, else the least of the facts with the greatest level -/
def cu_B (h : Nat → Nat) (S n b : Nat) : Prop := (b = 10 ∧ ∀ f, f < n → S.testBit f = false) ∨ (b < n ∧ S.testBit b = true ∧ (∀ f, f < n → S.testBit f = true → h f ≤ h b) ∧ ∀ f, f < b → S.testBit f = true → h f < h b)
theorem cu_B_eq {h : Nat → Nat} {S n a b : Nat} (ha : cu_B h S n a) (hb : cu_B h S n b) : a = b := by
  rcases ha with ⟨e1, n1⟩ | ⟨a1, a2, a3, a4⟩
  · rcases hb with ⟨e2, n2⟩ | ⟨b1, b2, b3, b4⟩
    · omega
    · rw [n1 b b1] at b2; cases b2
  · rcases hb with ⟨e2, n2⟩ | ⟨b1, b2, b3, b4⟩
    · rw [n2 a a1] at a2; cases a2
    · have h1 := a3 b b1 b2
      have h2 := b3 a a1 a2
      by_cases q : a < b
      · have := b4 a q a2; omega
      · by_cases z : b < a
        · have := a4 b z b2; omega
        · omega
theorem cu_B_congr {h g : Nat → Nat} {S n b : Nat} (hg : ∀ f, f < n → S.testBit f = true → h f = g f) (hb : cu_B h S n b) : cu_B g S n b := by
  rcases hb with ⟨e2, n2⟩ | ⟨b1, b2, b3, b4⟩
  · exact Or.inl ⟨e2, n2⟩
  · refine Or.inr ⟨b1, b2, fun f hf hs => ?_, fun f hf hs => ?_⟩
    · rw [← hg f hf hs, ← hg b b1 b2]; exact b3 f hf hs
    · rw [← hg f (by omega) hs, ← hg b b1 b2]; exact b4 f hf hs
/-- the base's level is the level of the set -/
theorem cu_B_jp {h : Nat → Nat} {S b : Nat} : ∀ {n : Nat}, b < n → S.testBit b = true → (∀ f, f < n → S.testBit f = true → h f ≤ h b) → lm_jp false h S n = h b := by
  intro n hb hs hm
  refine Nat.le_antisymm ?_ (lm_jp_ge hb hs)
  have : ∀ m, m ≤ n → lm_jp false h S m ≤ h b := by
    intro m
    induction m with
    | zero => intro _; exact Nat.zero_le _
    | succ m ih =>
      intro hm1
      have h1 := ih (by omega)
      unfold lm_jp
      by_cases q : S.testBit m = true
      · have h2 := hm m (by omega) q
        simp only [q, if_true, Bool.false_eq_true, if_false]
        omega
      · simp only [q]; exact h1
  exact this n (Nat.le_refl _)
theorem cu_jp_0 {w : Bool} {h : Nat → Nat} {S : Nat} : ∀ {n : Nat}, (∀ f, f < n → S.testBit f = false) → lm_jp w h S n = 0
  | 0, _ => rfl
  | n + 1, hh => by
    unfold lm_jp
    rw [if_neg (by rw [hh n (by omega)]; decide)]
    exact cu_jp_0 fun f hf => hh f (by omega)
/-- the number of a set -/
def cu_mk (P : Nat → Bool) : Nat → Nat
  | 0 => 0
  | k + 1 => cu_mk P k ||| (if P k = true then 2 ^ k else 0)
theorem cu_mk_bit (P : Nat → Bool) (b : Nat) : ∀ n, (cu_mk P n).testBit b = (decide (b < n) && P b)
  | 0 => by simp [cu_mk]
  | n + 1 => by
    unfold cu_mk
    rw [Nat.testBit_or, cu_mk_bit P b n]
    by_cases q : P n = true
    · rw [if_pos q, Nat.testBit_two_pow]
      by_cases e : n = b
      · subst e; simp [q]
      · have h1 : decide (n = b) = false := decide_eq_false e
        by_cases z : b < n
        · simp [z, (by omega : b < n + 1), h1]
        · simp [z, h1]
          intro hb
          omega
    · rw [if_neg q, Nat.zero_testBit]
      by_cases e : n = b
      · subst e
        have : P n = false := by simpa using q
        simp [this]
      · by_cases z : b < n
        · simp [z, (by omega : b < n + 1)]
        · simp [z]
          intro hb
          omega
section CC
variable {K n na s go gb X R : Nat} {c ne ad ba : Nat → Nat} {L : Nat → Nat}
/-- the actions whose needs have a level -/
def cu_fin (K n : Nat) (ne : Nat → Nat) (L : Nat → Nat) (a : Nat) : Bool := decide (lm_jn K false L (ne a) n < K)
def cu_tz (K n : Nat) (c ne ad : Nat → Nat) (L : Nat → Nat) (a X : Nat) : Bool := decide (c a = 0) && cu_fin K n ne L a && decide (ad a &&& X ≠ 0)
def cu_tr (K n : Nat) (ne ba : Nat → Nat) (L : Nat → Nat) (a X : Nat) : Bool := cu_fin K n ne L a && X.testBit (ba a)
/-- an action across: based behind the zone, adding in it -/
def cu_ac (K n : Nat) (ne ad ba : Nat → Nat) (L : Nat → Nat) (X R a : Nat) : Bool := cu_fin K n ne L a && R.testBit (ba a) && decide (ad a &&& X ≠ 0)
theorem cu_tz_mono (a V Y : Nat) (h : cu_le V Y) (ht : cu_tz K n c ne ad L a V = true) : cu_tz K n c ne ad L a Y = true := by
  unfold cu_tz at *
  simp only [Bool.and_eq_true, decide_eq_true_eq] at *
  refine ⟨ht.1, ?_⟩
  obtain ⟨b, h1, h2⟩ := cu_and_ne.mp ht.2
  exact cu_and_ne.mpr ⟨b, h1, h b h2⟩
theorem cu_tr_mono (a V Y : Nat) (h : cu_le V Y) (ht : cu_tr K n ne ba L a V = true) : cu_tr K n ne ba L a Y = true := by
  unfold cu_tr at *
  simp only [Bool.and_eq_true] at *
  exact ⟨ht.1, h _ ht.2⟩
/-- an action of finite needs: its base's level is the needs' -/
theorem cu_base {a : Nat} (hB : cu_B L (ne a) n (ba a)) (hf : cu_fin K n ne L a = true) : (ba a = 10 ∧ lm_jn K false L (ne a) n = 0) ∨ (ba a < n ∧ (ne a).testBit (ba a) = true ∧ lm_jn K false L (ne a) n = L (ba a)) := by
  have hf : lm_jn K false L (ne a) n < K := by simpa [cu_fin] using hf
  rcases hB with ⟨e, hn⟩ | ⟨b1, b2, b3, b4⟩
  · exact Or.inl ⟨e, by unfold lm_jn; rw [cu_jp_0 hn]; omega⟩
  · refine Or.inr ⟨b1, b2, ?_⟩
    unfold lm_jn at hf ⊢
    rw [cu_B_jp b1 b2 b3] at hf ⊢
    omega
/-- the zone's facts cost at least what the goal does -/
theorem cu_zone (hp : lm_px K false n na c ne ad (fun _ => false) L) (hB : ∀ a, a < na → cu_fin K n ne L a = true → cu_B L (ne a) n (ba a)) (had : ∀ a, a < na → ad a < 2 ^ n) (hg : gb < n) (h0 : 0 < L gb)
    (hX : cu_is na (cu_tz K n c ne ad L) (fun a => 2 ^ ba a) (2 ^ gb) X) : ∀ b, X.testBit b = true → b < n ∧ L gb ≤ L b := by
  have hY := hX.2.2 (cu_mk (fun b => decide (L gb ≤ L b)) n) (cu_bit.mpr (by rw [cu_mk_bit]; simp [hg])) (fun a ha ht => by
    rw [cu_bit, cu_mk_bit]
    unfold cu_tz at ht
    simp only [Bool.and_eq_true, decide_eq_true_eq] at ht
    obtain ⟨⟨hc, hf⟩, hn⟩ := ht
    obtain ⟨f, hfa, hfm⟩ := cu_and_ne.mp hn
    rw [cu_mk_bit] at hfm
    simp only [Bool.and_eq_true, decide_eq_true_eq] at hfm
    have h1 := hp a f ha rfl hfm.1 hfa
    rcases cu_base (hB a ha hf) hf with ⟨-, z⟩ | ⟨b1, -, z⟩
    · omega
    · simp only [b1, decide_true, Bool.true_and, decide_eq_true_eq]
      omega)
  intro b hb
  have := hY b hb
  rw [cu_mk_bit] at this
  simpa using this
theorem cu_rest (hR : cu_is na (cu_tr K n ne ba L) (fun a => bm_dif (ad a) X) (bm_dif (s ||| 2 ^ 10) X) R) : ∀ b, R.testBit b = true → X.testBit b = false := by
  have hY := hR.2.2 (bm_dif R X) (fun b hb => by
    have h1 := hR.1 b hb
    rw [bm_dif_bit] at hb ⊢
    simp only [Bool.and_eq_true] at hb
    rw [h1, hb.2]; rfl) (fun a ha ht b hb => by
    have h2 : cu_le (bm_dif R X) R := fun i hi => by rw [bm_dif_bit] at hi; simp only [Bool.and_eq_true] at hi; exact hi.1
    have h1 := hR.2.1 a ha (cu_tr_mono a _ _ h2 ht) b hb
    rw [bm_dif_bit] at hb ⊢
    simp only [Bool.and_eq_true] at hb
    rw [h1, hb.2]; rfl)
  intro b hb
  have := hY b hb
  rw [bm_dif_bit] at this
  simpa [hb] using this
/-- an action across costs something -/
theorem cu_pos {a : Nat} (ha : a < na) (hX : cu_cl na (cu_tz K n c ne ad L) (fun a => 2 ^ ba a) X) (hd : ∀ b, R.testBit b = true → X.testBit b = false) (hc : cu_ac K n ne ad ba L X R a = true) : 0 < c a := by
  unfold cu_ac at hc
  simp only [Bool.and_eq_true, decide_eq_true_eq] at hc
  obtain ⟨⟨hf, hr⟩, hn⟩ := hc
  by_cases q : c a = 0
  · have h1 := hX a ha (by unfold cu_tz; simp only [Bool.and_eq_true, decide_eq_true_eq]; exact ⟨⟨q, hf⟩, hn⟩)
    rw [cu_bit] at h1
    rw [hd _ hr] at h1; cases h1
  · omega
/-- some action is across -/
theorem cu_some (hp : lm_px K false n na c ne ad (fun _ => false) L) (hL : ∀ f, f < n → L f ≤ lm_i0 K s f) (hmax : ∀ Y, lm_px K false n na c ne ad (fun _ => false) Y → (∀ f, f < n → Y f ≤ lm_i0 K s f) → ∀ f, f < n → Y f ≤ L f)
    (hB : ∀ a, a < na → cu_fin K n ne L a = true → cu_B L (ne a) n (ba a)) (had : ∀ a, a < na → ad a < 2 ^ n) (hs : s < 2 ^ n) (hn : n ≤ 10) (hg : gb < n) (h0 : 0 < L gb) (hgK : L gb < K)
    (hX : cu_is na (cu_tz K n c ne ad L) (fun a => 2 ^ ba a) (2 ^ gb) X) (hR : cu_is na (cu_tr K n ne ba L) (fun a => bm_dif (ad a) X) (bm_dif (s ||| 2 ^ 10) X) R) : ∃ a, a < na ∧ cu_ac K n ne ad ba L X R a = true := by
  by_cases q : ∃ a, a < na ∧ cu_ac K n ne ad ba L X R a = true
  · exact q
  · exfalso
    have hz := cu_zone hp hB had hg h0 hX
    have hdis := cu_rest hR
    have hgX : X.testBit gb = true := cu_bit.mp hX.1
    have hgR : R.testBit gb = false := by
      cases h : R.testBit gb with
      | false => rfl
      | true => rw [hdis gb h] at hgX; cases hgX
    have hst : ∀ f, (s ||| 2 ^ 10).testBit f = true → (f = 10 ∨ L f = 0) → R.testBit f = true := fun f hf hl => by
      refine hR.1 f ?_
      rw [bm_dif_bit, hf]
      cases hx : X.testBit f with
      | false => rfl
      | true =>
        obtain ⟨h1, h2⟩ := hz f hx
        omega
    have h10 : R.testBit 10 = true := hst 10 (by rw [Nat.testBit_or, Nat.testBit_two_pow]; simp) (Or.inl rfl)
    have hLK : ∀ f, f < n → L f ≤ K := fun f hf => Nat.le_trans (hL f hf) (lm_i0_le K s f)
    have key := hmax (fun f => if R.testBit f = true then L f else K) (fun a f ha hb hf hq => by
      show (if R.testBit f = true then L f else K) ≤ c a + lm_jn K false (fun f => if R.testBit f = true then L f else K) (ne a) n
      have hge : lm_jn K false L (ne a) n ≤ lm_jn K false (fun f => if R.testBit f = true then L f else K) (ne a) n := lm_jn_mono fun g hg _ => by
        show L g ≤ if R.testBit g = true then L g else K
        split
        · exact Nat.le_refl _
        · exact hLK g hg
      by_cases hr : R.testBit f = true
      · rw [if_pos hr]
        have := hp a f ha rfl hf hq
        omega
      · rw [if_neg hr]
        by_cases hfin : cu_fin K n ne L a = true
        · have hbR : R.testBit (ba a) = false := by
            cases h : R.testBit (ba a) with
            | false => rfl
            | true =>
              exfalso
              have hno : ¬ (ad a &&& X ≠ 0) := fun z => q ⟨a, ha, by unfold cu_ac; simp only [Bool.and_eq_true, decide_eq_true_eq]; exact ⟨⟨hfin, h⟩, z⟩⟩
              have h1 := hR.2.1 a ha (by unfold cu_tr; rw [hfin, h]; rfl) f (by
                rw [bm_dif_bit, hq]
                cases hx : X.testBit f with
                | false => rfl
                | true => exact (hno (cu_and_ne.mpr ⟨f, hq, hx⟩)).elim)
              exact hr h1
          rcases cu_base (hB a ha hfin) hfin with ⟨z, -⟩ | ⟨b1, b2, -⟩
          · rw [z, h10] at hbR; cases hbR
          · have := lm_jn_ge (K := K) (w := false) (h := fun f => if R.testBit f = true then L f else K) b1 b2 (by simp [hbR])
            simp [hbR] at this
            omega
        · have : ¬ lm_jn K false L (ne a) n < K := by simpa [cu_fin] using hfin
          omega) (fun f hf => by
      show (if R.testBit f = true then L f else K) ≤ lm_i0 K s f
      by_cases hr : R.testBit f = true
      · rw [if_pos hr]; exact hL f hf
      · rw [if_neg hr]
        unfold lm_i0
        by_cases hsf : s.testBit f = true
        · exfalso
          apply hr
          refine hst f (by rw [Nat.testBit_or, hsf]; rfl) (Or.inr ?_)
          have := hL f hf
          unfold lm_i0 at this
          rw [if_pos hsf] at this
          omega
        · rw [if_neg hsf]; exact Nat.le_refl _) gb hg
    have key : (if R.testBit gb = true then L gb else K) ≤ L gb := key
    rw [if_neg (by rw [hgR]; decide)] at key
    omega
end CC
/-- with no costs left every level is 0 or the cap -/
theorem cu_free {K n na s : Nat} {c ne ad : Nat → Nat} {bar : Nat → Bool} (hc : ∀ a, a < na → c a = 0) : ∀ k f, lm_it K false n na c ne ad bar (lm_i0 K s) k f = 0 ∨ lm_it K false n na c ne ad bar (lm_i0 K s) k f = K := by
  have hj : ∀ (h : Nat → Nat) (S m : Nat), (∀ f, h f = 0 ∨ h f = K) → lm_jp false h S m = 0 ∨ lm_jp false h S m = K := by
    intro h S m hh
    induction m with
    | zero => exact Or.inl rfl
    | succ m ih =>
      unfold lm_jp
      have := hh m
      by_cases q : S.testBit m = true
      · simp only [q, if_true, Bool.false_eq_true, if_false]
        omega
      · simp only [q]; exact ih
  have hr : ∀ (h : Nat → Nat), (∀ f, h f = 0 ∨ h f = K) → ∀ m, m ≤ na → ∀ f, lm_rd K false n c ne ad bar h m f = 0 ∨ lm_rd K false n c ne ad bar h m f = K := by
    intro h hh m
    induction m with
    | zero => intro _; exact hh
    | succ m ih =>
      intro hm f
      have ih := ih (by omega)
      unfold lm_rd
      split
      · exact ih f
      · have h1 := hj (lm_rd K false n c ne ad bar h m) (ne m) n ih
        have h2 := hc m (by omega)
        unfold lm_act
        split
        · unfold lm_jn; omega
        · exact ih f
  intro k
  induction k with
  | zero =>
    intro f
    show lm_i0 K s f = 0 ∨ lm_i0 K s f = K
    unfold lm_i0
    split
    · exact Or.inl rfl
    · exact Or.inr rfl
  | succ k ih => exact hr _ ih na (Nat.le_refl _)
