/-! Levels: what is below the cap is small; two caps give the same numbers. -/
def lm_fs (K : Nat) (h : Nat → Nat) : Nat → Nat
  | 0 => 0
  | k + 1 => lm_fs K h k + (if h k < K then h k else 0)
def lm_fc (K : Nat) (h : Nat → Nat) : Nat → Nat
  | 0 => 0
  | k + 1 => lm_fc K h k + (if h k < K then 1 else 0)
theorem lm_fs_congr {K : Nat} {h g : Nat → Nat} : ∀ {n : Nat}, (∀ f, f < n → h f = g f) → lm_fs K h n = lm_fs K g n ∧ lm_fc K h n = lm_fc K g n
  | 0, _ => ⟨rfl, rfl⟩
  | n + 1, hh => by
    obtain ⟨h1, h2⟩ := lm_fs_congr (n := n) fun f hf => hh f (by omega)
    have h3 := hh n (by omega)
    unfold lm_fs lm_fc
    rw [h1, h2, h3]
    exact ⟨rfl, rfl⟩
theorem lm_fc_le (K : Nat) (h : Nat → Nat) : ∀ n, lm_fc K h n ≤ n
  | 0 => Nat.le_refl _
  | n + 1 => by have := lm_fc_le K h n; unfold lm_fc; split <;> omega
theorem lm_fs_ge {K : Nat} {h : Nat → Nat} : ∀ {n f : Nat}, f < n → h f < K → h f ≤ lm_fs K h n
  | 0, f, hf, _ => by omega
  | n + 1, f, hf, hk => by
    unfold lm_fs
    by_cases e : f = n
    · subst e; rw [if_pos hk]; omega
    · have := lm_fs_ge (n := n) (f := f) (by omega) hk
      omega
theorem lm_jp_fs {K : Nat} {w : Bool} {h : Nat → Nat} {S : Nat} : ∀ {n : Nat}, (∀ f, f < n → S.testBit f = true → h f < K) → lm_jp w h S n ≤ lm_fs K h n
  | 0, _ => Nat.le_refl _
  | n + 1, hh => by
    have ih := lm_jp_fs (w := w) (n := n) fun f hf hb => hh f (by omega) hb
    unfold lm_jp lm_fs
    by_cases hb : S.testBit n = true
    · have h1 := hh n (by omega) hb
      simp only [hb, if_true, h1]
      cases w with
      | true => simp only [if_true]; omega
      | false => simp only [Bool.false_eq_true, if_false]; omega
    · rw [if_neg hb]
      omega
theorem lm_fs_set {K f0 : Nat} {h g : Nat → Nat} (he : ∀ f, f ≠ f0 → g f = h f) (hg : g f0 < K) : ∀ {n : Nat}, f0 < n → lm_fs K g n + (if h f0 < K then h f0 else 0) = lm_fs K h n + g f0 ∧ lm_fc K g n = lm_fc K h n + (if h f0 < K then 0 else 1)
  | 0, hf => by omega
  | n + 1, hf => by
    unfold lm_fs lm_fc
    by_cases e : f0 = n
    · subst e
      obtain ⟨h1, h2⟩ := lm_fs_congr (K := K) (h := g) (g := h) (n := f0) fun f hf => he f (by omega)
      rw [h1, h2, if_pos hg, if_pos hg]
      split <;> omega
    · obtain ⟨h1, h2⟩ := lm_fs_set he hg (n := n) (by omega)
      have h3 := he n (fun z => e z.symm)
      rw [h3, h2]
      refine ⟨?_, ?_⟩
      · generalize (if h f0 < K then h f0 else 0) = x at *
        generalize (if h n < K then h n else 0) = y at *
        omega
      · generalize (if h f0 < K then 0 else 1) = x at *
        generalize (if h n < K then 1 else 0) = y at *
        omega
theorem lm_bd_set {K C f0 n : Nat} {h g : Nat → Nat} (hf : f0 < n) (he : ∀ f, f ≠ f0 → g f = h f) (hg : g f0 < K) (hl : g f0 < h f0) (hx : g f0 ≤ C * 2 ^ lm_fc K h n) (hb : lm_fs K h n + C ≤ C * 2 ^ lm_fc K h n) :
    lm_fs K g n + C ≤ C * 2 ^ lm_fc K g n ∧ lm_fc K h n ≤ lm_fc K g n := by
  obtain ⟨h1, h2⟩ := lm_fs_set he hg hf
  by_cases q : h f0 < K
  · rw [if_pos q] at h1 h2
    rw [h2]
    simp only [Nat.add_zero]
    exact ⟨by omega, Nat.le_refl _⟩
  · rw [if_neg q] at h1 h2
    rw [h2]
    refine ⟨?_, by omega⟩
    have e : C * 2 ^ (lm_fc K h n + 1) = C * 2 ^ lm_fc K h n + C * 2 ^ lm_fc K h n := by
      rw [Nat.pow_succ, ← Nat.mul_assoc, Nat.mul_two]
    rw [e]
    omega
section LN
variable {K : Nat} {w : Bool} {n na C : Nat} {c ne ad : Nat → Nat} {bar : Nat → Bool}
theorem lm_act_bd {a : Nat} {h : Nat → Nat} (hc : c a ≤ C) (hK : ∀ f, f < n → h f ≤ K) (hb : lm_fs K h n + C ≤ C * 2 ^ lm_fc K h n) : lm_fs K (lm_act K w n c ne ad a h) n + C ≤ C * 2 ^ lm_fc K (lm_act K w n c ne ad a h) n := by
  have key : ∀ m, m ≤ n → lm_fs K (fun f => if f < m then lm_act K w n c ne ad a h f else h f) n + C ≤ C * 2 ^ lm_fc K (fun f => if f < m then lm_act K w n c ne ad a h f else h f) n ∧ lm_fc K h n ≤ lm_fc K (fun f => if f < m then lm_act K w n c ne ad a h f else h f) n := by
    intro m
    induction m with
    | zero =>
      intro _
      have e : (fun f => if f < 0 then lm_act K w n c ne ad a h f else h f) = h := by funext f; simp
      rw [e]
      exact ⟨hb, Nat.le_refl _⟩
    | succ m ih =>
      intro hm
      obtain ⟨i1, i2⟩ := ih (by omega)
      by_cases q : (ad a).testBit m = true ∧ c a + lm_jn K w h (ne a) n < h m
      · have hx : lm_act K w n c ne ad a h m = c a + lm_jn K w h (ne a) n := by unfold lm_act; rw [if_pos q]
        have hKm := hK m (by omega)
        have hjK : lm_jn K w h (ne a) n < K := by omega
        have hjp : lm_jp w h (ne a) n = lm_jn K w h (ne a) n := by unfold lm_jn at hjK ⊢; omega
        have hjf : lm_jp w h (ne a) n ≤ lm_fs K h n := lm_jp_fs fun f hf hb => by
          have := lm_jp_ge (w := w) (h := h) hf hb
          omega
        have hp : 2 ^ lm_fc K h n ≤ 2 ^ lm_fc K (fun f => if f < m then lm_act K w n c ne ad a h f else h f) n := Nat.pow_le_pow_right (by omega) i2
        have hp2 := Nat.mul_le_mul_left C hp
        obtain ⟨r1, r2⟩ := lm_bd_set (K := K) (C := C) (f0 := m) (n := n) (h := fun f => if f < m then lm_act K w n c ne ad a h f else h f) (g := fun f => if f < m + 1 then lm_act K w n c ne ad a h f else h f) (by omega)
          (fun f hf => by
            show (if f < m + 1 then lm_act K w n c ne ad a h f else h f) = (if f < m then lm_act K w n c ne ad a h f else h f)
            by_cases z : f < m
            · rw [if_pos z, if_pos (show f < m + 1 by omega)]
            · rw [if_neg z, if_neg (show ¬ f < m + 1 by omega)])
          (by simp [hx]; omega) (by simp [hx]; omega) (by simp only [Nat.lt_succ_self, if_true, hx]; omega) i1
        exact ⟨r1, by omega⟩
      · have e : (fun f => if f < m + 1 then lm_act K w n c ne ad a h f else h f) = (fun f => if f < m then lm_act K w n c ne ad a h f else h f) := by
          funext f
          by_cases z : f < m
          · simp [z, (by omega : f < m + 1)]
          · by_cases z2 : f = m
            · subst z2
              have : lm_act K w n c ne ad a h f = h f := by unfold lm_act; rw [if_neg q]
              simp [this]
            · rw [if_neg z, if_neg (show ¬ f < m + 1 by omega)]
        rw [e]
        exact ⟨i1, i2⟩
  obtain ⟨k1, -⟩ := key n (Nat.le_refl _)
  obtain ⟨c1, c2⟩ := lm_fs_congr (K := K) (h := fun f => if f < n then lm_act K w n c ne ad a h f else h f) (g := lm_act K w n c ne ad a h) (n := n) fun f hf => by simp [hf]
  rw [c1, c2] at k1
  exact k1
theorem lm_rd_bd {h : Nat → Nat} (hc : ∀ a, a < na → c a ≤ C) (hK : ∀ f, f < n → h f ≤ K) (hb : lm_fs K h n + C ≤ C * 2 ^ lm_fc K h n) : ∀ k, k ≤ na → lm_fs K (lm_rd K w n c ne ad bar h k) n + C ≤ C * 2 ^ lm_fc K (lm_rd K w n c ne ad bar h k) n
  | 0, _ => hb
  | k + 1, hk => by
    have ih := lm_rd_bd hc hK hb k (by omega)
    unfold lm_rd
    split
    · exact ih
    · exact lm_act_bd (hc k (by omega)) (fun f hf => Nat.le_trans (lm_rd_le _ _ _) (hK f hf)) ih
theorem lm_it_bd {h : Nat → Nat} (hc : ∀ a, a < na → c a ≤ C) (hK : ∀ f, f < n → h f ≤ K) (hb : lm_fs K h n + C ≤ C * 2 ^ lm_fc K h n) : ∀ k, lm_fs K (lm_it K w n na c ne ad bar h k) n + C ≤ C * 2 ^ lm_fc K (lm_it K w n na c ne ad bar h k) n
  | 0 => hb
  | k + 1 => lm_rd_bd hc (fun f hf => Nat.le_trans (lm_it_le _ _ _) (hK f hf)) (lm_it_bd hc hK hb k) na (Nat.le_refl _)
theorem lm_i0_le (K s f : Nat) : lm_i0 K s f ≤ K := by unfold lm_i0; split <;> omega
theorem lm_i0_bd {K s C : Nat} (n : Nat) : lm_fs K (lm_i0 K s) n + C ≤ C * 2 ^ lm_fc K (lm_i0 K s) n := by
  have h0 : ∀ n, lm_fs K (lm_i0 K s) n = 0 := fun n => by
    induction n with
    | zero => rfl
    | succ n ih =>
      unfold lm_fs
      rw [ih]
      unfold lm_i0
      by_cases q : s.testBit n = true
      · simp [q]
      · simp [q]
  rw [h0, Nat.zero_add]
  have := Nat.mul_le_mul_left C (Nat.one_le_two_pow (n := lm_fc K (lm_i0 K s) n))
  omega
/-- what is below the cap adds up to less than C * 2^n -/
theorem lm_it_fs {s : Nat} (hc : ∀ a, a < na → c a ≤ C) (k : Nat) : lm_fs K (lm_it K w n na c ne ad bar (lm_i0 K s) k) n + C ≤ C * 2 ^ n := by
  have h1 := lm_it_bd (w := w) (ne := ne) (ad := ad) (bar := bar) hc (fun f _ => lm_i0_le K s f) (lm_i0_bd (C := C) n) k
  have h2 := Nat.mul_le_mul_left C (Nat.pow_le_pow_right (n := 2) (by omega) (lm_fc_le K (lm_it K w n na c ne ad bar (lm_i0 K s) k) n))
  omega
/-- a solution under one cap is one under another -/
theorem lm_cross {K1 K2 : Nat} {g : Nat → Nat} (hc : ∀ a, a < na → c a ≤ C) (hp : lm_px K2 w n na c ne ad bar g) (h1 : C + lm_fs K2 g n < K1) (h2 : C + lm_fs K2 g n < K2) : lm_px K1 w n na c ne ad bar (fun f => if g f < K2 then g f else K1) := by
  intro a f ha hb hf hq
  have hpa := hp a f ha hb hf hq
  by_cases q : ∃ e, e < n ∧ (ne a).testBit e = true ∧ ¬ g e < K2
  · obtain ⟨e, he, heb, hge⟩ := q
    have h3 : K1 ≤ lm_jn K1 w (fun f => if g f < K2 then g f else K1) (ne a) n := by
      have := lm_jn_ge (K := K1) (w := w) (h := fun f => if g f < K2 then g f else K1) he heb (by simp [hge])
      simpa [hge] using this
    have h4 : (if g f < K2 then g f else K1) ≤ K1 := by
      split
      · next z => have := lm_fs_ge hf z; omega
      · exact Nat.le_refl _
    show (if g f < K2 then g f else K1) ≤ _
    omega
  · have hall : ∀ e, e < n → (ne a).testBit e = true → g e < K2 := fun e he heb => by
      by_cases z : g e < K2
      · exact z
      · exact (q ⟨e, he, heb, z⟩).elim
    have h3 : lm_jp w (fun f => if g f < K2 then g f else K1) (ne a) n = lm_jp w g (ne a) n := lm_jp_congr fun e he heb => by simp [hall e he heb]
    have h4 := lm_jp_fs (w := w) hall
    have h5 := hc a ha
    have h6 : lm_jn K2 w g (ne a) n = lm_jp w g (ne a) n := by unfold lm_jn; omega
    have h7 : lm_jn K1 w (fun f => if g f < K2 then g f else K1) (ne a) n = lm_jp w g (ne a) n := by unfold lm_jn; rw [h3]; omega
    rw [h6] at hpa
    show (if g f < K2 then g f else K1) ≤ c a + lm_jn K1 w (fun f => if g f < K2 then g f else K1) (ne a) n
    rw [h7, if_pos (by omega)]
    exact hpa
/-- two runs with two caps that both came to a solution: the same numbers -/
theorem lm_same {K1 K2 s k1 k2 : Nat} (hc : ∀ a, a < na → c a ≤ C) (hC1 : C * 2 ^ n < K1) (hC2 : C * 2 ^ n < K2)
    (hp1 : lm_px K1 w n na c ne ad bar (lm_it K1 w n na c ne ad bar (lm_i0 K1 s) k1)) (hp2 : lm_px K2 w n na c ne ad bar (lm_it K2 w n na c ne ad bar (lm_i0 K2 s) k2)) :
    ∀ f, f < n → (lm_it K1 w n na c ne ad bar (lm_i0 K1 s) k1 f < K1 ↔ lm_it K2 w n na c ne ad bar (lm_i0 K2 s) k2 f < K2) ∧ (lm_it K1 w n na c ne ad bar (lm_i0 K1 s) k1 f < K1 → lm_it K1 w n na c ne ad bar (lm_i0 K1 s) k1 f = lm_it K2 w n na c ne ad bar (lm_i0 K2 s) k2 f) := by
  have b1 := lm_it_fs (K := K1) (w := w) (n := n) (s := s) (ne := ne) (ad := ad) (bar := bar) hc k1
  have b2 := lm_it_fs (K := K2) (w := w) (n := n) (s := s) (ne := ne) (ad := ad) (bar := bar) hc k2
  have i1 : ∀ f, lm_it K1 w n na c ne ad bar (lm_i0 K1 s) k1 f ≤ lm_i0 K1 s f := fun f => lm_it_le _ _ _
  have i2 : ∀ f, lm_it K2 w n na c ne ad bar (lm_i0 K2 s) k2 f ≤ lm_i0 K2 s f := fun f => lm_it_le _ _ _
  have x1 := lm_it_px (h := lm_i0 K1 s) (lm_cross (K1 := K1) hc hp2 (by omega) (by omega)) (fun f hf => by
    have := i2 f
    by_cases q : s.testBit f = true
    · have z : lm_i0 K2 s f = 0 := by unfold lm_i0; rw [if_pos q]
      have z0 : lm_it K2 w n na c ne ad bar (lm_i0 K2 s) k2 f = 0 := by omega
      rw [z0, if_pos (by omega)]; omega
    · have z : lm_i0 K1 s f = K1 := by unfold lm_i0; rw [if_neg q]
      rw [z]
      split
      · next y => have := lm_fs_ge hf y; omega
      · exact Nat.le_refl _) k1
  have x2 := lm_it_px (h := lm_i0 K2 s) (lm_cross (K1 := K2) hc hp1 (by omega) (by omega)) (fun f hf => by
    have := i1 f
    by_cases q : s.testBit f = true
    · have z : lm_i0 K1 s f = 0 := by unfold lm_i0; rw [if_pos q]
      have z0 : lm_it K1 w n na c ne ad bar (lm_i0 K1 s) k1 f = 0 := by omega
      rw [z0, if_pos (by omega)]; omega
    · have z : lm_i0 K2 s f = K2 := by unfold lm_i0; rw [if_neg q]
      rw [z]
      split
      · next y => have := lm_fs_ge hf y; omega
      · exact Nat.le_refl _) k2
  intro f hf
  have y1 := x1 f hf
  have y2 := x2 f hf
  generalize lm_it K1 w n na c ne ad bar (lm_i0 K1 s) k1 f = u at *
  generalize lm_it K2 w n na c ne ad bar (lm_i0 K2 s) k2 f = v at *
  by_cases p1 : u < K1
  · by_cases p2 : v < K2
    · rw [if_pos p2] at y1; rw [if_pos p1] at y2
      exact ⟨⟨fun _ => p2, fun _ => p1⟩, fun _ => by omega⟩
    · rw [if_neg p2] at y1; omega
  · by_cases p2 : v < K2
    · rw [if_neg p1] at y2; omega
    · exact ⟨⟨fun z => absurd z p1, fun z => absurd z p2⟩, fun z => absurd z p1⟩
end LN
