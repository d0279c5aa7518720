/-! Levels and weights, as numbers alone: a round lowers by each action in turn (lm_rd); from the start it comes, within as many rounds as there are facts, to the greatest solution. -/
def lm_jp (w : Bool) (h : Nat → Nat) (S : Nat) : Nat → Nat
  | 0 => 0
  | i + 1 => if S.testBit i = true then (if w = true then lm_jp w h S i + h i else max (lm_jp w h S i) (h i)) else lm_jp w h S i
def lm_jn (K : Nat) (w : Bool) (h : Nat → Nat) (S n : Nat) : Nat := min (lm_jp w h S n) K
theorem lm_jp_mono {w : Bool} {h g : Nat → Nat} {S : Nat} : ∀ {n : Nat}, (∀ f, f < n → S.testBit f = true → h f ≤ g f) → lm_jp w h S n ≤ lm_jp w g S n
  | 0, _ => Nat.le_refl _
  | n + 1, hh => by
    have ih := lm_jp_mono (w := w) (n := n) (fun f hf hb => hh f (by omega) hb)
    unfold lm_jp
    by_cases hb : S.testBit n = true
    · have h1 := hh n (by omega) hb
      simp only [hb, if_true]
      cases w with
      | true => simp only [if_true]; omega
      | false => simp only [Bool.false_eq_true, if_false]; omega
    · simp only [hb]; exact ih
theorem lm_jp_congr {w : Bool} {h g : Nat → Nat} {S n : Nat} (hh : ∀ f, f < n → S.testBit f = true → h f = g f) : lm_jp w h S n = lm_jp w g S n :=
  Nat.le_antisymm (lm_jp_mono fun f hf hb => Nat.le_of_eq (hh f hf hb)) (lm_jp_mono fun f hf hb => Nat.le_of_eq (hh f hf hb).symm)
theorem lm_jp_ge {w : Bool} {h : Nat → Nat} {S : Nat} : ∀ {n f : Nat}, f < n → S.testBit f = true → h f ≤ lm_jp w h S n
  | 0, f, hf, _ => by omega
  | n + 1, f, hf, hb => by
    unfold lm_jp
    by_cases e : f = n
    · subst e
      simp only [hb, if_true]
      cases w with
      | true => simp only [if_true]; omega
      | false => simp only [Bool.false_eq_true, if_false]; omega
    · have ih := lm_jp_ge (w := w) (h := h) (n := n) (f := f) (by omega) hb
      by_cases hb2 : S.testBit n = true
      · simp only [hb2, if_true]
        cases w with
        | true => simp only [if_true]; omega
        | false => simp only [Bool.false_eq_true, if_false]; omega
      · simp only [hb2]; exact ih
theorem lm_jn_mono {K : Nat} {w : Bool} {h g : Nat → Nat} {S n : Nat} (hh : ∀ f, f < n → S.testBit f = true → h f ≤ g f) : lm_jn K w h S n ≤ lm_jn K w g S n := by
  have := lm_jp_mono (w := w) hh
  unfold lm_jn; omega
theorem lm_jn_congr {K : Nat} {w : Bool} {h g : Nat → Nat} {S n : Nat} (hh : ∀ f, f < n → S.testBit f = true → h f = g f) : lm_jn K w h S n = lm_jn K w g S n := by
  unfold lm_jn; rw [lm_jp_congr hh]
theorem lm_jn_le (K : Nat) (w : Bool) (h : Nat → Nat) (S n : Nat) : lm_jn K w h S n ≤ K := by unfold lm_jn; omega
theorem lm_jn_ge {K : Nat} {w : Bool} {h : Nat → Nat} {S n f : Nat} (hf : f < n) (hb : S.testBit f = true) (hK : h f ≤ K) : h f ≤ lm_jn K w h S n := by
  have := lm_jp_ge (w := w) (h := h) hf hb
  unfold lm_jn; omega
/-- an action lowers the facts that it adds -/
def lm_act (K : Nat) (w : Bool) (n : Nat) (c ne ad : Nat → Nat) (a : Nat) (h : Nat → Nat) : Nat → Nat := fun f => if (ad a).testBit f = true ∧ c a + lm_jn K w h (ne a) n < h f then c a + lm_jn K w h (ne a) n else h f
/-- a round: every action that isn't barred, in turn -/
def lm_rd (K : Nat) (w : Bool) (n : Nat) (c ne ad : Nat → Nat) (bar : Nat → Bool) (h : Nat → Nat) : Nat → Nat → Nat
  | 0 => h
  | a + 1 => if bar a = true then lm_rd K w n c ne ad bar h a else lm_act K w n c ne ad a (lm_rd K w n c ne ad bar h a)
def lm_it (K : Nat) (w : Bool) (n na : Nat) (c ne ad : Nat → Nat) (bar : Nat → Bool) (h : Nat → Nat) : Nat → Nat → Nat
  | 0 => h
  | k + 1 => lm_rd K w n c ne ad bar (lm_it K w n na c ne ad bar h k) na
def lm_i0 (K s : Nat) : Nat → Nat := fun f => if s.testBit f = true then 0 else K
/-- a solution from below: no action lowers it -/
def lm_px (K : Nat) (w : Bool) (n na : Nat) (c ne ad : Nat → Nat) (bar : Nat → Bool) (Y : Nat → Nat) : Prop := ∀ a f, a < na → bar a = false → f < n → (ad a).testBit f = true → Y f ≤ c a + lm_jn K w Y (ne a) n
section LM
variable {K : Nat} {w : Bool} {n na : Nat} {c ne ad : Nat → Nat} {bar : Nat → Bool}
theorem lm_act_le (a : Nat) (h : Nat → Nat) (f : Nat) : lm_act K w n c ne ad a h f ≤ h f := by
  unfold lm_act
  split
  · next q => omega
  · exact Nat.le_refl _
theorem lm_act_px {Y h : Nat → Nat} {a : Nat} (hY : lm_px K w n na c ne ad bar Y) (ha : a < na) (hb : bar a = false) (hh : ∀ f, f < n → Y f ≤ h f) : ∀ f, f < n → Y f ≤ lm_act K w n c ne ad a h f := by
  intro f hf
  unfold lm_act
  split
  · next q =>
    have h1 := hY a f ha hb hf q.1
    have h2 : lm_jn K w Y (ne a) n ≤ lm_jn K w h (ne a) n := lm_jn_mono fun g hg _ => hh g hg
    omega
  · exact hh f hf
theorem lm_rd_le (h : Nat → Nat) : ∀ (k f : Nat), lm_rd K w n c ne ad bar h k f ≤ h f
  | 0, f => Nat.le_refl _
  | k + 1, f => by
    have ih := lm_rd_le h k f
    unfold lm_rd
    split
    · exact ih
    · exact Nat.le_trans (lm_act_le _ _ _) ih
theorem lm_rd_px {Y h : Nat → Nat} (hY : lm_px K w n na c ne ad bar Y) (hh : ∀ f, f < n → Y f ≤ h f) : ∀ k, k ≤ na → ∀ f, f < n → Y f ≤ lm_rd K w n c ne ad bar h k f
  | 0, _ => hh
  | k + 1, hk => by
    have ih := lm_rd_px hY hh k (by omega)
    unfold lm_rd
    split
    · exact ih
    · next q => exact lm_act_px hY (by omega) (by simpa using q) ih
theorem lm_it_px {Y h : Nat → Nat} (hY : lm_px K w n na c ne ad bar Y) (hh : ∀ f, f < n → Y f ≤ h f) : ∀ k f, f < n → Y f ≤ lm_it K w n na c ne ad bar h k f
  | 0 => hh
  | k + 1 => lm_rd_px hY (lm_it_px hY hh k) na (Nat.le_refl _)
theorem lm_it_le (h : Nat → Nat) : ∀ (k f : Nat), lm_it K w n na c ne ad bar h k f ≤ h f
  | 0, _ => Nat.le_refl _
  | k + 1, f => Nat.le_trans (lm_rd_le _ _ _) (lm_it_le h k f)
/-- behind an action a round's value is at most what the action gives -/
theorem lm_rd_hit (h : Nat → Nat) {a f : Nat} (hb : bar a = false) (hf : (ad a).testBit f = true) : ∀ k, a < k → lm_rd K w n c ne ad bar h k f ≤ c a + lm_jn K w h (ne a) n
  | 0, hk => by omega
  | k + 1, hk => by
    by_cases e : a = k
    · subst e
      unfold lm_rd
      rw [if_neg (by rw [hb]; decide)]
      have h1 : lm_jn K w (lm_rd K w n c ne ad bar h a) (ne a) n ≤ lm_jn K w h (ne a) n := lm_jn_mono fun g _ _ => lm_rd_le h a g
      unfold lm_act
      split
      · omega
      · next q =>
        have : ¬ (c a + lm_jn K w (lm_rd K w n c ne ad bar h a) (ne a) n < lm_rd K w n c ne ad bar h a f) := fun z => q ⟨hf, z⟩
        omega
    · have ih := lm_rd_hit h hb hf k (by omega)
      unfold lm_rd
      split
      · exact ih
      · exact Nat.le_trans (lm_act_le _ _ _) ih
/-- a round that changes nothing: a solution -/
theorem lm_rd_fix {h : Nat → Nat} (hh : ∀ f, f < n → lm_rd K w n c ne ad bar h na f = h f) : lm_px K w n na c ne ad bar h := by
  intro a f ha hb hf hq
  have := lm_rd_hit (K := K) (w := w) (n := n) (c := c) (ne := ne) h hb hq na ha
  rw [hh f hf] at this
  exact this
/-- all actions at once -/
def lm_jc (K : Nat) (w : Bool) (n : Nat) (c ne ad : Nat → Nat) (bar : Nat → Bool) (h : Nat → Nat) (f : Nat) : Nat → Nat
  | 0 => h f
  | a + 1 => if bar a = false ∧ (ad a).testBit f = true then min (lm_jc K w n c ne ad bar h f a) (c a + lm_jn K w h (ne a) n) else lm_jc K w n c ne ad bar h f a
theorem lm_jc_le (h : Nat → Nat) (f : Nat) : ∀ k, lm_jc K w n c ne ad bar h f k ≤ h f
  | 0 => Nat.le_refl _
  | k + 1 => by
    have ih := lm_jc_le h f k
    unfold lm_jc
    split <;> omega
theorem lm_jc_hit (h : Nat → Nat) {a f : Nat} (hb : bar a = false) (hf : (ad a).testBit f = true) : ∀ k, a < k → lm_jc K w n c ne ad bar h f k ≤ c a + lm_jn K w h (ne a) n
  | 0, hk => by omega
  | k + 1, hk => by
    unfold lm_jc
    by_cases e : a = k
    · subst e
      rw [if_pos ⟨hb, hf⟩]
      omega
    · have ih := lm_jc_hit h hb hf k (by omega)
      split <;> omega
theorem lm_jc_of (h : Nat → Nat) (f : Nat) : ∀ k, lm_jc K w n c ne ad bar h f k = h f ∨ ∃ a, a < k ∧ bar a = false ∧ (ad a).testBit f = true ∧ lm_jc K w n c ne ad bar h f k = c a + lm_jn K w h (ne a) n
  | 0 => Or.inl rfl
  | k + 1 => by
    have ih := lm_jc_of h f k
    unfold lm_jc
    split
    · next q =>
      by_cases z : lm_jc K w n c ne ad bar h f k ≤ c k + lm_jn K w h (ne k) n
      · rw [Nat.min_eq_left z]
        rcases ih with ih | ⟨a, h1, h2, h3, h4⟩
        · exact Or.inl ih
        · exact Or.inr ⟨a, by omega, h2, h3, h4⟩
      · exact Or.inr ⟨k, by omega, q.1, q.2, by omega⟩
    · rcases ih with ih | ⟨a, h1, h2, h3, h4⟩
      · exact Or.inl ih
      · exact Or.inr ⟨a, by omega, h2, h3, h4⟩
theorem lm_jc_mono {h g : Nat → Nat} (hh : ∀ f, f < n → h f ≤ g f) {f : Nat} (hf : f < n) : ∀ k, lm_jc K w n c ne ad bar h f k ≤ lm_jc K w n c ne ad bar g f k
  | 0 => hh f hf
  | k + 1 => by
    have ih := lm_jc_mono hh hf k
    have h2 : lm_jn K w h (ne k) n ≤ lm_jn K w g (ne k) n := lm_jn_mono fun g hg _ => hh g hg
    unfold lm_jc
    split <;> omega
/-- a round in turn goes at least as far as all at once -/
theorem lm_rd_jc (h : Nat → Nat) (f : Nat) : lm_rd K w n c ne ad bar h na f ≤ lm_jc K w n c ne ad bar h f na := by
  rcases lm_jc_of (K := K) (w := w) (n := n) (c := c) (ne := ne) (ad := ad) (bar := bar) h f na with q | ⟨a, h1, h2, h3, h4⟩
  · rw [q]; exact lm_rd_le _ _ _
  · rw [h4]; exact lm_rd_hit h h2 h3 na h1
def lm_J (K : Nat) (w : Bool) (n na : Nat) (c ne ad : Nat → Nat) (bar : Nat → Bool) (h : Nat → Nat) : Nat → Nat → Nat
  | 0 => h
  | k + 1 => fun f => lm_jc K w n c ne ad bar (lm_J K w n na c ne ad bar h k) f na
theorem lm_J_step (h : Nat → Nat) (k f : Nat) : lm_J K w n na c ne ad bar h (k + 1) f ≤ lm_J K w n na c ne ad bar h k f := lm_jc_le _ _ _
theorem lm_J_anti (h : Nat → Nat) {i : Nat} (f : Nat) : ∀ j, i ≤ j → lm_J K w n na c ne ad bar h j f ≤ lm_J K w n na c ne ad bar h i f
  | 0, hj => by have : i = 0 := by omega
                subst this; exact Nat.le_refl _
  | j + 1, hj => by
    by_cases e : i = j + 1
    · subst e; exact Nat.le_refl _
    · exact Nat.le_trans (lm_J_step h j f) (lm_J_anti h f j (by omega))
theorem lm_it_J (h : Nat → Nat) : ∀ k f, f < n → lm_it K w n na c ne ad bar h k f ≤ lm_J K w n na c ne ad bar h k f
  | 0, _, _ => Nat.le_refl _
  | k + 1, f, hf => Nat.le_trans (lm_rd_jc _ f) (lm_jc_mono (fun g hg => lm_it_J h k g hg) hf na)
theorem lm_J_px {h : Nat → Nat} {k : Nat} (hh : ∀ f, f < n → lm_J K w n na c ne ad bar h (k + 1) f = lm_J K w n na c ne ad bar h k f) : lm_px K w n na c ne ad bar (lm_J K w n na c ne ad bar h k) := by
  intro a f ha hb hf hq
  have := lm_jc_hit (K := K) (w := w) (n := n) (c := c) (ne := ne) (lm_J K w n na c ne ad bar h k) hb hq na ha
  have h2 : lm_jc K w n c ne ad bar (lm_J K w n na c ne ad bar h k) f na = lm_J K w n na c ne ad bar h k f := hh f hf
  rw [h2] at this
  exact this
def lm_sum (h : Nat → Nat) : Nat → Nat
  | 0 => 0
  | k + 1 => lm_sum h k + h k
theorem lm_sum_le {h g : Nat → Nat} : ∀ {n : Nat}, (∀ f, f < n → h f ≤ g f) → lm_sum h n ≤ lm_sum g n
  | 0, _ => Nat.le_refl _
  | n + 1, hh => by
    have := lm_sum_le (n := n) fun f hf => hh f (by omega)
    have := hh n (by omega)
    unfold lm_sum; omega
theorem lm_sum_lt {h g : Nat → Nat} : ∀ {n : Nat}, (∀ f, f < n → h f ≤ g f) → (∃ f, f < n ∧ h f < g f) → lm_sum h n < lm_sum g n
  | 0, _, ⟨f, hf, _⟩ => by omega
  | n + 1, hh, ⟨f, hf, hl⟩ => by
    have h1 := hh n (by omega)
    have h2 := lm_sum_le (n := n) fun f hf => hh f (by omega)
    unfold lm_sum
    by_cases e : f = n
    · subst e; omega
    · have := lm_sum_lt (n := n) (fun f hf => hh f (by omega)) ⟨f, by omega, hl⟩
      omega
/-- sooner or later all at once changes nothing -/
theorem lm_J_ends (h : Nat → Nat) : ∀ (B k : Nat), lm_sum (lm_J K w n na c ne ad bar h k) n ≤ B → ∃ M, k ≤ M ∧ ∀ f, f < n → lm_J K w n na c ne ad bar h (M + 1) f = lm_J K w n na c ne ad bar h M f := by
  intro B
  induction B with
  | zero =>
    intro k hB
    by_cases q : ∃ f, f < n ∧ lm_J K w n na c ne ad bar h (k + 1) f < lm_J K w n na c ne ad bar h k f
    · have := lm_sum_lt (h := lm_J K w n na c ne ad bar h (k + 1)) (g := lm_J K w n na c ne ad bar h k) (fun f _ => lm_J_step h k f) q
      omega
    · refine ⟨k, Nat.le_refl _, fun f hf => ?_⟩
      have h1 := lm_J_step (K := K) (w := w) (n := n) (na := na) (c := c) (ne := ne) (ad := ad) (bar := bar) h k f
      by_cases z : lm_J K w n na c ne ad bar h (k + 1) f < lm_J K w n na c ne ad bar h k f
      · exact (q ⟨f, hf, z⟩).elim
      · omega
  | succ B ih =>
    intro k hB
    by_cases q : ∃ f, f < n ∧ lm_J K w n na c ne ad bar h (k + 1) f < lm_J K w n na c ne ad bar h k f
    · have := lm_sum_lt (h := lm_J K w n na c ne ad bar h (k + 1)) (g := lm_J K w n na c ne ad bar h k) (fun f _ => lm_J_step h k f) q
      obtain ⟨M, hM, hh⟩ := ih (k + 1) (by omega)
      exact ⟨M, by omega, hh⟩
    · refine ⟨k, Nat.le_refl _, fun f hf => ?_⟩
      have h1 := lm_J_step (K := K) (w := w) (n := n) (na := na) (c := c) (ne := ne) (ad := ad) (bar := bar) h k f
      by_cases z : lm_J K w n na c ne ad bar h (k + 1) f < lm_J K w n na c ne ad bar h k f
      · exact (q ⟨f, hf, z⟩).elim
      · omega
theorem lm_J_after {h : Nat → Nat} {M : Nat} (hM : ∀ f, f < n → lm_J K w n na c ne ad bar h (M + 1) f = lm_J K w n na c ne ad bar h M f) : ∀ j, M ≤ j → ∀ f, f < n → lm_J K w n na c ne ad bar h j f = lm_J K w n na c ne ad bar h M f
  | 0, hj, f, _ => by have : M = 0 := by omega
                      subst this; rfl
  | j + 1, hj, f, hf => by
    by_cases e : M = j + 1
    · subst e; rfl
    · have ih := lm_J_after hM j (by omega)
      have h1 : lm_J K w n na c ne ad bar h (j + 1) f = lm_J K w n na c ne ad bar h (M + 1) f :=
        Nat.le_antisymm (lm_jc_mono (fun g hg => Nat.le_of_eq (ih g hg)) hf na) (lm_jc_mono (fun g hg => Nat.le_of_eq (ih g hg).symm) hf na)
      rw [h1]; exact hM f hf
def lm_cnt (P : Nat → Bool) : Nat → Nat
  | 0 => 0
  | k + 1 => lm_cnt P k + (if P k = true then 1 else 0)
theorem lm_cnt_le (P : Nat → Bool) : ∀ n, lm_cnt P n ≤ n
  | 0 => Nat.le_refl _
  | n + 1 => by have := lm_cnt_le P n; unfold lm_cnt; split <;> omega
theorem lm_cnt_mono {P Q : Nat → Bool} : ∀ {n : Nat}, (∀ f, f < n → P f = true → Q f = true) → lm_cnt P n ≤ lm_cnt Q n
  | 0, _ => Nat.le_refl _
  | n + 1, hh => by
    have h1 := lm_cnt_mono (n := n) fun f hf => hh f (by omega)
    have h2 := hh n (by omega)
    unfold lm_cnt
    by_cases p : P n = true
    · rw [if_pos p, if_pos (h2 p)]; omega
    · rw [if_neg p]; split <;> omega
theorem lm_cnt_lt {P Q : Nat → Bool} : ∀ {n : Nat}, (∀ f, f < n → P f = true → Q f = true) → (∃ f, f < n ∧ P f = false ∧ Q f = true) → lm_cnt P n < lm_cnt Q n
  | 0, _, ⟨f, hf, _⟩ => by omega
  | n + 1, hh, ⟨f, hf, hp, hq⟩ => by
    have h1 := lm_cnt_mono (n := n) fun f hf => hh f (by omega)
    have h2 := hh n (by omega)
    unfold lm_cnt
    by_cases e : f = n
    · subst e
      rw [if_neg (by rw [hp]; decide), if_pos hq]; omega
    · have := lm_cnt_lt (n := n) (fun f hf => hh f (by omega)) ⟨f, by omega, hp, hq⟩
      by_cases p : P n = true
      · rw [if_pos p, if_pos (h2 p)]; omega
      · rw [if_neg p]; split <;> omega
theorem lm_cnt_0 {P : Nat → Bool} : ∀ {n : Nat}, lm_cnt P n = 0 → ∀ f, f < n → P f = false
  | 0, _, f, hf => by omega
  | n + 1, hz, f, hf => by
    unfold lm_cnt at hz
    by_cases p : P n = true
    · rw [if_pos p] at hz; omega
    · rw [if_neg p] at hz
      by_cases e : f = n
      · subst e; simpa using p
      · exact lm_cnt_0 (n := n) (by omega) f (by omega)
/-- where some fact isn't final, one more becomes so in the next round -/
theorem lm_J_one {h : Nat → Nat} {M k : Nat} (hK : ∀ f, f < n → h f ≤ K) (hM : ∀ f, f < n → lm_J K w n na c ne ad bar h (M + 1) f = lm_J K w n na c ne ad bar h M f) (q : ∃ f, f < n ∧ lm_J K w n na c ne ad bar h k f ≠ lm_J K w n na c ne ad bar h M f) :
    ∃ f, f < n ∧ lm_J K w n na c ne ad bar h k f ≠ lm_J K w n na c ne ad bar h M f ∧ lm_J K w n na c ne ad bar h (k + 1) f = lm_J K w n na c ne ad bar h M f := by
  have low : ∀ j f, f < n → lm_J K w n na c ne ad bar h M f ≤ lm_J K w n na c ne ad bar h j f := fun j f hf => by
    by_cases e : j ≤ M
    · exact lm_J_anti h f M e
    · exact Nat.le_of_eq (lm_J_after hM j (by omega) f hf).symm
  obtain ⟨f0, hf0, hq0⟩ := q
  obtain ⟨v, ⟨f1, hf1, hq1, hv1⟩, hvl⟩ := pk_least (fun v => ∃ f, f < n ∧ lm_J K w n na c ne ad bar h k f ≠ lm_J K w n na c ne ad bar h M f ∧ lm_J K w n na c ne ad bar h M f = v) ⟨_, f0, hf0, hq0, rfl⟩
  obtain ⟨j, ⟨f, hf, hq, hv, hj⟩, hjl⟩ := pk_least (fun j => ∃ f, f < n ∧ lm_J K w n na c ne ad bar h k f ≠ lm_J K w n na c ne ad bar h M f ∧ lm_J K w n na c ne ad bar h M f = v ∧ lm_J K w n na c ne ad bar h j f = v) ⟨M, f1, hf1, hq1, hv1, hv1⟩
  have hkj : k < j := by
    by_cases e : j ≤ k
    · exfalso
      have h1 := lm_J_anti (K := K) (w := w) (n := n) (na := na) (c := c) (ne := ne) (ad := ad) (bar := bar) h f k e
      have h2 := low k f hf
      omega
    · omega
  obtain ⟨i, rfl⟩ : ∃ i, j = i + 1 := ⟨j - 1, by omega⟩
  have hi : lm_J K w n na c ne ad bar h i f ≠ v := fun z => hjl i (by omega) ⟨f, hf, hq, hv, z⟩
  have hs := lm_jc_of (K := K) (w := w) (n := n) (c := c) (ne := ne) (ad := ad) (bar := bar) (lm_J K w n na c ne ad bar h i) f na
  have hj' : lm_jc K w n c ne ad bar (lm_J K w n na c ne ad bar h i) f na = v := hj
  rcases hs with hs | ⟨a, ha, hb, hfa, hs⟩
  · exact (hi (hs.symm.trans hj')).elim
  · refine ⟨f, hf, hq, ?_⟩
    have hfin : ∀ g, g < n → (ne a).testBit g = true → lm_J K w n na c ne ad bar h k g = lm_J K w n na c ne ad bar h M g := by
      intro g hg hgb
      by_cases z : lm_J K w n na c ne ad bar h k g = lm_J K w n na c ne ad bar h M g
      · exact z
      · exfalso
        have g0 : lm_J K w n na c ne ad bar h i g ≤ K := Nat.le_trans (lm_J_anti h (i := 0) g i (Nat.zero_le _)) (hK g hg)
        have g1 : lm_J K w n na c ne ad bar h i g ≤ lm_jn K w (lm_J K w n na c ne ad bar h i) (ne a) n := lm_jn_ge hg hgb g0
        have g2 := low i g hg
        have g3 : ¬ lm_J K w n na c ne ad bar h M g < v := fun y => hvl _ y ⟨g, hg, z, rfl⟩
        exact hjl i (by omega) ⟨g, hg, z, by omega, by omega⟩
    have e1 : lm_jn K w (lm_J K w n na c ne ad bar h k) (ne a) n = lm_jn K w (lm_J K w n na c ne ad bar h M) (ne a) n := lm_jn_congr hfin
    have e2 : lm_jn K w (lm_J K w n na c ne ad bar h M) (ne a) n ≤ lm_jn K w (lm_J K w n na c ne ad bar h i) (ne a) n := lm_jn_mono fun g hg _ => low i g hg
    have e3 : lm_J K w n na c ne ad bar h (k + 1) f ≤ c a + lm_jn K w (lm_J K w n na c ne ad bar h k) (ne a) n := lm_jc_hit _ hb hfa na ha
    have e4 := low (k + 1) f hf
    omega
/-- n rounds are enough -/
theorem lm_J_n {h : Nat → Nat} (hK : ∀ f, f < n → h f ≤ K) : lm_px K w n na c ne ad bar (lm_J K w n na c ne ad bar h n) := by
  obtain ⟨M, -, hM⟩ := lm_J_ends (K := K) (w := w) (n := n) (na := na) (c := c) (ne := ne) (ad := ad) (bar := bar) h (lm_sum h n) 0 (Nat.le_refl _)
  have low : ∀ j f, f < n → lm_J K w n na c ne ad bar h M f ≤ lm_J K w n na c ne ad bar h j f := fun j f hf => by
    by_cases e : j ≤ M
    · exact lm_J_anti h f M e
    · exact Nat.le_of_eq (lm_J_after hM j (by omega) f hf).symm
  have count : ∀ k, lm_cnt (fun f => decide (lm_J K w n na c ne ad bar h k f ≠ lm_J K w n na c ne ad bar h M f)) n ≤ n - k := by
    intro k
    induction k with
    | zero => exact lm_cnt_le _ _
    | succ k ih =>
      by_cases q : ∃ f, f < n ∧ lm_J K w n na c ne ad bar h k f ≠ lm_J K w n na c ne ad bar h M f
      · obtain ⟨f, hf, h1, h2⟩ := lm_J_one hK hM q
        have := lm_cnt_lt (P := fun f => decide (lm_J K w n na c ne ad bar h (k + 1) f ≠ lm_J K w n na c ne ad bar h M f)) (Q := fun f => decide (lm_J K w n na c ne ad bar h k f ≠ lm_J K w n na c ne ad bar h M f)) (n := n) (fun g hg hp => by
          have z : lm_J K w n na c ne ad bar h (k + 1) g ≠ lm_J K w n na c ne ad bar h M g := by simpa using hp
          have y1 := low (k + 1) g hg
          have y2 := lm_J_step (K := K) (w := w) (n := n) (na := na) (c := c) (ne := ne) (ad := ad) (bar := bar) h k g
          exact decide_eq_true (by omega)) ⟨f, hf, by simp [h2], by simp [h1]⟩
        omega
      · have z : lm_cnt (fun f => decide (lm_J K w n na c ne ad bar h (k + 1) f ≠ lm_J K w n na c ne ad bar h M f)) n ≤ lm_cnt (fun _ => false) n := lm_cnt_mono fun g hg hp => by
          have z : lm_J K w n na c ne ad bar h (k + 1) g ≠ lm_J K w n na c ne ad bar h M g := by simpa using hp
          have y0 : lm_J K w n na c ne ad bar h k g = lm_J K w n na c ne ad bar h M g := by
            by_cases y : lm_J K w n na c ne ad bar h k g = lm_J K w n na c ne ad bar h M g
            · exact y
            · exact (q ⟨g, hg, y⟩).elim
          have y1 := low (k + 1) g hg
          have y2 := lm_J_step (K := K) (w := w) (n := n) (na := na) (c := c) (ne := ne) (ad := ad) (bar := bar) h k g
          omega
        have z2 : ∀ n, lm_cnt (fun _ => false) n = 0 := fun n => by induction n with | zero => rfl | succ n ih => simp [lm_cnt, ih]
        rw [z2] at z
        omega
  have hz := lm_cnt_0 (Nat.le_zero.mp (by have := count n; rw [Nat.sub_self] at this; exact this))
  have heq : ∀ f, f < n → lm_J K w n na c ne ad bar h n f = lm_J K w n na c ne ad bar h M f := fun f hf => by
    have := hz f hf
    simpa using this
  intro a f ha hb hf hq
  have h1 := lm_J_px hM a f ha hb hf hq
  rw [heq f hf, lm_jn_congr (fun g hg _ => heq g hg)]
  exact h1
/-- n rounds in turn: a solution, and the greatest below the start -/
theorem lm_it_n {h : Nat → Nat} (hK : ∀ f, f < n → h f ≤ K) : lm_px K w n na c ne ad bar (lm_it K w n na c ne ad bar h n) := by
  have hp := lm_J_n (K := K) (w := w) (na := na) (c := c) (ne := ne) (ad := ad) (bar := bar) hK
  have heq : ∀ f, f < n → lm_it K w n na c ne ad bar h n f = lm_J K w n na c ne ad bar h n f := fun f hf =>
    Nat.le_antisymm (lm_it_J h n f hf) (lm_it_px hp (fun g hg => lm_J_anti h (i := 0) g n (Nat.zero_le _)) n f hf)
  intro a f ha hb hf hq
  have h1 := hp a f ha hb hf hq
  rw [heq f hf, lm_jn_congr (fun g hg _ => heq g hg)]
  exact h1
/-- what is at a solution is left as it is by every further round -/
theorem lm_it_stay {h : Nat → Nat} {k : Nat} (hp : lm_px K w n na c ne ad bar (lm_it K w n na c ne ad bar h k)) : ∀ j f, f < n → lm_it K w n na c ne ad bar h (k + j) f = lm_it K w n na c ne ad bar h k f
  | 0, _, _ => rfl
  | j + 1, f, hf => by
    have ih := lm_it_stay hp j
    refine Nat.le_antisymm (Nat.le_trans (lm_rd_le _ _ _) (Nat.le_of_eq (ih f hf))) ?_
    exact lm_rd_px hp (fun g hg => Nat.le_of_eq (ih g hg).symm) na (Nat.le_refl _) f hf
end LM
