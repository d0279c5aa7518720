/-! The cheapest way to a met state: what is dear (the reference's numbers), and the way on (the class's). -/
def gw_dear (N na : Nat) (can : Nat → Nat → Bool) (af : Nat → Nat → Nat) (co : Nat → Nat) (met : Nat → Bool) (E : Nat) (dear : Nat → Nat) : Prop :=
  (∀ s, s < N → dear s ≤ E) ∧ (∀ s, s < N → dear s < E → ∃ t, met t = true ∧ gw_R na can af co s t (dear s)) ∧ (∀ s, s < N → met s = true → dear s = 0) ∧
    (∀ s a, s < N → a < na → can a s = true → dear s ≤ co a + dear (af a s))
/-- the first of the numbers below n with P, or n -/
def gw_find (P : Nat → Bool) : Nat → Nat
  | 0 => 0
  | n + 1 => if gw_find P n < n then gw_find P n else if P n = true then n else n + 1
theorem gw_find_le (P : Nat → Bool) : ∀ n, gw_find P n ≤ n
  | 0 => Nat.le_refl _
  | n + 1 => by
    have := gw_find_le P n
    unfold gw_find
    split
    · omega
    · split <;> omega
theorem gw_find_spec (P : Nat → Bool) : ∀ n, (∀ i, i < gw_find P n → P i = false) ∧ (gw_find P n < n → P (gw_find P n) = true)
  | 0 => ⟨fun i h => by simp [gw_find] at h, fun h => by simp [gw_find] at h⟩
  | n + 1 => by
    obtain ⟨h1, h2⟩ := gw_find_spec P n
    have h3 := gw_find_le P n
    unfold gw_find
    by_cases q : gw_find P n < n
    · rw [if_pos q]
      exact ⟨h1, fun _ => h2 q⟩
    · have e : gw_find P n = n := by omega
      rw [if_neg q]
      rw [e] at h1
      by_cases p : P n = true
      · rw [if_pos p]
        exact ⟨h1, fun _ => p⟩
      · rw [if_neg p]
        refine ⟨fun i hi => ?_, fun h => by omega⟩
        by_cases z : i = n
        · subst z; simpa using p
        · exact h1 i (by omega)
theorem gw_find_eq {P : Nat → Bool} {n a : Nat} (ha : a < n) (hp : P a = true) (hl : ∀ b, b < a → P b = false) : gw_find P n = a := by
  obtain ⟨h1, h2⟩ := gw_find_spec P n
  by_cases q : gw_find P n < a
  · have h3 := hl _ q
    have h4 := h2 (by omega)
    rw [h3] at h4; cases h4
  · by_cases z : a < gw_find P n
    · have := h1 a z
      rw [this] at hp; cases hp
    · omega
section GP
variable {N na : Nat} {can : Nat → Nat → Bool} {af : Nat → Nat → Nat} {co : Nat → Nat} {met : Nat → Bool} {E : Nat} {dear : Nat → Nat}
theorem gw_dear_le (hN : ∀ s a, s < N → a < na → can a s = true → af a s < N) (h : gw_dear N na can af co met E dear) {t : Nat} (ht : met t = true) : ∀ {k s c : Nat}, s < N → gw_P na can af co k s t c → dear s ≤ c
  | 0, s, c, hs, hp => by
    obtain ⟨rfl, rfl⟩ := hp
    rw [h.2.2.1 s hs ht]; exact Nat.le_refl _
  | k + 1, s, c, hs, hp => by
    obtain ⟨a, c', ha, hc, hp, rfl⟩ := hp
    have h1 := gw_dear_le hN h ht (hN s a hs ha hc) hp
    have h2 := h.2.2.2 s a hs ha hc
    omega
/-- the least cost to a met state, off the order and off the reference's numbers -/
theorem gw_least {s0 n i0 : Nat} {o d : Nat → Nat} (hN : ∀ s a, s < N → a < na → can a s = true → af a s < N) (hs0 : s0 < N) (ho : gw_ok N na can af co s0 n o d) (h : gw_dear N na can af co met E dear)
    (hi : i0 < n) (hm : met (o i0) = true) (hl : ∀ i, i < i0 → met (o i) = false) (hE : d i0 < E) : dear s0 = d i0 := by
  obtain ⟨k, hp⟩ := ho.2.2.2.2.2.2.1 i0 hi
  have h1 : dear s0 ≤ d i0 := gw_dear_le hN h hm hs0 hp
  obtain ⟨t, ht, hr⟩ := h.2.1 s0 hs0 (by omega)
  obtain ⟨j, hj, he, hd⟩ := gw_ok_reach ho hr
  have h2 : ¬ j < i0 := fun z => by
    have := hl j z
    rw [he, ht] at this; cases this
  have h3 := ho.2.2.2.2.2.1 i0 j (by omega) hj
  omega
theorem gw_none {s0 n : Nat} {o d : Nat → Nat} (hs0 : s0 < N) (ho : gw_ok N na can af co s0 n o d) (h : gw_dear N na can af co met E dear) (hl : ∀ i, i < n → met (o i) = false) : dear s0 = E := by
  by_cases q : dear s0 < E
  · obtain ⟨t, ht, hr⟩ := h.2.1 s0 hs0 q
    obtain ⟨j, hj, he, hd⟩ := gw_ok_reach ho hr
    have := hl j hj
    rw [he, ht] at this; cases this
  · have := h.1 s0 hs0
    omega
/-- the action goes on from the i-th state of the order: to a state that has a way on, at just its cost -/
def gw_on1 (n : Nat) (can : Nat → Nat → Bool) (af : Nat → Nat → Nat) (co : Nat → Nat) (o d : Nat → Nat) (on : Nat → Int) (i a : Nat) : Prop := can a (o i) = true ∧ ∃ j, j < n ∧ o j = af a (o i) ∧ d j = d i + co a ∧ on (o j) ≠ -1
/-- the ways on, from the i0-th cost: -2 at an end, the least action, or -1 -/
def gw_on (n na : Nat) (can : Nat → Nat → Bool) (af : Nat → Nat → Nat) (co : Nat → Nat) (met : Nat → Bool) (least : Nat) (o d : Nat → Nat) (on : Nat → Int) : Prop :=
  ∀ i, i < n → ((d i = least ∧ met (o i) = true) ∧ on (o i) = -2) ∨ (¬ (d i = least ∧ met (o i) = true) ∧ ((∃ a, a < na ∧ gw_on1 n can af co o d on i a ∧ (∀ b, b < a → ¬ gw_on1 n can af co o d on i b) ∧ on (o i) = (a : Int)) ∨ ((∀ a, a < na → ¬ gw_on1 n can af co o d on i a) ∧ on (o i) = -1)))
theorem gw_on_good {s0 n least : Nat} {o d : Nat → Nat} {on : Nat → Int} (hco : ∀ a, a < na → 1 ≤ co a) (hN : ∀ s a, s < N → a < na → can a s = true → af a s < N) (ho : gw_ok N na can af co s0 n o d) (h : gw_dear N na can af co met E dear)
    (hmin : ∀ t c, met t = true → gw_R na can af co s0 t c → least ≤ c) (hE : least < E) (hon : gw_on n na can af co met least o d on) :
    ∀ m i, n - i ≤ m → i < n → (on (o i) ≠ -1 ↔ (dear (o i) < E ∧ d i + dear (o i) = least)) := by
  intro m
  induction m with
  | zero => intro i h1 h2; omega
  | succ m ih =>
    intro i hm hi
    have hoN := ho.2.2.2.1
    have hmono := ho.2.2.2.2.2.1
    have low : ∀ j, j < n → dear (o j) < E → least ≤ d j + dear (o j) := fun j hj hd => by
      obtain ⟨t, ht, hr⟩ := h.2.1 (o j) (hoN j hj) hd
      exact hmin t _ ht (gw_R_trans (ho.2.2.2.2.2.2.1 j hj) hr)
    have later : ∀ j, j < n → d i < d j → n - j ≤ m := fun j hj hd => by
      by_cases z : j ≤ i
      · have := hmono j i z hi; omega
      · omega
    constructor
    · intro hne
      rcases hon i hi with ⟨⟨h1, h2⟩, h3⟩ | ⟨hend, ⟨a, ha, ⟨hc, j, hj, he, hd, hj1⟩, -, h3⟩ | ⟨-, h3⟩⟩
      · have h4 := h.2.2.1 (o i) (hoN i hi) h2
        rw [h4]; omega
      · have h5 := hco a ha
        obtain ⟨h6, h7⟩ := (ih j (later j hj (by omega)) hj).mp hj1
        have h8 := h.2.2.2 (o i) a (hoN i hi) ha hc
        rw [← he] at h8
        have h9 : dear (o i) < E := by omega
        have h10 := low i hi h9
        exact ⟨h9, by omega⟩
      · exact (hne h3).elim
    · rintro ⟨h1, h2⟩ hneg
      rcases hon i hi with ⟨-, h3⟩ | ⟨hend, ⟨a, ha, -, -, h3⟩ | ⟨hnone, -⟩⟩
      · rw [h3] at hneg; cases hneg
      · rw [h3] at hneg; omega
      · obtain ⟨t, ht, k, hp⟩ := h.2.1 (o i) (hoN i hi) h1
        cases k with
        | zero =>
          obtain ⟨e1, e2⟩ := hp
          exact hend ⟨by omega, by rw [e1]; exact ht⟩
        | succ k =>
          obtain ⟨a, c', ha, hc, hp, e1⟩ := hp
          have h5 := hco a ha
          have h6 := gw_dear_le hN h ht (hN _ a (hoN i hi) ha hc) hp
          have h7 := h.2.2.2 (o i) a (hoN i hi) ha hc
          obtain ⟨j, hj, he, hd⟩ := ho.2.2.2.2.2.2.2 i a hi ha hc
          have h8 : dear (o j) = c' := by rw [he]; omega
          have h9 := low j hj (by omega)
          have h10 : d j = d i + co a := by omega
          have h11 := (ih j (later j hj (by omega)) hj).mpr ⟨by omega, by omega⟩
          exact hnone a ha ⟨hc, j, hj, he, h10, h11⟩
/-- on a state of a best way the class's next action is the reference's -/
theorem gw_on_best {s0 n least i : Nat} {o d : Nat → Nat} {on : Nat → Int} (hco : ∀ a, a < na → 1 ≤ co a) (hN : ∀ s a, s < N → a < na → can a s = true → af a s < N) (ho : gw_ok N na can af co s0 n o d) (h : gw_dear N na can af co met E dear)
    (hmin : ∀ t c, met t = true → gw_R na can af co s0 t c → least ≤ c) (hE : least < E) (hon : gw_on n na can af co met least o d on) (hi : i < n) (hg : dear (o i) < E ∧ d i + dear (o i) = least) :
    (dear (o i) = 0 ∧ on (o i) = -2) ∨ (0 < dear (o i) ∧ ∃ a j, a < na ∧ gw_find (fun b => can b (o i) && decide (co b + dear (af b (o i)) = dear (o i))) na = a ∧ on (o i) = (a : Int) ∧ can a (o i) = true ∧ j < n ∧ o j = af a (o i) ∧ co a + dear (o j) = dear (o i) ∧ d j = d i + co a ∧ dear (o j) < E ∧ d j + dear (o j) = least) := by
  have good := gw_on_good hco hN ho h hmin hE hon n
  have hoN := ho.2.2.2.1
  have low : ∀ j, j < n → dear (o j) < E → least ≤ d j + dear (o j) := fun j hj hd => by
    obtain ⟨t, ht, hr⟩ := h.2.1 (o j) (hoN j hj) hd
    exact hmin t _ ht (gw_R_trans (ho.2.2.2.2.2.2.1 j hj) hr)
  have hne := (good i (by omega) hi).mpr hg
  have eqv : ∀ b, b < na → (gw_on1 n can af co o d on i b ↔ (can b (o i) && decide (co b + dear (af b (o i)) = dear (o i))) = true) := by
    intro b hb
    simp only [Bool.and_eq_true, decide_eq_true_eq]
    constructor
    · rintro ⟨hc, j, hj, he, hd, hj1⟩
      obtain ⟨h6, h7⟩ := (good j (by omega) hj).mp hj1
      rw [he] at h6 h7
      exact ⟨hc, by omega⟩
    · rintro ⟨hc, he⟩
      obtain ⟨j, hj, he2, hd⟩ := ho.2.2.2.2.2.2.2 i b hi hb hc
      have h9 := low j hj (by rw [he2]; omega)
      rw [he2] at h9
      have h10 : d j = d i + co b := by omega
      exact ⟨hc, j, hj, he2, h10, (good j (by omega) hj).mpr (by rw [he2]; exact ⟨by omega, by omega⟩)⟩
  rcases hon i hi with ⟨⟨h1, h2⟩, h3⟩ | ⟨hend, ⟨a, ha, h1, h2, h3⟩ | ⟨-, h3⟩⟩
  · exact Or.inl ⟨h.2.2.1 (o i) (hoN i hi) h2, h3⟩
  · have hq := (eqv a ha).mp h1
    have hfind : gw_find (fun b => can b (o i) && decide (co b + dear (af b (o i)) = dear (o i))) na = a := gw_find_eq ha hq (fun b hb => by
      cases hz : (can b (o i) && decide (co b + dear (af b (o i)) = dear (o i))) with
      | false => rfl
      | true => exact (h2 b hb ((eqv b (by omega)).mpr hz)).elim)
    obtain ⟨hc, j, hj, he, hd, hj1⟩ := h1
    obtain ⟨h6, h7⟩ := (good j (by omega) hj).mp hj1
    have h5 := hco a ha
    have h8 : co a + dear (o j) = dear (o i) := by omega
    exact Or.inr ⟨by omega, a, j, ha, hfind, h3, hc, hj, he, h8, hd, h6, h7⟩
  · exact (hne h3).elim
end GP
