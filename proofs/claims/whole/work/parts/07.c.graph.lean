/-! Ways over states, as numbers alone. can a s, af a s: an action's test and outcome; co a: its cost; na actions; states below N. -/
def gw_P (na : Nat) (can : Nat → Nat → Bool) (af : Nat → Nat → Nat) (co : Nat → Nat) : Nat → Nat → Nat → Nat → Prop
  | 0, s, t, c => s = t ∧ c = 0
  | k + 1, s, t, c => ∃ a c', a < na ∧ can a s = true ∧ gw_P na can af co k (af a s) t c' ∧ c = co a + c'
def gw_R (na : Nat) (can : Nat → Nat → Bool) (af : Nat → Nat → Nat) (co : Nat → Nat) (s t c : Nat) : Prop := ∃ k, gw_P na can af co k s t c
/-- order o and costs d of the n states that come from s0 -/
def gw_ok (N na : Nat) (can : Nat → Nat → Bool) (af : Nat → Nat → Nat) (co : Nat → Nat) (s0 n : Nat) (o d : Nat → Nat) : Prop :=
  0 < n ∧ o 0 = s0 ∧ d 0 = 0 ∧ (∀ i, i < n → o i < N) ∧ (∀ i j, i < n → j < n → o i = o j → i = j) ∧ (∀ i j, i ≤ j → j < n → d i ≤ d j) ∧ (∀ i, i < n → gw_R na can af co s0 (o i) (d i)) ∧
    (∀ i a, i < n → a < na → can a (o i) = true → ∃ j, j < n ∧ o j = af a (o i) ∧ d j ≤ d i + co a)
section GR
variable {N na : Nat} {can : Nat → Nat → Bool} {af : Nat → Nat → Nat} {co : Nat → Nat}
theorem gw_R_0 (s : Nat) : gw_R na can af co s s 0 := ⟨0, rfl, rfl⟩
theorem gw_R_l {s t c a : Nat} (ha : a < na) (hc : can a s = true) (h : gw_R na can af co (af a s) t c) : gw_R na can af co s t (co a + c) := by
  obtain ⟨k, h⟩ := h
  exact ⟨k + 1, a, c, ha, hc, h, rfl⟩
theorem gw_P_r {a : Nat} (ha : a < na) : ∀ {k s t c : Nat}, can a t = true → gw_P na can af co k s t c → gw_P na can af co (k + 1) s (af a t) (c + co a)
  | 0, s, t, c, hc, h => by
    obtain ⟨rfl, rfl⟩ := h
    exact ⟨a, 0, ha, hc, ⟨rfl, rfl⟩, by omega⟩
  | k + 1, s, t, c, hc, h => by
    obtain ⟨b, c', hb, hcb, h1, rfl⟩ := h
    exact ⟨b, c' + co a, hb, hcb, gw_P_r ha hc h1, by omega⟩
theorem gw_R_r {s t c a : Nat} (ha : a < na) (hc : can a t = true) (h : gw_R na can af co s t c) : gw_R na can af co s (af a t) (c + co a) := by
  obtain ⟨k, h⟩ := h
  exact ⟨k + 1, gw_P_r ha hc h⟩
theorem gw_R_trans {s t u c d : Nat} (h : gw_R na can af co s t c) (g : gw_R na can af co t u d) : gw_R na can af co s u (c + d) := by
  obtain ⟨k, h⟩ := h
  induction k generalizing s c with
  | zero => obtain ⟨rfl, rfl⟩ := h; rw [Nat.zero_add]; exact g
  | succ k ih =>
    obtain ⟨a, c', ha, hc, h1, rfl⟩ := h
    have := gw_R_l ha hc (ih h1)
    rw [Nat.add_assoc]; exact this
/-- whatever comes from s0 stands in the order, and at no greater cost -/
theorem gw_ok_all {s0 n : Nat} {o d : Nat → Nat} (h : gw_ok N na can af co s0 n o d) : ∀ {k i t c : Nat}, i < n → gw_P na can af co k (o i) t c → ∃ j, j < n ∧ o j = t ∧ d j ≤ d i + c
  | 0, i, t, c, hi, hp => by
    obtain ⟨rfl, rfl⟩ := hp
    exact ⟨i, hi, rfl, by omega⟩
  | k + 1, i, t, c, hi, hp => by
    obtain ⟨a, c', ha, hc, hp, rfl⟩ := hp
    obtain ⟨j, hj, he, hd⟩ := h.2.2.2.2.2.2.2 i a hi ha hc
    rw [← he] at hp
    obtain ⟨j', hj', he', hd'⟩ := gw_ok_all h hj hp
    exact ⟨j', hj', he', by omega⟩
theorem gw_ok_reach {s0 n t c : Nat} {o d : Nat → Nat} (h : gw_ok N na can af co s0 n o d) (hr : gw_R na can af co s0 t c) : ∃ j, j < n ∧ o j = t ∧ d j ≤ c := by
  obtain ⟨k, hp⟩ := hr
  have h0 := h.1
  rw [← h.2.1] at hp
  obtain ⟨j, h1, h2, h3⟩ := gw_ok_all h h0 hp
  rw [h.2.2.1] at h3
  exact ⟨j, h1, h2, by omega⟩
/-- the cost in the order is the least -/
theorem gw_ok_least {s0 n i c : Nat} {o d : Nat → Nat} (h : gw_ok N na can af co s0 n o d) (hi : i < n) (hr : gw_R na can af co s0 (o i) c) : d i ≤ c := by
  obtain ⟨j, h1, h2, h3⟩ := gw_ok_reach h hr
  rw [h.2.2.2.2.1 i j hi h1 h2.symm]
  exact h3
/-- different numbers below N: no more than N of them -/
theorem gw_pigeon : ∀ (N : Nat) {n : Nat} {o : Nat → Nat}, (∀ i, i < n → o i < N) → (∀ i j, i < n → j < n → o i = o j → i = j) → n ≤ N
  | 0, n, o, h1, _ => by
    by_cases e : n = 0
    · omega
    · have := h1 0 (by omega); omega
  | N + 1, n, o, h1, h2 => by
    by_cases q : ∃ k, k < n ∧ o k = N
    · obtain ⟨k, hk, hkN⟩ := q
      have := gw_pigeon N (n := n - 1) (o := fun i => if i = k then o (n - 1) else o i) (fun i hi => by
          show (if i = k then o (n - 1) else o i) < N
          split
          · next e =>
            have a1 := h1 (n - 1) (by omega)
            have a2 : o (n - 1) ≠ N := fun z => by
              have := h2 (n - 1) k (by omega) hk (z.trans hkN.symm)
              omega
            omega
          · next e =>
            have a1 := h1 i (by omega)
            have a2 : o i ≠ N := fun z => e (h2 i k (by omega) hk (z.trans hkN.symm))
            omega) (fun i j hi hj e => by
          have e : (if i = k then o (n - 1) else o i) = (if j = k then o (n - 1) else o j) := e
          by_cases ei : i = k
          · by_cases ej : j = k
            · omega
            · rw [if_pos ei, if_neg ej] at e
              have := h2 (n - 1) j (by omega) (by omega) e
              omega
          · by_cases ej : j = k
            · rw [if_neg ei, if_pos ej] at e
              have := h2 i (n - 1) (by omega) (by omega) e
              omega
            · rw [if_neg ei, if_neg ej] at e
              exact h2 i j (by omega) (by omega) e)
      omega
    · have := gw_pigeon N (n := n) (o := o) (fun i hi => by
        have a1 := h1 i hi
        have a2 : o i ≠ N := fun z => q ⟨i, hi, z⟩
        omega) h2
      omega
/-- as many different numbers below N as there are: each of them -/
theorem gw_full {N : Nat} {o : Nat → Nat} (h1 : ∀ i, i < N → o i < N) (h2 : ∀ i j, i < N → j < N → o i = o j → i = j) {t : Nat} (ht : t < N) : ∃ i, i < N ∧ o i = t := by
  by_cases q : ∃ i, i < N ∧ o i = t
  · exact q
  · exfalso
    have := gw_pigeon N (n := N + 1) (o := fun i => if i = N then t else o i) (fun i hi => by
      show (if i = N then t else o i) < N
      split
      · exact ht
      · exact h1 i (by omega)) (fun i j hi hj e => by
      have e : (if i = N then t else o i) = (if j = N then t else o j) := e
      by_cases ei : i = N
      · by_cases ej : j = N
        · omega
        · rw [if_pos ei, if_neg ej] at e
          exact (q ⟨j, by omega, e.symm⟩).elim
      · by_cases ej : j = N
        · rw [if_neg ei, if_pos ej] at e
          exact (q ⟨i, by omega, e⟩).elim
        · rw [if_neg ei, if_neg ej] at e
          exact h2 i j (by omega) (by omega) e)
    omega
/-- how many numbers below N stand in the order -/
theorem gw_count : ∀ (N : Nat) {n : Nat} {o : Nat → Nat}, (∀ i, i < n → o i < N) → (∀ i j, i < n → j < n → o i = o j → i = j) → ∀ {P : Nat → Bool}, (∀ s, s < N → (P s = true ↔ ∃ i, i < n ∧ o i = s)) → lm_cnt P N = n
  | 0, n, o, h1, _, P, _ => by
    by_cases e : n = 0
    · subst e; rfl
    · have := h1 0 (by omega); omega
  | N + 1, n, o, h1, h2, P, hP => by
    unfold lm_cnt
    by_cases q : ∃ k, k < n ∧ o k = N
    · obtain ⟨k, hk, hkN⟩ := q
      rw [if_pos ((hP N (by omega)).mpr ⟨k, hk, hkN⟩)]
      have hne : ∀ i, i < n → i ≠ k → o i ≠ N := fun i hi e z => e (h2 i k hi hk (z.trans hkN.symm))
      have := gw_count N (n := n - 1) (o := fun i => if i = k then o (n - 1) else o i) (fun i hi => by
          show (if i = k then o (n - 1) else o i) < N
          split
          · next e =>
            have a1 := h1 (n - 1) (by omega)
            have a2 := hne (n - 1) (by omega) (by omega)
            omega
          · next e =>
            have a1 := h1 i (by omega)
            have a2 := hne i (by omega) e
            omega) (fun i j hi hj e => by
          have e : (if i = k then o (n - 1) else o i) = (if j = k then o (n - 1) else o j) := e
          by_cases ei : i = k
          · by_cases ej : j = k
            · omega
            · rw [if_pos ei, if_neg ej] at e
              have := h2 (n - 1) j (by omega) (by omega) e
              omega
          · by_cases ej : j = k
            · rw [if_neg ei, if_pos ej] at e
              have := h2 i (n - 1) (by omega) (by omega) e
              omega
            · rw [if_neg ei, if_neg ej] at e
              exact h2 i j (by omega) (by omega) e) (P := P) (fun s hs => by
          rw [hP s (by omega)]
          constructor
          · rintro ⟨i, hi, hs2⟩
            have hik : i ≠ k := fun z => by rw [z, hkN] at hs2; omega
            by_cases z : i = n - 1
            · exact ⟨k, by omega, by simp [← z, hs2]⟩
            · exact ⟨i, by omega, by simp [hik, hs2]⟩
          · rintro ⟨i, hi, hs2⟩
            by_cases z : i = k
            · exact ⟨n - 1, by omega, by simpa [z] using hs2⟩
            · exact ⟨i, by omega, by simpa [z] using hs2⟩)
      omega
    · have hPN : P N = false := by
        cases hp : P N with
        | false => rfl
        | true => exact (q ((hP N (by omega)).mp hp)).elim
      rw [if_neg (by rw [hPN]; decide)]
      have := gw_count N (n := n) (o := o) (fun i hi => by
        have a1 := h1 i hi
        have a2 : o i ≠ N := fun z => q ⟨i, hi, z⟩
        omega) h2 (P := P) (fun s hs => hP s (by omega))
      omega
end GR
