/-! The search by rising cost, as numbers alone. -/
def se_inv (N na : Nat) (can : Nat → Nat → Bool) (af : Nat → Nat → Nat) (co : Nat → Nat) (s0 now n : Nat) (o d : Nat → Nat) : Prop :=
  0 < n ∧ o 0 = s0 ∧ d 0 = 0 ∧ (∀ i, i < n → o i < N) ∧ (∀ i j, i < n → j < n → o i = o j → i = j) ∧ (∀ i j, i ≤ j → j < n → d i ≤ d j) ∧ (∀ i, i < n → gw_R na can af co s0 (o i) (d i)) ∧ (∀ i, i < n → d i ≤ now) ∧ (∀ i, i + 1 < n → d (i + 1) ≤ d i + 9)
/-- what costs less than x is gone over -/
def se_done (na : Nat) (can : Nat → Nat → Bool) (af : Nat → Nat → Nat) (co : Nat → Nat) (n : Nat) (o d : Nat → Nat) (x : Nat) : Prop := ∀ i a, i < n → a < na → can a (o i) = true → d i + co a < x → ∃ j, j < n ∧ o j = af a (o i) ∧ d j ≤ d i + co a
section SE
variable {N na : Nat} {can : Nat → Nat → Bool} {af : Nat → Nat → Nat} {co : Nat → Nat} {s0 now n : Nat} {o d : Nat → Nat}
theorem se_start (hs : s0 < N) : se_inv N na can af co s0 0 1 (fun _ => s0) (fun _ => 0) :=
  ⟨by omega, rfl, rfl, fun _ _ => hs, fun i j hi hj _ => by omega, fun _ _ _ _ => Nat.le_refl _, fun _ _ => gw_R_0 _, fun _ _ => Nat.le_refl _, fun i hi => by omega⟩
theorem se_next (h : se_inv N na can af co s0 now n o d) : se_inv N na can af co s0 (now + 1) n o d := by
  obtain ⟨h1, h2, h3, h4, h5, h6, h7, h8, h9⟩ := h
  exact ⟨h1, h2, h3, h4, h5, h6, h7, fun i hi => Nat.le_succ_of_le (h8 i hi), h9⟩
theorem se_push {i a : Nat} (h : se_inv N na can af co s0 now n o d) (hi : i < n) (ha : a < na) (hc : can a (o i) = true) (hd : d i + co a = now) (h9 : co a ≤ 9) (hN : af a (o i) < N) (hnew : ∀ j, j < n → o j ≠ af a (o i)) :
    se_inv N na can af co s0 now (n + 1) (va_up o n (af a (o i))) (va_up d n now) := by
  obtain ⟨g1, g2, g3, g4, g5, g6, g7, g8, g9⟩ := h
  have eo : ∀ j, j < n → va_up o n (af a (o i)) j = o j := fun j hj => va_up_ne _ _ (by omega)
  have ed : ∀ j, j < n → va_up d n now j = d j := fun j hj => va_up_ne _ _ (by omega)
  have eon : va_up o n (af a (o i)) n = af a (o i) := va_up_self _ _ _
  have edn : va_up d n now n = now := va_up_self _ _ _
  refine ⟨by omega, by rw [eo 0 g1]; exact g2, by rw [ed 0 g1]; exact g3, fun j hj => ?_, fun j k hj hk e => ?_, fun j k hjk hk => ?_, fun j hj => ?_, fun j hj => ?_, fun j hj => ?_⟩
  · by_cases e : j = n
    · subst e; rw [eon]; exact hN
    · rw [eo j (by omega)]; exact g4 j (by omega)
  · by_cases ej : j = n
    · by_cases ek : k = n
      · omega
      · subst ej
        rw [eon, eo k (by omega)] at e
        exact (hnew k (by omega) e.symm).elim
    · by_cases ek : k = n
      · subst ek
        rw [eon, eo j (by omega)] at e
        exact (hnew j (by omega) e).elim
      · rw [eo j (by omega), eo k (by omega)] at e
        exact g5 j k (by omega) (by omega) e
  · by_cases ek : k = n
    · subst ek
      rw [edn]
      by_cases ej : j = k
      · subst ej; rw [edn]; exact Nat.le_refl _
      · rw [ed j (by omega)]; exact g8 j (by omega)
    · rw [ed j (by omega), ed k (by omega)]; exact g6 j k hjk (by omega)
  · by_cases e : j = n
    · subst e
      rw [eon, edn, ← hd]
      exact gw_R_r ha hc (g7 i hi)
    · rw [eo j (by omega), ed j (by omega)]; exact g7 j (by omega)
  · by_cases e : j = n
    · subst e; rw [edn]; exact Nat.le_refl _
    · rw [ed j (by omega)]; exact g8 j (by omega)
  · by_cases e : j + 1 = n
    · rw [e, edn, ed j (by omega)]
      have := g6 i j (by omega) (by omega)
      omega
    · rw [ed (j + 1) (by omega), ed j (by omega)]; exact g9 j (by omega)
theorem se_done_push {t x : Nat} (h : se_done na can af co n o d x) (hco : ∀ a, a < na → 1 ≤ co a) (hx : x ≤ now + 1) : se_done na can af co (n + 1) (va_up o n t) (va_up d n now) x := by
  intro i a hi ha hc hd
  by_cases e : i = n
  · subst e
    rw [va_up_self] at hd
    have := hco a ha
    omega
  · rw [va_up_ne _ _ e] at hc hd
    rw [va_up_ne _ _ e, va_up_ne _ _ e]
    obtain ⟨j, hj, he, hd2⟩ := h i a (by omega) ha hc hd
    exact ⟨j, by omega, by rw [va_up_ne _ _ (by omega)]; exact he, by rw [va_up_ne _ _ (by omega)]; exact hd2⟩
theorem se_gap (h : se_inv N na can af co s0 now n o d) : ∀ i, i < n → d i ≤ 9 * i
  | 0, _ => by rw [h.2.2.1]; exact Nat.zero_le _
  | i + 1, hi => by
    have h1 := se_gap h i (by omega)
    have h2 := h.2.2.2.2.2.2.2.2 i hi
    omega
theorem se_end {x : Nat} (h : se_inv 1024 na can af co s0 now n o d) (hN : ∀ s a, s < 1024 → a < na → can a s = true → af a s < 1024) (hco : ∀ a, a < na → co a ≤ 9) (hdone : se_done na can af co n o d x) (hx : d (n - 1) + 9 < x ∨ x = 9208) : gw_ok 1024 na can af co s0 n o d := by
  have gap := se_gap h
  obtain ⟨g1, g2, g3, g4, g5, g6, g7, g8, g9⟩ := h
  refine ⟨g1, g2, g3, g4, g5, g6, g7, fun i a hi ha hc => ?_⟩
  by_cases q : d i + co a < x
  · exact hdone i a hi ha hc q
  · have h1 := hco a ha
    rcases hx with hx | rfl
    · have := g6 i (n - 1) (by omega) (by omega)
      omega
    · have h2 := gap i hi
      have h3 : n ≤ 1024 := gw_pigeon 1024 g4 g5
      have h4 : n = 1024 := by omega
      subst h4
      obtain ⟨j, hj, he⟩ := gw_full g4 g5 (hN (o i) a (g4 i hi) ha hc)
      have h5 := gap j hj
      exact ⟨j, hj, he, by omega⟩
end SE
