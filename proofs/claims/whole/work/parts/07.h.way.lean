/-! The best way itself: the least action that goes on, state by state. -/
def pl_nx (na : Nat) (can : Nat → Nat → Bool) (af : Nat → Nat → Nat) (co dear : Nat → Nat) (s : Nat) : Nat := gw_find (fun b => can b s && decide (co b + dear (af b s) = dear s)) na
def pl_s (na : Nat) (can : Nat → Nat → Bool) (af : Nat → Nat → Nat) (co dear : Nat → Nat) (s0 : Nat) : Nat → Nat
  | 0 => s0
  | k + 1 => af (pl_nx na can af co dear (pl_s na can af co dear s0 k)) (pl_s na can af co dear s0 k)
section PL
variable {N na : Nat} {can : Nat → Nat → Bool} {af : Nat → Nat → Nat} {co : Nat → Nat} {met : Nat → Bool} {E : Nat} {dear : Nat → Nat}
theorem pl_walk {s0 n least : Nat} {o d : Nat → Nat} {on : Nat → Int} (hco : ∀ a, a < na → 1 ≤ co a) (hN : ∀ s a, s < N → a < na → can a s = true → af a s < N) (ho : gw_ok N na can af co s0 n o d) (h : gw_dear N na can af co met E dear)
    (hmin : ∀ t c, met t = true → gw_R na can af co s0 t c → least ≤ c) (hE : least < E) (hon : gw_on n na can af co met least o d on) (hd0 : dear s0 = least) :
    ∀ k, (∀ j, j < k → 0 < dear (pl_s na can af co dear s0 j)) → ∃ i, i < n ∧ o i = pl_s na can af co dear s0 k ∧ dear (pl_s na can af co dear s0 k) < E ∧ d i + dear (pl_s na can af co dear s0 k) = least ∧
      ((dear (pl_s na can af co dear s0 k) = 0 ∧ on (pl_s na can af co dear s0 k) = -2) ∨ (0 < dear (pl_s na can af co dear s0 k) ∧ pl_nx na can af co dear (pl_s na can af co dear s0 k) < na ∧ on (pl_s na can af co dear s0 k) = (pl_nx na can af co dear (pl_s na can af co dear s0 k) : Int) ∧ can (pl_nx na can af co dear (pl_s na can af co dear s0 k)) (pl_s na can af co dear s0 k) = true ∧ dear (pl_s na can af co dear s0 (k + 1)) < dear (pl_s na can af co dear s0 k))) := by
  have step : ∀ i s, i < n → o i = s → dear s < E → d i + dear s = least → (dear s = 0 ∧ on s = -2) ∨ (0 < dear s ∧ pl_nx na can af co dear s < na ∧ on s = (pl_nx na can af co dear s : Int) ∧ can (pl_nx na can af co dear s) s = true ∧ dear (af (pl_nx na can af co dear s) s) < dear s ∧ ∃ j, j < n ∧ o j = af (pl_nx na can af co dear s) s ∧ dear (af (pl_nx na can af co dear s) s) < E ∧ d j + dear (af (pl_nx na can af co dear s) s) = least) := by
    intro i s hi he h1 h2
    subst he
    rcases gw_on_best hco hN ho h hmin hE hon hi ⟨h1, h2⟩ with q | ⟨q0, a, j, ha, hf, hon1, hc, hj, he, hd, hd2, h3, h4⟩
    · exact Or.inl q
    · have e : pl_nx na can af co dear (o i) = a := hf
      have := hco a ha
      rw [e]
      rw [he] at hd h3 h4
      exact Or.inr ⟨q0, ha, hon1, hc, by omega, j, hj, he, h3, h4⟩
  intro k
  induction k with
  | zero =>
    intro _
    have h0 : d 0 + dear s0 = least := by rw [ho.2.2.1]; omega
    refine ⟨0, ho.1, ho.2.1, by show dear s0 < E; omega, h0, ?_⟩
    rcases step 0 s0 ho.1 ho.2.1 (by omega) h0 with q | ⟨q0, q1, q2, q3, q4, -⟩
    · exact Or.inl q
    · exact Or.inr ⟨q0, q1, q2, q3, q4⟩
  | succ k ih =>
    intro hk
    obtain ⟨i, hi, he, h1, h2, h3⟩ := ih fun j hj => hk j (by omega)
    have hp := hk k (by omega)
    rcases step i _ hi he h1 h2 with q | ⟨q0, q1, q2, q3, q4, j, hj, hje, hjE, hjl⟩
    · omega
    · refine ⟨j, hj, hje, hjE, hjl, ?_⟩
      rcases step j _ hj hje hjE hjl with q | ⟨r0, r1, r2, r3, r4, -⟩
      · exact Or.inl q
      · exact Or.inr ⟨r0, r1, r2, r3, r4⟩
/-- its length: some number of at most 1023 actions -/
theorem pl_len {s0 : Nat} (hs : ∀ k, (∀ j, j < k → 0 < dear (pl_s na can af co dear s0 j)) → pl_s na can af co dear s0 k < 1024 ∧ (0 < dear (pl_s na can af co dear s0 k) → dear (pl_s na can af co dear s0 (k + 1)) < dear (pl_s na can af co dear s0 k))) :
    ∃ m, m ≤ 1023 ∧ dear (pl_s na can af co dear s0 m) = 0 ∧ ∀ j, j < m → 0 < dear (pl_s na can af co dear s0 j) := by
  have fall : ∀ k, (∀ j, j < k → 0 < dear (pl_s na can af co dear s0 j)) → ∀ j, j < k → dear (pl_s na can af co dear s0 k) < dear (pl_s na can af co dear s0 j) := by
    intro k
    induction k with
    | zero => intro _ j hj; omega
    | succ k ih =>
      intro hk j hj
      have h1 := (hs k fun j hj => hk j (by omega)).2 (hk k (by omega))
      by_cases e : j = k
      · subst e; exact h1
      · have := ih (fun j hj => hk j (by omega)) j (by omega)
        omega
  have hex : ∃ m, dear (pl_s na can af co dear s0 m) = 0 := by
    by_cases q : ∃ m, dear (pl_s na can af co dear s0 m) = 0
    · exact q
    · exfalso
      have pos : ∀ j, 0 < dear (pl_s na can af co dear s0 j) := fun j => Nat.pos_of_ne_zero fun z => q ⟨j, z⟩
      have : ∀ k, dear (pl_s na can af co dear s0 k) + k ≤ dear (pl_s na can af co dear s0 0) := by
        intro k
        induction k with
        | zero => exact Nat.le_refl _
        | succ k ih =>
          have := (hs k fun j _ => pos j).2 (pos k)
          omega
      have := this (dear (pl_s na can af co dear s0 0) + 1)
      omega
  obtain ⟨m, hm, hl⟩ := pk_least _ hex
  have hpos : ∀ j, j < m → 0 < dear (pl_s na can af co dear s0 j) := fun j hj => Nat.pos_of_ne_zero (hl j hj)
  refine ⟨m, ?_, hm, hpos⟩
  have := gw_pigeon 1024 (n := m + 1) (o := pl_s na can af co dear s0) (fun i hi => (hs i fun j hj => hpos j (by omega)).1) (fun i j hi hj e => by
    by_cases z : i < j
    · have := fall j (fun t ht => hpos t (by omega)) i z
      rw [e] at this; omega
    · by_cases y : j < i
      · have := fall i (fun t ht => hpos t (by omega)) j y
        rw [e] at this; omega
      · omega)
  omega
end PL
