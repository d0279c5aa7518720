/-! Sets of facts as numbers: the zone and what is behind it, as least closed sets. -/
def cu_le (X Y : Nat) : Prop := ∀ b, X.testBit b = true → Y.testBit b = true
theorem cu_eq {X Y : Nat} (h : cu_le X Y) (g : cu_le Y X) : X = Y := by
  refine Nat.eq_of_testBit_eq fun i => ?_
  cases hx : X.testBit i with
  | true => exact (h i hx).symm
  | false =>
    cases hy : Y.testBit i with
    | false => rfl
    | true => rw [g i hy] at hx; cases hx
theorem cu_refl (X : Nat) : cu_le X X := fun _ h => h
theorem cu_trans {X Y V : Nat} (h : cu_le X Y) (g : cu_le Y V) : cu_le X V := fun b hb => g b (h b hb)
theorem cu_or {X Y V : Nat} (h : cu_le X V) (g : cu_le Y V) : cu_le (X ||| Y) V := fun b hb => by
  rw [Nat.testBit_or, Bool.or_eq_true] at hb
  rcases hb with hb | hb
  · exact h b hb
  · exact g b hb
theorem cu_orl (X Y : Nat) : cu_le X (X ||| Y) := fun b hb => by rw [Nat.testBit_or, hb]; rfl
theorem cu_orr (X Y : Nat) : cu_le Y (X ||| Y) := fun b hb => by rw [Nat.testBit_or, hb, Bool.or_true]
theorem cu_ne {X : Nat} : X ≠ 0 ↔ ∃ b, X.testBit b = true := by
  constructor
  · intro h
    by_cases q : ∃ b, X.testBit b = true
    · exact q
    · exfalso
      apply h
      refine Nat.eq_of_testBit_eq fun i => ?_
      rw [Nat.zero_testBit]
      cases hx : X.testBit i with
      | false => rfl
      | true => exact (q ⟨i, hx⟩).elim
  · rintro ⟨b, hb⟩ rfl
    rw [Nat.zero_testBit] at hb; cases hb
theorem cu_and_ne {X Y : Nat} : X &&& Y ≠ 0 ↔ ∃ b, X.testBit b = true ∧ Y.testBit b = true := by
  rw [cu_ne]
  constructor
  · rintro ⟨b, hb⟩
    rw [Nat.testBit_and, Bool.and_eq_true] at hb
    exact ⟨b, hb⟩
  · rintro ⟨b, h1, h2⟩
    exact ⟨b, by rw [Nat.testBit_and, h1, h2]; rfl⟩
theorem cu_bit {X b : Nat} : cu_le (2 ^ b) X ↔ X.testBit b = true := by
  constructor
  · intro h
    exact h b (by rw [Nat.testBit_two_pow]; simp)
  · intro h i hi
    rw [Nat.testBit_two_pow] at hi
    have : b = i := by simpa using hi
    subst this; exact h
/-- a step a of a growing set: when its test holds it puts a set in -/
def cu_rd (te : Nat → Nat → Bool) (pu : Nat → Nat) (X : Nat) : Nat → Nat
  | 0 => X
  | a + 1 => if te a (cu_rd te pu X a) = true then cu_rd te pu X a ||| pu a else cu_rd te pu X a
def cu_cl (na : Nat) (te : Nat → Nat → Bool) (pu : Nat → Nat) (X : Nat) : Prop := ∀ a, a < na → te a X = true → cu_le (pu a) X
/-- the least closed set over a start -/
def cu_is (na : Nat) (te : Nat → Nat → Bool) (pu : Nat → Nat) (X0 X : Nat) : Prop := cu_le X0 X ∧ cu_cl na te pu X ∧ ∀ Y, cu_le X0 Y → cu_cl na te pu Y → cu_le X Y
section CU
variable {na : Nat} {te : Nat → Nat → Bool} {pu : Nat → Nat}
theorem cu_is_eq {X0 X Y : Nat} (h : cu_is na te pu X0 X) (g : cu_is na te pu X0 Y) : X = Y := cu_eq (h.2.2 Y g.1 g.2.1) (g.2.2 X h.1 h.2.1)
theorem cu_rd_ge (X : Nat) : ∀ k, cu_le X (cu_rd te pu X k)
  | 0 => cu_refl _
  | k + 1 => by
    have ih := cu_rd_ge X k
    unfold cu_rd
    split
    · exact cu_trans ih (cu_orl _ _)
    · exact ih
theorem cu_rd_le (hte : ∀ a X Y, cu_le X Y → te a X = true → te a Y = true) {X Y : Nat} (h : cu_le X Y) (hY : cu_cl na te pu Y) : ∀ k, k ≤ na → cu_le (cu_rd te pu X k) Y
  | 0, _ => h
  | k + 1, hk => by
    have ih := cu_rd_le hte h hY k (by omega)
    unfold cu_rd
    split
    · next q => exact cu_or ih (hY k (by omega) (hte k _ _ ih q))
    · exact ih
theorem cu_rd_fix {X : Nat} (h : cu_rd te pu X na = X) (hte : ∀ a X Y, cu_le X Y → te a X = true → te a Y = true) : cu_cl na te pu X := by
  have stay : ∀ k, k ≤ na → cu_le (cu_rd te pu X k) X := by
    have up : ∀ j k, cu_le (cu_rd te pu X k) (cu_rd te pu X (k + j)) := by
      intro j
      induction j with
      | zero => intro k; exact cu_refl _
      | succ j ih =>
        intro k
        refine cu_trans (ih k) ?_
        show cu_le _ (cu_rd te pu X (k + j + 1))
        rw [cu_rd]
        split
        · exact cu_orl _ _
        · exact cu_refl _
    intro k hk
    have := up (na - k) k
    rw [show k + (na - k) = na by omega, h] at this
    exact this
  intro a ha ht
  have h1 := stay (a + 1) (by omega)
  unfold cu_rd at h1
  rw [if_pos (hte a _ _ (cu_rd_ge X a) ht)] at h1
  exact cu_trans (cu_orr _ _) h1
end CU
def cu_n (X m : Nat) : Nat := lm_cnt (fun b => X.testBit b) m
theorem cu_n_lt {X Y m : Nat} (h : cu_le X Y) (hY : Y < 2 ^ m) (hne : X ≠ Y) : cu_n X m < cu_n Y m := by
  refine lm_cnt_lt (fun f _ hf => h f hf) ?_
  by_cases q : ∃ b, X.testBit b = false ∧ Y.testBit b = true
  · obtain ⟨b, h1, h2⟩ := q
    refine ⟨b, ?_, h1, h2⟩
    by_cases z : b < m
    · exact z
    · have := Nat.testBit_lt_two_pow (x := Y) (i := b) (Nat.lt_of_lt_of_le hY (Nat.pow_le_pow_right (by omega) (by omega)))
      rw [h2] at this; cases this
  · exfalso
    apply hne
    refine cu_eq h fun b hb => ?_
    cases hx : X.testBit b with
    | true => rfl
    | false => exact (q ⟨b, hx, hb⟩).elim
