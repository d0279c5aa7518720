/-! Sets as ints: and, or, less, one bit, all bits. -/
theorem bm_and (a b : Nat) : nI a &&& nI b = nI (a &&& b) := by
  apply Int32.toBitVec_inj.1
  show BitVec.ofNat 32 a &&& BitVec.ofNat 32 b = BitVec.ofNat 32 (a &&& b)
  apply BitVec.eq_of_getLsbD_eq
  intro i hi
  simp [hi]
theorem bm_or (a b : Nat) : nI a ||| nI b = nI (a ||| b) := by
  apply Int32.toBitVec_inj.1
  show BitVec.ofNat 32 a ||| BitVec.ofNat 32 b = BitVec.ofNat 32 (a ||| b)
  apply BitVec.eq_of_getLsbD_eq
  intro i hi
  simp [hi]
/-- a set less another -/
def bm_dif (a b : Nat) : Nat := a ^^^ (a &&& b)
theorem bm_dif_bit (a b i : Nat) : (bm_dif a b).testBit i = (a.testBit i && !b.testBit i) := by
  unfold bm_dif
  rw [Nat.testBit_xor, Nat.testBit_and]
  cases a.testBit i <;> cases b.testBit i <;> rfl
theorem bm_m1 : ∀ i, i < 32 → (-1 : Int32).toBitVec.getLsbD i = true := by decide +kernel
theorem bm_dif32 (a b : Nat) : nI a &&& (nI b ^^^ (-1)) = nI (bm_dif a b) := by
  apply Int32.toBitVec_inj.1
  apply BitVec.eq_of_getLsbD_eq
  intro i hi
  have e0 : (nI a &&& (nI b ^^^ (-1))).toBitVec = (nI a).toBitVec &&& ((nI b).toBitVec ^^^ (-1 : Int32).toBitVec) := rfl
  rw [e0, BitVec.getLsbD_and, BitVec.getLsbD_xor, bm_m1 i hi]
  show ((BitVec.ofNat 32 a).getLsbD i && ((BitVec.ofNat 32 b).getLsbD i ^^ true)) = (BitVec.ofNat 32 (bm_dif a b)).getLsbD i
  rw [BitVec.getLsbD_ofNat, BitVec.getLsbD_ofNat, BitVec.getLsbD_ofNat, bm_dif_bit]
  simp [hi]
theorem bm_sh : ∀ n, n < 32 → ((nI n &&& 31).toBitVec.smod 32).toNat = n := by decide +kernel
theorem bm_one {j : Nat} (hj : j < 31) : nI 1 <<< (nI j &&& 31) = nI (2 ^ j) := by
  have h := pk_shlN (n := 1) (nI j &&& 31) j (bm_sh j (by omega)) (by rw [Nat.one_mul]; exact Nat.lt_of_lt_of_le (Nat.pow_lt_pow_right (by omega) hj) (by decide))
  rw [Nat.one_mul] at h
  exact h
theorem bm_has {S j : Nat} (hS : S < 2 ^ 31) (hj : j < 32) : nI S >>> (nI j &&& 31) &&& nI 1 = nI (if S.testBit j = true then 1 else 0) := by
  rw [pk_shrN hS (nI j &&& 31) j (bm_sh j hj)]
  have h1 : S / 2 ^ j ≤ S := Nat.div_le_self _ _
  rw [pk_andN (n := S / 2 ^ j) (by omega) (m := nI 1) 1 rfl, Nat.testBit_eq_decide_div_mod_eq]
  have h2 : S / 2 ^ j % 2 ^ 1 = S / 2 ^ j % 2 := rfl
  rw [h2]
  by_cases q : S / 2 ^ j % 2 = 1
  · simp [q]
  · have : S / 2 ^ j % 2 = 0 := by omega
    simp [this]
theorem bm_lt {S n : Nat} (h : ∀ i, S.testBit i = true → i < n) : S < 2 ^ n := by
  apply Nat.lt_pow_two_of_testBit
  intro i hi
  cases hx : S.testBit i with
  | false => rfl
  | true => have := h i hx; omega
theorem bm_bit_lt {S n i : Nat} (h : S < 2 ^ n) (hi : S.testBit i = true) : i < n := by
  by_cases z : i < n
  · exact z
  · have := Nat.testBit_lt_two_pow (x := S) (i := i) (Nat.lt_of_lt_of_le h (Nat.pow_le_pow_right (by omega) (by omega)))
    rw [hi] at this; cases this
