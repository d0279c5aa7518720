/-! Sets as ints: and, or, less, one bit, all bits. -/
theorem bm_and (a b : Nat) : nI a &&& nI b = nI (a &&& b) := by
  apply Int32.toBitVec_inj.1
  show BitVec.ofNat 32 a &&& BitVec.ofNat 32 b = BitVec.ofNat 32 (a &&& b)
  apply BitVec.eq_of_getLsbD_eq
  intro i hi
  simp [hi]
theorem bm_or (a b : Nat) : nI a ||| nI b = nI (a ||| b) := by
  apply Int32.toBitVec_inj.1
  show BitVec.ofNat 32 a ||| BitVec.ofNat 32 b = BitVec.ofNat 32 (a ||| b)
  apply BitVec.eq_of_getLsbD_eq
  intro i hi
  simp [hi]
/-- a set less another -/
def bm_dif (a b : Nat) : Nat := a ^^^ (a &&& b)
theorem bm_dif_bit (a b i : Nat) : (bm_dif a b).testBit i = (a.testBit i && !b.testBit i) := by
  unfold bm_dif
  rw [Nat.testBit_xor, Nat.testBit_and]
  cases a.testBit i <;> cases b.testBit i <;> rfl
theorem bm_m1 : ∀ i, i < 32 → (-1 : Int32).toBitVec.getLsbD i = true := by decide +kernel
theorem bm_dif32 (a b : Nat) : nI a &&& (nI b ^^^ (-1)) = nI (bm_dif a b) := by
  apply Int32.toBitVec_inj.1
  apply BitVec.eq_of_getLsbD_eq
  intro i hi
  have e0 : (nI a &&& (nI b ^^^ (-1))).toBitVec = (nI a).toBitVec &&& ((nI b).toBitVec ^^^ (-1 : Int32).toBitVec) := rfl
  rw [e0, BitVec.getLsbD_and, BitVec.getLsbD_xor, bm_m1 i hi]
  show ((BitVec.ofNat 32 a).getLsbD i && ((BitVec.ofNat 32 b).getLsbD i ^^ true)) = (BitVec.ofNat 32 (bm_dif a b)).getLsbD i
  rw [BitVec.getLsbD_ofNat, BitVec.getLsbD_ofNat, BitVec.getLsbD_ofNat, bm_dif_bit]
  simp [hi]
theorem bm_sh : ∀ n, n < 32 → ((nI n &&& 31).toBitVec.smod 32).toNat = n := by decide +kernel
theorem bm_one {j : Nat} (hj : j < 31) : nI 1 <<< (nI j &&& 31) = nI (2 ^ j) := by
  have h := pk_shlN (n := 1) (nI j &&& 31) j (bm_sh j (by omega)) (by rw [Nat.one_mul]; exact Nat.lt_of_lt_of_le (Nat.pow_lt_pow_right (by omega) hj) (by decide))
  rw [Nat.one_mul] at h
  exact h
theorem bm_has {S j : Nat} (hS : S < 2 ^ 31) (hj : j < 32) : nI S >>> (nI j &&& 31) &&& nI 1 = nI (if S.testBit j = true then 1 else 0) := by
  rw [pk_shrN hS (nI j &&& 31) j (bm_sh j hj)]
  have h1 : S / 2 ^ j ≤ S := Nat.div_le_self _ _
  rw [pk_andN (n := S / 2 ^ j) (by omega) (m := nI 1) 1 rfl, Nat.testBit_eq_decide_div_mod_eq]
  have h2 : S / 2 ^ j % 2 ^ 1 = S / 2 ^ j % 2 := rfl
  rw [h2]
  by_cases q : S / 2 ^ j % 2 = 1
  · simp [q]
  · have : S / 2 ^ j % 2 = 0 := by omega
    simp [this]
theorem bm_lt {S n : Nat} (h : ∀ i, S.testBit i = true → i < n) : S < 2 ^ n := by
  apply Nat.lt_pow_two_of_testBit
  intro i hi
  cases hx : S.testBit i with
  | false => rfl
  | true => have := h i hx; omega
theorem bm_bit_lt {S n i : Nat} (h : S < 2 ^ n) (hi : S.testBit i = true) : i < n := by
  by_cases z : i < n
  · exact z
  · have := Nat.testBit_lt_two_pow (x := S) (i := i) (Nat.lt_of_lt_of_le h (Nat.pow_le_pow_right (by omega) (by omega)))
    rw [hi] at this; cases this
theorem bm_inc (i : Nat) : nI i + Int32.ofInt 1 = nI (i + 1) := nI_1 i
theorem bm_max {a b : Nat} (ha : a < 2 ^ 31) (hb : b < 2 ^ 31) : (if nI a < nI b then nI b else nI a) = nI (max a b) := by
  by_cases q : a < b
  · rw [if_pos ((nI_ltI ha hb).mpr q), Nat.max_eq_right (Nat.le_of_lt q)]
  · rw [if_neg (fun z => q ((nI_ltI ha hb).mp z)), Nat.max_eq_left (Nat.not_lt.mp q)]
theorem bm_min {a b : Nat} (ha : a < 2 ^ 31) (hb : b < 2 ^ 31) : (if nI b < nI a then nI b else nI a) = nI (min a b) := by
  by_cases q : b < a
  · rw [if_pos ((nI_ltI hb ha).mpr q), Nat.min_eq_right (Nat.le_of_lt q)]
  · rw [if_neg (fun z => q ((nI_ltI hb ha).mp z)), Nat.min_eq_left (Nat.not_lt.mp q)]
/-- a truth value as a number -/
abbrev bm_b (b : Bool) : Nat := if b = true then 1 else 0
theorem bm_b_lt (b : Bool) : bm_b b < 2 := by cases b <;> decide
theorem bm_orb (a b : Bool) : nI (bm_b a) ||| nI (bm_b b) = nI (bm_b (a || b)) := by cases a <;> cases b <;> decide
theorem bm_zn (b : Bool) : narrow .boolean (.int (nI (bm_b b))) = .int (nI (bm_b b)) := by cases b <;> decide
theorem bm_pos (b : Bool) (P : Prop) [Decidable P] (h : b = decide P) : bm_b b = if P then 1 else 0 := by
  subst h
  by_cases p : P
  · simp [p]
  · simp [p]
theorem bm_nle {x : Nat} (h : x < 2 ^ 31) : ¬ nI x ≤ (-1 : Int32) := by
  rw [Int32.le_iff_toInt_le, nI_toInt h]
  have : ((-1 : Int32)).toInt = -1 := by decide
  rw [this]
  omega
theorem bm_m1lt {x : Nat} (h : x < 2 ^ 31) : (-1 : Int32) < nI x := by
  rw [Int32.lt_iff_toInt_lt, nI_toInt h]
  have : ((-1 : Int32)).toInt = -1 := by decide
  rw [this]
  omega
theorem bm_m1ne {x : Nat} (h : x < 2 ^ 31) : nI x ≠ (-1 : Int32) := fun e => bm_nle h (by rw [e]; decide)
theorem ts_f {x : Bool} (h : ¬ x = true) : x = false := by simpa using h
