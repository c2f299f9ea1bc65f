/-! ===== bits ===== -/
theorem i32_nat {x y : Int32} (h : x.toBitVec.toNat = y.toBitVec.toNat) : x = y := Int32.toBitVec_inj.mp (BitVec.toNat_inj.mp h)
theorem iN_bits {a : Int} : (iN a).toBitVec.toNat = (a % 4294967296).toNat := by
  unfold iN
  rw [Int32.toBitVec_ofInt, BitVec.toNat_ofInt]
  rfl
theorem and_low {a m : Nat} (ha : a < 2147483648) (hm : m ≤ 30) : iN (a : Int) &&& iN ((2 ^ m - 1 : Nat) : Int) = iN ((a % 2 ^ m : Nat) : Int) := by
  have h2 : 2 ^ m ≤ 2 ^ 30 := Nat.pow_le_pow_right (by omega) hm
  have h3 : a % 2 ^ m ≤ a := Nat.mod_le _ _
  apply i32_nat
  rw [Int32.toBitVec_and, BitVec.toNat_and, iN_bits, iN_bits, iN_bits]
  rw [show ((a : Int) % 4294967296).toNat = a by omega, show (((2 ^ m - 1 : Nat) : Int) % 4294967296).toNat = 2 ^ m - 1 by omega, show (((a % 2 ^ m : Nat) : Int) % 4294967296).toNat = a % 2 ^ m by omega]
  exact Nat.and_two_pow_sub_one_eq_mod a m
theorem and_high {a m : Nat} (ha : a < 2147483648) (hm : m ≤ 30) : iN (a : Int) &&& -iN ((2 ^ m : Nat) : Int) = iN ((2 ^ m * (a / 2 ^ m) : Nat) : Int) := by
  have h1 : 0 < 2 ^ m := Nat.pow_pos (by omega)
  have h2 : 2 ^ m ≤ 2 ^ 30 := Nat.pow_le_pow_right (by omega) hm
  have h3 : 2 ^ m * (a / 2 ^ m) ≤ a := Nat.mul_div_le a _
  apply i32_nat
  rw [iN_neg, Int32.toBitVec_and, BitVec.toNat_and, iN_bits, iN_bits, iN_bits]
  rw [show ((a : Int) % 4294967296).toNat = a by omega, show ((-((2 ^ m : Nat) : Int)) % 4294967296).toNat = 2 ^ 32 - ((2 ^ m - 1) + 1) by omega, show (((2 ^ m * (a / 2 ^ m) : Nat) : Int) % 4294967296).toNat = 2 ^ m * (a / 2 ^ m) by omega]
  apply Nat.eq_of_testBit_eq
  intro i
  rw [Nat.testBit_and, Nat.testBit_two_pow_sub_succ (by omega), Nat.testBit_two_pow_sub_one, Nat.testBit_two_pow_mul]
  by_cases c : m ≤ i
  · rw [Nat.testBit_div_two_pow, show i - m + m = i by omega, decide_eq_true (show i ≥ m from c), decide_eq_false (show ¬ i < m by omega)]
    by_cases c2 : i < 32
    · rw [decide_eq_true c2]; simp
    · have : a.testBit i = false := Nat.testBit_lt_two_pow (Nat.lt_of_lt_of_le (show a < 2 ^ 31 by omega) (Nat.pow_le_pow_right (by omega) (by omega)))
      rw [this]; simp
  · rw [decide_eq_false (show ¬ i ≥ m from c), decide_eq_true (show i < m by omega)]; simp
/-- the lowest bit, tried on all -/
def lbOK (a : Nat) : Bool := (List.range 14).any (fun k => decide ((Int32.ofInt (a : Int) &&& -Int32.ofInt (a : Int)) = Int32.ofInt ((2 ^ k : Nat) : Int)) && decide (a % 2 ^ k = 0) && decide (¬ a % 2 ^ (k + 1) = 0))
theorem lb_all : ∀ i, i < 128 → ∀ j, j < 128 → (i = 0 ∧ j = 0) ∨ lbOK (128 * i + j) = true := by decide +kernel
theorem low_bit {a : Nat} (h0 : 0 < a) (h1 : a < 16384) : ∃ k, k < 14 ∧ (iN (a : Int) &&& -iN (a : Int)) = iN ((2 ^ k : Nat) : Int) ∧ a % 2 ^ k = 0 ∧ ¬ a % 2 ^ (k + 1) = 0 := by
  have h := lb_all (a / 128) (by omega) (a % 128) (by omega)
  rw [show 128 * (a / 128) + a % 128 = a by omega] at h
  cases h with
  | inl q => omega
  | inr q =>
    unfold lbOK at q
    rw [List.any_eq_true] at q
    obtain ⟨k, hk, h2⟩ := q
    simp only [Bool.and_eq_true, decide_eq_true_eq] at h2
    exact ⟨k, List.mem_range.mp hk, h2.1.1, h2.1.2, h2.2⟩
/-- a power of two, tried on all -/
def pwOK (L : Nat) : Bool := !decide ((Int32.ofInt (L : Int) &&& Int32.ofInt ((L : Int) - 1)) = 0) || (List.range 15).any (fun k => decide (L = 2 ^ k))
theorem pw_all : ∀ i, i < 128 → ∀ j, j < 128 → pwOK (128 * i + j + 1) = true := by decide +kernel
theorem pow_two {L : Nat} (h0 : 1 ≤ L) (h1 : L ≤ 16384) (h : (iN (L : Int) &&& iN ((L : Int) - 1)) = (0 : Int32)) : ∃ k, k ≤ 14 ∧ L = 2 ^ k := by
  have q := pw_all ((L - 1) / 128) (by omega) ((L - 1) % 128) (by omega)
  rw [show 128 * ((L - 1) / 128) + (L - 1) % 128 + 1 = L by omega] at q
  unfold pwOK at q
  rw [Bool.or_eq_true, List.any_eq_true] at q
  cases q with
  | inl q =>
    have : (iN (L : Int) &&& iN ((L : Int) - 1)) ≠ 0 := by
      intro e
      unfold iN at e
      rw [decide_eq_true e] at q
      cases q
    exact absurd h this
  | inr q =>
    obtain ⟨k, hk, h2⟩ := q
    exact ⟨k, by have := List.mem_range.mp hk; omega, of_decide_eq_true h2⟩
