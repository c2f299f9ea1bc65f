/-! ===== canonical divisions ===== -/
/-- the length of the piece of the division that starts at a -/
def IsLen (a e L : Nat) : Prop := (∃ k, k ≤ 14 ∧ L = 2 ^ k) ∧ a % L = 0 ∧ a + L ≤ e ∧ ¬ (a % (2 * L) = 0 ∧ a + 2 * L ≤ e)
theorem mod_pow {a i j : Nat} (hij : i ≤ j) (h : a % 2 ^ j = 0) : a % 2 ^ i = 0 := Nat.mod_eq_zero_of_dvd (Nat.dvd_trans (Nat.pow_dvd_pow 2 hij) (Nat.dvd_of_mod_eq_zero h))
theorem IsLen.le {a e k j : Nat} (h : IsLen a e (2 ^ k)) (hj : a % 2 ^ j = 0) (hje : a + 2 ^ j ≤ e) : j ≤ k := by
  by_cases c : j ≤ k
  · exact c
  · exfalso
    have e1 : 2 * 2 ^ k = 2 ^ (k + 1) := by rw [Nat.pow_succ, Nat.mul_comm]
    have h3 := h.2.2.2
    rw [e1] at h3
    have l1 : 2 ^ (k + 1) ≤ 2 ^ j := Nat.pow_le_pow_right (by omega) (by omega)
    exact h3 ⟨mod_pow (by omega) hj, by omega⟩
theorem IsLen.uniq {a e L L' : Nat} (h : IsLen a e L) (h' : IsLen a e L') : L = L' := by
  obtain ⟨⟨k, -, rfl⟩, h1, h2, -⟩ := id h
  obtain ⟨⟨j, -, rfl⟩, k1, k2, -⟩ := id h'
  have := h.le k1 k2
  have := h'.le h1 h2
  rw [show k = j by omega]
theorem m8_lengthAt {a e : Nat} (hae : a < e) (he : e ≤ 16384) : ∃ L : Nat, fX8_lengthAt (iN (a : Int)) (iN (e : Int)) = some (iN (L : Int)) ∧ IsLen a e L := by
  unfold fX8_lengthAt
  have key := lp_m (fun q : Int32 => bX8_lengthAt_2 (iN (a : Int)) (iN (e : Int)) q) (fun q => ∃ k, k ≤ 14 ∧ q = iN ((2 ^ k : Nat) : Int) ∧ a % 2 ^ k = 0 ∧ a + 2 ^ k ≤ e) (fun q => (32768 - q.toInt).toNat) (fun q => ∃ L : Nat, q = iN (L : Int) ∧ IsLen a e L) ?_ fuel (1 : Int32) ⟨0, by omega, rfl, Nat.mod_one a, by show a + 1 ≤ e; omega⟩ (fuel_ge (by show (32768 - (iN 1).toInt).toNat ≤ _; rw [iN_toInt (by omega) (by omega)]; omega))
  · obtain ⟨q, e1, L, rfl, h⟩ := key
    exact ⟨L, e1, h⟩
  · rintro q ⟨k, hk, rfl, h1, h2⟩
    have p0 : 0 < 2 ^ k := Nat.pow_pos (by omega)
    have p1 : 2 ^ k ≤ 2 ^ 14 := Nat.pow_le_pow_right (by omega) hk
    have e1 : 2 ^ (k + 1) = 2 * 2 ^ k := by rw [Nat.pow_succ, Nat.mul_comm]
    have fin : ¬ (a % (2 * 2 ^ k) = 0 ∧ a + 2 * 2 ^ k ≤ e) → ∃ r, xt (some (iN ((2 ^ k : Nat) : Int))) = some (.inr r : Int32 ⊕ Int32) ∧ ∃ L : Nat, r = iN (L : Int) ∧ IsLen a e L := fun h => ⟨_, rfl, 2 ^ k, rfl, ⟨k, hk, rfl⟩, h1, h2, h⟩
    unfold bX8_lengthAt_2
    generalize 2 ^ k = P at *
    have hm := Nat.div_add_mod a (2 * P)
    have hd : a / (2 * P) * (2 * P) ≤ a := Nat.div_mul_le_self a (2 * P)
    have ec : (a : Int) / (2 * (P : Int)) = ((a / (2 * P) : Nat) : Int) := by rw [Int.natCast_ediv, Int.natCast_mul]; rfl
    have em : ((a / (2 * P) : Nat) : Int) * (2 * (P : Int)) = ((a / (2 * P) * (2 * P) : Nat) : Int) := by rw [Int.natCast_mul]; rfl
    rw [show (2 : Int32) = iN 2 from rfl, iN_mul, dv_n (by rw [show (0 : Int32) = iN 0 from rfl, iN_eq (by omega) (by omega) (by omega) (by omega)]; omega), iN_div (by omega) (by omega) (by omega) (by omega), iN_mul, iN_sub, ec, em]
    have hmc : a / (2 * P) * (2 * P) = 2 * P * (a / (2 * P)) := Nat.mul_comm _ _
    simp only [iN_add, nm, iN_mul]
    by_cases c1 : a % (2 * P) = 0
    · rw [if_pos (by rw [show (0 : Int32) = iN 0 from rfl, iN_eq (by omega) (by omega) (by omega) (by omega)]; omega)]
      by_cases c2 : e < a + 2 * P
      · rw [if_pos (by rw [iN_lt (by omega) (by omega) (by omega) (by omega)]; omega)]
        exact Or.inr (fin (fun q => by omega))
      · rw [if_neg (by rw [iN_lt (by omega) (by omega) (by omega) (by omega)]; omega)]
        refine Or.inl ⟨_, rfl, ⟨k + 1, ?_, ?_, ?_, ?_⟩, ?_⟩
        · by_cases c : k + 1 ≤ 14
          · exact c
          · have : 2 ^ 15 ≤ 2 ^ (k + 1) := Nat.pow_le_pow_right (by omega) (by omega)
            omega
        · rw [e1]; congr 1; omega
        · rw [e1]; exact c1
        · rw [e1]; omega
        · rw [iN_toInt (by omega) (by omega), iN_toInt (by omega) (by omega)]; omega
    · rw [if_neg (by rw [show (0 : Int32) = iN 0 from rfl, iN_eq (by omega) (by omega) (by omega) (by omega)]; omega)]
      exact Or.inr (fin (fun q => c1 q.1))
theorem s0_largest {a e : Nat} (hae : a < e) (he : e ≤ 16384) : ∃ L : Nat, fX0_largest (iN (a : Int)) (iN (e : Int)) = some (iN (L : Int)) ∧ IsLen a e L := by
  have loop : ∀ k, k ≤ 14 → a % 2 ^ k = 0 → ¬ (a % (2 * 2 ^ k) = 0 ∧ a + 2 * 2 ^ k ≤ e) → ∃ L : Nat, lp (fun q => bX0_largest_15 (iN (a : Int)) (iN (e : Int)) q) fuel (iN ((2 ^ k : Nat) : Int)) = some (iN (L : Int)) ∧ IsLen a e L := by
    intro k hk h1 h2
    have p1 : 2 ^ k ≤ 2 ^ 14 := Nat.pow_le_pow_right (by omega) hk
    have key := lp_m (fun q : Int32 => bX0_largest_15 (iN (a : Int)) (iN (e : Int)) q) (fun q => ∃ k, k ≤ 14 ∧ q = iN ((2 ^ k : Nat) : Int) ∧ a % 2 ^ k = 0 ∧ ¬ (a % (2 * 2 ^ k) = 0 ∧ a + 2 * 2 ^ k ≤ e)) (fun q => q.toInt.toNat) (fun q => ∃ L : Nat, q = iN (L : Int) ∧ IsLen a e L) ?_ fuel (iN ((2 ^ k : Nat) : Int)) ⟨k, hk, rfl, h1, h2⟩ (fuel_ge (by rw [iN_toInt (by omega) (by omega)]; omega))
    · obtain ⟨q, e1, L, rfl, h⟩ := key
      exact ⟨L, e1, h⟩
    · rintro q ⟨k, hk, rfl, h1, h2⟩
      have p0 : 0 < 2 ^ k := Nat.pow_pos (by omega)
      have p1 : 2 ^ k ≤ 2 ^ 14 := Nat.pow_le_pow_right (by omega) hk
      have fin : a + 2 ^ k ≤ e → ∃ r, xt (some (iN ((2 ^ k : Nat) : Int))) = some (.inr r : Int32 ⊕ Int32) ∧ ∃ L : Nat, r = iN (L : Int) ∧ IsLen a e L := fun h => ⟨_, rfl, 2 ^ k, rfl, ⟨k, hk, rfl⟩, h1, h, h2⟩
      unfold bX0_largest_15
      rw [iN_sub]
      by_cases c1 : 2 ^ k ≤ 1
      · rw [if_pos (by rw [show (1 : Int32) = iN 1 from rfl, iN_le (by omega) (by omega) (by omega) (by omega)]; omega)]
        exact Or.inr (fin (by omega))
      · rw [if_neg (by rw [show (1 : Int32) = iN 1 from rfl, iN_le (by omega) (by omega) (by omega) (by omega)]; omega)]
        by_cases c2 : a + 2 ^ k ≤ e
        · rw [if_pos (by rw [iN_le (by omega) (by omega) (by omega) (by omega)]; omega)]
          exact Or.inr (fin c2)
        · rw [if_neg (by rw [iN_le (by omega) (by omega) (by omega) (by omega)]; omega), dv_n (by decide), show (2 : Int32) = iN 2 from rfl, iN_div (by omega) (by omega) (by omega) (by omega)]
          obtain ⟨j, rfl⟩ : ∃ j, k = j + 1 := ⟨k - 1, by
            by_cases c : k = 0
            · subst c; exact absurd (Nat.le_refl 1) c1
            · omega⟩
          have e1 : 2 ^ (j + 1) = 2 * 2 ^ j := by rw [Nat.pow_succ, Nat.mul_comm]
          refine Or.inl ⟨_, rfl, ⟨j, by omega, ?_, mod_pow (by omega) h1, ?_⟩, ?_⟩
          · rw [e1]; congr 1; omega
          · rw [← e1]; exact fun q => c2 q.2
          · rw [iN_toInt (by omega) (by omega), iN_toInt (by omega) (by omega)]; omega
  unfold fX0_largest
  by_cases c : a = 0
  · subst c
    rw [if_pos (show iN ((0 : Nat) : Int) = (0 : Int32) from rfl)]
    exact loop 14 (by omega) (Nat.zero_mod _) (fun q => by omega)
  · rw [if_neg (by rw [show (0 : Int32) = iN 0 from rfl, iN_eq (by omega) (by omega) (by omega) (by omega)]; omega)]
    obtain ⟨k, hk, h1, h2, h3⟩ := low_bit (show 0 < a by omega) (show a < 16384 by omega)
    rw [h1]
    exact loop k (by omega) h2 (fun q => h3 (by rw [Nat.pow_succ, Nat.mul_comm]; exact q.1))
