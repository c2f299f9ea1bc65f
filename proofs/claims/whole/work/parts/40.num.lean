/-! ===== whole numbers under the machine's: iN a, lI a ===== -/
def iN (a : Int) : Int32 := Int32.ofInt a
def lI (a : Int) : Int64 := Int64.ofInt a
theorem iN_of (x : Int32) : x = iN x.toInt := (Int32.ofInt_toInt x).symm
theorem iN_fun (f : Nat → Int32) : f = fun i => iN (f i).toInt := funext fun i => iN_of (f i)
theorem iN_fun2 (f : Nat → Nat → Int32) : f = fun j i => iN (f j i).toInt := funext fun j => funext fun i => iN_of (f j i)
theorem iN_toInt {a : Int} (h1 : -2147483648 ≤ a) (h2 : a < 2147483648) : (iN a).toInt = a := Int32.toInt_ofInt_of_le (by omega) (by omega)
theorem iN_add (a b : Int) : iN a + iN b = iN (a + b) := (Int32.ofInt_add a b).symm
theorem iN_sub (a b : Int) : iN a - iN b = iN (a - b) := (Int32.ofInt_sub a b).symm
theorem iN_mul (a b : Int) : iN a * iN b = iN (a * b) := (Int32.ofInt_mul a b).symm
theorem iN_neg (a : Int) : -iN a = iN (-a) := (Int32.ofInt_neg a).symm
theorem iN_lt {a b : Int} (h1 : -2147483648 ≤ a) (h2 : a < 2147483648) (h3 : -2147483648 ≤ b) (h4 : b < 2147483648) : iN a < iN b ↔ a < b := by
  rw [Int32.lt_iff_toInt_lt, iN_toInt h1 h2, iN_toInt h3 h4]
theorem iN_le {a b : Int} (h1 : -2147483648 ≤ a) (h2 : a < 2147483648) (h3 : -2147483648 ≤ b) (h4 : b < 2147483648) : iN a ≤ iN b ↔ a ≤ b := by
  rw [Int32.le_iff_toInt_le, iN_toInt h1 h2, iN_toInt h3 h4]
theorem iN_eq {a b : Int} (h1 : -2147483648 ≤ a) (h2 : a < 2147483648) (h3 : -2147483648 ≤ b) (h4 : b < 2147483648) : iN a = iN b ↔ a = b := by
  rw [← Int32.toInt_inj, iN_toInt h1 h2, iN_toInt h3 h4]
theorem iN_nat {a : Int} (h1 : -2147483648 ≤ a) (h2 : a < 2147483648) : (iN a).toNatClampNeg = a.toNat := Int32.toNatClampNeg_ofInt_of_le (by omega) (by omega)
theorem iN_lits : (0 : Int32) = iN 0 ∧ (1 : Int32) = iN 1 ∧ (2 : Int32) = iN 2 ∧ (3 : Int32) = iN 3 ∧ (4 : Int32) = iN 4 ∧ (5 : Int32) = iN 5 ∧ (6 : Int32) = iN 6 ∧ (7 : Int32) = iN 7 ∧ (10 : Int32) = iN 10 ∧ (30 : Int32) = iN 30 ∧ (40 : Int32) = iN 40 ∧ (48 : Int32) = iN 48 ∧ (57 : Int32) = iN 57 ∧ (60 : Int32) = iN 60 ∧ (120 : Int32) = iN 120 ∧ (127 : Int32) = iN 127 ∧ (180 : Int32) = iN 180 ∧ (240 : Int32) = iN 240 ∧ (242 : Int32) = iN 242 ∧ (243 : Int32) = iN 243 ∧ (255 : Int32) = iN 255 ∧ (256 : Int32) = iN 256 ∧ (423 : Int32) = iN 423 ∧ (424 : Int32) = iN 424 ∧ (1000 : Int32) = iN 1000 ∧ (1634 : Int32) = iN 1634 ∧ (4902 : Int32) = iN 4902 ∧ (16383 : Int32) = iN 16383 ∧ (16384 : Int32) = iN 16384 ∧ (16385 : Int32) = iN 16385 ∧ (1000000 : Int32) = iN 1000000 ∧ (2147483647 : Int32) = iN 2147483647 := by
  refine ⟨?_, ?_, ?_, ?_, ?_, ?_, ?_, ?_, ?_, ?_, ?_, ?_, ?_, ?_, ?_, ?_, ?_, ?_, ?_, ?_, ?_, ?_, ?_, ?_, ?_, ?_, ?_, ?_, ?_, ?_, ?_, ?_⟩ <;> rfl
theorem iN_lits2 : (32 : Int32) = iN 32 ∧ (45 : Int32) = iN 45 ∧ (59 : Int32) = iN 59 ∧ (97 : Int32) = iN 97 ∧ (101 : Int32) = iN 101 ∧ (109 : Int32) = iN 109 ∧ (113 : Int32) = iN 113 ∧ (115 : Int32) = iN 115 ∧ (116 : Int32) = iN 116 := by
  refine ⟨?_, ?_, ?_, ?_, ?_, ?_, ?_, ?_, ?_⟩ <;> rfl
theorem lI_of (x : Int64) : x = lI x.toInt := (Int64.ofInt_toInt x).symm
theorem lI_toInt {a : Int} (h1 : -9223372036854775808 ≤ a) (h2 : a < 9223372036854775808) : (lI a).toInt = a := Int64.toInt_ofInt_of_le (by omega) (by omega)
theorem lI_add (a b : Int) : lI a + lI b = lI (a + b) := (Int64.ofInt_add a b).symm
theorem lI_sub (a b : Int) : lI a - lI b = lI (a - b) := (Int64.ofInt_sub a b).symm
theorem lI_mul (a b : Int) : lI a * lI b = lI (a * b) := (Int64.ofInt_mul a b).symm
theorem lI_lt {a b : Int} (h1 : -9223372036854775808 ≤ a) (h2 : a < 9223372036854775808) (h3 : -9223372036854775808 ≤ b) (h4 : b < 9223372036854775808) : lI a < lI b ↔ a < b := by
  rw [Int64.lt_iff_toInt_lt, lI_toInt h1 h2, lI_toInt h3 h4]
theorem lI_le {a b : Int} (h1 : -9223372036854775808 ≤ a) (h2 : a < 9223372036854775808) (h3 : -9223372036854775808 ≤ b) (h4 : b < 9223372036854775808) : lI a ≤ lI b ↔ a ≤ b := by
  rw [Int64.le_iff_toInt_le, lI_toInt h1 h2, lI_toInt h3 h4]
theorem lI_eq {a b : Int} (h1 : -9223372036854775808 ≤ a) (h2 : a < 9223372036854775808) (h3 : -9223372036854775808 ≤ b) (h4 : b < 9223372036854775808) : lI a = lI b ↔ a = b := by
  rw [← Int64.toInt_inj, lI_toInt h1 h2, lI_toInt h3 h4]
theorem iN_l {a : Int} (h1 : -2147483648 ≤ a) (h2 : a < 2147483648) : (iN a).toInt64 = lI a := by
  rw [← Int64.toInt_inj, Int32.toInt_toInt64, iN_toInt h1 h2, lI_toInt (by omega) (by omega)]
theorem toInt64_lI (x : Int32) : x.toInt64 = lI x.toInt := by
  rw [← Int64.toInt_inj, Int32.toInt_toInt64, lI_toInt (by have := x.le_toInt; omega) (by have := x.toInt_lt; omega)]
theorem lI_lits : (0 : Int64) = lI 0 ∧ (1 : Int64) = lI 1 ∧ (2 : Int64) = lI 2 ∧ (5 : Int64) = lI 5 ∧ (31 : Int64) = lI 31 ∧ (48 : Int64) = lI 48 ∧ (57 : Int64) = lI 57 ∧ (127 : Int64) = lI 127 ∧ (255 : Int64) = lI 255 ∧ (1000 : Int64) = lI 1000 ∧ (2927 : Int64) = lI 2927 ∧ (16384 : Int64) = lI 16384 ∧ (1000000 : Int64) = lI 1000000 ∧ (-1000 : Int64) = lI (-1000) ∧ (-1000000 : Int64) = lI (-1000000) ∧ (9223372036854775807 : Int64) = lI 9223372036854775807 := by
  refine ⟨?_, ?_, ?_, ?_, ?_, ?_, ?_, ?_, ?_, ?_, ?_, ?_, ?_, ?_, ?_, ?_⟩ <;> rfl
theorem cmp_lt (x y : Int64) : lg_cmp x y < 0 ↔ x < y := by
  unfold lg_cmp
  by_cases h1 : x > y
  · rw [if_pos h1]
    have h2 : y.toInt < x.toInt := Int64.lt_iff_toInt_lt.mp h1
    constructor
    · intro h; exact absurd h (by decide)
    · intro h
      have := Int64.lt_iff_toInt_lt.mp h
      omega
  · rw [if_neg h1]
    have h2 : ¬ y.toInt < x.toInt := fun h => h1 (Int64.lt_iff_toInt_lt.mpr h)
    by_cases h3 : x = y
    · subst h3
      rw [if_pos rfl]
      constructor
      · intro h; exact absurd h (by decide)
      · intro h
        have := Int64.lt_iff_toInt_lt.mp h
        omega
    · rw [if_neg h3]
      constructor
      · intro _
        refine Int64.lt_iff_toInt_lt.mpr ?_
        have : ¬ x.toInt = y.toInt := fun h => h3 (Int64.toInt_inj.mp h)
        omega
      · intro _; decide
theorem cmp_gt (x y : Int64) : 0 < lg_cmp x y ↔ y < x := by
  unfold lg_cmp
  by_cases h1 : x > y
  · rw [if_pos h1]
    exact ⟨fun _ => h1, fun _ => by decide⟩
  · rw [if_neg h1]
    by_cases h3 : x = y
    · subst h3
      rw [if_pos rfl]
      exact ⟨fun h => absurd h (by decide), fun h => absurd h h1⟩
    · rw [if_neg h3]
      exact ⟨fun h => absurd h (by decide), fun h => absurd h h1⟩
theorem cmp_eq (x y : Int64) : lg_cmp x y = 0 ↔ x = y := by
  unfold lg_cmp
  by_cases h1 : x > y
  · rw [if_pos h1]
    refine ⟨fun h => absurd h (by decide), fun h => ?_⟩
    subst h
    have := Int64.lt_iff_toInt_lt.mp h1
    omega
  · rw [if_neg h1]
    by_cases h3 : x = y
    · rw [if_pos h3]; exact ⟨fun _ => h3, fun _ => rfl⟩
    · rw [if_neg h3]; exact ⟨fun h => absurd h (by decide), fun h => absurd h h3⟩
theorem cmp_ge (x y : Int64) : 0 ≤ lg_cmp x y ↔ y ≤ x := lg_cmp_ge x y
theorem cmp_le (x y : Int64) : lg_cmp x y ≤ 0 ↔ x ≤ y := by
  have h := cmp_gt x y
  rw [Int32.lt_iff_toInt_lt, Int64.lt_iff_toInt_lt] at h
  rw [Int32.le_iff_toInt_le, Int64.le_iff_toInt_le]
  have : (0 : Int32).toInt = 0 := rfl
  omega
section ZNN
variable {α : Type}
def updI (f : Nat → Int) (k : Nat) (x : Int) : Nat → Int := fun j => if j = k then x else f j
theorem upd_iN (f : Nat → Int) (k : Nat) (x : Int) : upd (fun i => iN (f i)) k (iN x) = fun i => iN (updI f k x i) := by
  funext j
  unfold upd updI
  by_cases h : j = k
  · rw [if_pos h, if_pos h]
  · rw [if_neg h, if_neg h]
theorem rd_iN {n : Nat} {f : Nat → Int32} {a : Int} {k : Int32 → Option α} (h0 : 0 ≤ a) (h1 : a < n) (h2 : n < 2147483648) : rd n f (iN a) k = k (f a.toNat) := by
  unfold rd
  rw [if_neg, iN_nat (by omega) (by omega)]
  rw [iN_nat (by omega) (by omega), show (0 : Int32) = iN 0 from rfl, iN_lt (by omega) (by omega) (by omega) (by omega)]
  omega
theorem wr_iN {n : Nat} {f : Nat → Int32} {a : Int} {x : Int32} {k : (Nat → Int32) → Option α} (h0 : 0 ≤ a) (h1 : a < n) (h2 : n < 2147483648) : wr n f (iN a) x k = k (upd f a.toNat x) := by
  unfold wr
  rw [if_neg, iN_nat (by omega) (by omega)]
  rw [iN_nat (by omega) (by omega), show (0 : Int32) = iN 0 from rfl, iN_lt (by omega) (by omega) (by omega) (by omega)]
  omega
theorem rf_iN {n : Nat} {a : Int} {k : Nat → Option α} (h0 : 0 ≤ a) (h1 : a < n) (h2 : n < 2147483648) : rf n (iN a) k = k a.toNat := by
  unfold rf
  rw [if_neg, iN_nat (by omega) (by omega)]
  rw [iN_nat (by omega) (by omega), show (0 : Int32) = iN 0 from rfl, iN_lt (by omega) (by omega) (by omega) (by omega)]
  omega
theorem zr_0 {k : Option α} : zr 0 k = k := if_pos (Or.inl rfl)
theorem zr_1 {k : Option α} : zr 1 k = k := if_pos (Or.inr rfl)
theorem dv_n {y : Int32} {k : Option α} (h : ¬ y = 0) : dv y k = k := if_neg h
theorem dvl_n {y : Int64} {k : Option α} (h : ¬ y = 0) : dvl y k = k := if_neg h
theorem nm_v {β : Type} (e : β) (k : β → Option α) : nm e k = k e := rfl
theorem xt_some {σ : Type} (r : α) : (xt (some r) : Option (σ ⊕ α)) = some (.inr r) := rfl
theorem ac_iN {n0 n1 : Nat} {f g : Nat → Int32} {a b n : Int} {k : (Nat → Int32) → Option α} (ha : 0 ≤ a) (hb : 0 ≤ b) (hn : 0 ≤ n) (h0 : a + n ≤ n0) (h1 : b + n ≤ n1) (h2 : n0 < 2147483648) (h3 : n1 < 2147483648) : ac n0 n1 f g (iN a) (iN b) (iN n) k = k (va_cpy f g a.toNat b.toNat n.toNat) := by
  unfold ac
  rw [if_neg, iN_nat (by omega) (by omega), iN_nat (by omega) (by omega), iN_nat (by omega) (by omega)]
  rw [iN_nat (by omega) (by omega), iN_nat (by omega) (by omega), iN_nat (by omega) (by omega), show (0 : Int32) = iN 0 from rfl, iN_lt (by omega) (by omega) (by omega) (by omega), iN_lt (by omega) (by omega) (by omega) (by omega), iN_lt (by omega) (by omega) (by omega) (by omega)]
  omega
theorem gk_some {k : Nat} {c : Option α} : gk (some k) k c = c := if_pos rfl
/-- a loop that counts: its states at each count, its end -/
theorem lp_add {σ ρ : Type} (body : σ → Option (σ ⊕ ρ)) (st : Nat → σ) : ∀ (K m : Nat), (∀ k, k < K → body (st k) = some (.inl (st (k + 1)))) → lp body (m + K) (st 0) = lp body m (st K) := by
  intro K
  induction K with
  | zero => intro m _; rfl
  | succ K ih =>
    intro m h
    have h1 := ih (m + 1) (fun k hk => h k (by omega))
    rw [show m + (K + 1) = m + 1 + K by omega, h1]
    simp only [lp, h K (by omega), Option.bind_some]
theorem lp_for {σ ρ : Type} (body : σ → Option (σ ⊕ ρ)) (st : Nat → σ) (K : Nat) (fin : ρ) (hs : ∀ k, k < K → body (st k) = some (.inl (st (k + 1)))) (he : body (st K) = some (.inr fin)) (hK : K < fuel) : lp body fuel (st 0) = some fin := by
  obtain ⟨m, hm⟩ : ∃ m, fuel = (m + 1) + K := ⟨fuel - K - 1, by omega⟩
  rw [hm, lp_add body st K (m + 1) hs]
  simp only [lp, he, Option.bind_some]
theorem fuel_ge {k : Nat} (h : k ≤ 1000000) : k < fuel := by unfold fuel; omega
end ZNN
