/-! ===== the segments: what they say, on whole numbers ===== -/
abbrev Liv (g : Nat → Int) (k : Nat) (t : Int) : Prop := g (6 * k + 4) ≤ t ∧ t < g (6 * k + 5)
abbrev Cov (g : Nat → Int) (k : Nat) (x : Int) : Prop := g (6 * k + 2) ≤ x ∧ x ≤ g (6 * k + 3)
abbrev Val (g : Nat → Int) (k : Nat) (x : Int) : Int := g (6 * k) * x + g (6 * k + 1)
abbrev The (g : Nat → Int) (k : Nat) (x t : Int) : Prop := Cov g k x ∧ Liv g k t
def SegOK (g : Nat → Int) (n : Nat) : Prop := n ≤ 40 ∧ ∀ k : Nat, k < n → (-1000 ≤ g (6 * k) ∧ g (6 * k) ≤ 1000) ∧ (-1000000 ≤ g (6 * k + 1) ∧ g (6 * k + 1) ≤ 1000000) ∧ (0 ≤ g (6 * k + 2) ∧ g (6 * k + 2) ≤ g (6 * k + 3) ∧ g (6 * k + 3) ≤ 255) ∧ (0 ≤ g (6 * k + 4) ∧ g (6 * k + 4) ≤ g (6 * k + 5) ∧ g (6 * k + 5) ≤ 16384)
theorem mul_bd {a x A X : Int} (h1 : -A ≤ a) (h2 : a ≤ A) (h3 : 0 ≤ x) (h4 : x ≤ X) (hA : 0 ≤ A) : -(A * X) ≤ a * x ∧ a * x ≤ A * X := by
  have e1 : a * x ≤ A * x := Int.mul_le_mul_of_nonneg_right h2 h3
  have e2 : A * x ≤ A * X := Int.mul_le_mul_of_nonneg_left h4 hA
  have e3 : -A * x ≤ a * x := Int.mul_le_mul_of_nonneg_right h1 h3
  have e4 : -A * x = -(A * x) := Int.neg_mul A x
  omega
theorem Val_bd {g : Nat → Int} {n k : Nat} (h : SegOK g n) (hk : k < n) {x : Int} (h0 : 0 ≤ x) (h1 : x ≤ 255) : -1255000 ≤ Val g k x ∧ Val g k x ≤ 1255000 := by
  obtain ⟨⟨a1, a2⟩, ⟨b1, b2⟩, -⟩ := h.2 k hk
  have := mul_bd a1 a2 h0 h1 (by omega)
  unfold Val
  omega
/-- whether, as the code says it -/
def b01 (c : Prop) (i : Decidable c) : Int32 := if c then 1 else 0
theorem b01_t {c : Prop} {i : Decidable c} (h : c) : @ite _ c i (1 : Int32) 0 = 1 := if_pos h
theorem b01_f {c : Prop} {i : Decidable c} (h : ¬ c) : @ite _ c i (1 : Int32) 0 = 0 := if_neg h
theorem b01_0 {c : Prop} {i : Decidable c} : (@ite _ c i (1 : Int32) 0 = 0) ↔ ¬ c := by
  by_cases h : c
  · rw [if_pos h]; exact ⟨fun q => absurd q (by decide), fun q => absurd h q⟩
  · rw [if_neg h]; exact ⟨fun _ => h, fun _ => rfl⟩
theorem s6_value (g : Nat → Int) (k j : Nat) (hk : k < 40) (hj : j < 6) : fX6_value (fun i => iN (g i)) (iN k) (iN j) = some (iN (g (6 * k + j))) := by
  unfold fX6_value
  simp only [nm]
  rw [show (6 : Int32) = iN 6 from rfl, show (0 : Int32) = iN 0 from rfl, show (240 : Int32) = iN 240 from rfl, iN_mul, iN_add, if_neg, if_neg, rd_iN (by omega) (by omega) (by omega)]
  · have : ((k : Int) * 6 + j).toNat = 6 * k + j := by omega
    rw [this]
  · rw [iN_le (by omega) (by omega) (by omega) (by omega)]; omega
  · rw [iN_lt (by omega) (by omega) (by omega) (by omega)]; omega
theorem s6_v0 (g : Nat → Int) (k : Nat) (hk : k < 40) : fX6_value (fun i => iN (g i)) (iN k) (0 : Int32) = some (iN (g (6 * k))) := s6_value g k 0 hk (by omega)
theorem s6_v1 (g : Nat → Int) (k : Nat) (hk : k < 40) : fX6_value (fun i => iN (g i)) (iN k) (1 : Int32) = some (iN (g (6 * k + 1))) := s6_value g k 1 hk (by omega)
theorem s6_v2 (g : Nat → Int) (k : Nat) (hk : k < 40) : fX6_value (fun i => iN (g i)) (iN k) (2 : Int32) = some (iN (g (6 * k + 2))) := s6_value g k 2 hk (by omega)
theorem s6_v3 (g : Nat → Int) (k : Nat) (hk : k < 40) : fX6_value (fun i => iN (g i)) (iN k) (3 : Int32) = some (iN (g (6 * k + 3))) := s6_value g k 3 hk (by omega)
theorem s6_v4 (g : Nat → Int) (k : Nat) (hk : k < 40) : fX6_value (fun i => iN (g i)) (iN k) (4 : Int32) = some (iN (g (6 * k + 4))) := s6_value g k 4 hk (by omega)
theorem s6_v5 (g : Nat → Int) (k : Nat) (hk : k < 40) : fX6_value (fun i => iN (g i)) (iN k) (5 : Int32) = some (iN (g (6 * k + 5))) := s6_value g k 5 hk (by omega)
section ZS6
variable {g : Nat → Int} {n : Nat} (H : SegOK g n)
theorem SegOK.le40 {g : Nat → Int} {n k : Nat} (H : SegOK g n) (hk : k < n) : k < 40 := Nat.lt_of_lt_of_le hk H.1
theorem s6_isLive {g : Nat → Int} {n k : Nat} (H : SegOK g n) (hk : k < n) {t : Int} (h0 : 0 ≤ t) (h1 : t ≤ 16384) : fX6_isLive (fun i => iN (g i)) (iN k) (iN t) = some (if Liv g k t then 1 else 0) := by
  have hk4 := H.le40 hk
  obtain ⟨-, -, -, a1, a2, a3⟩ := H.2 k hk
  unfold fX6_isLive
  rw [s6_v4 g k hk4, Option.bind_some, s6_v5 g k hk4, Option.bind_some, zr_0, zr_1]
  simp only [iN_lt (show -2147483648 ≤ t by omega) (by omega) (show -2147483648 ≤ g (6 * k + 4) by omega) (by omega), iN_le (show -2147483648 ≤ g (6 * k + 5) by omega) (by omega) (show -2147483648 ≤ t by omega) (by omega)]
  by_cases c1 : t < g (6 * k + 4)
  · rw [if_pos c1, b01_f (by omega)]
  · rw [if_neg c1]
    by_cases c2 : g (6 * k + 5) ≤ t
    · rw [if_pos c2, b01_f (by omega)]
    · rw [if_neg c2, b01_t (by omega)]
theorem s6_covers {g : Nat → Int} {n k : Nat} (H : SegOK g n) (hk : k < n) {x : Int} (h0 : 0 ≤ x) (h1 : x ≤ 255) : fX6_covers (fun i => iN (g i)) (iN k) (iN x) = some (if Cov g k x then 1 else 0) := by
  have hk4 := H.le40 hk
  obtain ⟨-, -, ⟨a1, a2, a3⟩, -⟩ := H.2 k hk
  unfold fX6_covers
  rw [s6_v2 g k hk4, Option.bind_some, s6_v3 g k hk4, Option.bind_some, zr_0, zr_1]
  simp only [iN_lt (show -2147483648 ≤ x by omega) (by omega) (show -2147483648 ≤ g (6 * k + 2) by omega) (by omega), iN_lt (show -2147483648 ≤ g (6 * k + 3) by omega) (by omega) (show -2147483648 ≤ x by omega) (by omega)]
  by_cases c1 : x < g (6 * k + 2)
  · rw [if_pos c1, b01_f (by omega)]
  · rw [if_neg c1]
    by_cases c2 : g (6 * k + 3) < x
    · rw [if_pos c2, b01_f (by omega)]
    · rw [if_neg c2, b01_t (by omega)]
theorem s6_isThere {g : Nat → Int} {n k : Nat} (H : SegOK g n) (hk : k < n) {x t : Int} (h0 : 0 ≤ x) (h1 : x ≤ 255) (h2 : 0 ≤ t) (h3 : t ≤ 16384) : fX6_isThere (fun i => iN (g i)) (iN k) (iN x) (iN t) = some (if The g k x t then 1 else 0) := by
  unfold fX6_isThere
  rw [s6_covers H hk h0 h1, Option.bind_some, s6_isLive H hk h2 h3, Option.bind_some, zr_0, zr_1]
  by_cases c1 : Cov g k x
  · rw [if_neg (fun q => b01_0.mp q c1)]
    by_cases c2 : Liv g k t
    · rw [if_neg (fun q => b01_0.mp q c2), b01_t ⟨c1, c2⟩]
    · rw [if_pos (b01_0.mpr c2), b01_f (fun q => c2 q.2)]
  · rw [if_pos (b01_0.mpr c1), b01_f (fun q => c1 q.1)]
theorem s6_height (g : Nat → Int) (k : Nat) (hk : k < 40) (x : Int) : fX6_height (fun i => iN (g i)) (iN k) (iN x) = some (iN (Val g k x)) := by
  unfold fX6_height
  rw [s6_v0 g k hk, Option.bind_some, s6_v1 g k hk, Option.bind_some, iN_mul, iN_add]
end ZS6
/-- the first one of the ranking among the first k -/
def fst (g : Nat → Int) (x t : Int) : Nat → Int
  | 0 => -1
  | k + 1 => if The g k x t ∧ (fst g x t k = -1 ∨ Val g k x < Val g (fst g x t k).toNat x) then (k : Int) else fst g x t k
theorem fst_bd (g : Nat → Int) (x t : Int) : ∀ k : Nat, -1 ≤ fst g x t k ∧ fst g x t k < k := by
  intro k
  induction k with
  | zero => simp [fst]
  | succ k ih =>
    unfold fst
    by_cases c : The g k x t ∧ (fst g x t k = -1 ∨ Val g k x < Val g (fst g x t k).toNat x)
    · rw [if_pos c]; omega
    · rw [if_neg c]; omega
def lst (g : Nat → Int) (x t : Int) (k : Nat) : Int := if fst g x t k = -1 then 0 else Val g (fst g x t k).toNat x
theorem s6_firstAt {g : Nat → Int} {n : Nat} (H : SegOK g n) {x t : Int} (h0 : 0 ≤ x) (h1 : x ≤ 255) (h2 : 0 ≤ t) (h3 : t ≤ 16384) : fX6_firstAt (iN n) (fun i => iN (g i)) (iN x) (iN t) = some (iN (fst g x t n)) := by
  have hn := H.1
  unfold fX6_firstAt
  refine lp_for _ (fun k => (iN (fst g x t k), iN (lst g x t k), iN (k : Int))) n _ ?_ ?_ (fuel_ge (by omega))
  · intro k hk
    have hk4 := H.le40 hk
    have hb := fst_bd g x t k
    have hv := Val_bd H hk h0 h1
    show bX6_firstAt_8 _ _ _ _ (iN (fst g x t k)) (iN (lst g x t k)) (iN (k : Int)) = _
    unfold bX6_firstAt_8
    rw [if_neg (by rw [iN_le (by omega) (by omega) (by omega) (by omega)]; omega), s6_isThere H hk h0 h1 h2 h3, Option.bind_some]
    have e1 : iN (k : Int) + (1 : Int32) = iN ((k + 1 : Nat) : Int) := iN_add k 1
    simp only [nm, e1]
    by_cases c1 : The g k x t
    · rw [if_neg (fun q => b01_0.mp q c1), s6_height g k hk4, Option.bind_some]
      unfold jX6_firstAt_49
      simp only [nm, e1]
      by_cases c2 : fst g x t k = -1
      · have e2 : iN (fst g x t k) = (-1 : Int32) := by rw [c2]; rfl
        rw [if_pos e2]
        have e3 : fst g x t (k + 1) = k := if_pos ⟨c1, Or.inl c2⟩
        have e4 : lst g x t (k + 1) = Val g k x := by
          unfold lst; rw [e3, if_neg (by omega)]; rfl
        rw [e3, e4]
      · have e2 : ¬ iN (fst g x t k) = (-1 : Int32) := by
          rw [show (-1 : Int32) = iN (-1) from rfl, iN_eq (by omega) (by omega) (by omega) (by omega)]; exact c2
        rw [if_neg e2]
        have e5 : lst g x t k = Val g (fst g x t k).toNat x := if_neg c2
        have hv2 := Val_bd H (show (fst g x t k).toNat < n by omega) h0 h1
        rw [e5]
        by_cases c3 : Val g k x < Val g (fst g x t k).toNat x
        · rw [if_neg (by rw [iN_le (by omega) (by omega) (by omega) (by omega)]; omega)]
          have e3 : fst g x t (k + 1) = k := if_pos ⟨c1, Or.inr c3⟩
          have e4 : lst g x t (k + 1) = Val g k x := by
            unfold lst; rw [e3, if_neg (by omega)]; rfl
          rw [e3, e4]
        · rw [if_pos (by rw [iN_le (by omega) (by omega) (by omega) (by omega)]; omega)]
          have e3 : fst g x t (k + 1) = fst g x t k := if_neg (fun q => q.2.elim c2 c3)
          have e4 : lst g x t (k + 1) = Val g (fst g x t k).toNat x := by
            unfold lst; rw [e3, if_neg c2]
          rw [e3, e4]
    · rw [if_pos (b01_0.mpr c1)]
      have e3 : fst g x t (k + 1) = fst g x t k := if_neg (fun q => c1 q.1)
      have e4 : lst g x t (k + 1) = lst g x t k := by unfold lst; rw [e3]
      rw [e3, e4]
  · show bX6_firstAt_8 _ _ _ _ (iN (fst g x t n)) (iN (lst g x t n)) (iN (n : Int)) = _
    unfold bX6_firstAt_8
    rw [if_pos (by rw [iN_le (by omega) (by omega) (by omega) (by omega)]; omega)]
    rfl
