/-! ===== the reference's segments: the same words ===== -/
def sh (g : Nat → Int) : Nat → Int := fun i => g (i + 2)
theorem m8_of (g : Nat → Int) (k j : Nat) (hk : k < 40) (hj : j < 6) : fX8_of (fun i => iN (g i)) (iN k) (iN j) = some (iN (sh g (6 * k + j))) := by
  unfold fX8_of fX8_cell
  rw [Option.bind_some, show (6 : Int32) = iN 6 from rfl, show (2 : Int32) = iN 2 from rfl, iN_mul, iN_add, iN_add, rd_iN (by omega) (by omega) (by omega)]
  have : ((2 : Int) + 6 * (k : Int) + (j : Int)).toNat = 6 * k + j + 2 := by omega
  rw [this]
  rfl
theorem m8_o0 (g : Nat → Int) (k : Nat) (hk : k < 40) : fX8_of (fun i => iN (g i)) (iN k) (0 : Int32) = some (iN (sh g (6 * k))) := m8_of g k 0 hk (by omega)
theorem m8_o1 (g : Nat → Int) (k : Nat) (hk : k < 40) : fX8_of (fun i => iN (g i)) (iN k) (1 : Int32) = some (iN (sh g (6 * k + 1))) := m8_of g k 1 hk (by omega)
theorem m8_o2 (g : Nat → Int) (k : Nat) (hk : k < 40) : fX8_of (fun i => iN (g i)) (iN k) (2 : Int32) = some (iN (sh g (6 * k + 2))) := m8_of g k 2 hk (by omega)
theorem m8_o3 (g : Nat → Int) (k : Nat) (hk : k < 40) : fX8_of (fun i => iN (g i)) (iN k) (3 : Int32) = some (iN (sh g (6 * k + 3))) := m8_of g k 3 hk (by omega)
theorem m8_o4 (g : Nat → Int) (k : Nat) (hk : k < 40) : fX8_of (fun i => iN (g i)) (iN k) (4 : Int32) = some (iN (sh g (6 * k + 4))) := m8_of g k 4 hk (by omega)
theorem m8_o5 (g : Nat → Int) (k : Nat) (hk : k < 40) : fX8_of (fun i => iN (g i)) (iN k) (5 : Int32) = some (iN (sh g (6 * k + 5))) := m8_of g k 5 hk (by omega)
theorem m8_in {x a b : Int} (hx1 : -9223372036854775808 ≤ x) (hx2 : x < 9223372036854775808) (ha1 : -9223372036854775808 ≤ a) (ha2 : a < 9223372036854775808) (hb1 : -9223372036854775808 ≤ b) (hb2 : b < 9223372036854775808) : fX8_in (lI x) (lI a) (lI b) = some (if a ≤ x ∧ x ≤ b then 1 else 0) := by
  unfold fX8_in
  rw [zr_0, zr_1]
  simp only [cmp_lt, cmp_gt, lI_lt hx1 hx2 ha1 ha2, lI_lt hb1 hb2 hx1 hx2]
  by_cases c1 : x < a
  · rw [if_pos c1, b01_f (by omega)]
  · rw [if_neg c1]
    by_cases c2 : b < x
    · rw [if_pos c2, b01_f (by omega)]
    · rw [if_neg c2, b01_t (by omega)]
theorem zr_b {α : Type} {c : Prop} {i : Decidable c} {k : Option α} : zr (@ite _ c i (1 : Int32) 0) k = k := by
  by_cases h : c
  · rw [if_pos h]; exact zr_1
  · rw [if_neg h]; exact zr_0
/-- x as the machine has it, of any size -/
theorem m8_in32 (x : Int32) {a b : Int} (ha1 : -9223372036854775808 ≤ a) (ha2 : a < 9223372036854775808) (hb1 : -9223372036854775808 ≤ b) (hb2 : b < 9223372036854775808) : fX8_in x.toInt64 (lI a) (lI b) = some (if a ≤ x.toInt ∧ x.toInt ≤ b then 1 else 0) := by
  rw [toInt64_lI]
  have h1 := x.le_toInt
  have h2 := x.toInt_lt
  exact m8_in (by omega) (by omega) ha1 ha2 hb1 hb2
theorem m8_isPosition (x : Int32) : fX8_isPosition x = some (if 0 ≤ x.toInt ∧ x.toInt ≤ 255 then 1 else 0) := by
  unfold fX8_isPosition
  rw [show (0 : Int64) = lI 0 from rfl, show (255 : Int64) = lI 255 from rfl, m8_in32 x (by omega) (by omega) (by omega) (by omega), Option.bind_some, zr_b]
theorem m8_isTick (x : Int32) : fX8_isTick x = some (if 0 ≤ x.toInt ∧ x.toInt ≤ 16384 then 1 else 0) := by
  unfold fX8_isTick
  rw [show (0 : Int64) = lI 0 from rfl, show (16384 : Int64) = lI 16384 from rfl, m8_in32 x (by omega) (by omega) (by omega) (by omega), Option.bind_some, zr_b]
theorem m8_isValue (x : Int32) : fX8_isValue x = some (if -1000000 ≤ x.toInt ∧ x.toInt ≤ 1000000 then 1 else 0) := by
  unfold fX8_isValue
  rw [show (-1000000 : Int64) = lI (-1000000) from rfl, show (1000000 : Int64) = lI 1000000 from rfl, m8_in32 x (by omega) (by omega) (by omega) (by omega), Option.bind_some, zr_b]
theorem m8_isLine (a b : Int32) : fX8_isLine a b = some (if (-1000 ≤ a.toInt ∧ a.toInt ≤ 1000) ∧ (-1000000 ≤ b.toInt ∧ b.toInt ≤ 1000000) then 1 else 0) := by
  unfold fX8_isLine
  rw [show (-1000 : Int64) = lI (-1000) from rfl, show (1000 : Int64) = lI 1000 from rfl, show (-1000000 : Int64) = lI (-1000000) from rfl, show (1000000 : Int64) = lI 1000000 from rfl, m8_in32 a (by omega) (by omega) (by omega) (by omega), Option.bind_some, m8_in32 b (by omega) (by omega) (by omega) (by omega), Option.bind_some, zr_0, zr_1]
  by_cases c1 : -1000 ≤ a.toInt ∧ a.toInt ≤ 1000
  · rw [if_neg (fun q => b01_0.mp q c1)]
    by_cases c2 : -1000000 ≤ b.toInt ∧ b.toInt ≤ 1000000
    · rw [if_neg (fun q => b01_0.mp q c2), b01_t ⟨c1, c2⟩]
    · rw [if_pos (b01_0.mpr c2), b01_f (fun q => c2 q.2)]
  · rw [if_pos (b01_0.mpr c1), b01_f (fun q => c1 q.1)]
theorem m8_isPlace (x t : Int32) : fX8_isPlace x t = some (if (0 ≤ x.toInt ∧ x.toInt ≤ 255) ∧ (0 ≤ t.toInt ∧ t.toInt ≤ 16384) then 1 else 0) := by
  unfold fX8_isPlace
  rw [m8_isPosition, Option.bind_some, m8_isTick, Option.bind_some, zr_0, zr_1]
  by_cases c1 : 0 ≤ x.toInt ∧ x.toInt ≤ 255
  · rw [if_neg (fun q => b01_0.mp q c1)]
    by_cases c2 : 0 ≤ t.toInt ∧ t.toInt ≤ 16384
    · rw [if_neg (fun q => b01_0.mp q c2), b01_t ⟨c1, c2⟩]
    · rw [if_pos (b01_0.mpr c2), b01_f (fun q => c2 q.2)]
  · rw [if_pos (b01_0.mpr c1), b01_f (fun q => c1 q.1)]
theorem m8_isLive {g : Nat → Int} {n k : Nat} (H : SegOK (sh g) n) (hk : k < n) {t : Int} (h0 : 0 ≤ t) (h1 : t ≤ 16384) : fX8_isLive (fun i => iN (g i)) (iN k) (iN t) = some (if Liv (sh g) k t then 1 else 0) := by
  have hk4 := H.le40 hk
  obtain ⟨-, -, -, a1, a2, a3⟩ := H.2 k hk
  unfold fX8_isLive
  rw [m8_o4 g k hk4, Option.bind_some, m8_o5 g k hk4, Option.bind_some, zr_0, zr_1]
  simp only [iN_lt (show -2147483648 ≤ t by omega) (by omega) (show -2147483648 ≤ sh g (6 * k + 4) by omega) (by omega), iN_le (show -2147483648 ≤ sh g (6 * k + 5) by omega) (by omega) (show -2147483648 ≤ t by omega) (by omega)]
  by_cases c1 : t < sh g (6 * k + 4)
  · rw [if_pos c1, b01_f (by omega)]
  · rw [if_neg c1]
    by_cases c2 : sh g (6 * k + 5) ≤ t
    · rw [if_pos c2, b01_f (by omega)]
    · rw [if_neg c2, b01_t (by omega)]
theorem m8_isThere {g : Nat → Int} {n k : Nat} (H : SegOK (sh g) n) (hk : k < n) {x t : Int} (h0 : 0 ≤ x) (h1 : x ≤ 255) (h2 : 0 ≤ t) (h3 : t ≤ 16384) : fX8_isThere (fun i => iN (g i)) (iN k) (iN x) (iN t) = some (if The (sh g) k x t then 1 else 0) := by
  have hk4 := H.le40 hk
  obtain ⟨-, -, ⟨a1, a2, a3⟩, -⟩ := H.2 k hk
  unfold fX8_isThere
  rw [m8_isLive H hk h2 h3, Option.bind_some, m8_o2 g k hk4, Option.bind_some, m8_o3 g k hk4, Option.bind_some, iN_l (by omega) (by omega), iN_l (by omega) (by omega), iN_l (by omega) (by omega), m8_in (by omega) (by omega) (by omega) (by omega) (by omega) (by omega), Option.bind_some, zr_0, zr_1]
  by_cases c1 : Liv (sh g) k t
  · rw [if_neg (fun q => b01_0.mp q c1)]
    by_cases c2 : Cov (sh g) k x
    · rw [if_neg (fun q => b01_0.mp q c2), b01_t ⟨c2, c1⟩]
    · rw [if_pos (b01_0.mpr c2), b01_f (fun q => c2 q.1)]
  · rw [if_pos (b01_0.mpr c1), b01_f (fun q => c1 q.2)]
theorem m8_valueAt (g : Nat → Int) (k : Nat) (hk : k < 40) (x : Int) : fX8_valueAt (fun i => iN (g i)) (iN k) (iN x) = some (iN (Val (sh g) k x)) := by
  unfold fX8_valueAt
  rw [m8_o0 g k hk, Option.bind_some, m8_o1 g k hk, Option.bind_some, iN_mul, iN_add]
theorem m8_isBefore {g : Nat → Int} {n k j : Nat} (H : SegOK (sh g) n) (hk : k < n) (hj : j < n) {x : Int} (h0 : 0 ≤ x) (h1 : x ≤ 255) : fX8_isBefore (fun i => iN (g i)) (iN k) (iN j) (iN x) = some (if Val (sh g) k x < Val (sh g) j x ∨ (Val (sh g) k x = Val (sh g) j x ∧ k < j) then 1 else 0) := by
  have hk4 := H.le40 hk
  have hj4 := H.le40 hj
  have v1 := Val_bd H hk h0 h1
  have v2 := Val_bd H hj h0 h1
  unfold fX8_isBefore
  rw [m8_valueAt g k hk4, Option.bind_some, m8_valueAt g j hj4, Option.bind_some, zr_0, zr_1]
  generalize Val (sh g) k x = a at v1 ⊢
  generalize Val (sh g) j x = b at v2 ⊢
  simp only [iN_lt (show -2147483648 ≤ a by omega) (by omega) (show -2147483648 ≤ b by omega) (by omega), iN_eq (show -2147483648 ≤ a by omega) (by omega) (show -2147483648 ≤ b by omega) (by omega), iN_le (show -2147483648 ≤ (j : Int) by omega) (by omega) (show -2147483648 ≤ (k : Int) by omega) (by omega)]
  by_cases c1 : a < b
  · rw [if_pos c1, b01_t (Or.inl c1)]
  · rw [if_neg c1]
    by_cases c2 : a = b
    · rw [if_pos c2]
      by_cases c3 : (j : Int) ≤ k
      · rw [if_pos c3, b01_f (by omega)]
      · rw [if_neg c3, b01_t (by omega)]
    · rw [if_neg c2, b01_f (by omega)]
theorem m8_firstAt {g : Nat → Int} {n : Nat} (hg : g 0 = n) (H : SegOK (sh g) n) {x t : Int} (h0 : 0 ≤ x) (h1 : x ≤ 255) (h2 : 0 ≤ t) (h3 : t ≤ 16384) : fX8_firstAt (fun i => iN (g i)) (iN x) (iN t) = some (iN (fst (sh g) x t n)) := by
  have hn := H.1
  unfold fX8_firstAt
  refine lp_for _ (fun k => (iN (fst (sh g) x t k), iN (k : Int))) n _ ?_ ?_ (fuel_ge (by omega))
  · intro k hk
    have hk4 := H.le40 hk
    have hb := fst_bd (sh g) x t k
    show bX8_firstAt_5 _ _ _ (iN (fst (sh g) x t k)) (iN (k : Int)) = _
    unfold bX8_firstAt_5
    rw [show (0 : Int32) = iN 0 from rfl, rd_iN (by omega) (by omega) (by omega)]
    simp only [show (0 : Int).toNat = 0 from rfl, hg]
    rw [if_neg (by rw [iN_le (by omega) (by omega) (by omega) (by omega)]; omega), m8_isThere H hk h0 h1 h2 h3, Option.bind_some]
    have e1 : iN (k : Int) + (1 : Int32) = iN ((k + 1 : Nat) : Int) := iN_add k 1
    simp only [nm, e1, show iN 0 = (0 : Int32) from rfl]
    by_cases c1 : The (sh g) k x t
    · rw [if_neg (fun q => b01_0.mp q c1)]
      by_cases c2 : fst (sh g) x t k = -1
      · have e2 : iN (fst (sh g) x t k) = (-1 : Int32) := by rw [c2]; rfl
        rw [if_pos e2]
        have e3 : fst (sh g) x t (k + 1) = k := if_pos ⟨c1, Or.inl c2⟩
        rw [e3]
      · have e2 : ¬ iN (fst (sh g) x t k) = (-1 : Int32) := by
          rw [show (-1 : Int32) = iN (-1) from rfl, iN_eq (by omega) (by omega) (by omega) (by omega)]; exact c2
        rw [if_neg e2]
        obtain ⟨j, hj⟩ : ∃ j : Nat, fst (sh g) x t k = j := ⟨(fst (sh g) x t k).toNat, by omega⟩
        rw [hj, m8_isBefore H hk (show j < n by omega) h0 h1, Option.bind_some]
        by_cases c3 : Val (sh g) k x < Val (sh g) j x
        · rw [if_neg (fun q => b01_0.mp q (Or.inl c3))]
          have e3 : fst (sh g) x t (k + 1) = k := if_pos ⟨c1, Or.inr (by rw [hj]; exact c3)⟩
          rw [e3]
        · rw [if_pos (b01_0.mpr (fun q => q.elim c3 (fun z => by omega)))]
          have e3 : fst (sh g) x t (k + 1) = fst (sh g) x t k := if_neg (fun q => q.2.elim c2 (by rw [hj]; exact c3))
          rw [e3, hj]
    · rw [if_pos (b01_0.mpr c1)]
      have e3 : fst (sh g) x t (k + 1) = fst (sh g) x t k := if_neg (fun q => c1 q.1)
      rw [e3]
  · show bX8_firstAt_5 _ _ _ (iN (fst (sh g) x t n)) (iN (n : Int)) = _
    unfold bX8_firstAt_5
    rw [show (0 : Int32) = iN 0 from rfl, rd_iN (by omega) (by omega) (by omega)]
    simp only [show (0 : Int).toNat = 0 from rfl, hg]
    rw [if_pos (by rw [iN_le (by omega) (by omega) (by omega) (by omega)]; omega)]
    rfl
