/-! ===== readers of the segments, class and reference side by side ===== -/
def cnt (p : Nat → Bool) : Nat → Nat
  | 0 => 0
  | k + 1 => cnt p k + if p k = true then 1 else 0
theorem cnt_le (p : Nat → Bool) : ∀ n, cnt p n ≤ n := by
  intro n
  induction n with
  | zero => exact Nat.le_refl 0
  | succ n ih => simp only [cnt]; by_cases h : p n = true <;> simp [h] <;> omega
theorem cnt_congr {p q : Nat → Bool} : ∀ {n : Nat}, (∀ j, j < n → p j = q j) → cnt p n = cnt q n := by
  intro n
  induction n with
  | zero => intro _; rfl
  | succ n ih => intro h; simp only [cnt]; rw [ih (fun j hj => h j (by omega)), h n (by omega)]
/-- the first n segments are the same -/
def EqOn (n : Nat) (g g' : Nat → Int) : Prop := ∀ i : Nat, i < 6 * n → g i = g' i
theorem EqOn.sym {n : Nat} {g g' : Nat → Int} (h : EqOn n g g') : EqOn n g' g := fun i hi => (h i hi).symm
theorem EqOn.liv {n k : Nat} {g g' : Nat → Int} (h : EqOn n g g') (hk : k < n) (t : Int) : Liv g k t ↔ Liv g' k t := by
  unfold Liv; rw [h (6 * k + 4) (by omega), h (6 * k + 5) (by omega)]
theorem EqOn.cov {n k : Nat} {g g' : Nat → Int} (h : EqOn n g g') (hk : k < n) (x : Int) : Cov g k x ↔ Cov g' k x := by
  unfold Cov; rw [h (6 * k + 2) (by omega), h (6 * k + 3) (by omega)]
theorem EqOn.val {n k : Nat} {g g' : Nat → Int} (h : EqOn n g g') (hk : k < n) (x : Int) : Val g k x = Val g' k x := by
  unfold Val; rw [h (6 * k) (by omega), h (6 * k + 1) (by omega)]
theorem EqOn.the {n k : Nat} {g g' : Nat → Int} (h : EqOn n g g') (hk : k < n) (x t : Int) : The g k x t ↔ The g' k x t := by
  unfold The
  exact and_congr (h.cov hk x) (h.liv hk t)
theorem EqOn_fst {n : Nat} {g g' : Nat → Int} (h : EqOn n g g') (x t : Int) : ∀ k, k ≤ n → fst g x t k = fst g' x t k := by
  intro k
  induction k with
  | zero => intro _; rfl
  | succ k ih =>
    intro hk
    have e := ih (by omega)
    have hb := fst_bd g' x t k
    simp only [fst, e]
    by_cases c : fst g' x t k = -1
    · simp only [c, true_or, and_true]
      by_cases c1 : The g k x t
      · rw [if_pos c1, if_pos ((h.the (by omega) x t).mp c1)]
      · rw [if_neg c1, if_neg (fun q => c1 ((h.the (by omega) x t).mpr q))]
    · rw [h.val (show k < n by omega) x, h.val (show (fst g' x t k).toNat < n by omega) x]
      by_cases c1 : The g k x t
      · have c1' := (h.the (show k < n by omega) x t).mp c1
        by_cases c2 : (fst g' x t k = -1 ∨ Val g' k x < Val g' (fst g' x t k).toNat x)
        · rw [if_pos ⟨c1, c2⟩, if_pos ⟨c1', c2⟩]
        · rw [if_neg (fun q => c2 q.2), if_neg (fun q => c2 q.2)]
      · rw [if_neg (fun q => c1 q.1), if_neg (fun q => c1 ((h.the (by omega) x t).mpr q.1))]
theorem SegOK.eqOn {n : Nat} {g g' : Nat → Int} (H : SegOK g n) (h : EqOn n g g') : SegOK g' n := by
  refine ⟨H.1, fun k hk => ?_⟩
  have := H.2 k hk
  rw [← h (6 * k) (by omega), ← h (6 * k + 1) (by omega), ← h (6 * k + 2) (by omega), ← h (6 * k + 3) (by omega), ← h (6 * k + 4) (by omega), ← h (6 * k + 5) (by omega)]
  exact this
/-- what the law compares: the class's answer or throw, the reference's answer and code -/
def agrI (km : Nat → Int) (r : Int32 ⊕ Nat) (b code : Int32) : Prop := match r with
  | .inl v => code = 0 ∧ b = v
  | .inr n => code = iN (km n) ∧ 1 ≤ km n ∧ km n ≤ 3
def agrL (km : Nat → Int) (r : Int64 ⊕ Nat) (b : Int64) (code : Int32) : Prop := match r with
  | .inl v => code = 0 ∧ b = v
  | .inr n => code = iN (km n) ∧ 1 ≤ km n ∧ km n ≤ 3
theorem s7_isBetween (x a b : Int32) : fX7_isBetween x a b = some (if a.toInt ≤ x.toInt ∧ x.toInt ≤ b.toInt then 1 else 0) := by
  unfold fX7_isBetween
  rw [zr_0, zr_1]
  simp only [Int32.lt_iff_toInt_lt]
  by_cases c1 : x.toInt < a.toInt
  · rw [if_pos c1, b01_f (by omega)]
  · rw [if_neg c1]
    by_cases c2 : b.toInt < x.toInt
    · rw [if_pos c2, b01_f (by omega)]
    · rw [if_neg c2, b01_t (by omega)]
theorem s7_rb_t {x a b : Int32} (h : a.toInt ≤ x.toInt ∧ x.toInt ≤ b.toInt) : fX7_requireBetween x a b = some (Sum.inl ()) := by
  unfold fX7_requireBetween
  rw [s7_isBetween, Option.bind_some, if_neg (fun q => b01_0.mp q h)]
theorem s7_rb_f {x a b : Int32} (h : ¬ (a.toInt ≤ x.toInt ∧ x.toInt ≤ b.toInt)) : fX7_requireBetween x a b = some (Sum.inr 1) := by
  unfold fX7_requireBetween
  rw [s7_isBetween, Option.bind_some, if_pos (b01_0.mpr h)]
theorem s6_has {n : Nat} (hn : n ≤ 40) (x : Int32) : fX6_has (iN n) x = some (if 0 ≤ x.toInt ∧ x.toInt < n then 1 else 0) := by
  unfold fX6_has
  rw [zr_0, zr_1]
  have e : (iN (n : Int)).toInt = n := iN_toInt (by omega) (by omega)
  have e0 : (0 : Int32).toInt = 0 := rfl
  simp only [Int32.lt_iff_toInt_lt, Int32.le_iff_toInt_le, e, e0]
  by_cases c1 : x.toInt < 0
  · rw [if_pos c1, b01_f (by omega)]
  · rw [if_neg c1]
    by_cases c2 : (n : Int) ≤ x.toInt
    · rw [if_pos c2, b01_f (by omega)]
    · rw [if_neg c2, b01_t (by omega)]
theorem s7_rs_t {n : Nat} (hn : n ≤ 40) {x : Int32} (h : 0 ≤ x.toInt ∧ x.toInt < n) : fX7_requireSegment (iN n) x = some (Sum.inl ()) := by
  unfold fX7_requireSegment
  rw [s6_has hn, Option.bind_some, if_neg (fun q => b01_0.mp q h)]
theorem s7_rs_f {n : Nat} (hn : n ≤ 40) {x : Int32} (h : ¬ (0 ≤ x.toInt ∧ x.toInt < n)) : fX7_requireSegment (iN n) x = some (Sum.inr 3) := by
  unfold fX7_requireSegment
  rw [s6_has hn, Option.bind_some, if_pos (b01_0.mpr h)]
theorem s7_rp_t {x t : Int32} (h : (0 ≤ x.toInt ∧ x.toInt ≤ 255) ∧ (0 ≤ t.toInt ∧ t.toInt ≤ 16384)) : fX7_requirePlace x t = some (Sum.inl ()) := by
  unfold fX7_requirePlace
  rw [s7_rb_t (a := 0) (b := 255) h.1, Option.bind_some, s7_rb_t (a := 0) (b := 16384) h.2]
  rfl
theorem s7_rp_f {x t : Int32} (h : ¬ ((0 ≤ x.toInt ∧ x.toInt ≤ 255) ∧ (0 ≤ t.toInt ∧ t.toInt ≤ 16384))) : fX7_requirePlace x t = some (Sum.inr 1) := by
  unfold fX7_requirePlace
  by_cases c : 0 ≤ x.toInt ∧ x.toInt ≤ 255
  · rw [s7_rb_t (a := 0) (b := 255) c, Option.bind_some, s7_rb_f (a := 0) (b := 16384) (fun q => h ⟨c, q⟩)]
    rfl
  · rw [s7_rb_f (a := 0) (b := 255) c]
    rfl
theorem m8_isSegment {g : Nat → Int} {n : Nat} (hg : g 0 = n) (hn : n ≤ 40) (x : Int32) : fX8_isSegment (fun i => iN (g i)) x = some (if 0 ≤ x.toInt ∧ x.toInt < n then 1 else 0) := by
  unfold fX8_isSegment
  rw [show (0 : Int32) = iN 0 from rfl, rd_iN (by omega) (by omega) (by omega)]
  simp only [show (0 : Int).toNat = 0 from rfl, hg]
  rw [show (1 : Int32) = iN 1 from rfl, iN_sub, iN_l (by omega) (by omega), show (0 : Int64) = lI 0 from rfl, m8_in32 x (by omega) (by omega) (by omega) (by omega), Option.bind_some, show (iN 1 : Int32) = 1 from rfl, show (iN 0 : Int32) = 0 from rfl, zr_b]
  by_cases c : 0 ≤ x.toInt ∧ x.toInt < n
  · rw [b01_t c, b01_t (by omega)]
  · rw [b01_f c, b01_f (by omega)]
theorem m8_fails (c : Int32) (w : Int32) : fX8_fails c w = some (0, w) := rfl
/-- promise 9 -/
theorem r_segment {g g8 : Nat → Int} {n : Nat} (hg : g8 0 = n) (hn : n ≤ 40) (hE : EqOn n g (sh g8)) (c0 : Int32) (x1 x2 : Int32) : ∃ r b c, fX7_segment (iN n) (fun i => iN (g i)) x1 x2 = some r ∧ fX8_segment c0 (fun i => iN (g8 i)) x1 x2 = some (b, c) ∧ agrI (fun e => if e = 3 then 1 else if e = 1 then 2 else 0) r b c := by
  unfold fX7_segment fX8_segment
  rw [m8_isSegment hg hn, Option.bind_some]
  by_cases c1 : 0 ≤ x1.toInt ∧ x1.toInt < n
  · rw [s7_rs_t hn c1, if_neg (fun q => b01_0.mp q c1), show (0 : Int64) = lI 0 from rfl, show (5 : Int64) = lI 5 from rfl, m8_in32 x2 (by omega) (by omega) (by omega) (by omega), Option.bind_some]
    simp only [Option.bind_some]
    by_cases c2 : 0 ≤ x2.toInt ∧ x2.toInt ≤ 5
    · rw [s7_rb_t (a := 0) (b := 5) c2, if_neg (fun q => b01_0.mp q c2)]
      obtain ⟨k, hk⟩ : ∃ k : Nat, x1.toInt = k := ⟨x1.toInt.toNat, by omega⟩
      obtain ⟨j, hj⟩ : ∃ j : Nat, x2.toInt = j := ⟨x2.toInt.toNat, by omega⟩
      have e1 : x1 = iN k := by rw [← hk]; exact iN_of x1
      have e2 : x2 = iN j := by rw [← hj]; exact iN_of x2
      subst e1; subst e2
      have hk2 : k < n := by omega
      refine ⟨Sum.inl (iN (g (6 * k + j))), iN (sh g8 (6 * k + j)), 0, ?_, ?_, rfl, ?_⟩
      · simp only [tx, Option.bind_some]
        rw [s6_value g k j (by omega) (by omega)]
        rfl
      · rw [m8_of g8 k j (by omega) (by omega)]; rfl
      · rw [hE (6 * k + j) (by omega)]
    · rw [s7_rb_f (a := 0) (b := 5) c2, if_pos (b01_0.mpr c2)]
      exact ⟨_, _, _, rfl, rfl, ⟨rfl, by decide, by decide⟩⟩
  · rw [s7_rs_f hn c1, if_pos (b01_0.mpr c1)]
    exact ⟨_, _, _, rfl, rfl, ⟨rfl, by decide, by decide⟩⟩
