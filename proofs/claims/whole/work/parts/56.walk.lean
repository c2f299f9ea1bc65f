/-! ===== the walk along a division ===== -/
noncomputable def dl (a e : Nat) : Nat := @dite Nat (∃ L, IsLen a e L) (Classical.propDecidable _) (fun h => Classical.choose h) (fun _ => 1)
theorem dl_ok {a e : Nat} (hae : a < e) (he : e ≤ 16384) : IsLen a e (dl a e) := by
  obtain ⟨L, -, h⟩ := s0_largest hae he
  have hx : ∃ L, IsLen a e L := ⟨L, h⟩
  unfold dl
  rw [dif_pos hx]
  exact Classical.choose_spec hx
theorem s0_dl {a e : Nat} (hae : a < e) (he : e ≤ 16384) : fX0_largest (iN (a : Int)) (iN (e : Int)) = some (iN (dl a e : Nat)) := by
  obtain ⟨L, h1, h⟩ := s0_largest hae he
  rw [h1, h.uniq (dl_ok hae he)]
theorem m8_dl {a e : Nat} (hae : a < e) (he : e ≤ 16384) : fX8_lengthAt (iN (a : Int)) (iN (e : Int)) = some (iN (dl a e : Nat)) := by
  obtain ⟨L, h1, h⟩ := m8_lengthAt hae he
  rw [h1, h.uniq (dl_ok hae he)]
theorem dl_pos {a e : Nat} (hae : a < e) (he : e ≤ 16384) : 1 ≤ dl a e ∧ a + dl a e ≤ e := by
  obtain ⟨⟨k, -, hk⟩, -, h, -⟩ := dl_ok hae he
  have : 0 < 2 ^ k := Nat.pow_pos (by omega)
  omega
noncomputable def wk (a e : Nat) : Nat → Nat
  | 0 => a
  | i + 1 => if wk a e i < e then wk a e i + dl (wk a e i) e else wk a e i
theorem wk_le {a e : Nat} (hae : a ≤ e) (he : e ≤ 16384) : ∀ i, a ≤ wk a e i ∧ wk a e i ≤ e := by
  intro i
  induction i with
  | zero => exact ⟨Nat.le_refl _, hae⟩
  | succ i ih =>
    unfold wk
    by_cases c : wk a e i < e
    · have := dl_pos c he
      rw [if_pos c]; omega
    · rw [if_neg c]; exact ih
theorem wk_ex {a e : Nat} (he : e ≤ 16384) : ∀ m i, e - wk a e i ≤ m → (∀ j, j < i → wk a e j < e) → ∃ N, N ≤ i + m ∧ (∀ j, j < N → wk a e j < e) ∧ e ≤ wk a e N := by
  intro m
  induction m with
  | zero => intro i h hj; exact ⟨i, by omega, hj, by omega⟩
  | succ m ih =>
    intro i h hj
    by_cases c : wk a e i < e
    · have hp := dl_pos c he
      have e1 : wk a e (i + 1) = wk a e i + dl (wk a e i) e := if_pos c
      obtain ⟨N, h1, h2⟩ := ih (i + 1) (by omega) (fun j hj2 => by
        by_cases q : j = i
        · subst q; exact c
        · exact hj j (by omega))
      exact ⟨N, by omega, h2⟩
    · exact ⟨i, by omega, hj, by omega⟩
/-- how many pieces -/
theorem nI_ex (a e : Nat) (he : e ≤ 16384) : ∃ N, N ≤ e - a ∧ (∀ j, j < N → wk a e j < e) ∧ e ≤ wk a e N := by
  obtain ⟨N, h1, h2⟩ := wk_ex (a := a) he (e - a) 0 (Nat.le_refl _) (fun j hj => absurd hj (Nat.not_lt_zero j))
  exact ⟨N, by omega, h2⟩
theorem wk_succ {a e i : Nat} (h : wk a e i < e) : wk a e (i + 1) = wk a e i + dl (wk a e i) e := if_pos h
theorem s0_count {a e N : Nat} (hae : a ≤ e) (he : e ≤ 16384) (h1 : N ≤ e - a) (h2 : ∀ j, j < N → wk a e j < e) (h3 : e ≤ wk a e N) : fX0_count (iN (a : Int)) (iN (e : Int)) = some (iN (N : Int)) := by
  unfold fX0_count
  refine lp_for _ (fun i => (iN (i : Int), iN (wk a e i : Nat))) N _ ?_ ?_ (fuel_ge (by omega))
  · intro i hi
    have hw := wk_le hae he i
    have hd := dl_pos (h2 i hi) he
    show bX0_count_4 _ (iN (i : Int)) (iN (wk a e i : Nat)) = _
    unfold bX0_count_4
    rw [if_neg (by rw [show (16384 : Int32) = iN 16384 from rfl, iN_le (by omega) (by omega) (by omega) (by omega)]; omega), if_neg (by rw [iN_le (by omega) (by omega) (by omega) (by omega)]; have := h2 i hi; omega), s0_dl (h2 i hi) he]
    simp only [Option.bind_some, nm, iN_succ, iN_add]
    rw [wk_succ (h2 i hi), Int.natCast_add (wk a e i) (dl (wk a e i) e)]
  · have hw := wk_le hae he N
    show bX0_count_4 _ (iN (N : Int)) (iN (wk a e N : Nat)) = _
    unfold bX0_count_4
    by_cases c : 16384 ≤ N
    · rw [if_pos (by rw [show (16384 : Int32) = iN 16384 from rfl, iN_le (by omega) (by omega) (by omega) (by omega)]; omega)]; rfl
    · rw [if_neg (by rw [show (16384 : Int32) = iN 16384 from rfl, iN_le (by omega) (by omega) (by omega) (by omega)]; omega), if_pos (by rw [iN_le (by omega) (by omega) (by omega) (by omega)]; omega)]; rfl
/-- a life as natural numbers -/
theorem life_nat {g : Nat → Int} {n m : Nat} (H : SegOK g n) (hm : m < n) : ∃ a e : Nat, g (6 * m + 4) = a ∧ g (6 * m + 5) = e ∧ a ≤ e ∧ e ≤ 16384 := by
  obtain ⟨-, -, -, a1, a2, a3⟩ := H.2 m hm
  exact ⟨(g (6 * m + 4)).toNat, (g (6 * m + 5)).toNat, by omega, by omega, by omega, by omega⟩
theorem m8_intervalCount {g : Nat → Int} {m a e N : Nat} (hm : m < 40) (ha : sh g (6 * m + 4) = a) (hb : sh g (6 * m + 5) = e) (hae : a ≤ e) (he : e ≤ 16384) (h1 : N ≤ e - a) (h2 : ∀ j, j < N → wk a e j < e) (h3 : e ≤ wk a e N) : fX8_intervalCount (fun i => iN (g i)) (iN (m : Int)) = some (iN (N : Int)) := by
  have v5 := m8_o5 g m hm
  rw [hb] at v5
  unfold fX8_intervalCount
  rw [m8_o4 g m hm, ha, qb]
  refine lp_for _ (fun i => (iN (i : Int), iN (wk a e i : Nat))) N _ ?_ ?_ (fuel_ge (by omega))
  · intro i hi
    have hw := wk_le hae he i
    show bX8_intervalCount_9 _ _ (iN (i : Int)) (iN (wk a e i : Nat)) = _
    unfold bX8_intervalCount_9
    rw [v5, Option.bind_some, if_neg (by rw [iN_le (by omega) (by omega) (by omega) (by omega)]; have := h2 i hi; omega), Option.bind_some, m8_dl (h2 i hi) he]
    simp only [Option.bind_some, nm, iN_succ, iN_add]
    rw [wk_succ (h2 i hi), Int.natCast_add (wk a e i) (dl (wk a e i) e)]
  · have hw := wk_le hae he N
    show bX8_intervalCount_9 _ _ (iN (N : Int)) (iN (wk a e N : Nat)) = _
    unfold bX8_intervalCount_9
    rw [v5, Option.bind_some, if_pos (by rw [iN_le (by omega) (by omega) (by omega) (by omega)]; omega)]; rfl
/-- promise 22: intervals -/
theorem r_intervals {g g8 : Nat → Int} {n : Nat} (hg : g8 0 = n) (H : SegOK g n) (hE : EqOn n g (sh g8)) (c0 : Int32) (x1 : Int32) : ∃ r b c, fX7_intervals (iN n) (fun i => iN (g i)) x1 = some r ∧ fX8_intervals c0 (fun i => iN (g8 i)) x1 = some (b, c) ∧ agrI (fun e => if e = 3 then 1 else 0) r b c := by
  have hn := H.1
  unfold fX7_intervals fX8_intervals
  rw [m8_isSegment hg hn, qb]
  by_cases c1 : 0 ≤ x1.toInt ∧ x1.toInt < n
  · rw [s7_rs_t hn c1, if_neg (fun q => b01_0.mp q c1), qb, qt]
    obtain ⟨m, hm⟩ : ∃ k : Nat, x1.toInt = k := ⟨x1.toInt.toNat, by omega⟩
    have hmn : m < n := by omega
    rw [iN_of x1, hm]
    obtain ⟨a, e, ha, hb, hae, he⟩ := life_nat H hmn
    obtain ⟨N, h1, h2, h3⟩ := nI_ex a e he
    rw [s6_v4 g m (by omega), qb, s6_v5 g m (by omega), qb, ha, hb, s0_count hae he h1 h2 h3, m8_intervalCount (g := g8) (by omega) (by rw [← hE _ (by omega)]; exact ha) (by rw [← hE _ (by omega)]; exact hb) hae he h1 h2 h3]
    exact ⟨_, _, _, rfl, rfl, rfl, rfl⟩
  · rw [s7_rs_f hn c1, if_pos (b01_0.mpr c1)]
    exact ⟨_, _, _, rfl, rfl, rfl, by decide, by decide⟩
theorem s0_firstTick {a e N : Nat} (hae : a ≤ e) (he : e ≤ 16384) (h1 : N ≤ e - a) (h2 : ∀ j, j < N → wk a e j < e) (h3 : e ≤ wk a e N) (x : Int) (hx0 : -2147483648 ≤ x) (hx1 : x < 2147483648) : fX0_firstTick (iN (a : Int)) (iN (e : Int)) (iN x) = some (iN (if 0 ≤ x ∧ x < N then (wk a e x.toNat : Nat) else -1)) := by
  unfold fX0_firstTick
  have hK : ∃ K : Nat, K ≤ N ∧ (x < K ∨ x = K ∨ K = N) ∧ (K = 0 ∨ (K : Int) ≤ x) := by
    by_cases c : x < 0
    · exact ⟨0, by omega, Or.inl (by omega), Or.inl rfl⟩
    · by_cases d : x < N
      · exact ⟨x.toNat, by omega, by omega, by omega⟩
      · exact ⟨N, by omega, by omega, by omega⟩
  obtain ⟨K, k1, k2, k3⟩ := hK
  refine lp_for _ (fun i => (iN (wk a e i : Nat), iN (i : Int))) K _ ?_ ?_ (fuel_ge (by omega))
  · intro i hi
    have hw := wk_le hae he i
    have hl := h2 i (by omega)
    show bX0_firstTick_5 _ _ (iN (wk a e i : Nat)) (iN (i : Int)) = _
    unfold bX0_firstTick_5
    rw [if_neg (by rw [iN_le (by omega) (by omega) (by omega) (by omega)]; omega), if_neg (by rw [iN_le (by omega) (by omega) (by omega) (by omega)]; omega), s0_dl hl he]
    simp only [Option.bind_some, nm, iN_succ, iN_add]
    rw [wk_succ hl, Int.natCast_add (wk a e i) (dl (wk a e i) e)]
  · have hw := wk_le hae he K
    have hj : jX0_firstTick_30 (iN (e : Int)) (iN x) (iN (wk a e K : Nat)) = some (iN (if 0 ≤ x ∧ x < N then (wk a e x.toNat : Nat) else -1)) := by
      unfold jX0_firstTick_30
      by_cases c : x < 0
      · rw [if_pos (by rw [show (0 : Int32) = iN 0 from rfl, iN_lt (by omega) (by omega) (by omega) (by omega)]; omega), if_neg (by omega)]; rfl
      · rw [if_neg (by rw [show (0 : Int32) = iN 0 from rfl, iN_lt (by omega) (by omega) (by omega) (by omega)]; omega)]
        by_cases d : x < N
        · have hKx : K = x.toNat := by omega
          have hl := h2 K (by omega)
          rw [if_neg (by rw [iN_le (by omega) (by omega) (by omega) (by omega)]; omega), if_pos ⟨by omega, d⟩, ← hKx]
        · have hKx : K = N := by omega
          rw [hKx] at hw ⊢
          rw [if_pos (by rw [iN_le (by omega) (by omega) (by omega) (by omega)]; omega), if_neg (by omega)]; rfl
    show bX0_firstTick_5 _ _ (iN (wk a e K : Nat)) (iN (K : Int)) = _
    unfold bX0_firstTick_5
    rw [hj]
    by_cases c : x ≤ K
    · rw [if_pos (by rw [iN_le (by omega) (by omega) (by omega) (by omega)]; omega)]; rfl
    · have hKN : K = N := by omega
      rw [hKN] at hw ⊢
      rw [if_neg (by rw [iN_le (by omega) (by omega) (by omega) (by omega)]; omega), if_pos (by rw [iN_le (by omega) (by omega) (by omega) (by omega)]; omega)]; rfl
/-- promise 22: interval -/
theorem r_interval {g g8 : Nat → Int} {n : Nat} (hg : g8 0 = n) (H : SegOK g n) (hE : EqOn n g (sh g8)) (c0 : Int32) (x1 x2 x3 : Int32) : ∃ r b c, fX7_interval (iN n) (fun i => iN (g i)) x1 x2 x3 = some r ∧ fX8_interval c0 (fun i => iN (g8 i)) x1 x2 x3 = some (b, c) ∧ agrI (fun e => if e = 3 then 1 else 0) r b c := by
  have hn := H.1
  unfold fX7_interval fX8_interval jX8_interval_30
  rw [m8_isSegment hg hn, qb]
  by_cases c1 : 0 ≤ x1.toInt ∧ x1.toInt < n
  · rw [s7_rs_t hn c1, if_neg (fun q => b01_0.mp q c1), qb, qt]
    obtain ⟨m, hm⟩ : ∃ k : Nat, x1.toInt = k := ⟨x1.toInt.toNat, by omega⟩
    have hmn : m < n := by omega
    rw [iN_of x1, hm]
    obtain ⟨a, e, ha, hb, hae, he⟩ := life_nat H hmn
    obtain ⟨N, h1, h2, h3⟩ := nI_ex a e he
    have ha8 : sh g8 (6 * m + 4) = a := by rw [← hE _ (by omega)]; exact ha
    have hb8 : sh g8 (6 * m + 5) = e := by rw [← hE _ (by omega)]; exact hb
    have x0 := x2.le_toInt
    have x1' := x2.toInt_lt
    have hv5 := m8_o5 g8 m (by omega)
    rw [hb8] at hv5
    rw [s6_v5 g m (by omega), qb, s6_v4 g m (by omega), qb, ha, hb, iN_of x2, s0_firstTick hae he h1 h2 h3 x2.toInt (by omega) (by omega), qb, m8_intervalCount (g := g8) (by omega) ha8 hb8 hae he h1 h2 h3, qb, show iN (N : Int) - (1 : Int32) = iN (N - 1) from iN_sub N 1, ← iN_of x2, iN_l (by omega) (by omega), show (0 : Int64) = lI 0 from rfl, m8_in32 x2 (by omega) (by omega) (by omega) (by omega), qb]
    by_cases c2 : 0 ≤ x2.toInt ∧ x2.toInt < N
    · have hl := h2 x2.toInt.toNat (by omega)
      have hw := wk_le hae he x2.toInt.toNat
      rw [if_pos c2, if_neg (by rw [show (-1 : Int32) = iN (-1) from rfl, iN_eq (by omega) (by omega) (by omega) (by omega)]; omega), if_neg (fun q => b01_0.mp q (by omega)), m8_o4 g8 m (by omega), qb, ha8, hv5, qb, m8_dl (show a < e from h2 0 (by omega)) he, qb, s0_dl hl he]
      have key : lp (fun q => bX8_interval_60 (fun i => iN (g8 i)) (iN (m : Int)) x2 x3 (0 : Int32) q.1 q.2.1 q.2.2) fuel (iN (a : Int), iN (dl (wk a e 0) e : Nat), (0 : Int32)) = some (if x3 = 0 then iN (wk a e x2.toInt.toNat : Nat) else iN (dl (wk a e x2.toInt.toNat) e : Nat), (0 : Int32)) := by
        refine lp_for _ (fun i => (iN (wk a e i : Nat), iN (dl (wk a e i) e : Nat), iN (i : Int))) x2.toInt.toNat _ ?_ ?_ (fuel_ge (by omega))
        · intro i hi
          have hli := h2 i (by omega)
          have hli2 := h2 (i + 1) (by omega)
          show bX8_interval_60 _ _ _ _ _ (iN (wk a e i : Nat)) (iN (dl (wk a e i) e : Nat)) (iN (i : Int)) = _
          unfold bX8_interval_60
          rw [if_neg (by rw [Int32.le_iff_toInt_le, iN_toInt (by omega) (by omega)]; omega)]
          simp only [nm, iN_add, iN_succ]
          rw [hv5, Option.bind_some, ← Int.natCast_add (wk a e i) (dl (wk a e i) e), ← wk_succ hli, m8_dl hli2 he, Option.bind_some]
        · show bX8_interval_60 _ _ _ _ _ (iN (wk a e x2.toInt.toNat : Nat)) (iN (dl (wk a e x2.toInt.toNat) e : Nat)) (iN (x2.toInt.toNat : Int)) = _
          unfold bX8_interval_60
          rw [if_pos (by rw [Int32.le_iff_toInt_le, iN_toInt (by omega) (by omega)]; omega)]
          by_cases c : x3 = 0
          · rw [if_pos c, if_pos c]; rfl
          · rw [if_neg c, if_neg c]; rfl
      rw [show dl (wk a e 0) e = dl a e from rfl] at key
      rw [key]
      by_cases c3 : x3 = 0
      · rw [if_pos c3, if_pos c3]
        exact ⟨_, _, _, rfl, rfl, rfl, rfl⟩
      · rw [if_neg c3, if_neg c3]
        exact ⟨_, _, _, rfl, rfl, rfl, rfl⟩
    · rw [if_neg c2, if_pos (show iN (-1) = (-1 : Int32) from rfl), if_pos (b01_0.mpr (by omega))]
      exact ⟨_, _, _, rfl, rfl, rfl, by decide, by decide⟩
  · rw [s7_rs_f hn c1, if_pos (b01_0.mpr c1)]
    exact ⟨_, _, _, rfl, rfl, rfl, by decide, by decide⟩
