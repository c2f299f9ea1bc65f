/-! ===== changes, overTime, leads ===== -/
theorem cnt_ins {p q : Nat → Bool} {m : Nat} (h1 : p m = false) (h2 : q m = true) : ∀ K, m < K → (∀ k, k < K → ¬ k = m → q k = p k) → cnt q K = cnt p K + 1 := by
  intro K
  induction K with
  | zero => intro h; exact absurd h (Nat.not_lt_zero m)
  | succ K ih =>
    intro hm h
    rw [cnt_succ, cnt_succ]
    by_cases c : m = K
    · subst c
      rw [h1, h2, cnt_congr (fun j hj => h j (by omega) (by omega))]
      rfl
    · rw [h K (by omega) (fun q => c q.symm), ih (by omega) (fun k hk hkm => h k (by omega) hkm)]
      omega
theorem cnt_zero {p : Nat → Bool} : ∀ {K : Nat}, cnt p K = 0 ↔ ∀ k, k < K → p k = false := by
  intro K
  induction K with
  | zero => exact ⟨fun _ k hk => absurd hk (Nat.not_lt_zero k), fun _ => rfl⟩
  | succ K ih =>
    rw [cnt_succ]
    constructor
    · intro h k hk
      by_cases c : k = K
      · subst c
        cases hp : p k
        · rfl
        · rw [hp] at h; simp at h
      · exact ih.mp (by omega) k (by omega)
    · intro h
      rw [ih.mpr (fun k hk => h k (by omega)), h K (by omega)]
      rfl
/-- v is among the first N -/
def amo (e : Nat → Int) (N : Nat) (v : Int) : Bool := decide (0 < cnt (fun i => decide (e i = v)) N)
theorem amo_iff {e : Nat → Int} {N : Nat} {v : Int} : amo e N v = true ↔ ∃ i, i < N ∧ e i = v := by
  unfold amo
  rw [decide_eq_true_iff]
  constructor
  · intro h
    by_cases c : ∃ i, i < N ∧ e i = v
    · exact c
    · have := cnt_zero.mpr (fun k hk => decide_eq_false (fun q => c ⟨k, hk, q⟩ : ¬ e k = v))
      omega
  · rintro ⟨i, hi, h⟩
    by_cases c : cnt (fun i => decide (e i = v)) N = 0
    · have := cnt_zero.mp c i hi
      exact absurd h (of_decide_eq_false this)
    · omega
/-- the i-th is in the range, new, and a change -/
def evP (e : Nat → Int) (Q : Int → Bool) (a : Int) (K : Nat) (i : Nat) : Bool := decide (a + 1 ≤ e i ∧ e i ≤ a + K ∧ amo e i (e i) = false ∧ Q (e i) = true)
theorem evP_iff {e : Nat → Int} {Q : Int → Bool} {a : Int} {K i : Nat} : evP e Q a K i = true ↔ (a + 1 ≤ e i ∧ e i ≤ a + K ∧ amo e i (e i) = false ∧ Q (e i) = true) := decide_eq_true_iff
theorem cnt_events (e : Nat → Int) (Q : Int → Bool) (a : Int) (K : Nat) : ∀ N, cnt (evP e Q a K) N = cnt (fun k => Q (a + 1 + k) && amo e N (a + 1 + k)) K := by
  intro N
  induction N with
  | zero =>
    refine (cnt_zero.mpr (fun k hk => ?_)).symm
    have : amo e 0 (a + 1 + k) = false := rfl
    rw [this, Bool.and_false]
  | succ N ih =>
    rw [cnt_succ, ih]
    have am : ∀ v, amo e (N + 1) v = true ↔ (amo e N v = true ∨ e N = v) := by
      intro v
      rw [amo_iff, amo_iff]
      constructor
      · rintro ⟨i, hi, h⟩
        by_cases c : i = N
        · subst c; exact Or.inr h
        · exact Or.inl ⟨i, by omega, h⟩
      · rintro (⟨i, hi, h⟩ | h)
        · exact ⟨i, by omega, h⟩
        · exact ⟨N, by omega, h⟩
    by_cases c : evP e Q a K N = true
    · rw [if_pos c]
      obtain ⟨c1, c2, c3, c4⟩ := evP_iff.mp c
      have em : a + 1 + ((e N - a - 1).toNat : Int) = e N := by omega
      refine (cnt_ins (m := (e N - a - 1).toNat) ?_ ?_ K (by omega) (fun k hk hkm => ?_)).symm
      · simp only [em, c3, Bool.and_false]
      · simp only [em, c4, Bool.true_and]
        exact (am _).mpr (Or.inr rfl)
      · congr 1
        have hne : ¬ e N = a + 1 + k := by omega
        have := am (a + 1 + k)
        cases h1 : amo e (N + 1) (a + 1 + k) <;> cases h2 : amo e N (a + 1 + k) <;> simp_all
    · rw [if_neg c]
      refine cnt_congr (fun k hk => ?_)
      have hm := am (a + 1 + k)
      by_cases d : e N = a + 1 + k
      · by_cases d2 : Q (a + 1 + k) = true
        · have hn : amo e N (a + 1 + k) = true := by
            by_cases d3 : amo e N (a + 1 + k) = true
            · exact d3
            · exact absurd (evP_iff.mpr ⟨by omega, by omega, by rw [d]; simpa using d3, by rw [d]; exact d2⟩) c
          rw [hn, hm.mpr (Or.inl hn)]
        · have : Q (a + 1 + k) = false := by simpa using d2
          rw [this, Bool.false_and, Bool.false_and]
      · congr 1
        cases h1 : amo e (N + 1) (a + 1 + k) <;> cases h2 : amo e N (a + 1 + k) <;> simp_all
/-- the changes among a+1 .. a+K -/
def chC (T : Int → Int) (a : Int) (k : Nat) : Bool := decide (Chg T (a + 1 + k))
theorem m8_isNew {g : Nat → Int} {i : Nat} (hi : i < 80) (hb : ∀ j, j ≤ i → 0 ≤ ev (sh g) j ∧ ev (sh g) j ≤ 16384) : fX8_isNew (fun i => iN (g i)) (iN (i : Int)) = some (if amo (ev (sh g)) i (ev (sh g) i) = false then 1 else 0) := by
  unfold fX8_isNew
  refine lp_for _ (fun k => ((if amo (ev (sh g)) k (ev (sh g) i) = false then (1 : Int32) else 0), iN (k : Int))) i _ ?_ ?_ (fuel_ge (by omega))
  · intro k hk
    have b1 := hb k (by omega)
    have b2 := hb i (by omega)
    show bX8_isNew_4 _ _ (if amo (ev (sh g)) k (ev (sh g) i) = false then (1 : Int32) else 0) (iN (k : Int)) = _
    unfold bX8_isNew_4
    rw [if_neg (by rw [iN_le (by omega) (by omega) (by omega) (by omega)]; omega), m8_event g k (by omega), Option.bind_some, m8_event g i hi, Option.bind_some]
    simp only [nm, iN_succ]
    have am : amo (ev (sh g)) (k + 1) (ev (sh g) i) = true ↔ (amo (ev (sh g)) k (ev (sh g) i) = true ∨ ev (sh g) k = ev (sh g) i) := by
      rw [amo_iff, amo_iff]
      constructor
      · rintro ⟨j, hj, h⟩
        by_cases c : j = k
        · subst c; exact Or.inr h
        · exact Or.inl ⟨j, by omega, h⟩
      · rintro (⟨j, hj, h⟩ | h)
        · exact ⟨j, by omega, h⟩
        · exact ⟨k, by omega, h⟩
    by_cases c1 : amo (ev (sh g)) k (ev (sh g) i) = true
    · rw [if_pos (b01_0.mpr (fun q => by rw [c1] at q; cases q)), if_neg (show ¬ amo (ev (sh g)) (k + 1) (ev (sh g) i) = false from fun q => by rw [am.mpr (Or.inl c1)] at q; cases q)]
    · have c1' : amo (ev (sh g)) k (ev (sh g) i) = false := by simpa using c1
      rw [if_pos c1', if_neg (show ¬ (1 : Int32) = 0 by decide)]
      by_cases c2 : ev (sh g) k = ev (sh g) i
      · rw [if_pos (by rw [c2]), if_neg (show ¬ amo (ev (sh g)) (k + 1) (ev (sh g) i) = false from fun q => by rw [am.mpr (Or.inr c2)] at q; cases q)]
      · have : amo (ev (sh g)) (k + 1) (ev (sh g) i) = false := by
          cases h : amo (ev (sh g)) (k + 1) (ev (sh g) i)
          · rfl
          · exact absurd (am.mp h) (fun q => q.elim c1 c2)
        rw [if_neg (by rw [iN_eq (by omega) (by omega) (by omega) (by omega)]; exact c2), if_pos this]
  · show bX8_isNew_4 _ _ (if amo (ev (sh g)) i (ev (sh g) i) = false then (1 : Int32) else 0) (iN (i : Int)) = _
    unfold bX8_isNew_4
    rw [if_pos (by rw [iN_le (by omega) (by omega) (by omega) (by omega)]; omega), zr_b]
    rfl
theorem m8_isRange (x0 x1 x2 : Int32) : fX8_isRange x0 x1 x2 = some (if (0 ≤ x0.toInt ∧ x0.toInt ≤ 255) ∧ (0 ≤ x2.toInt ∧ x2.toInt ≤ 16384) ∧ (0 ≤ x1.toInt ∧ x1.toInt ≤ x2.toInt) then 1 else 0) := by
  unfold fX8_isRange
  rw [m8_isPosition, m8_isTick, m8_isTick, zr_0, zr_1]
  simp only [Option.bind_some, Int32.lt_iff_toInt_lt]
  by_cases c0 : 0 ≤ x0.toInt ∧ x0.toInt ≤ 255
  · rw [if_neg (fun q => b01_0.mp q c0)]
    by_cases c1 : 0 ≤ x1.toInt ∧ x1.toInt ≤ 16384
    · rw [if_neg (fun q => b01_0.mp q c1)]
      by_cases c2 : 0 ≤ x2.toInt ∧ x2.toInt ≤ 16384
      · rw [if_neg (fun q => b01_0.mp q c2)]
        by_cases c3 : x2.toInt < x1.toInt
        · rw [if_pos c3, b01_f (by omega)]
        · rw [if_neg c3, b01_t ⟨c0, c2, by omega⟩]
      · rw [if_pos (b01_0.mpr c2), b01_f (by omega)]
    · rw [if_pos (b01_0.mpr c1), b01_f (by omega)]
  · rw [if_pos (b01_0.mpr c0), b01_f (by omega)]
theorem s7_rsp_t {x0 x1 x2 : Int32} (h : (0 ≤ x0.toInt ∧ x0.toInt ≤ 255) ∧ (0 ≤ x2.toInt ∧ x2.toInt ≤ 16384) ∧ (0 ≤ x1.toInt ∧ x1.toInt ≤ x2.toInt)) : fX7_requireSpan x0 x1 x2 = some (Sum.inl ()) := by
  unfold fX7_requireSpan
  rw [s7_rb_t (a := 0) (b := 255) h.1, qb, qt, s7_rb_t (a := 0) (b := 16384) h.2.1, qb, qt, s7_rb_t (a := 0) (b := x2) h.2.2]
  rfl
theorem s7_rsp_f {x0 x1 x2 : Int32} (h : ¬ ((0 ≤ x0.toInt ∧ x0.toInt ≤ 255) ∧ (0 ≤ x2.toInt ∧ x2.toInt ≤ 16384) ∧ (0 ≤ x1.toInt ∧ x1.toInt ≤ x2.toInt))) : fX7_requireSpan x0 x1 x2 = some (Sum.inr 1) := by
  unfold fX7_requireSpan
  by_cases c0 : 0 ≤ x0.toInt ∧ x0.toInt ≤ 255
  · rw [s7_rb_t (a := 0) (b := 255) c0, qb, qt]
    by_cases c1 : 0 ≤ x2.toInt ∧ x2.toInt ≤ 16384
    · rw [s7_rb_t (a := 0) (b := 16384) c1, qb, qt, s7_rb_f (a := 0) (b := x2) (fun q => h ⟨c0, c1, q⟩)]
      rfl
    · rw [s7_rb_f (a := 0) (b := 16384) c1]
      rfl
  · rw [s7_rb_f (a := 0) (b := 255) c0]
    rfl
theorem s6_countChanges {g : Nat → Int} {n : Nat} (H : SegOK g n) {x a b : Int} (x0 : 0 ≤ x) (x1 : x ≤ 255) (a0 : 0 ≤ a) (ab : a ≤ b) (b1 : b ≤ 16384) : fX6_countChanges (iN n) (fun i => iN (g i)) (iN x) (iN a) (iN b) = some (iN (cnt (chC (fun t => fst g x t n) a) (b - a).toNat)) := by
  have hn := H.1
  generalize eT : (fun t => fst g x t n) = T
  have sc : ∀ {t : Int}, 0 ≤ t → t ≤ 16384 → ∃ r, fX6_changeAfter (iN n) (fun i => iN (g i)) (iN x) (iN t) = some (iN r) ∧ NxC T t r := by
    intro t h1 h2
    rw [← eT]
    exact s6_changeAfter H x0 x1 h1 h2
  unfold fX6_countChanges
  obtain ⟨r, e, hr⟩ := sc a0 (by omega)
  rw [e, qb]
  have key := lp_m (fun q : Int32 × Int32 => bX6_countChanges_11 (iN n) (fun i => iN (g i)) (iN x) (iN b) q.1 q.2) (fun q => ∃ r p : Int, q = (iN r, iN (cnt (chC T a) (p - a).toNat : Nat)) ∧ a ≤ p ∧ p ≤ b ∧ NxC T p r) (fun q => if q.1 = (-1 : Int32) then 0 else (16386 - q.1.toInt).toNat) (fun q => q = iN (cnt (chC T a) (b - a).toNat)) ?_ fuel (iN r, (0 : Int32)) ⟨r, a, by rw [show (a - a).toNat = 0 by omega]; rfl, Int.le_refl _, ab, hr⟩ ?_
  · obtain ⟨q, e, rfl⟩ := key
    exact e
  · rintro q ⟨r, p, rfl, p0, p1, hN⟩
    have hcl := cnt_le (chC T a) (p - a).toNat
    have rr : -1 ≤ r ∧ r ≤ 16384 := by unfold NxC at hN; omega
    have run : ∀ q : Int, p ≤ q → (∀ u, p < u → u ≤ q → ¬ Chg T u) → cnt (chC T a) (q - a).toNat = cnt (chC T a) (p - a).toNat := by
      intro q hpq h
      have e := cnt_run (p := chC T a) (a := (p - a).toNat) (b := false) (q - p).toNat (fun z hz hz2 => decide_eq_false (h _ (by omega) (by omega)))
      rw [show (q - a).toNat = (p - a).toNat + (q - p).toNat by omega, e]
      rfl
    have fin : (∀ u, p < u → u ≤ b → ¬ Chg T u) → ∃ s', xt (some (iN (cnt (chC T a) (p - a).toNat : Nat))) = some (.inr s' : (Int32 × Int32) ⊕ Int32) ∧ s' = iN (cnt (chC T a) (b - a).toNat) := fun h => ⟨_, rfl, by rw [run b p1 h]⟩
    show (∃ s', bX6_countChanges_11 _ _ _ _ (iN r) (iN (cnt (chC T a) (p - a).toNat : Nat)) = some (.inl s') ∧ _) ∨ (∃ s', bX6_countChanges_11 _ _ _ _ (iN r) (iN (cnt (chC T a) (p - a).toNat : Nat)) = some (.inr s') ∧ _)
    unfold bX6_countChanges_11
    rw [if_neg (by rw [show (16384 : Int32) = iN 16384 from rfl, iN_lt (by omega) (by omega) (by omega) (by omega)]; omega)]
    by_cases c1 : r = -1
    · rw [if_pos (by rw [c1]; rfl)]
      refine Or.inr (fin (fun u hu hub => ?_))
      cases hN with
      | inl h => exact h.2 u hu (by omega)
      | inr h => omega
    · rw [if_neg (by rw [show (-1 : Int32) = iN (-1) from rfl, iN_eq (by omega) (by omega) (by omega) (by omega)]; exact c1)]
      have hN2 : p < r ∧ r ≤ 16384 ∧ Chg T r ∧ ∀ u, p < u → u < r → ¬ Chg T u := by
        cases hN with
        | inl h => exact absurd h.1 c1
        | inr h => exact h
      by_cases c2 : b < r
      · rw [if_pos (by rw [iN_lt (by omega) (by omega) (by omega) (by omega)]; exact c2)]
        exact Or.inr (fin (fun u hu hub => hN2.2.2.2 u hu (by omega)))
      · rw [if_neg (by rw [iN_lt (by omega) (by omega) (by omega) (by omega)]; exact c2)]
        obtain ⟨r3, e3, h3⟩ := sc (t := r) (by omega) (by omega)
        simp only [nm, iN_succ]
        rw [e3, Option.bind_some]
        refine Or.inl ⟨_, rfl, ⟨r3, r, ?_, by omega, by omega, h3⟩, ?_⟩
        · have e1 := run (r - 1) (by omega) (fun u hu hur => hN2.2.2.2 u hu (by omega))
          have e2 : (r - a).toNat = (r - 1 - a).toNat + 1 := by omega
          have e4 : chC T a (r - 1 - a).toNat = true := decide_eq_true (by rw [show a + 1 + ((r - 1 - a).toNat : Int) = r by omega]; exact hN2.2.2.1)
          rw [e2, cnt_succ, e4, e1]
          rfl
        · show (if iN r3 = (-1 : Int32) then 0 else (16386 - (iN r3).toInt).toNat) < (if iN r = (-1 : Int32) then 0 else (16386 - (iN r).toInt).toNat)
          have rr3 : -1 ≤ r3 ∧ r3 ≤ 16384 := by unfold NxC at h3; omega
          rw [if_neg (show ¬ iN r = (-1 : Int32) by rw [show (-1 : Int32) = iN (-1) from rfl, iN_eq (by omega) (by omega) (by omega) (by omega)]; exact c1), iN_toInt (by omega) (by omega), iN_toInt (by omega) (by omega)]
          unfold NxC at h3
          split
          · omega
          · rename_i hne
            have : ¬ r3 = -1 := fun q => hne (by rw [q]; rfl)
            omega
  · refine fuel_ge ?_
    show (if iN r = (-1 : Int32) then 0 else (16386 - (iN r).toInt).toNat) ≤ _
    have rr : -1 ≤ r ∧ r ≤ 16384 := by unfold NxC at hr; omega
    rw [iN_toInt (by omega) (by omega)]
    split <;> omega
/-- promise 18: how many changes -/
theorem r_changes {g g8 : Nat → Int} {n : Nat} (hg : g8 0 = n) (H : SegOK g n) (hE : EqOn n g (sh g8)) (c0 : Int32) (x1 x2 x3 : Int32) : ∃ r b c, fX7_changes (iN n) (fun i => iN (g i)) x1 x2 x3 = some r ∧ fX8_changes c0 (fun i => iN (g8 i)) x1 x2 x3 = some (b, c) ∧ agrI (fun e => if e = 1 then 1 else 0) r b c := by
  have hn := H.1
  have H8 := H.eqOn hE
  unfold fX7_changes fX8_changes
  rw [m8_isRange, qb]
  by_cases c1 : (0 ≤ x1.toInt ∧ x1.toInt ≤ 255) ∧ (0 ≤ x3.toInt ∧ x3.toInt ≤ 16384) ∧ (0 ≤ x2.toInt ∧ x2.toInt ≤ x3.toInt)
  · rw [s7_rsp_t c1, if_neg (fun q => b01_0.mp q c1), qb, qt]
    obtain ⟨⟨a1, a2⟩, ⟨a3, a4⟩, a5, a6⟩ := c1
    rw [iN_of x1, iN_of x2, iN_of x3]
    generalize x1.toInt = x at *
    generalize x2.toInt = a at *
    generalize x3.toInt = b at *
    rw [s6_countChanges H a1 a2 a5 a6 a4, qb]
    have hT : (fun t => fst g x t n) = fun t => fst (sh g8) x t n := funext fun t => EqOn_fst hE x t n (Nat.le_refl n)
    rw [hT]
    generalize eT : (fun t => fst (sh g8) x t n) = T
    have ic : ∀ {u : Int}, 1 ≤ u → u ≤ 16384 → fX8_isChange (fun i => iN (g8 i)) (iN x) (iN u) = some (if Chg T u then 1 else 0) := by
      intro u h1 h2
      rw [← eT]
      exact m8_isChange hg H8 a1 a2 h1 h2
    have he : ∀ u, Chg T u → ∃ i, i < 2 * n ∧ ev (sh g8) i = u := by
      intro u hc
      rw [← eT] at hc
      exact turn_ev (chg_turn hc)
    obtain ⟨K, hK⟩ : ∃ K : Nat, K = (b - a).toNat := ⟨_, rfl⟩
    have key : lp (fun q : Int32 × Int32 => bX8_changes_26 (fun i => iN (g8 i)) (iN x) (iN a) (iN b) (0 : Int32) q.1 q.2) fuel ((0 : Int32), (0 : Int32)) = some (iN (cnt (evP (ev (sh g8)) (fun u => decide (Chg T u)) a K) (2 * n)), (0 : Int32)) := by
      refine lp_for _ (fun k => (iN (cnt (evP (ev (sh g8)) (fun u => decide (Chg T u)) a K) k : Nat), iN (k : Int))) (2 * n) _ ?_ ?_ (fuel_ge (by omega))
      · intro k hk
        have hv := ev_bd H8 hk
        show bX8_changes_26 _ _ _ _ _ (iN (cnt (evP (ev (sh g8)) (fun u => decide (Chg T u)) a K) k : Nat)) (iN (k : Int)) = _
        unfold bX8_changes_26 jX8_changes_87
        rw [show (0 : Int32) = iN 0 from rfl, rd_iN (by omega) (by omega) (by omega)]
        simp only [show (0 : Int).toNat = 0 from rfl, hg]
        rw [show (2 : Int32) = iN 2 from rfl, iN_mul, if_neg (by rw [iN_le (by omega) (by omega) (by omega) (by omega)]; omega), m8_event g8 k (by omega), Option.bind_some, show iN a + (1 : Int32) = iN (a + 1) from iN_add a 1, iN_l (by omega) (by omega), iN_l (by omega) (by omega), iN_l (by omega) (by omega), m8_in (by omega) (by omega) (by omega) (by omega) (by omega) (by omega), Option.bind_some, m8_isNew (by omega) (fun j hj => ev_bd H8 (by omega)), cnt_succ (evP (ev (sh g8)) (fun u => decide (Chg T u)) a K)]
        simp only [show (iN 0 : Int32) = 0 from rfl, nm, iN_succ, b01_0, Option.bind_some]
        have e0 : ∀ y : Int, iN y + (0 : Int32) = iN y := fun y => by rw [show (0 : Int32) = iN 0 from rfl, iN_add, Int.add_zero]
        simp only [e0]
        by_cases d1 : a + 1 ≤ ev (sh g8) k ∧ ev (sh g8) k ≤ b
        · rw [if_neg (not_not_intro d1)]
          by_cases d2 : amo (ev (sh g8)) k (ev (sh g8) k) = false
          · rw [if_neg (not_not_intro d2), ic (by omega) hv.2, Option.bind_some]
            by_cases d3 : Chg T (ev (sh g8) k)
            · rw [if_neg (fun q => b01_0.mp q d3), if_pos (evP_iff.mpr ⟨d1.1, by omega, d2, decide_eq_true d3⟩)]
            · rw [if_pos (b01_0.mpr d3), if_neg (fun q => d3 (of_decide_eq_true (evP_iff.mp q).2.2.2))]; rfl
          · rw [if_pos d2, if_neg (fun q => d2 (evP_iff.mp q).2.2.1)]; rfl
        · rw [if_pos d1, if_neg (fun q => d1 (by have := evP_iff.mp q; omega))]; rfl
      · show bX8_changes_26 _ _ _ _ _ (iN (cnt (evP (ev (sh g8)) (fun u => decide (Chg T u)) a K) (2 * n) : Nat)) (iN ((2 * n : Nat) : Int)) = _
        unfold bX8_changes_26
        rw [show (0 : Int32) = iN 0 from rfl, rd_iN (by omega) (by omega) (by omega)]
        simp only [show (0 : Int).toNat = 0 from rfl, hg]
        rw [show (2 : Int32) = iN 2 from rfl, iN_mul, if_pos (by rw [iN_le (by omega) (by omega) (by omega) (by omega)]; omega)]
        rfl
    rw [key, cnt_events, ← hK]
    have ec : cnt (fun k => (fun u => decide (Chg T u)) (a + 1 + (k : Int)) && amo (ev (sh g8)) (2 * n) (a + 1 + (k : Int))) K = cnt (chC T a) K := by
      refine cnt_congr (fun k hk => ?_)
      unfold chC
      by_cases d : Chg T (a + 1 + k)
      · have := amo_iff.mpr (he _ d)
        simp only [this, Bool.and_true]
      · simp only [decide_eq_false d, Bool.false_and]
    rw [ec]
    exact ⟨_, _, _, rfl, rfl, rfl, rfl⟩
  · rw [s7_rsp_f c1, if_pos (b01_0.mpr c1)]
    exact ⟨_, _, _, rfl, rfl, rfl, by decide, by decide⟩
