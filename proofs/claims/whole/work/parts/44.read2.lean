/-! ===== minimum, ranked, below ===== -/
/-- the first of i, i+1, .., i+m-1 of which p holds -/
def fN (p : Nat → Bool) (i : Nat) : Nat → Option Nat
  | 0 => none
  | m + 1 => if p i = true then some i else fN p (i + 1) m
theorem fN_congr {p q : Nat → Bool} : ∀ {m i : Nat}, (∀ j, i ≤ j → j < i + m → p j = q j) → fN p i m = fN q i m := by
  intro m
  induction m with
  | zero => intro i _; rfl
  | succ m ih =>
    intro i h
    unfold fN
    rw [h i (by omega) (by omega), ih (i := i + 1) (fun j h1 h2 => h j (by omega) (by omega))]
theorem fN_bd {p : Nat → Bool} : ∀ {m i k : Nat}, fN p i m = some k → i ≤ k ∧ k < i + m ∧ p k = true := by
  intro m
  induction m with
  | zero => intro i k h; exact absurd h (by simp [fN])
  | succ m ih =>
    intro i k h
    unfold fN at h
    by_cases c : p i = true
    · rw [if_pos c] at h
      have := Option.some.inj h
      subst this
      exact ⟨by omega, by omega, c⟩
    · rw [if_neg c] at h
      have := ih h
      exact ⟨by omega, by omega, this.2.2⟩
def fE {ρ : Type} (fin : Nat → ρ) (dn : ρ) : Option Nat → ρ
  | none => dn
  | some k => fin k
theorem lp_fN {σ ρ : Type} (body : σ → Option (σ ⊕ ρ)) (st : Nat → σ) (p : Nat → Bool) (fin : Nat → ρ) (dn : ρ) : ∀ (m i M : Nat), (∀ k, i ≤ k → k < i + m → p k = false → body (st k) = some (.inl (st (k + 1)))) → (∀ k, i ≤ k → k < i + m → p k = true → body (st k) = some (.inr (fin k))) → body (st (i + m)) = some (.inr dn) → lp body (M + 1 + m) (st i) = some (fE fin dn (fN p i m)) := by
  intro m
  induction m with
  | zero =>
    intro i M _ _ h
    have h' : body (st i) = some (.inr dn) := h
    show lp body (M + 1) (st i) = _
    simp only [lp, h', Option.bind_some, fN, fE]
  | succ m ih =>
    intro i M hs hf h
    show lp body (M + 1 + m + 1) (st i) = _
    by_cases c : p i = true
    · simp only [lp, hf i (by omega) (by omega) c, Option.bind_some, fN, if_pos c, fE]
    · simp only [lp, hs i (by omega) (by omega) (by simpa using c), Option.bind_some, fN, if_neg c]
      exact ih (i + 1) M (fun k h1 h2 => hs k (by omega) (by omega)) (fun k h1 h2 => hf k (by omega) (by omega)) (by rw [show i + 1 + m = i + (m + 1) by omega]; exact h)
theorem lp_find {σ ρ : Type} (body : σ → Option (σ ⊕ ρ)) (st : Nat → σ) (p : Nat → Bool) (K : Nat) (fin : Nat → ρ) (dn : ρ) (hs : ∀ k, k < K → p k = false → body (st k) = some (.inl (st (k + 1)))) (hf : ∀ k, k < K → p k = true → body (st k) = some (.inr (fin k))) (he : body (st K) = some (.inr dn)) (hK : K < fuel) : lp body fuel (st 0) = some (fE fin dn (fN p 0 K)) := by
  obtain ⟨m, hm⟩ : ∃ m, fuel = m + 1 + K := ⟨fuel - K - 1, by omega⟩
  rw [hm]
  exact lp_fN body st p fin dn K 0 m (fun k _ h2 => hs k (by omega)) (fun k _ h2 => hf k (by omega)) (by rw [Nat.zero_add]; exact he)
theorem iN_succ (k : Nat) : iN (k : Int) + (1 : Int32) = iN ((k + 1 : Nat) : Int) := iN_add k 1
theorem cnt_succ (p : Nat → Bool) (k : Nat) : cnt p (k + 1) = cnt p k + if p k = true then 1 else 0 := rfl
/-- promise 10: the smallest value -/
theorem r_minimum {g g8 : Nat → Int} {n : Nat} (hg : g8 0 = n) (H : SegOK g n) (hE : EqOn n g (sh g8)) (c0 : Int32) (x1 x2 : Int32) : ∃ r b c, fX7_minimum (iN n) (fun i => iN (g i)) x1 x2 = some r ∧ fX8_minimum c0 (fun i => iN (g8 i)) x1 x2 = some (b, c) ∧ agrL (fun e => if e = 1 then 1 else 0) r b c := by
  have hn := H.1
  have H8 := H.eqOn hE
  unfold fX7_minimum fX8_minimum
  rw [m8_isPlace, Option.bind_some]
  by_cases c1 : (0 ≤ x1.toInt ∧ x1.toInt ≤ 255) ∧ (0 ≤ x2.toInt ∧ x2.toInt ≤ 16384)
  · rw [s7_rp_t c1, if_neg (fun q => b01_0.mp q c1)]
    simp only [Option.bind_some, tx]
    obtain ⟨⟨a1, a2⟩, a3, a4⟩ := c1
    rw [iN_of x1, iN_of x2]
    generalize x1.toInt = x at *
    generalize x2.toInt = t at *
    rw [s6_firstAt H a1 a2 a3 a4, m8_firstAt hg H8 a1 a2 a3 a4, EqOn_fst hE x t n (Nat.le_refl n)]
    have hb := fst_bd (sh g8) x t n
    simp only [Option.bind_some]
    by_cases c2 : fst (sh g8) x t n = -1
    · have e2 : iN (fst (sh g8) x t n) = (-1 : Int32) := by rw [c2]; rfl
      rw [if_pos e2, if_pos e2]
      exact ⟨_, _, _, rfl, rfl, rfl, rfl⟩
    · have e2 : ¬ iN (fst (sh g8) x t n) = (-1 : Int32) := by
        rw [show (-1 : Int32) = iN (-1) from rfl, iN_eq (by omega) (by omega) (by omega) (by omega)]; exact c2
      obtain ⟨j, hj⟩ : ∃ j : Nat, fst (sh g8) x t n = j := ⟨(fst (sh g8) x t n).toNat, by omega⟩
      rw [if_neg e2, if_neg e2, hj, s6_height g j (by omega), m8_valueAt g8 j (by omega), hE.val (show j < n by omega)]
      exact ⟨_, _, _, rfl, rfl, rfl, rfl⟩
  · rw [s7_rp_f c1, if_pos (b01_0.mpr c1)]
    exact ⟨_, _, _, rfl, rfl, rfl, by decide, by decide⟩
/-- those ahead of k -/
def ahd (g : Nat → Int) (x t : Int) (k i : Nat) : Bool := decide (The g i x t ∧ (Val g i x < Val g k x ∨ (Val g i x = Val g k x ∧ i < k)))
theorem s6_countAhead {g : Nat → Int} {n k : Nat} (H : SegOK g n) (hk : k < n) {x t : Int} (h0 : 0 ≤ x) (h1 : x ≤ 255) (h2 : 0 ≤ t) (h3 : t ≤ 16384) : fX6_countAhead (iN n) (fun i => iN (g i)) (iN k) (iN x) (iN t) = some (iN (cnt (ahd g x t k) n)) := by
  have hn := H.1
  unfold fX6_countAhead
  rw [s6_height g k (by omega), Option.bind_some]
  have vk := Val_bd H hk h0 h1
  refine lp_for _ (fun i => (iN (cnt (ahd g x t k) i : Nat), iN (i : Int))) n _ ?_ ?_ (fuel_ge (by omega))
  · intro i hi
    have hc := cnt_le (ahd g x t k) i
    have vi := Val_bd H hi h0 h1
    show bX6_countAhead_14 _ _ _ _ _ _ (iN (cnt (ahd g x t k) i : Nat)) (iN (i : Int)) = _
    unfold bX6_countAhead_14 jX6_countAhead_38
    rw [if_neg (by rw [iN_le (by omega) (by omega) (by omega) (by omega)]; omega), s6_isThere H hi h0 h1 h2 h3, s6_height g i (by omega)]
    simp only [Option.bind_some, nm, iN_succ, show (1 : Int32) = iN 1 from rfl, iN_add]
    simp only [show iN 1 = (1 : Int32) from rfl, iN_succ, b01_0]
    have ea : ahd g x t k i = true ↔ (The g i x t ∧ (Val g i x < Val g k x ∨ (Val g i x = Val g k x ∧ i < k))) := by
      unfold ahd; exact decide_eq_true_iff
    rw [cnt_succ]
    by_cases c3 : The g i x t
    · by_cases c4 : k ≤ i
      · rw [if_pos (by rw [iN_le (by omega) (by omega) (by omega) (by omega)]; omega), if_neg (not_not_intro c3)]
        by_cases c5 : Val g k x ≤ Val g i x
        · rw [if_pos (by rw [iN_le (by omega) (by omega) (by omega) (by omega)]; exact c5), if_neg (fun q => by have := (ea.mp q).2; omega)]; rfl
        · rw [if_neg (by rw [iN_le (by omega) (by omega) (by omega) (by omega)]; exact c5), if_pos (ea.mpr ⟨c3, by omega⟩)]; rfl
      · rw [if_neg (by rw [iN_le (by omega) (by omega) (by omega) (by omega)]; omega), if_neg (not_not_intro c3)]
        by_cases c5 : Val g k x + 1 ≤ Val g i x
        · rw [if_pos (by rw [iN_le (by omega) (by omega) (by omega) (by omega)]; exact c5), if_neg (fun q => by have := (ea.mp q).2; omega)]; rfl
        · rw [if_neg (by rw [iN_le (by omega) (by omega) (by omega) (by omega)]; exact c5), if_pos (ea.mpr ⟨c3, by omega⟩)]; rfl
    · rw [if_neg (fun q => c3 (ea.mp q).1)]
      by_cases c4 : iN (k : Int) ≤ iN (i : Int)
      · rw [if_pos c4, if_pos c3]; rfl
      · rw [if_neg c4, if_pos c3]; rfl
  · show bX6_countAhead_14 _ _ _ _ _ _ (iN (cnt (ahd g x t k) n : Nat)) (iN (n : Int)) = _
    unfold bX6_countAhead_14
    rw [if_pos (by rw [iN_le (by omega) (by omega) (by omega) (by omega)]; omega)]
    rfl
theorem m8_placeOf {g : Nat → Int} {n k : Nat} (hg : g 0 = n) (H : SegOK (sh g) n) (hk : k < n) {x t : Int} (h0 : 0 ≤ x) (h1 : x ≤ 255) (h2 : 0 ≤ t) (h3 : t ≤ 16384) : fX8_placeOf (fun i => iN (g i)) (iN k) (iN x) (iN t) = some (iN (cnt (ahd (sh g) x t k) n)) := by
  have hn := H.1
  unfold fX8_placeOf
  refine lp_for _ (fun i => (iN (cnt (ahd (sh g) x t k) i : Nat), iN (i : Int))) n _ ?_ ?_ (fuel_ge (by omega))
  · intro i hi
    have hc := cnt_le (ahd (sh g) x t k) i
    show bX8_placeOf_6 _ _ _ _ (iN (cnt (ahd (sh g) x t k) i : Nat)) (iN (i : Int)) = _
    unfold bX8_placeOf_6 jX8_placeOf_45
    rw [show (0 : Int32) = iN 0 from rfl, rd_iN (by omega) (by omega) (by omega)]
    simp only [show (0 : Int).toNat = 0 from rfl, hg]
    rw [if_neg (by rw [iN_le (by omega) (by omega) (by omega) (by omega)]; omega), m8_isThere H hi h0 h1 h2 h3, m8_isBefore H hi hk h0 h1]
    simp only [Option.bind_some, nm, iN_succ, iN_add, show iN 0 = (0 : Int32) from rfl, b01_0, Int.add_zero]
    have ea : ahd (sh g) x t k i = true ↔ (The (sh g) i x t ∧ (Val (sh g) i x < Val (sh g) k x ∨ (Val (sh g) i x = Val (sh g) k x ∧ i < k))) := by
      unfold ahd; exact decide_eq_true_iff
    rw [cnt_succ]
    by_cases c3 : The (sh g) i x t
    · rw [if_neg (not_not_intro c3)]
      by_cases c4 : Val (sh g) i x < Val (sh g) k x ∨ (Val (sh g) i x = Val (sh g) k x ∧ i < k)
      · rw [if_neg (not_not_intro c4), if_pos (ea.mpr ⟨c3, c4⟩)]
      · rw [if_pos c4, if_neg (fun q => c4 (ea.mp q).2), show (0 : Int32) = iN 0 from rfl, iN_add]; rfl
    · rw [if_pos c3, if_neg (fun q => c3 (ea.mp q).1), show (0 : Int32) = iN 0 from rfl, iN_add]; rfl
  · show bX8_placeOf_6 _ _ _ _ (iN (cnt (ahd (sh g) x t k) n : Nat)) (iN (n : Int)) = _
    unfold bX8_placeOf_6
    rw [show (0 : Int32) = iN 0 from rfl, rd_iN (by omega) (by omega) (by omega)]
    simp only [show (0 : Int).toNat = 0 from rfl, hg]
    rw [if_pos (by rw [iN_le (by omega) (by omega) (by omega) (by omega)]; omega)]
    rfl
theorem ahd_congr {n k i : Nat} {g g' : Nat → Int} (h : EqOn n g g') (hk : k < n) (hi : i < n) (x t : Int) : ahd g x t k i = ahd g' x t k i := by
  unfold ahd
  have e1 := h.the hi x t
  rw [h.val hi, h.val hk]
  exact decide_eq_decide.mpr (and_congr e1 Iff.rfl)
/-- k is there, with y ahead of it -/
def rkd (g : Nat → Int) (n : Nat) (x t : Int) (y : Int32) (k : Nat) : Bool := decide (The g k x t ∧ iN (cnt (ahd g x t k) n) = y)
theorem rkd_iff {g : Nat → Int} {n : Nat} {x t : Int} {y : Int32} {k : Nat} : rkd g n x t y k = true ↔ (The g k x t ∧ iN (cnt (ahd g x t k) n) = y) := decide_eq_true_iff
theorem s6_atPlace {g : Nat → Int} {n : Nat} (H : SegOK g n) {x t : Int} (h0 : 0 ≤ x) (h1 : x ≤ 255) (h2 : 0 ≤ t) (h3 : t ≤ 16384) (y : Int32) : fX6_atPlace (iN n) (fun i => iN (g i)) (iN x) (iN t) y = some (fE (fun k => iN (k : Int)) (-1) (fN (rkd g n x t y) 0 n)) := by
  have hn := H.1
  unfold fX6_atPlace
  have hb : ∀ k : Nat, k < n → bX6_atPlace_3 (iN n) (fun i => iN (g i)) (iN x) (iN t) y (iN (k : Int)) = if rkd g n x t y k = true then some (.inr (iN (k : Int))) else some (.inl (iN ((k + 1 : Nat) : Int))) := by
    intro k hk
    unfold bX6_atPlace_3
    rw [if_neg (by rw [iN_le (by omega) (by omega) (by omega) (by omega)]; omega), s6_isThere H hk h0 h1 h2 h3, s6_countAhead H hk h0 h1 h2 h3]
    simp only [Option.bind_some, nm, iN_succ, b01_0, rkd_iff]
    by_cases c3 : The g k x t
    · rw [if_neg (not_not_intro c3)]
      by_cases c4 : iN (cnt (ahd g x t k) n) = y
      · rw [if_pos c4, if_pos ⟨c3, c4⟩]; rfl
      · rw [if_neg c4, if_neg (fun q => c4 q.2)]
    · rw [if_pos c3, if_neg (fun q => c3 q.1)]
  refine lp_find _ (fun k => iN (k : Int)) (rkd g n x t y) n (fun k => iN (k : Int)) (-1) ?_ ?_ ?_ (fuel_ge (by omega))
  · intro k hk hp
    show bX6_atPlace_3 _ _ _ _ _ _ = _
    rw [hb k hk, if_neg (by rw [hp]; decide)]
  · intro k hk hp
    show bX6_atPlace_3 _ _ _ _ _ _ = _
    rw [hb k hk, if_pos hp]
  · show bX6_atPlace_3 _ _ _ _ _ _ = _
    unfold bX6_atPlace_3
    rw [if_pos (by rw [iN_le (by omega) (by omega) (by omega) (by omega)]; omega)]
    rfl
theorem m8_rankedLoop {g : Nat → Int} {n : Nat} (hg : g 0 = n) (H : SegOK (sh g) n) {x t : Int} (h0 : 0 ≤ x) (h1 : x ≤ 255) (h2 : 0 ≤ t) (h3 : t ≤ 16384) (y w : Int32) : lp (fun q => bX8_ranked_26 (fun i => iN (g i)) (iN x) (iN t) y w q) fuel (0 : Int32) = some (fE (fun k => iN (k : Int)) (-1) (fN (rkd (sh g) n x t y) 0 n), w) := by
  have hn := H.1
  have hb : ∀ k : Nat, k < n → bX8_ranked_26 (fun i => iN (g i)) (iN x) (iN t) y w (iN (k : Int)) = if rkd (sh g) n x t y k = true then some (.inr (iN (k : Int), w)) else some (.inl (iN ((k + 1 : Nat) : Int))) := by
    intro k hk
    unfold bX8_ranked_26
    rw [show (0 : Int32) = iN 0 from rfl, rd_iN (by omega) (by omega) (by omega)]
    simp only [show (0 : Int).toNat = 0 from rfl, hg]
    rw [if_neg (by rw [iN_le (by omega) (by omega) (by omega) (by omega)]; omega), m8_isThere H hk h0 h1 h2 h3, m8_placeOf hg H hk h0 h1 h2 h3]
    simp only [Option.bind_some, nm, iN_succ, show iN 0 = (0 : Int32) from rfl, b01_0, rkd_iff]
    by_cases c3 : The (sh g) k x t
    · rw [if_neg (not_not_intro c3)]
      by_cases c4 : iN (cnt (ahd (sh g) x t k) n) = y
      · rw [if_pos c4, if_pos ⟨c3, c4⟩]; rfl
      · rw [if_neg c4, if_neg (fun q => c4 q.2)]
    · rw [if_pos c3, if_neg (fun q => c3 q.1)]
  have e : (fE (fun k => iN (k : Int)) (-1) (fN (rkd (sh g) n x t y) 0 n), w) = fE (fun k => (iN (k : Int), w)) ((-1 : Int32), w) (fN (rkd (sh g) n x t y) 0 n) := by
    cases fN (rkd (sh g) n x t y) 0 n <;> rfl
  rw [e]
  refine lp_find _ (fun k => iN (k : Int)) (rkd (sh g) n x t y) n (fun k => (iN (k : Int), w)) _ ?_ ?_ ?_ (fuel_ge (by omega))
  · intro k hk hp
    show bX8_ranked_26 _ _ _ _ _ _ = _
    rw [hb k hk, if_neg (by rw [hp]; decide)]
  · intro k hk hp
    show bX8_ranked_26 _ _ _ _ _ _ = _
    rw [hb k hk, if_pos hp]
  · show bX8_ranked_26 _ _ _ _ _ _ = _
    unfold bX8_ranked_26
    rw [show (0 : Int32) = iN 0 from rfl, rd_iN (by omega) (by omega) (by omega)]
    simp only [show (0 : Int).toNat = 0 from rfl, hg]
    rw [if_pos (by rw [iN_le (by omega) (by omega) (by omega) (by omega)]; omega)]
    rfl
theorem rkd_congr {n k : Nat} {g g' : Nat → Int} (h : EqOn n g g') (hk : k < n) (x t : Int) (y : Int32) : rkd g n x t y k = rkd g' n x t y k := by
  unfold rkd
  rw [cnt_congr (fun j hj => ahd_congr h hk hj x t)]
  exact decide_eq_decide.mpr (and_congr (h.the hk x t) Iff.rfl)
/-- promise 11: who stands at a place of the ranking -/
theorem r_ranked {g g8 : Nat → Int} {n : Nat} (hg : g8 0 = n) (H : SegOK g n) (hE : EqOn n g (sh g8)) (c0 : Int32) (x1 x2 x3 : Int32) : ∃ r b c, fX7_ranked (iN n) (fun i => iN (g i)) x1 x2 x3 = some r ∧ fX8_ranked c0 (fun i => iN (g8 i)) x1 x2 x3 = some (b, c) ∧ agrI (fun e => if e = 1 then 1 else 0) r b c := by
  have hn := H.1
  have H8 := H.eqOn hE
  unfold fX7_ranked fX8_ranked jX8_ranked_17
  rw [m8_isPlace, Option.bind_some]
  by_cases c1 : (0 ≤ x1.toInt ∧ x1.toInt ≤ 255) ∧ (0 ≤ x2.toInt ∧ x2.toInt ≤ 16384)
  · rw [s7_rp_t c1, if_neg (fun q => b01_0.mp q c1)]
    simp only [Option.bind_some, tx]
    obtain ⟨⟨a1, a2⟩, a3, a4⟩ := c1
    have e0 : (0 : Int32).toInt = 0 := rfl
    by_cases c2 : 0 ≤ x3.toInt
    · have c3 : (0 : Int32) ≤ x3 := by rw [Int32.le_iff_toInt_le, e0]; exact c2
      rw [if_pos c3, if_pos c3]
      rw [iN_of x1, iN_of x2]
      generalize x1.toInt = x at *
      generalize x2.toInt = t at *
      rw [s6_atPlace H a1 a2 a3 a4, m8_rankedLoop hg H8 a1 a2 a3 a4, fN_congr (fun j _ hj => rkd_congr hE (show j < n by omega) x t x3)]
      exact ⟨_, _, _, rfl, rfl, rfl, rfl⟩
    · have c3 : ¬ (0 : Int32) ≤ x3 := by rw [Int32.le_iff_toInt_le, e0]; exact c2
      rw [if_neg c3, if_neg c3]
      exact ⟨_, _, _, rfl, rfl, rfl, by decide, by decide⟩
  · rw [s7_rp_f c1, if_pos (b01_0.mpr c1)]
    exact ⟨_, _, _, rfl, rfl, rfl, by decide, by decide⟩
/-- below y -/
def blw (g : Nat → Int) (x t : Int) (y : Int64) (i : Nat) : Bool := decide (The g i x t ∧ lI (Val g i x) < y)
theorem blw_iff {g : Nat → Int} {x t : Int} {y : Int64} {i : Nat} : blw g x t y i = true ↔ (The g i x t ∧ lI (Val g i x) < y) := decide_eq_true_iff
theorem blw_congr {n i : Nat} {g g' : Nat → Int} (h : EqOn n g g') (hi : i < n) (x t : Int) (y : Int64) : blw g x t y i = blw g' x t y i := by
  unfold blw
  rw [h.val hi]
  exact decide_eq_decide.mpr (and_congr (h.the hi x t) Iff.rfl)
theorem i64_le_not {a b : Int64} : a ≤ b ↔ ¬ b < a := by
  rw [Int64.lt_iff_toInt_lt, Int64.le_iff_toInt_le]; omega
theorem s6_countBelow {g : Nat → Int} {n : Nat} (H : SegOK g n) {x t : Int} (h0 : 0 ≤ x) (h1 : x ≤ 255) (h2 : 0 ≤ t) (h3 : t ≤ 16384) (y : Int64) : fX6_countBelow (iN n) (fun i => iN (g i)) (iN x) (iN t) y = some (iN (cnt (blw g x t y) n)) := by
  have hn := H.1
  unfold fX6_countBelow
  refine lp_for _ (fun i => (iN (cnt (blw g x t y) i : Nat), iN (i : Int))) n _ ?_ ?_ (fuel_ge (by omega))
  · intro i hi
    have vi := Val_bd H hi h0 h1
    show bX6_countBelow_6 _ _ _ _ _ (iN (cnt (blw g x t y) i : Nat)) (iN (i : Int)) = _
    unfold bX6_countBelow_6
    rw [if_neg (by rw [iN_le (by omega) (by omega) (by omega) (by omega)]; omega), s6_isThere H hi h0 h1 h2 h3, s6_height g i (by omega)]
    simp only [Option.bind_some, nm, iN_succ, b01_0, iN_l (show -2147483648 ≤ Val g i x by omega) (by omega), cmp_ge, i64_le_not]
    rw [cnt_succ]
    by_cases c3 : The g i x t
    · rw [if_neg (not_not_intro c3)]
      by_cases c4 : lI (Val g i x) < y
      · rw [if_neg (not_not_intro c4), if_pos (blw_iff.mpr ⟨c3, c4⟩)]
      · rw [if_pos c4, if_neg (fun q => c4 (blw_iff.mp q).2)]; rfl
    · rw [if_pos c3, if_neg (fun q => c3 (blw_iff.mp q).1)]; rfl
  · show bX6_countBelow_6 _ _ _ _ _ (iN (cnt (blw g x t y) n : Nat)) (iN (n : Int)) = _
    unfold bX6_countBelow_6
    rw [if_pos (by rw [iN_le (by omega) (by omega) (by omega) (by omega)]; omega)]
    rfl
theorem m8_belowLoop {g : Nat → Int} {n : Nat} (hg : g 0 = n) (H : SegOK (sh g) n) {x t : Int} (h0 : 0 ≤ x) (h1 : x ≤ 255) (h2 : 0 ≤ t) (h3 : t ≤ 16384) (y : Int64) (w : Int32) : lp (fun q => bX8_below_25 (fun i => iN (g i)) (iN x) (iN t) y w q.1 q.2) fuel ((0 : Int32), (0 : Int32)) = some (iN (cnt (blw (sh g) x t y) n), w) := by
  have hn := H.1
  refine lp_for _ (fun i => (iN (cnt (blw (sh g) x t y) i : Nat), iN (i : Int))) n _ ?_ ?_ (fuel_ge (by omega))
  · intro i hi
    have vi := Val_bd H hi h0 h1
    show bX8_below_25 _ _ _ _ _ (iN (cnt (blw (sh g) x t y) i : Nat)) (iN (i : Int)) = _
    unfold bX8_below_25 jX8_below_66
    rw [show (0 : Int32) = iN 0 from rfl, rd_iN (by omega) (by omega) (by omega)]
    simp only [show (0 : Int).toNat = 0 from rfl, hg]
    rw [if_neg (by rw [iN_le (by omega) (by omega) (by omega) (by omega)]; omega), m8_isThere H hi h0 h1 h2 h3, m8_valueAt g i (by omega)]
    simp only [Option.bind_some, nm, iN_succ, iN_add, Int.add_zero, show iN 0 = (0 : Int32) from rfl, b01_0, iN_l (show -2147483648 ≤ Val (sh g) i x by omega) (by omega), cmp_ge, i64_le_not]
    rw [cnt_succ]
    by_cases c3 : The (sh g) i x t
    · rw [if_neg (not_not_intro c3)]
      by_cases c4 : lI (Val (sh g) i x) < y
      · rw [if_neg (not_not_intro c4), if_pos (blw_iff.mpr ⟨c3, c4⟩)]
      · rw [if_pos c4, if_neg (fun q => c4 (blw_iff.mp q).2), show (0 : Int32) = iN 0 from rfl, iN_add]; rfl
    · rw [if_pos c3, if_neg (fun q => c3 (blw_iff.mp q).1), show (0 : Int32) = iN 0 from rfl, iN_add]; rfl
  · show bX8_below_25 _ _ _ _ _ (iN (cnt (blw (sh g) x t y) n : Nat)) (iN (n : Int)) = _
    unfold bX8_below_25
    rw [show (0 : Int32) = iN 0 from rfl, rd_iN (by omega) (by omega) (by omega)]
    simp only [show (0 : Int).toNat = 0 from rfl, hg]
    rw [if_pos (by rw [iN_le (by omega) (by omega) (by omega) (by omega)]; omega)]
    rfl
/-- promise 12: how many lie below -/
theorem r_below {g g8 : Nat → Int} {n : Nat} (hg : g8 0 = n) (H : SegOK g n) (hE : EqOn n g (sh g8)) (c0 : Int32) (x1 x2 : Int32) (x3 : Int64) : ∃ r b c, fX7_below (iN n) (fun i => iN (g i)) x1 x2 x3 = some r ∧ fX8_below c0 (fun i => iN (g8 i)) x1 x2 x3 = some (b, c) ∧ agrI (fun e => if e = 1 then 1 else 0) r b c := by
  have hn := H.1
  have H8 := H.eqOn hE
  unfold fX7_below fX8_below
  rw [m8_isPlace, Option.bind_some]
  by_cases c1 : (0 ≤ x1.toInt ∧ x1.toInt ≤ 255) ∧ (0 ≤ x2.toInt ∧ x2.toInt ≤ 16384)
  · rw [s7_rp_t c1, if_neg (fun q => b01_0.mp q c1)]
    simp only [Option.bind_some, tx]
    obtain ⟨⟨a1, a2⟩, a3, a4⟩ := c1
    rw [iN_of x1, iN_of x2]
    generalize x1.toInt = x at *
    generalize x2.toInt = t at *
    rw [s6_countBelow H a1 a2 a3 a4, m8_belowLoop hg H8 a1 a2 a3 a4, cnt_congr (fun j hj => blw_congr hE hj x t x3)]
    exact ⟨_, _, _, rfl, rfl, rfl, rfl⟩
  · rw [s7_rp_f c1, if_pos (b01_0.mpr c1)]
    exact ⟨_, _, _, rfl, rfl, rfl, by decide, by decide⟩
