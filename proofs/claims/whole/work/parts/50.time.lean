/-! ===== over time: turns, changes, extremes, how long one leads ===== -/
def isTurn (g : Nat → Int) (n : Nat) (x u : Int) : Prop := ∃ j, j < n ∧ Cov g j x ∧ (g (6 * j + 4) = u ∨ g (6 * j + 5) = u)
theorem fst_time {g : Nat → Int} {x t u : Int} : ∀ k, (∀ j, j < k → (The g j x t ↔ The g j x u)) → fst g x t k = fst g x u k := by
  intro k
  induction k with
  | zero => intro _; rfl
  | succ k ih =>
    intro h
    have e := ih (fun j hj => h j (by omega))
    have hk := h k (by omega)
    simp only [fst, e]
    by_cases c : The g k x t
    · by_cases c2 : (fst g x u k = -1 ∨ Val g k x < Val g (fst g x u k).toNat x)
      · rw [if_pos ⟨c, c2⟩, if_pos ⟨hk.mp c, c2⟩]
      · rw [if_neg (fun q => c2 q.2), if_neg (fun q => c2 q.2)]
    · rw [if_neg (fun q => c q.1), if_neg (fun q => c (hk.mpr q.1))]
theorem fst_const {g : Nat → Int} {n : Nat} {x t u : Int} (htu : t ≤ u) (h : ∀ w, t < w → w ≤ u → ¬ isTurn g n x w) : fst g x u n = fst g x t n := by
  refine fst_time n (fun j hj => ?_)
  by_cases c : Cov g j x
  · have h1 : ¬ (t < g (6 * j + 4) ∧ g (6 * j + 4) ≤ u) := fun q => h _ q.1 q.2 ⟨j, hj, c, Or.inl rfl⟩
    have h2 : ¬ (t < g (6 * j + 5) ∧ g (6 * j + 5) ≤ u) := fun q => h _ q.1 q.2 ⟨j, hj, c, Or.inr rfl⟩
    unfold The Liv
    constructor
    · rintro ⟨_, a, b⟩; exact ⟨c, by omega, by omega⟩
    · rintro ⟨_, a, b⟩; exact ⟨c, by omega, by omega⟩
  · exact ⟨fun q => absurd q.1 c, fun q => absurd q.1 c⟩
theorem s6_nextTurn {g : Nat → Int} {n : Nat} (H : SegOK g n) {x t : Int} (x0 : 0 ≤ x) (x1 : x ≤ 255) (t0 : 0 ≤ t) (t1 : t ≤ 16384) : ∃ r, fX6_nextTurn (iN n) (fun i => iN (g i)) (iN x) (iN t) = some (iN r) ∧ t < r ∧ r ≤ 16385 ∧ (∀ u, t < u → u < r → ¬ isTurn g n x u) := by
  have hn := H.1
  unfold fX6_nextTurn
  have key := lp_iv (body := fun q : Int32 × Int32 => bX6_nextTurn_7 (iN n) (fun i => iN (g i)) (iN x) (iN t) q.1 q.2) (s0 := ((16385 : Int32), (0 : Int32))) (fun k q => ∃ r, q = (iN r, iN (k : Int)) ∧ t < r ∧ r ≤ 16385 ∧ ∀ j, j < k → Cov g j x → (g (6 * j + 4) ≤ t ∨ r ≤ g (6 * j + 4)) ∧ (g (6 * j + 5) ≤ t ∨ r ≤ g (6 * j + 5))) (fun q => ∃ r, q = iN r ∧ t < r ∧ r ≤ 16385 ∧ (∀ u, t < u → u < r → ¬ isTurn g n x u)) n ?_ ?_ ?_ (fuel_ge (by omega))
  · obtain ⟨q, e, r, rfl, h⟩ := key
    exact ⟨r, e, h⟩
  · exact ⟨16385, rfl, by omega, by omega, fun j hj => absurd hj (Nat.not_lt_zero j)⟩
  · rintro k q hk ⟨r, rfl, r0, r1, hr⟩
    obtain ⟨-, -, ⟨a1, a2, a3⟩, a4, a5, a6⟩ := H.2 k hk
    show ∃ s', bX6_nextTurn_7 _ _ _ _ (iN r) (iN (k : Int)) = some (.inl s') ∧ _
    unfold bX6_nextTurn_7
    rw [if_neg (by rw [iN_le (by omega) (by omega) (by omega) (by omega)]; omega), s6_covers H hk x0 x1, Option.bind_some]
    simp only [nm, iN_succ]
    by_cases c1 : Cov g k x
    · rw [if_neg (fun q => b01_0.mp q c1), s6_v4 g k (by omega), Option.bind_some, s6_v5 g k (by omega), Option.bind_some]
      have step : ∀ r1 : Int, t < r1 → r1 ≤ r → (g (6 * k + 4) ≤ t ∨ r1 ≤ g (6 * k + 4)) → ∃ s', jX6_nextTurn_59 (iN t) (iN r1) (iN (k : Int)) (iN (g (6 * k + 5))) = some (.inl s') ∧ ∃ r, s' = (iN r, iN ((k + 1 : Nat) : Int)) ∧ t < r ∧ r ≤ 16385 ∧ ∀ j, j < k + 1 → Cov g j x → (g (6 * j + 4) ≤ t ∨ r ≤ g (6 * j + 4)) ∧ (g (6 * j + 5) ≤ t ∨ r ≤ g (6 * j + 5)) := by
        intro r1 h1 h2 h3
        have all : ∀ r2 : Int, r2 ≤ r1 → (g (6 * k + 5) ≤ t ∨ r2 ≤ g (6 * k + 5)) → ∀ j, j < k + 1 → Cov g j x → (g (6 * j + 4) ≤ t ∨ r2 ≤ g (6 * j + 4)) ∧ (g (6 * j + 5) ≤ t ∨ r2 ≤ g (6 * j + 5)) := by
          intro r2 h4 h5 j hj hc
          by_cases e : j = k
          · subst e; exact ⟨by omega, h5⟩
          · have := hr j (by omega) hc
            exact ⟨by omega, by omega⟩
        unfold jX6_nextTurn_59
        simp only [nm, iN_succ]
        by_cases c2 : g (6 * k + 5) ≤ t
        · rw [if_pos (by rw [iN_le (by omega) (by omega) (by omega) (by omega)]; exact c2)]
          exact ⟨_, rfl, r1, rfl, h1, by omega, all r1 (Int.le_refl _) (Or.inl c2)⟩
        · rw [if_neg (by rw [iN_le (by omega) (by omega) (by omega) (by omega)]; exact c2)]
          by_cases c3 : r1 ≤ g (6 * k + 5)
          · rw [if_pos (by rw [iN_le (by omega) (by omega) (by omega) (by omega)]; exact c3)]
            exact ⟨_, rfl, r1, rfl, h1, by omega, all r1 (Int.le_refl _) (Or.inr c3)⟩
          · rw [if_neg (by rw [iN_le (by omega) (by omega) (by omega) (by omega)]; exact c3)]
            exact ⟨_, rfl, g (6 * k + 5), rfl, by omega, by omega, all _ (by omega) (Or.inr (Int.le_refl _))⟩
      by_cases c2 : g (6 * k + 4) ≤ t
      · rw [if_pos (by rw [iN_le (by omega) (by omega) (by omega) (by omega)]; exact c2)]
        exact step r r0 (Int.le_refl _) (Or.inl c2)
      · rw [if_neg (by rw [iN_le (by omega) (by omega) (by omega) (by omega)]; exact c2)]
        by_cases c3 : r ≤ g (6 * k + 4)
        · rw [if_pos (by rw [iN_le (by omega) (by omega) (by omega) (by omega)]; exact c3)]
          exact step r r0 (Int.le_refl _) (Or.inr c3)
        · rw [if_neg (by rw [iN_le (by omega) (by omega) (by omega) (by omega)]; exact c3)]
          exact step _ (by omega) (by omega) (Or.inr (Int.le_refl _))
    · rw [if_pos (b01_0.mpr c1)]
      refine ⟨_, rfl, r, rfl, r0, r1, fun j hj hc => ?_⟩
      by_cases e : j = k
      · subst e; exact absurd hc c1
      · exact hr j (by omega) hc
  · rintro q ⟨r, rfl, r0, r1, hr⟩
    show ∃ s', bX6_nextTurn_7 _ _ _ _ (iN r) (iN (n : Int)) = some (.inr s') ∧ _
    unfold bX6_nextTurn_7
    rw [if_pos (by rw [iN_le (by omega) (by omega) (by omega) (by omega)]; omega)]
    refine ⟨_, rfl, r, rfl, r0, r1, ?_⟩
    rintro u hu hur ⟨j, hj, hc, h⟩
    have := hr j hj hc
    omega
/-- at u the first one isn't the one of just before -/
abbrev Chg (T : Int → Int) (u : Int) : Prop := ¬ T u = T (u - 1)
theorem chg_turn {g : Nat → Int} {n : Nat} {x u : Int} (h : Chg (fun t => fst g x t n) u) : isTurn g n x u := by
  by_cases c : isTurn g n x u
  · exact c
  · exact absurd (fst_const (t := u - 1) (u := u) (by omega) (fun w h1 h2 => by rw [show w = u by omega]; exact c)) h
/-- the next change behind t -/
def NxC (T : Int → Int) (t r : Int) : Prop := (r = -1 ∧ ∀ u, t < u → u ≤ 16384 → ¬ Chg T u) ∨ (t < r ∧ r ≤ 16384 ∧ Chg T r ∧ ∀ u, t < u → u < r → ¬ Chg T u)
theorem NxC.uniq {T : Int → Int} {t r r' : Int} (t0 : 0 ≤ t) (h : NxC T t r) (h' : NxC T t r') : r = r' := by
  cases h with
  | inl a =>
    cases h' with
    | inl b => omega
    | inr b => exact absurd b.2.2.1 (a.2 r' b.1 b.2.1)
  | inr a =>
    cases h' with
    | inl b => exact absurd a.2.2.1 (b.2 r a.1 a.2.1)
    | inr b =>
      by_cases c1 : r < r'
      · exact absurd a.2.2.1 (b.2.2.2 r a.1 c1)
      · by_cases c2 : r' < r
        · exact absurd b.2.2.1 (a.2.2.2 r' b.1 c2)
        · omega
theorem s6_changeAfter {g : Nat → Int} {n : Nat} (H : SegOK g n) {x t : Int} (x0 : 0 ≤ x) (x1 : x ≤ 255) (t0 : 0 ≤ t) (t1 : t ≤ 16384) : ∃ r, fX6_changeAfter (iN n) (fun i => iN (g i)) (iN x) (iN t) = some (iN r) ∧ NxC (fun t => fst g x t n) t r := by
  have hn := H.1
  unfold fX6_changeAfter
  obtain ⟨r1, e1, h1, h2, h3⟩ := s6_nextTurn H x0 x1 t0 t1
  rw [s6_firstAt H x0 x1 t0 t1, Option.bind_some, e1, Option.bind_some]
  have hbt := fst_bd g x t n
  have key := lp_m (fun q : Int32 × Int32 => bX6_changeAfter_18 (iN n) (fun i => iN (g i)) (iN x) (iN (fst g x t n)) q.1 q.2) (fun q => ∃ r k : Int, q = (iN r, iN k) ∧ t < r ∧ r ≤ 16385 ∧ 0 ≤ k ∧ k < r ∧ ∀ u, t ≤ u → u < r → fst g x u n = fst g x t n) (fun q => (16386 - q.1.toInt).toNat) (fun q => ∃ r, q = iN r ∧ NxC (fun t => fst g x t n) t r) ?_ fuel (iN r1, (0 : Int32)) ⟨r1, 0, rfl, h1, h2, by omega, by omega, fun u hu hur => fst_const hu (fun w hw hwu => h3 w hw (by omega))⟩ (fuel_ge (by show (16386 - (iN r1).toInt).toNat ≤ _; rw [iN_toInt (by omega) (by omega)]; omega))
  · obtain ⟨q, e, r, rfl, h⟩ := key
    exact ⟨r, e, h⟩
  · rintro q ⟨r, k, rfl, r0, r2, k0, k1, hr⟩
    have no : ∀ u, t < u → u < r → ¬ Chg (fun t => fst g x t n) u := by
      intro u hu hur hc
      exact hc ((hr u (by omega) hur).trans (hr (u - 1) (by omega) (by omega)).symm)
    show (∃ s', bX6_changeAfter_18 _ _ _ _ (iN r) (iN k) = some (.inl s') ∧ _) ∨ (∃ s', bX6_changeAfter_18 _ _ _ _ (iN r) (iN k) = some (.inr s') ∧ _)
    unfold bX6_changeAfter_18
    have none : 16384 < r → ∃ s' : Int32, xt (some (-1 : Int32)) = some (.inr s' : (Int32 × Int32) ⊕ Int32) ∧ ∃ r, s' = iN r ∧ NxC (fun t => fst g x t n) t r := fun h => ⟨_, rfl, -1, rfl, Or.inl ⟨rfl, fun u hu hu2 => no u hu (by omega)⟩⟩
    by_cases c1 : 16384 < k
    · rw [if_pos (by rw [show (16384 : Int32) = iN 16384 from rfl, iN_lt (by omega) (by omega) (by omega) (by omega)]; exact c1)]
      exact Or.inr (none (by omega))
    · rw [if_neg (by rw [show (16384 : Int32) = iN 16384 from rfl, iN_lt (by omega) (by omega) (by omega) (by omega)]; exact c1)]
      by_cases c2 : 16384 < r
      · rw [if_pos (by rw [show (16384 : Int32) = iN 16384 from rfl, iN_lt (by omega) (by omega) (by omega) (by omega)]; exact c2)]
        exact Or.inr (none c2)
      · rw [if_neg (by rw [show (16384 : Int32) = iN 16384 from rfl, iN_lt (by omega) (by omega) (by omega) (by omega)]; exact c2)]
        have hbr := fst_bd g x r n
        rw [s6_firstAt H x0 x1 (show 0 ≤ r by omega) (by omega), Option.bind_some]
        by_cases c3 : fst g x r n = fst g x t n
        · obtain ⟨r3, e3, g1, g2, g3⟩ := s6_nextTurn H x0 x1 (show 0 ≤ r by omega) (show r ≤ 16384 by omega)
          rw [if_pos (by rw [c3]), e3, Option.bind_some]
          simp only [nm, show iN k + (1 : Int32) = iN (k + 1) from iN_add k 1]
          refine Or.inl ⟨_, rfl, ⟨r3, k + 1, rfl, by omega, by omega, by omega, by omega, fun u hu hur => ?_⟩, ?_⟩
          · by_cases c4 : u < r
            · exact hr u hu c4
            · rw [← c3]
              exact fst_const (by omega) (fun w hw hwu => g3 w hw (by omega))
          · show (16386 - (iN r3).toInt).toNat < (16386 - (iN r).toInt).toNat
            rw [iN_toInt (by omega) (by omega), iN_toInt (by omega) (by omega)]; omega
        · rw [if_neg (by rw [iN_eq (by omega) (by omega) (by omega) (by omega)]; exact c3)]
          refine Or.inr ⟨_, rfl, r, rfl, Or.inr ⟨r0, by omega, ?_, no⟩⟩
          intro q
          exact c3 (q.trans (hr (r - 1) (by omega) (by omega)))
/-- the ticks at which lives start or end, in the order of the segments -/
def ev (g : Nat → Int) (i : Nat) : Int := g (6 * (i / 2) + (4 + i % 2))
theorem m8_event (g : Nat → Int) (i : Nat) (hi : i < 80) : fX8_event (fun i => iN (g i)) (iN (i : Int)) = some (iN (ev (sh g) i)) := by
  unfold fX8_event jX8_event_15
  rw [dv_n (by decide), dv_n (by decide), show (2 : Int32) = iN 2 from rfl, iN_div (by omega) (by omega) (by omega) (by omega), iN_mul, iN_sub, show ((i : Int) / 2) = ((i / 2 : Nat) : Int) by omega]
  unfold ev
  by_cases c : i % 2 = 0
  · rw [if_pos (by rw [show (0 : Int32) = iN 0 from rfl, iN_eq (by omega) (by omega) (by omega) (by omega)]; omega), m8_o4 g (i / 2) (by omega), c]
    rfl
  · rw [if_neg (by rw [show (0 : Int32) = iN 0 from rfl, iN_eq (by omega) (by omega) (by omega) (by omega)]; omega), m8_o5 g (i / 2) (by omega), show i % 2 = 1 by omega]
    rfl
theorem ev_bd {g : Nat → Int} {n : Nat} (H : SegOK g n) {i : Nat} (hi : i < 2 * n) : 0 ≤ ev g i ∧ ev g i ≤ 16384 := by
  obtain ⟨-, -, -, a1, a2, a3⟩ := H.2 (i / 2) (by omega)
  unfold ev
  by_cases c : i % 2 = 0
  · rw [c]; exact ⟨a1, by show g (6 * (i / 2) + 4) ≤ _; omega⟩
  · rw [show i % 2 = 1 by omega]; exact ⟨by show _ ≤ g (6 * (i / 2) + 5); omega, a3⟩
theorem turn_ev {g : Nat → Int} {n : Nat} {x u : Int} (h : isTurn g n x u) : ∃ i, i < 2 * n ∧ ev g i = u := by
  obtain ⟨j, hj, -, h⟩ := h
  cases h with
  | inl h => exact ⟨2 * j, by omega, by unfold ev; rw [show 2 * j / 2 = j by omega, show 2 * j % 2 = 0 by omega]; exact h⟩
  | inr h => exact ⟨2 * j + 1, by omega, by unfold ev; rw [show (2 * j + 1) / 2 = j by omega, show (2 * j + 1) % 2 = 1 by omega]; exact h⟩
theorem m8_isChange {g : Nat → Int} {n : Nat} (hg : g 0 = n) (H : SegOK (sh g) n) {x u : Int} (x0 : 0 ≤ x) (x1 : x ≤ 255) (u0 : 1 ≤ u) (u1 : u ≤ 16384) : fX8_isChange (fun i => iN (g i)) (iN x) (iN u) = some (if Chg (fun t => fst (sh g) x t n) u then 1 else 0) := by
  have hn := H.1
  have b1 := fst_bd (sh g) x u n
  have b2 := fst_bd (sh g) x (u - 1) n
  unfold fX8_isChange
  rw [m8_firstAt hg H x0 x1 (by omega) u1, Option.bind_some, show iN u - (1 : Int32) = iN (u - 1) from iN_sub u 1, m8_firstAt hg H x0 x1 (by omega) (by omega), Option.bind_some, zr_0, zr_1]
  by_cases c : fst (sh g) x u n = fst (sh g) x (u - 1) n
  · rw [if_pos (by rw [c]), b01_f (fun q => q c)]
  · rw [if_neg (by rw [iN_eq (by omega) (by omega) (by omega) (by omega)]; exact c), b01_t (show Chg (fun t => fst (sh g) x t n) u from c)]
/-- promise 19: the next change -/
theorem r_nextChange {g g8 : Nat → Int} {n : Nat} (hg : g8 0 = n) (H : SegOK g n) (hE : EqOn n g (sh g8)) (c0 : Int32) (x1 x2 : Int32) : ∃ r b c, fX7_nextChange (iN n) (fun i => iN (g i)) x1 x2 = some r ∧ fX8_nextChange c0 (fun i => iN (g8 i)) x1 x2 = some (b, c) ∧ agrI (fun e => if e = 1 then 1 else 0) r b c := by
  have hn := H.1
  have H8 := H.eqOn hE
  unfold fX7_nextChange fX8_nextChange
  rw [m8_isPlace, qb]
  by_cases c1 : (0 ≤ x1.toInt ∧ x1.toInt ≤ 255) ∧ (0 ≤ x2.toInt ∧ x2.toInt ≤ 16384)
  · rw [s7_rp_t c1, if_neg (fun q => b01_0.mp q c1), qb, qt]
    obtain ⟨⟨a1, a2⟩, a3, a4⟩ := c1
    rw [iN_of x1, iN_of x2]
    generalize x1.toInt = x at *
    generalize x2.toInt = t at *
    obtain ⟨r, e, hr⟩ := s6_changeAfter H a1 a2 a3 a4
    rw [e, qb]
    have key := lp_iv (body := fun q : Int32 × Int32 => bX8_nextChange_24 (fun i => iN (g8 i)) (iN x) (iN t) (0 : Int32) q.1 q.2) (s0 := ((-1 : Int32), (0 : Int32))) (fun k q => ∃ r, q = (iN r, iN (k : Int)) ∧ ((r = -1 ∧ ∀ i, i < k → t < ev (sh g8) i → ¬ Chg (fun t => fst (sh g8) x t n) (ev (sh g8) i)) ∨ (t < r ∧ r ≤ 16384 ∧ Chg (fun t => fst (sh g8) x t n) r ∧ ∀ i, i < k → t < ev (sh g8) i → ev (sh g8) i < r → ¬ Chg (fun t => fst (sh g8) x t n) (ev (sh g8) i)))) (fun q => ∃ r, q = (iN r, (0 : Int32)) ∧ NxC (fun t => fst (sh g8) x t n) t r) (2 * n) ?_ ?_ ?_ (fuel_ge (by omega))
    · obtain ⟨q, e8, r8, rfl, h8⟩ := key
      rw [e8]
      have hT : (fun t => fst g x t n) = fun t => fst (sh g8) x t n := funext fun t => EqOn_fst hE x t n (Nat.le_refl n)
      rw [hT] at hr
      rw [hr.uniq a3 h8]
      exact ⟨_, _, _, rfl, rfl, rfl, rfl⟩
    · exact ⟨-1, rfl, Or.inl ⟨rfl, fun i hi => absurd hi (Nat.not_lt_zero i)⟩⟩
    · rintro k q hk ⟨r, rfl, hI⟩
      have hv := ev_bd H8 hk
      have rr : -1 ≤ r ∧ r ≤ 16384 := by omega
      show ∃ s', bX8_nextChange_24 _ _ _ _ (iN r) (iN (k : Int)) = some (.inl s') ∧ _
      unfold bX8_nextChange_24 jX8_nextChange_66 jX8_nextChange_67
      rw [show (0 : Int32) = iN 0 from rfl, rd_iN (by omega) (by omega) (by omega)]
      simp only [show (0 : Int).toNat = 0 from rfl, hg]
      rw [show (2 : Int32) = iN 2 from rfl, iN_mul, if_neg (by rw [iN_le (by omega) (by omega) (by omega) (by omega)]; omega), m8_event g8 k (by omega), Option.bind_some]
      simp only [show (iN 0 : Int32) = 0 from rfl, if_true, nm, iN_succ]
      rw [if_neg (show ¬ (1 : Int32) = 0 by decide)]
      have skip : (t < ev (sh g8) k → (¬ r = -1 → ev (sh g8) k < r) → ¬ Chg (fun t => fst (sh g8) x t n) (ev (sh g8) k)) → ∃ r', (iN r, iN ((k + 1 : Nat) : Int)) = (iN r', iN ((k + 1 : Nat) : Int)) ∧ ((r' = -1 ∧ ∀ i, i < k + 1 → t < ev (sh g8) i → ¬ Chg (fun t => fst (sh g8) x t n) (ev (sh g8) i)) ∨ (t < r' ∧ r' ≤ 16384 ∧ Chg (fun t => fst (sh g8) x t n) r' ∧ ∀ i, i < k + 1 → t < ev (sh g8) i → ev (sh g8) i < r' → ¬ Chg (fun t => fst (sh g8) x t n) (ev (sh g8) i))) := by
        intro hs
        refine ⟨r, rfl, ?_⟩
        cases hI with
        | inl a =>
          refine Or.inl ⟨a.1, fun i hi ht => ?_⟩
          by_cases ei : i = k
          · subst ei; exact hs ht (fun q => absurd a.1 q)
          · exact a.2 i (by omega) ht
        | inr a =>
          refine Or.inr ⟨a.1, a.2.1, a.2.2.1, fun i hi ht hir => ?_⟩
          by_cases ei : i = k
          · subst ei; exact hs ht (fun _ => hir)
          · exact a.2.2.2 i (by omega) ht hir
      by_cases d1 : ev (sh g8) k ≤ t
      · rw [if_pos (by rw [iN_le (by omega) (by omega) (by omega) (by omega)]; exact d1)]
        exact ⟨_, rfl, skip (fun q => by omega)⟩
      · rw [if_neg (by rw [iN_le (by omega) (by omega) (by omega) (by omega)]; exact d1)]
        have take : (r = -1 ∨ ev (sh g8) k < r) → ∃ s', (Option.bind (some (iN (ev (sh g8) k))) fun r3 => Option.bind (fX8_isChange (fun i => iN (g8 i)) (iN x) r3) fun r4 => if r4 = 0 then some (Sum.inl (iN r, iN ((k + 1 : Nat) : Int))) else Option.bind (some (iN (ev (sh g8) k))) fun r7 => some (Sum.inl (r7, iN ((k + 1 : Nat) : Int)))) = some (Sum.inl s' : (Int32 × Int32) ⊕ (Int32 × Int32)) ∧ ∃ r', s' = (iN r', iN ((k + 1 : Nat) : Int)) ∧ ((r' = -1 ∧ ∀ i, i < k + 1 → t < ev (sh g8) i → ¬ Chg (fun t => fst (sh g8) x t n) (ev (sh g8) i)) ∨ (t < r' ∧ r' ≤ 16384 ∧ Chg (fun t => fst (sh g8) x t n) r' ∧ ∀ i, i < k + 1 → t < ev (sh g8) i → ev (sh g8) i < r' → ¬ Chg (fun t => fst (sh g8) x t n) (ev (sh g8) i))) := by
          intro ht
          rw [Option.bind_some, m8_isChange hg H8 a1 a2 (by omega) hv.2, Option.bind_some]
          by_cases d2 : Chg (fun t => fst (sh g8) x t n) (ev (sh g8) k)
          · rw [if_neg (fun q => b01_0.mp q d2), Option.bind_some]
            refine ⟨_, rfl, _, rfl, Or.inr ⟨by omega, hv.2, d2, fun i hi hti hik => ?_⟩⟩
            by_cases ei : i = k
            · subst ei; omega
            · cases hI with
              | inl a => exact a.2 i (by omega) hti
              | inr a => exact a.2.2.2 i (by omega) hti (by omega)
          · rw [if_pos (b01_0.mpr d2)]
            exact ⟨_, rfl, skip (fun _ _ => d2)⟩
        by_cases d2 : r = -1
        · rw [if_pos (by rw [d2]; rfl)]
          exact take (Or.inl d2)
        · rw [if_neg (by rw [show (-1 : Int32) = iN (-1) from rfl, iN_eq (by omega) (by omega) (by omega) (by omega)]; exact d2)]
          by_cases d3 : r ≤ ev (sh g8) k
          · rw [Option.bind_some, if_pos (by rw [iN_le (by omega) (by omega) (by omega) (by omega)]; exact d3)]
            exact ⟨_, rfl, skip (fun _ q => by have := q d2; omega)⟩
          · rw [Option.bind_some, if_neg (by rw [iN_le (by omega) (by omega) (by omega) (by omega)]; exact d3)]
            exact take (Or.inr (by omega))
    · rintro q ⟨r, rfl, hI⟩
      show ∃ s', bX8_nextChange_24 _ _ _ _ (iN r) (iN ((2 * n : Nat) : Int)) = some (.inr s') ∧ _
      unfold bX8_nextChange_24
      rw [show (0 : Int32) = iN 0 from rfl, rd_iN (by omega) (by omega) (by omega)]
      simp only [show (0 : Int).toNat = 0 from rfl, hg]
      rw [show (2 : Int32) = iN 2 from rfl, iN_mul, if_pos (by rw [iN_le (by omega) (by omega) (by omega) (by omega)]; omega)]
      refine ⟨_, rfl, r, rfl, ?_⟩
      cases hI with
      | inl a =>
        refine Or.inl ⟨a.1, fun u hu hu2 hc => ?_⟩
        obtain ⟨i, hi, rfl⟩ := turn_ev (chg_turn hc)
        exact a.2 i hi hu hc
      | inr a =>
        refine Or.inr ⟨a.1, a.2.1, a.2.2.1, fun u hu hu2 hc => ?_⟩
        obtain ⟨i, hi, rfl⟩ := turn_ev (chg_turn hc)
        exact a.2.2.2 i hi hu hu2 hc
  · rw [s7_rp_f c1, if_pos (b01_0.mpr c1)]
    exact ⟨_, _, _, rfl, rfl, rfl, by decide, by decide⟩
