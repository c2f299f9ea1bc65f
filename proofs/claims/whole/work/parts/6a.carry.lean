/-! ===== carryOut ===== -/
theorem s4_num (nums : Nat → Int32) {i : Nat} (hi : i < 4) : fX4_number nums (iN (i : Int)) = some (nums i) := by
  unfold fX4_number
  rw [if_neg (by rw [show (0 : Int32) = iN 0 from rfl, iN_lt (by omega) (by omega) (by omega) (by omega)]; omega), if_neg (by rw [show (4 : Int32) = iN 4 from rfl, iN_le (by omega) (by omega) (by omega) (by omega)]; omega), rd_iN (by omega) (by omega) (by omega)]
  rfl
theorem s4_n0 (nums : Nat → Int32) : fX4_number nums (0 : Int32) = some (nums 0) := s4_num nums (i := 0) (by omega)
theorem s4_n1 (nums : Nat → Int32) : fX4_number nums (1 : Int32) = some (nums 1) := s4_num nums (i := 1) (by omega)
theorem s4_n2 (nums : Nat → Int32) : fX4_number nums (2 : Int32) = some (nums 2) := s4_num nums (i := 2) (by omega)
theorem s4_n3 (nums : Nat → Int32) : fX4_number nums (3 : Int32) = some (nums 3) := s4_num nums (i := 3) (by omega)
abbrev DS := Int × Nat × (Nat → Int) × Nat × (Nat → Int) × (Nat → Int)
abbrev DR (mk : Nat) (mw mz : Nat → Int) (mg : Nat → Nat → Int) (A : DS) : Prop := SR mk A.1 A.2.1 A.2.2.1 A.2.2.2.1 A.2.2.2.2.1 mw mz mg A.2.2.2.2.2
abbrev pfm (A : DS) (L : Int32) (nums : Nat → Int32) := fX7_perform (iN A.1) (iN (A.2.1 : Int)) (fun i => iN (A.2.2.1 i)) (iN (A.2.2.2.1 : Int)) (fun i => iN (A.2.2.2.2.1 i)) L nums
abbrev dsF (A : DS) : Nat → Int32 := fun i => iN (A.2.2.2.2.2 i)
def DoOK (letter number : Nat → Int32) (k : Nat) (v : Nat → Int32) (A B : DS) : Prop := (∀ nums : Nat → Int32, (∀ i, i < nc (letter k) → nums i = v i) → ∃ v0 : Int, pfm A (letter k) nums = some (iN v0, iN B.1, iN (B.2.1 : Int), (fun i => iN (B.2.2.1 i)), iN (B.2.2.2.1 : Int), fun i => iN (B.2.2.2.2.1 i)) ∧ 0 ≤ v0 ∧ v0 < 2147483648) ∧ fX8_whyNotDo (dsF A) letter number (iN (k : Int)) = some 0 ∧ fX8_doNow (dsF A) letter number (iN (k : Int)) = some (dsF B)
def DoBad (letter number : Nat → Int32) (k : Nat) (v : Nat → Int32) (A : DS) : Prop := (∀ nums : Nat → Int32, (∀ i, i < nc (letter k) → nums i = v i) → ∃ e, pfm A (letter k) nums = some (e, iN A.1, iN (A.2.1 : Int), (fun i => iN (A.2.2.1 i)), iN (A.2.2.2.1 : Int), fun i => iN (A.2.2.2.2.1 i)) ∧ ¬ 0 ≤ e) ∧ ∃ c, fX8_whyNotDo (dsF A) letter number (iN (k : Int)) = some c ∧ ¬ c = 0
theorem p_do {mk : Nat} {mw mz : Nat → Int} {mg : Nat → Nat → Int} {A : DS} (hR : DR mk mw mz mg A) {letter number v : Nat → Int32} {k : Nat} (hk : k < 60) (hL : isL (letter k)) (hn : ∀ i, i < nc (letter k) → number (4 * k + i) = v i) : (∃ B, DoOK letter number k v A B ∧ DR mk mw mz mg B) ∨ DoBad letter number k v A := by
  obtain ⟨now, n, g, m, q, f⟩ := A
  change SR mk now n g m q mw mz mg f at hR
  have r0 : ∀ {α : Type} {z : Int32 → Option α}, rd 240 number ((4 : Int32) * iN (k : Int)) z = z (number (4 * k)) := by
    intro α z
    rw [show (4 : Int32) = iN 4 from rfl, iN_mul, rd_iN (by omega) (by omega) (by omega), show (4 * (k : Int)).toNat = 4 * k by omega]
  have rj : ∀ {α : Type} {z : Int32 → Option α} (j : Nat), j < 4 → rd 240 number ((4 : Int32) * iN (k : Int) + iN (j : Int)) z = z (number (4 * k + j)) := by
    intro α z j hj
    rw [show (4 : Int32) = iN 4 from rfl, iN_mul, iN_add, rd_iN (by omega) (by omega) (by omega), show (4 * (k : Int) + (j : Int)).toNat = 4 * k + j by omega]
  have r1 : ∀ {α : Type} {z : Int32 → Option α}, rd 240 number ((4 : Int32) * iN (k : Int) + (1 : Int32)) z = z (number (4 * k + 1)) := fun {α z} => rj 1 (by omega)
  have r2 : ∀ {α : Type} {z : Int32 → Option α}, rd 240 number ((4 : Int32) * iN (k : Int) + (2 : Int32)) z = z (number (4 * k + 2)) := fun {α z} => rj 2 (by omega)
  have r3 : ∀ {α : Type} {z : Int32 → Option α}, rd 240 number ((4 : Int32) * iN (k : Int) + (3 : Int32)) z = z (number (4 * k + 3)) := fun {α z} => rj 3 (by omega)
  have rl : ∀ {α : Type} {z : Int32 → Option α}, rd 60 letter (iN (k : Int)) z = z (letter k) := by
    intro α z
    rw [rd_iN (by omega) (by omega) (by omega), show ((k : Int)).toNat = k from rfl]
  have eW : fX8_whyNotDo (dsF (now, n, g, m, q, f)) letter number (iN (k : Int)) = (if letter k = (97 : Int32) then fX8_whyNotAdd (fun i => iN (f i)) (number (4 * k)) (number (4 * k + 1)) (number (4 * k + 2)) (number (4 * k + 3)) else if letter k = (101 : Int32) then fX8_whyNotEnd (fun i => iN (f i)) (number (4 * k)) else if letter k = (109 : Int32) then fX8_whyNotLift (fun i => iN (f i)) (number (4 * k)) (number (4 * k + 1)) else if letter k = (113 : Int32) then fX8_whyNotCollect (fun i => iN (f i)) (number (4 * k)) (number (4 * k + 1)) else if letter k = (116 : Int32) then fX8_whyNotPass (fun i => iN (f i)) (number (4 * k)) else some 0) := by
    have bs : ∀ o : Option Int32, (Option.bind o fun r => some r) = o := fun o => by cases o <;> rfl
    unfold fX8_whyNotDo
    rw [r0, r1, rl]
    simp only [r2, r3, bs]
  unfold DoOK DoBad pfm
  rw [eW]
  rcases hL with c | c | c | c | c | c
  · have e0 := hn 0 (by rw [c]; decide)
    have e1 := hn 1 (by rw [c]; decide)
    have e2 := hn 2 (by rw [c]; decide)
    have e3 := hn 3 (by rw [c]; decide)
    rw [Nat.add_zero] at e0
    rw [c, if_pos rfl, e0, e1, e2, e3]
    rcases p_add hR (v 0) (v 1) (v 2) (v 3) with ⟨w, n', g', f', k1, k2, k3, k4, k5⟩ | ⟨e, cc, k1, k2, k3⟩
    · refine Or.inl ⟨(now, n', g', m, q, f'), ⟨fun nums hv => ⟨w, ?_, k2⟩, k3, ?_⟩, k5⟩
      · unfold fX7_perform
        rw [if_pos rfl, s4_n0, qb, s4_n1, qb, s4_n2, qb, s4_n3, qb, hv 0 (by decide), hv 1 (by decide), hv 2 (by decide), hv 3 (by decide)]
        dsimp only
        rw [k1, qb, q3]
      · unfold fX8_doNow
        rw [r0, r1, rl, c, if_pos rfl, r2, r3, e0, e1, e2, e3]
        show rd 1634 (fun i => iN (f i)) (1 : Int32) _ = _
        rw [rd_1, hR.1.2.1, k4, qb, q2]
    · refine Or.inr ⟨fun nums hv => ⟨e, ?_, ?_⟩, cc, k2, ?_⟩
      · unfold fX7_perform
        rw [if_pos rfl, s4_n0, qb, s4_n1, qb, s4_n2, qb, s4_n3, qb, hv 0 (by decide), hv 1 (by decide), hv 2 (by decide), hv 3 (by decide)]
        dsimp only
        rw [k1, qb, q3]
      · rcases k3 with ⟨rfl, -⟩ | ⟨rfl, -⟩ <;> decide
      · rcases k3 with ⟨-, rfl⟩ | ⟨-, rfl⟩ <;> decide
  · have e0 := hn 0 (by rw [c]; decide)
    rw [Nat.add_zero] at e0
    rw [c, if_neg (by decide), if_pos rfl, e0]
    rcases p_end hR (v 0) with ⟨w, g', f', k1, k2, k3, k4, k5⟩ | ⟨e, cc, k1, k2, k3⟩
    · refine Or.inl ⟨(now, n, g', m, q, f'), ⟨fun nums hv => ⟨w, ?_, k2⟩, k3, ?_⟩, k5⟩
      · unfold fX7_perform
        rw [if_neg (by decide), if_pos rfl, s4_n0, qb, hv 0 (by decide)]
        dsimp only
        rw [k1, qb, q2]
      · unfold fX8_doNow
        rw [r0, r1, rl, c, if_neg (by decide), if_pos rfl, e0]
        show Option.bind (fX8_endNow (fun i => iN (f i)) (v 0)) _ = _
        rw [k4, qb, q2]
    · refine Or.inr ⟨fun nums hv => ⟨e, ?_, ?_⟩, cc, k2, ?_⟩
      · unfold fX7_perform
        rw [if_neg (by decide), if_pos rfl, s4_n0, qb, hv 0 (by decide)]
        dsimp only
        rw [k1, qb, q2]
      · rcases k3 with ⟨rfl, -⟩ | ⟨rfl, -⟩ <;> decide
      · rcases k3 with ⟨-, rfl⟩ | ⟨-, rfl⟩ <;> decide
  · have e0 := hn 0 (by rw [c]; decide)
    have e1 := hn 1 (by rw [c]; decide)
    rw [Nat.add_zero] at e0
    rw [c, if_neg (by decide), if_neg (by decide), if_pos rfl, e0, e1]
    rcases p_lift hR (v 0) (v 1) with ⟨w, n', g', f', k1, k2, k3, k4, k5⟩ | ⟨e, cc, k1, k2, k3⟩
    · refine Or.inl ⟨(now, n', g', m, q, f'), ⟨fun nums hv => ⟨w, ?_, k2⟩, k3, ?_⟩, k5⟩
      · unfold fX7_perform
        rw [if_neg (by decide), if_neg (by decide), if_pos rfl, s4_n0, qb, s4_n1, qb, hv 0 (by decide), hv 1 (by decide)]
        dsimp only
        rw [k1, qb, q3]
      · unfold fX8_doNow
        rw [r0, r1, rl, c, if_neg (by decide), if_neg (by decide), if_pos rfl, e0, e1]
        show Option.bind (fX8_liftNow (fun i => iN (f i)) (v 0) (v 1)) _ = _
        rw [k4, qb, q2]
    · refine Or.inr ⟨fun nums hv => ⟨e, ?_, ?_⟩, cc, k2, ?_⟩
      · unfold fX7_perform
        rw [if_neg (by decide), if_neg (by decide), if_pos rfl, s4_n0, qb, s4_n1, qb, hv 0 (by decide), hv 1 (by decide)]
        dsimp only
        rw [k1, qb, q3]
      · rcases k3 with ⟨rfl, -⟩ | ⟨rfl, -⟩ | ⟨rfl, -⟩ <;> decide
      · rcases k3 with ⟨-, rfl⟩ | ⟨-, rfl⟩ | ⟨-, rfl⟩ <;> decide
  · have e0 := hn 0 (by rw [c]; decide)
    have e1 := hn 1 (by rw [c]; decide)
    rw [Nat.add_zero] at e0
    rw [c, if_neg (by decide), if_neg (by decide), if_neg (by decide), if_pos rfl, e0, e1]
    rcases p_collect hR (v 0) (v 1) with ⟨w, m', q', f', k1, k2, k3, k4, k5⟩ | ⟨e, cc, k1, k2, k3⟩
    · refine Or.inl ⟨(now, n, g, m', q', f'), ⟨fun nums hv => ⟨w, ?_, k2⟩, k3, ?_⟩, k5⟩
      · unfold fX7_perform
        rw [if_neg (by decide), if_neg (by decide), if_neg (by decide), if_pos rfl, s4_n0, qb, s4_n1, qb, hv 0 (by decide), hv 1 (by decide)]
        dsimp only
        rw [k1, qb, q3]
      · unfold fX8_doNow
        rw [r0, r1, rl, c, if_neg (by decide), if_neg (by decide), if_neg (by decide), if_pos rfl, e0, e1]
        show Option.bind (fX8_collectNow (fun i => iN (f i)) (v 0) (v 1)) _ = _
        rw [k4, qb, q2]
    · refine Or.inr ⟨fun nums hv => ⟨e, ?_, ?_⟩, cc, k2, ?_⟩
      · unfold fX7_perform
        rw [if_neg (by decide), if_neg (by decide), if_neg (by decide), if_pos rfl, s4_n0, qb, s4_n1, qb, hv 0 (by decide), hv 1 (by decide)]
        dsimp only
        rw [k1, qb, q3]
      · rcases k3 with ⟨rfl, -⟩ | ⟨rfl, -⟩ <;> decide
      · rcases k3 with ⟨-, rfl⟩ | ⟨-, rfl⟩ <;> decide
  · rw [c, if_neg (by decide), if_neg (by decide), if_neg (by decide), if_neg (by decide), if_neg (by decide)]
    obtain ⟨w, q', f', k1, k2, k3, k5⟩ := p_solve hR
    refine Or.inl ⟨(now, n, g, m, q', f'), ⟨fun nums hv => ⟨w, ?_, k2⟩, rfl, ?_⟩, k5⟩
    · unfold fX7_perform
      rw [if_neg (by decide), if_neg (by decide), if_neg (by decide), if_neg (by decide), if_neg (by decide)]
      dsimp only
      rw [k1, qb, q2]
    · unfold fX8_doNow
      rw [r0, r1, rl, c, if_neg (by decide), if_neg (by decide), if_neg (by decide), if_neg (by decide), if_neg (by decide)]
      show Option.bind (fX8_solveNow (fun i => iN (f i))) _ = _
      rw [k3, qb, q2]
  · have e0 := hn 0 (by rw [c]; decide)
    rw [Nat.add_zero] at e0
    rw [c, if_neg (by decide), if_neg (by decide), if_neg (by decide), if_neg (by decide), if_pos rfl, e0]
    rcases p_pass hR (v 0) with ⟨w, f', k1, k2, k3, k4, k6, k5⟩ | ⟨e, cc, k1, k2, k3⟩
    · refine Or.inl ⟨(w, n, g, m, q, f'), ⟨fun nums hv => ⟨w, ?_, k2⟩, k3, ?_⟩, k5⟩
      · unfold fX7_perform
        rw [if_neg (by decide), if_neg (by decide), if_neg (by decide), if_neg (by decide), if_pos rfl, s4_n0, qb, hv 0 (by decide)]
        dsimp only
        rw [k1, qb, q2]
      · unfold fX8_doNow
        rw [r0, r1, rl, c, if_neg (by decide), if_neg (by decide), if_neg (by decide), if_neg (by decide), if_pos rfl, e0]
        exact k4
    · refine Or.inr ⟨fun nums hv => ⟨e, ?_, ?_⟩, cc, k2, ?_⟩
      · unfold fX7_perform
        rw [if_neg (by decide), if_neg (by decide), if_neg (by decide), if_neg (by decide), if_pos rfl, s4_n0, qb, hv 0 (by decide)]
        dsimp only
        rw [k1, qb, q2]
      · rcases k3 with ⟨rfl, -⟩ | ⟨rfl, -⟩ <;> decide
      · rcases k3 with ⟨-, rfl⟩ | ⟨-, rfl⟩ <;> decide
theorem chainDo {mk : Nat} {mw mz : Nat → Int} {mg : Nat → Nat → Int} {A0 : DS} (hR : DR mk mw mz mg A0) {letter number : Nat → Int32} {Vs : Nat → Nat → Int32} : ∀ K : Nat, K ≤ 60 → (∀ j, j < K → isL (letter j) ∧ ∀ i, i < nc (letter j) → number (4 * j + i) = Vs j i) → ∃ (J : Nat) (A : Nat → DS), J ≤ K ∧ A 0 = A0 ∧ (∀ j, j < J → DoOK letter number j (Vs j) (A j) (A (j + 1))) ∧ DR mk mw mz mg (A J) ∧ (J = K ∨ (J < K ∧ DoBad letter number J (Vs J) (A J))) := by
  intro K
  induction K with
  | zero => intro _ _; exact ⟨0, fun _ => A0, Nat.le_refl 0, rfl, fun j hj => absurd hj (Nat.not_lt_zero j), hR, Or.inl rfl⟩
  | succ K ih =>
    intro hK h
    obtain ⟨J, A, h1, h2, h3, h4, h5⟩ := ih (by omega) (fun j hj => h j (by omega))
    rcases h5 with rfl | ⟨h5, h6⟩
    · rcases p_do h4 (show J < 60 by omega) (h J (by omega)).1 (h J (by omega)).2 with ⟨B, k1, k2⟩ | k
      · refine ⟨J + 1, fun j => if j = J + 1 then B else A j, Nat.le_refl _, ?_, fun j hj => ?_, ?_, Or.inl rfl⟩
        · show (if 0 = J + 1 then B else A 0) = A0
          rw [if_neg (by omega)]; exact h2
        · show DoOK letter number j (Vs j) (if j = J + 1 then B else A j) (if j + 1 = J + 1 then B else A (j + 1))
          rw [if_neg (by omega)]
          by_cases c : j = J
          · subst c; rw [if_pos rfl]; exact k1
          · rw [if_neg (by omega)]; exact h3 j (by omega)
        · show DR mk mw mz mg (if J + 1 = J + 1 then B else A (J + 1))
          rw [if_pos rfl]; exact k2
      · exact ⟨J, A, by omega, h2, h3, h4, Or.inr ⟨by omega, k⟩⟩
    · exact ⟨J, A, by omega, h2, h3, h4, Or.inr ⟨by omega, h6⟩⟩
theorem m8_exchange (s b : Nat → Int32) : ∃ s' b', fX8_exchange s b = some (s', b') ∧ ∀ j, j < 1634 → s' j = b j ∧ b' j = s j := by
  obtain ⟨N, hN⟩ : ∃ N : Nat, N = 1634 := ⟨_, rfl⟩
  have key := lp_iv (body := fun q : Int32 × (Nat → Int32) × (Nat → Int32) => bX8_exchange_2 q.1 q.2.1 q.2.2) (s0 := ((0 : Int32), s, b)) (fun k q => ∃ s' b' : Nat → Int32, q = (iN (k : Int), s', b') ∧ (∀ j, j < k → s' j = b j ∧ b' j = s j) ∧ ∀ j, k ≤ j → s' j = s j ∧ b' j = b j) (fun r => ∃ s' b' : Nat → Int32, r = (s', b') ∧ ∀ j, j < N → s' j = b j ∧ b' j = s j) N ⟨s, b, rfl, fun j hj => absurd hj (Nat.not_lt_zero j), fun _ _ => ⟨rfl, rfl⟩⟩ ?_ ?_ (fuel_ge (by omega))
  · obtain ⟨r, e, s', b', rfl, h⟩ := key
    exact ⟨s', b', e, fun j hj => h j (by omega)⟩
  · rintro k q hk ⟨s', b', rfl, h1, h2⟩
    show ∃ z, bX8_exchange_2 (iN (k : Int)) s' b' = some (.inl z) ∧ _
    unfold bX8_exchange_2
    rw [if_neg (by rw [show (1634 : Int32) = iN 1634 from rfl, iN_le (by omega) (by omega) (by omega) (by omega)]; omega), rd_iN (by omega) (by omega) (by omega), rd_iN (by omega) (by omega) (by omega), wr_iN (by omega) (by omega) (by omega), wr_iN (by omega) (by omega) (by omega), nm_v, iN_succ, show ((k : Int)).toNat = k from rfl]
    refine ⟨_, rfl, _, _, rfl, fun j hj => ?_, fun j hj => ?_⟩
    · by_cases e : j = k
      · subst e
        rw [updW_eq, updW_eq]
        exact ⟨(h2 j (Nat.le_refl j)).2, (h2 j (Nat.le_refl j)).1⟩
      · rw [updW_ne e, updW_ne e]; exact h1 j (by omega)
    · rw [updW_ne (by omega), updW_ne (by omega)]; exact h2 j (by omega)
  · rintro q ⟨s', b', rfl, h1, h2⟩
    show ∃ r, bX8_exchange_2 (iN (N : Int)) s' b' = some (.inr r) ∧ _
    unfold bX8_exchange_2
    rw [if_pos (by rw [show (1634 : Int32) = iN 1634 from rfl, iN_le (by omega) (by omega) (by omega) (by omega)]; omega)]
    exact ⟨_, rfl, s', b', rfl, h1⟩
theorem m8_before {ρ : Type} (R : Int32 × Int32 × Int32 × Int32 × Int32 × (Nat → Int32) × (Nat → Int32) × (Nat → Int32) × (Nat → Int32) × (Nat → Int32) → Prop) {w c a K : Int32} {s sv l u b : Nat → Int32} (_ : ρ) (h : ∀ b' : Nat → Int32, (∀ j, j < 1634 → b' j = s j) → ∃ r, lp (fun q => bX8_carryOut_49 w c a K sv l u b' q.1 q.2) fuel ((0 : Int32), s) = some r ∧ R r) : ∃ r, lp (fun q => bX8_carryOut_22 w c a K s sv l u q.1 q.2) fuel ((0 : Int32), b) = some r ∧ R r := by
  obtain ⟨N, hN⟩ : ∃ N : Nat, N = 1634 := ⟨_, rfl⟩
  refine lp_iv (fun k q => ∃ b' : Nat → Int32, q = (iN (k : Int), b') ∧ ∀ j, j < k → b' j = s j) R N ⟨b, rfl, fun j hj => absurd hj (Nat.not_lt_zero j)⟩ ?_ ?_ (fuel_ge (by omega))
  · rintro k q hk ⟨b', rfl, h1⟩
    show ∃ z, bX8_carryOut_22 _ _ _ _ _ _ _ _ (iN (k : Int)) b' = some (.inl z) ∧ _
    unfold bX8_carryOut_22
    rw [if_neg (by rw [show (1634 : Int32) = iN 1634 from rfl, iN_le (by omega) (by omega) (by omega) (by omega)]; omega), rd_iN (by omega) (by omega) (by omega), wr_iN (by omega) (by omega) (by omega), nm_v, iN_succ, show ((k : Int)).toNat = k from rfl]
    refine ⟨_, rfl, _, rfl, fun j hj => ?_⟩
    by_cases e : j = k
    · subst e; exact updW_eq
    · rw [updW_ne e]; exact h1 j (by omega)
  · rintro q ⟨b', rfl, h1⟩
    obtain ⟨r, er, hr⟩ := h b' (fun j hj => h1 j (by omega))
    show ∃ r, bX8_carryOut_22 _ _ _ _ _ _ _ _ (iN (N : Int)) b' = some (.inr r) ∧ _
    unfold bX8_carryOut_22
    rw [if_pos (by rw [show (1634 : Int32) = iN 1634 from rfl, iN_le (by omega) (by omega) (by omega) (by omega)]; omega), er]
    exact ⟨r, rfl, hr⟩
