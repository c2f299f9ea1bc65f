/-! ===== the whole state: class and reference side by side ===== -/
abbrev CS := Int32 × Int32 × Int32 × (Nat → Int32) × Int32 × (Nat → Int32) × (Nat → Int32) × (Nat → Int32) × (Nat → Nat → Int32)
/-- the segments and the present tick -/
def StoR (now : Int) (n : Nat) (g s : Nat → Int) : Prop := s 0 = n ∧ s 1 = now ∧ (0 ≤ now ∧ now ≤ 16383) ∧ SegOK g n ∧ EqOn n g (sh s)
/-- the queries -/
def QuR (m : Nat) (q s : Nat → Int) : Prop := m ≤ 30 ∧ s 242 = m ∧ ∀ k : Nat, k < m → (q (6 * k) = s (243 + 6 * k) ∧ 0 ≤ q (6 * k) ∧ q (6 * k) ≤ 255) ∧ (q (6 * k + 1) = s (243 + 6 * k + 1) ∧ 0 ≤ q (6 * k + 1) ∧ q (6 * k + 1) ≤ 16384) ∧ (q (6 * k + 2) = s (243 + 6 * k + 2) ∧ (q (6 * k + 2) = 0 ∨ q (6 * k + 2) = 1)) ∧ (q (6 * k + 2) = 1 → q (6 * k + 3) = s (243 + 6 * k + 3) ∧ q (6 * k + 4) = s (243 + 6 * k + 4) ∧ q (6 * k + 5) = s (243 + 6 * k + 5))
/-- the marks -/
def MkR (mk : Nat) (mw mz : Nat → Int) (mg : Nat → Nat → Int) (s : Nat → Int) : Prop := mk ≤ 5 ∧ s 423 = mk ∧ ∀ j : Nat, j < mk → ∃ z : Nat, mz j = z ∧ StoR (mw j) z (mg j) (fun i => s (424 + 242 * j + i))
def SR (mk : Nat) (now : Int) (n : Nat) (g : Nat → Int) (m : Nat) (q mw mz : Nat → Int) (mg : Nat → Nat → Int) (s : Nat → Int) : Prop := StoR now n g s ∧ QuR m q s ∧ MkR mk mw mz mg s
abbrev csI (mk : Nat) (now : Int) (n : Nat) (g : Nat → Int) (m : Nat) (q mw mz : Nat → Int) (mg : Nat → Nat → Int) : CS := (iN (mk : Int), iN now, iN (n : Int), (fun i => iN (g i)), iN (m : Int), (fun i => iN (q i)), (fun j => iN (mw j)), (fun j => iN (mz j)), (fun j i => iN (mg j i)))
def RS (C : CS) (s : Nat → Int32) : Prop := ∃ (mk : Nat) (now : Int) (n : Nat) (g : Nat → Int) (m : Nat) (q mw mz : Nat → Int) (mg : Nat → Nat → Int) (f : Nat → Int), C = csI mk now n g m q mw mz mg ∧ s = (fun i => iN (f i)) ∧ SR mk now n g m q mw mz mg f
theorem StoR.congr {now : Int} {n : Nat} {g s s' : Nat → Int} (h : StoR now n g s) (e : ∀ i : Nat, i < 242 → s i = s' i) : StoR now n g s' := by
  obtain ⟨h1, h2, h3, h4, h5⟩ := h
  have := h4.1
  refine ⟨by rw [← e 0 (by omega)]; exact h1, by rw [← e 1 (by omega)]; exact h2, h3, h4, fun i hi => ?_⟩
  rw [h5 i hi]
  exact e (i + 2) (by omega)
theorem StoR.gcongr {now : Int} {n : Nat} {g g' s : Nat → Int} (h : StoR now n g s) (e : EqOn n g g') : StoR now n g' s := by
  obtain ⟨h1, h2, h3, h4, h5⟩ := h
  refine ⟨h1, h2, h3, h4.eqOn e, fun i hi => ?_⟩
  rw [← e i hi]
  exact h5 i hi
theorem QuR.congr {m : Nat} {q s s' : Nat → Int} (h : QuR m q s) (e : ∀ i : Nat, 242 ≤ i → i < 423 → s i = s' i) : QuR m q s' := by
  obtain ⟨h1, h2, h3⟩ := h
  refine ⟨h1, by rw [← e 242 (by omega) (by omega)]; exact h2, fun k hk => ?_⟩
  have := h3 k hk
  rw [e (243 + 6 * k) (by omega) (by omega), e (243 + 6 * k + 1) (by omega) (by omega), e (243 + 6 * k + 2) (by omega) (by omega), e (243 + 6 * k + 3) (by omega) (by omega), e (243 + 6 * k + 4) (by omega) (by omega), e (243 + 6 * k + 5) (by omega) (by omega)] at this
  exact this
theorem QuR.gcongr {m : Nat} {q q' s : Nat → Int} (h : QuR m q s) (e : ∀ i : Nat, i < 6 * m → q i = q' i) : QuR m q' s := by
  obtain ⟨h1, h2, h3⟩ := h
  refine ⟨h1, h2, fun k hk => ?_⟩
  have := h3 k hk
  rw [e (6 * k) (by omega), e (6 * k + 1) (by omega), e (6 * k + 2) (by omega), e (6 * k + 3) (by omega), e (6 * k + 4) (by omega), e (6 * k + 5) (by omega)] at this
  exact this
theorem MkR.congr {mk : Nat} {mw mz : Nat → Int} {mg : Nat → Nat → Int} {s s' : Nat → Int} (h : MkR mk mw mz mg s) (e : ∀ i : Nat, 423 ≤ i → i < 1634 → s i = s' i) : MkR mk mw mz mg s' := by
  obtain ⟨h1, h2, h3⟩ := h
  refine ⟨h1, by rw [← e 423 (by omega) (by omega)]; exact h2, fun j hj => ?_⟩
  obtain ⟨z, hz, h⟩ := h3 j hj
  exact ⟨z, hz, h.congr (fun i hi => e _ (by omega) (by omega))⟩
theorem SR.congr {mk : Nat} {now : Int} {n : Nat} {g : Nat → Int} {m : Nat} {q mw mz : Nat → Int} {mg : Nat → Nat → Int} {s s' : Nat → Int} (h : SR mk now n g m q mw mz mg s) (e : ∀ i : Nat, i < 1634 → s i = s' i) : SR mk now n g m q mw mz mg s' :=
  ⟨h.1.congr (fun i hi => e i (by omega)), h.2.1.congr (fun i _ hi => e i (by omega)), h.2.2.congr (fun i _ hi => e i hi)⟩
theorem RS.congr {C : CS} {s s' : Nat → Int32} (h : RS C s) (e : ∀ i : Nat, i < 1634 → s i = s' i) : RS C s' := by
  obtain ⟨mk, now, n, g, m, q, mw, mz, mg, f, hC, hs, hR⟩ := h
  refine ⟨mk, now, n, g, m, q, mw, mz, mg, fun i => if i < 1634 then f i else (s' i).toInt, hC, ?_, hR.congr (fun i hi => (if_pos hi).symm)⟩
  funext i
  show s' i = iN (if i < 1634 then f i else (s' i).toInt)
  by_cases c : i < 1634
  · rw [if_pos c, ← e i c, hs]
  · rw [if_neg c]; exact iN_of _
/-! copying -/
theorem va_cpy_in {f g : Nat → Int} {n i : Nat} (h : i < n) : va_cpy f g 0 0 n i = f i := by
  unfold va_cpy
  rw [if_pos (by omega)]
  congr 1; omega
theorem va_cpy_iN (f : Nat → Int) (g : Nat → Int32) (a b n : Nat) : va_cpy (fun i => iN (f i)) g a b n = fun i => iN (va_cpy f (fun i => (g i).toInt) a b n i) := by
  funext i
  unfold va_cpy
  by_cases c : b ≤ i ∧ i < b + n
  · rw [if_pos c, if_pos c]
  · rw [if_neg c, if_neg c]; exact iN_of _
theorem s6_copy {n : Nat} (hn : n ≤ 40) (a b : Int32) (v : Nat → Int32) (now : Int) (g : Nat → Int) : ∃ g' : Nat → Int, fX6_copyFrom a b v (iN now) (iN (n : Int)) (fun i => iN (g i)) = some (iN now, iN (n : Int), fun i => iN (g' i)) ∧ EqOn n g g' := by
  unfold fX6_copyFrom
  simp only [nm]
  have e1 : (if (40 : Int32) < iN (n : Int) then (40 : Int32) else iN (n : Int)) = iN (n : Int) := if_neg (by rw [show (40 : Int32) = iN 40 from rfl, iN_lt (by omega) (by omega) (by omega) (by omega)]; omega)
  rw [e1]
  have e0 : (if (0 : Int32) < iN (n : Int) then iN (n : Int) else 0) = iN (n : Int) := by
    by_cases c : n = 0
    · subst c; rfl
    · rw [if_pos (by rw [show (0 : Int32) = iN 0 from rfl, iN_lt (by omega) (by omega) (by omega) (by omega)]; omega)]
  rw [e0, show (6 : Int32) = iN 6 from rfl, iN_mul, show (0 : Int32) = iN 0 from rfl, ac_iN (by omega) (by omega) (by omega) (by omega) (by omega) (by omega) (by omega), va_cpy_iN]
  refine ⟨_, rfl, fun i hi => ?_⟩
  rw [show (0 : Int).toNat = 0 from rfl, va_cpy_in (by omega)]
theorem s3_copy {n : Nat} (hn : n ≤ 30) (b : Int32) (v : Nat → Int32) (g : Nat → Int) : ∃ g' : Nat → Int, fX3_copyFrom b v (iN (n : Int)) (fun i => iN (g i)) = some (iN (n : Int), fun i => iN (g' i)) ∧ ∀ i : Nat, i < 6 * n → g i = g' i := by
  unfold fX3_copyFrom
  simp only [nm]
  have e1 : (if (30 : Int32) < iN (n : Int) then (30 : Int32) else iN (n : Int)) = iN (n : Int) := if_neg (by rw [show (30 : Int32) = iN 30 from rfl, iN_lt (by omega) (by omega) (by omega) (by omega)]; omega)
  rw [e1]
  have e0 : (if (0 : Int32) < iN (n : Int) then iN (n : Int) else 0) = iN (n : Int) := by
    by_cases c : n = 0
    · subst c; rfl
    · rw [if_pos (by rw [show (0 : Int32) = iN 0 from rfl, iN_lt (by omega) (by omega) (by omega) (by omega)]; omega)]
  rw [e0, show (6 : Int32) = iN 6 from rfl, iN_mul, show (0 : Int32) = iN 0 from rfl, ac_iN (by omega) (by omega) (by omega) (by omega) (by omega) (by omega) (by omega), va_cpy_iN]
  refine ⟨_, rfl, fun i hi => ?_⟩
  rw [show (0 : Int).toNat = 0 from rfl, va_cpy_in (by omega)]
theorem va_up_iN (f : Nat → Int) (k : Nat) (x : Int) : va_up (fun i => iN (f i)) k (iN x) = fun i => iN (va_up f k x i) := by
  funext j
  unfold va_up
  by_cases h : j = k
  · rw [if_pos h, if_pos h]
  · rw [if_neg h, if_neg h]
theorem va_up_iN2 (f : Nat → Nat → Int) (k : Nat) (x : Nat → Int) : va_up (fun j i => iN (f j i)) k (fun i => iN (x i)) = fun j i => iN (va_up f k x j i) := by
  funext j
  unfold va_up
  by_cases h : j = k
  · rw [if_pos h, if_pos h]
  · rw [if_neg h, if_neg h]
theorem q9 {T0 T1 T2 T3 T4 T5 T6 T7 T8 α : Type} {a0 : T0} {a1 : T1} {a2 : T2} {a3 : T3} {a4 : T4} {a5 : T5} {a6 : T6} {a7 : T7} {a8 : T8} {k : T0 → T1 → T2 → T3 → T4 → T5 → T6 → T7 → T8 → Option α} : up9 (a0, a1, a2, a3, a4, a5, a6, a7, a8) k = k a0 a1 a2 a3 a4 a5 a6 a7 a8 := by unfold up9; rfl
theorem q5 {T0 T1 T2 T3 T4 α : Type} {a0 : T0} {a1 : T1} {a2 : T2} {a3 : T3} {a4 : T4} {k : T0 → T1 → T2 → T3 → T4 → Option α} : up5 (a0, a1, a2, a3, a4) k = k a0 a1 a2 a3 a4 := by unfold up5; rfl
theorem q6 {T0 T1 T2 T3 T4 T5 α : Type} {a0 : T0} {a1 : T1} {a2 : T2} {a3 : T3} {a4 : T4} {a5 : T5} {k : T0 → T1 → T2 → T3 → T4 → T5 → Option α} : up6 (a0, a1, a2, a3, a4, a5) k = k a0 a1 a2 a3 a4 a5 := by unfold up6; rfl
theorem s5_copy {mk : Nat} {now : Int} {n : Nat} {g : Nat → Int} {m : Nat} {q mw mz : Nat → Int} {mg : Nat → Nat → Int} {f : Nat → Int} (hR : SR mk now n g m q mw mz mg f) (a b c : Int32) (v : Nat → Int32) (d : Int32) (e w z : Nat → Int32) (y : Nat → Nat → Int32) : ∃ (g' q' mw' mz' : Nat → Int) (mg' : Nat → Nat → Int), fX5_copyFrom a b c v d e w z y (iN (mk : Int)) (iN now) (iN (n : Int)) (fun i => iN (g i)) (iN (m : Int)) (fun i => iN (q i)) (fun j => iN (mw j)) (fun j => iN (mz j)) (fun j i => iN (mg j i)) = some (csI mk now n g' m q' mw' mz' mg') ∧ SR mk now n g' m q' mw' mz' mg' f := by
  obtain ⟨hS, hQ, hM⟩ := hR
  obtain ⟨g', e1, hg⟩ := s6_copy hS.2.2.2.1.1 b c v now g
  obtain ⟨q', e2, hq⟩ := s3_copy hQ.1 d e q
  have hk := hM.1
  unfold fX5_copyFrom
  rw [e1, qb, q3, e2, qb, q2]
  have key := lp_iv (body := fun t : Int32 × (Nat → Int32) × (Nat → Int32) × (Nat → Nat → Int32) => bX5_copyFrom_32 (fun j => iN (mw j)) (fun j => iN (mz j)) (fun j i => iN (mg j i)) (iN (mk : Int)) (iN now) (iN (n : Int)) (fun i => iN (g' i)) (iN (m : Int)) (fun i => iN (q' i)) t.1 t.2.1 t.2.2.1 t.2.2.2) (s0 := ((0 : Int32), w, z, y))
    (fun k t => ∃ (mw' mz' : Nat → Int) (mg' : Nat → Nat → Int), t = (iN (k : Int), (fun j => iN (mw' j)), (fun j => iN (mz' j)), fun j i => iN (mg' j i)) ∧ ∀ j : Nat, j < k → mw' j = mw j ∧ mz' j = mz j ∧ ∀ z : Nat, mz j = z → EqOn z (mg j) (mg' j))
    (fun r => ∃ (mw' mz' : Nat → Int) (mg' : Nat → Nat → Int), r = csI mk now n g' m q' mw' mz' mg' ∧ ∀ j : Nat, j < mk → mw' j = mw j ∧ mz' j = mz j ∧ ∀ z : Nat, mz j = z → EqOn z (mg j) (mg' j)) mk ?_ ?_ ?_ (fuel_ge (by omega))
  · obtain ⟨r, er, mw', mz', mg', rfl, h⟩ := key
    refine ⟨g', q', mw', mz', mg', er, hS.gcongr hg, hQ.gcongr hq, hk, hM.2.1, fun j hj => ?_⟩
    obtain ⟨z, hz, hs⟩ := hM.2.2 j hj
    obtain ⟨h1, h2, h3⟩ := h j hj
    refine ⟨z, by rw [h2]; exact hz, ?_⟩
    rw [h1]
    exact hs.gcongr (h3 z hz)
  · refine ⟨fun j => (w j).toInt, fun j => (z j).toInt, fun j i => (y j i).toInt, ?_, fun j hj => absurd hj (Nat.not_lt_zero j)⟩
    rw [← iN_fun w, ← iN_fun z, ← iN_fun2 y]
    rfl
  · rintro k t hk1 ⟨mw', mz', mg', rfl, h⟩
    show ∃ s', bX5_copyFrom_32 _ _ _ _ _ _ _ _ _ (iN (k : Int)) (fun j => iN (mw' j)) (fun j => iN (mz' j)) (fun j i => iN (mg' j i)) = some (.inl s') ∧ _
    unfold bX5_copyFrom_32
    obtain ⟨z1, hz1, hs1⟩ := hM.2.2 k hk1
    rw [if_neg (by rw [show (5 : Int32) = iN 5 from rfl, iN_le (by omega) (by omega) (by omega) (by omega)]; omega), if_neg (by rw [iN_le (by omega) (by omega) (by omega) (by omega)]; omega), rf_iN (by omega) (by omega) (by omega), rf_iN (by omega) (by omega) (by omega)]
    simp only [show ((k : Int)).toNat = k from rfl, hz1]
    obtain ⟨g2, e3, hg2⟩ := s6_copy hs1.2.2.2.1.1 (iN (mw' k)) (iN (mz' k)) (fun i => iN (mg' k i)) (mw k) (mg k)
    rw [e3, qb, q3]
    simp only [nm, iN_succ, va_up_iN, va_up_iN2]
    refine ⟨_, rfl, va_up mw' k (mw k), va_up mz' k z1, va_up mg' k g2, rfl, fun j hj => ?_⟩
    by_cases c : j = k
    · subst c
      rw [va_up_self, va_up_self, va_up_self]
      refine ⟨rfl, hz1.symm, fun z hz => ?_⟩
      rw [show z = z1 by omega]
      exact hg2
    · rw [va_up_ne _ _ c, va_up_ne _ _ c, va_up_ne _ _ c]
      exact h j (by omega)
  · rintro t ⟨mw', mz', mg', rfl, h⟩
    show ∃ s', bX5_copyFrom_32 _ _ _ _ _ _ _ _ _ (iN (mk : Int)) (fun j => iN (mw' j)) (fun j => iN (mz' j)) (fun j i => iN (mg' j i)) = some (.inr s') ∧ _
    unfold bX5_copyFrom_32
    rw [if_pos (show iN (mk : Int) ≤ iN (mk : Int) by rw [iN_le (by omega) (by omega) (by omega) (by omega)]; omega)]
    refine ⟨csI mk now n g' m q' mw' mz' mg', ?_, mw', mz', mg', rfl, h⟩
    by_cases c : (5 : Int32) ≤ iN (mk : Int)
    · rw [if_pos c]; rfl
    · rw [if_neg c]; rfl
