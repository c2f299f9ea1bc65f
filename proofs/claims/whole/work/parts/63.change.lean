/-! ===== addThrough, end, lift, pass: what they change ===== -/
abbrev ofP (x : Int32) : Prop := -1000000 ≤ x.toInt ∧ x.toInt ≤ 1000000
theorem s5_off_t {x : Int32} (h : ofP x) : fX5_isOffset x = some 1 := by rw [s5_isOffset, if_pos h]
theorem s5_off_f {x : Int32} (h : ¬ ofP x) : fX5_isOffset x = some 0 := by rw [s5_isOffset, if_neg h]
def thP (x1 x2 x3 x4 x5 x6 : Int32) : Prop := (0 ≤ x3.toInt ∧ x3.toInt ≤ 255) ∧ (0 ≤ x1.toInt ∧ x1.toInt ≤ x3.toInt) ∧ (0 ≤ x6.toInt ∧ x6.toInt ≤ 16384) ∧ (0 ≤ x5.toInt ∧ x5.toInt ≤ x6.toInt) ∧ ofP x2 ∧ ofP x4
theorem m8_thr_f {w c : Int32} {s sv : Nat → Int32} {x1 x2 x3 x4 x5 x6 : Int32} (h : ¬ thP x1 x2 x3 x4 x5 x6) : fX8_addThrough w c s sv x1 x2 x3 x4 x5 x6 = some (0, w, 1, s, sv) := by
  have e : jX8_addThrough_66 x1 x2 x3 x4 x5 x6 w (0 : Int32) s sv = some (0, w, 1, s, sv) := by
    unfold jX8_addThrough_66 jX8_addThrough_67 jX8_addThrough_101
    rw [if_pos rfl, m8_fails, qb, q2]
  unfold fX8_addThrough
  unfold thP at h
  by_cases c1 : 0 ≤ x1.toInt ∧ x1.toInt ≤ 255
  · rw [m8_pos_t c1, qb, if_neg n10]
    by_cases c2 : 0 ≤ x3.toInt ∧ x3.toInt ≤ 255
    · rw [m8_pos_t c2, qb, if_neg n10]
      by_cases c3 : x3 < x1
      · rw [if_pos c3]; exact e
      · rw [if_neg c3]
        rw [Int32.lt_iff_toInt_lt] at c3
        by_cases c4 : ofP x2
        · rw [m8_val_t c4, qb, if_neg n10]
          by_cases c5 : ofP x4
          · rw [m8_val_t c5, qb, if_neg n10]
            by_cases c6 : 0 ≤ x5.toInt ∧ x5.toInt ≤ 16384
            · rw [m8_tick_t c6, qb, if_neg n10]
              by_cases c7 : 0 ≤ x6.toInt ∧ x6.toInt ≤ 16384
              · rw [m8_tick_t c7, qb, if_neg n10]
                by_cases c8 : x6 < x5
                · rw [if_pos c8]; exact e
                · rw [Int32.lt_iff_toInt_lt] at c8
                  exact absurd ⟨c2, ⟨c1.1, by omega⟩, c7, ⟨c6.1, by omega⟩, c4, c5⟩ h
              · rw [m8_tick_f c7, qb, if_pos rfl]; exact e
            · rw [m8_tick_f c6, qb, if_pos rfl]; exact e
          · rw [m8_val_f c5, qb, if_pos rfl]; exact e
        · rw [m8_val_f c4, qb, if_pos rfl]; exact e
    · rw [m8_pos_f c2, qb, if_pos rfl]; exact e
  · rw [m8_pos_f c1, qb, if_pos rfl]; exact e
theorem m8_thr_t {w c : Int32} {s sv : Nat → Int32} {x1 x2 x3 x4 x5 x6 : Int32} (h : thP x1 x2 x3 x4 x5 x6) : fX8_addThrough w c s sv x1 x2 x3 x4 x5 x6 = jX8_addThrough_67 x1 x2 x3 x4 x5 x6 (1 : Int32) w (0 : Int32) s sv := by
  obtain ⟨c2, c1, c7, c6, c4, c5⟩ := h
  unfold fX8_addThrough
  rw [m8_pos_t (by omega), qb, if_neg n10, m8_pos_t c2, qb, if_neg n10, if_neg (by rw [Int32.lt_iff_toInt_lt]; omega), m8_val_t c4, qb, if_neg n10, m8_val_t c5, qb, if_neg n10, m8_tick_t (by omega), qb, if_neg n10, m8_tick_t c7, qb, if_neg n10, if_neg (by rw [Int32.lt_iff_toInt_lt]; omega)]
theorem s5_thr_f {z : Int32} {s : Nat → Int32} {x1 x2 x3 x4 x5 x6 : Int32} (h : ¬ thP x1 x2 x3 x4 x5 x6) : fX5_tryAddThrough z s x1 x2 x3 x4 x5 x6 = some (-2, z, s) := by
  unfold fX5_tryAddThrough
  unfold thP at h
  by_cases c1 : 0 ≤ x3.toInt ∧ x3.toInt ≤ 255
  · rw [ib_t (a := 0) (b := 255) c1, qb, if_neg n10]
    by_cases c2 : 0 ≤ x1.toInt ∧ x1.toInt ≤ x3.toInt
    · rw [ib_t (a := 0) (b := x3) c2, qb, if_neg n10]
      by_cases c3 : 0 ≤ x6.toInt ∧ x6.toInt ≤ 16384
      · rw [ib_t (a := 0) (b := 16384) c3, qb, if_neg n10]
        by_cases c4 : 0 ≤ x5.toInt ∧ x5.toInt ≤ x6.toInt
        · rw [ib_t (a := 0) (b := x6) c4, qb, if_neg n10]
          by_cases c5 : ofP x2
          · rw [s5_off_t c5, qb, if_neg n10]
            by_cases c6 : ofP x4
            · exact absurd ⟨c1, c2, c3, c4, c5, c6⟩ h
            · rw [s5_off_f c6, qb, if_pos rfl]
          · rw [s5_off_f c5, qb, if_pos rfl]
        · rw [ib_f (a := 0) (b := x6) c4, qb, if_pos rfl]
      · rw [ib_f (a := 0) (b := 16384) c3, qb, if_pos rfl]
    · rw [ib_f (a := 0) (b := x3) c2, qb, if_pos rfl]
  · rw [ib_f (a := 0) (b := 255) c1, qb, if_pos rfl]
/-- the change is made by both, or refused by both -/
theorem p_thr_tail {mk : Nat} {now : Int} {n : Nat} {g : Nat → Int} {m : Nat} {q mw mz : Nat → Int} {mg : Nat → Nat → Int} {f : Nat → Int} (hR : SR mk now n g m q mw mz mg f) {x1 x2 x3 x4 x5 x6 : Int32} (h : thP x1 x2 x3 x4 x5 x6) (sl : Int32) :
    (∃ (v : Int) (n' : Nat) (g' f' : Nat → Int), jX5_tryAddThrough_110 x1 x2 x3 x5 x6 sl (iN (n : Int)) (fun i => iN (g i)) = some (iN v, iN (n' : Int), fun i => iN (g' i)) ∧ (0 ≤ v ∧ v < 2147483648) ∧ (∀ w c sv w' sv', fX8_keep w (fun i => iN (f i)) sv = some (w', sv') → jX8_addThrough_124 x1 x2 x3 x5 x6 sl w c (fun i => iN (f i)) sv = some (iN v, w', c, (fun i => iN (f' i)), sv')) ∧ SR mk now n' g' m q mw mz mg f')
    ∨ ∃ e cc, jX5_tryAddThrough_110 x1 x2 x3 x5 x6 sl (iN (n : Int)) (fun i => iN (g i)) = some (e, iN (n : Int), fun i => iN (g i)) ∧ (∀ w c sv, jX8_addThrough_124 x1 x2 x3 x5 x6 sl w c (fun i => iN (f i)) sv = some (0, w, cc, (fun i => iN (f i)), sv)) ∧ ((e = -2 ∧ cc = 1) ∨ (e = -3 ∧ cc = 2)) := by
  obtain ⟨c1, c2, c3, c4, c5, c6⟩ := h
  have hf := hR.1.1
  have hn := hR.1.2.2.2.1.1
  unfold jX5_tryAddThrough_110 jX8_addThrough_124
  by_cases l : lnP sl (x2 - sl * x1)
  · by_cases cn : n < 40
    · refine Or.inl ⟨n, n + 1, _, _, ?_, by omega, fun w c sv w' sv' hk => ?_, hR.put cn (a := sl.toInt) (b := (x2 - sl * x1).toInt) (x := x1.toInt) (y := x3.toInt) (u := x5.toInt) (v := x6.toInt) l.1 l.2 ⟨c2.1, c2.2, c1.2⟩ ⟨c4.1, c4.2, c3.2⟩⟩
      · have e1 := s6_insert g cn sl.toInt (x2 - sl * x1).toInt x1.toInt x3.toInt x5.toInt x6.toInt
        rw [← iN_of, ← iN_of, ← iN_of, ← iN_of, ← iN_of, ← iN_of] at e1
        rw [nm_v, s5_line_t l, qb, if_neg n10, s6_full_f cn, qb, if_pos rfl, e1, qb, q3]
      · have e1 := m8_put f hf cn sl.toInt (x2 - sl * x1).toInt x1.toInt x3.toInt x5.toInt x6.toInt
        rw [← iN_of, ← iN_of, ← iN_of, ← iN_of, ← iN_of, ← iN_of] at e1
        rw [m8_line_t l, qb, if_neg n10, m8_full_f hf cn, qb, if_pos rfl, hk, qb, q2, e1, qb, q2]
    · refine Or.inr ⟨-3, 2, ?_, fun w c sv => ?_, Or.inr ⟨rfl, rfl⟩⟩
      · rw [nm_v, s5_line_t l, qb, if_neg n10, s6_full_t (by omega), qb, if_neg n10]
      · rw [m8_line_t l, qb, if_neg n10, m8_full_t hf (by omega), qb, if_neg n10, m8_fails, qb, q2]
  · refine Or.inr ⟨-2, 1, ?_, fun w c sv => ?_, Or.inl ⟨rfl, rfl⟩⟩
    · rw [nm_v, s5_line_f l, qb, if_pos rfl]
    · rw [m8_line_f l, qb, if_pos rfl, m8_fails, qb, q2]
theorem p_thr {mk : Nat} {now : Int} {n : Nat} {g : Nat → Int} {m : Nat} {q mw mz : Nat → Int} {mg : Nat → Nat → Int} {f : Nat → Int} (hR : SR mk now n g m q mw mz mg f) (x1 x2 x3 x4 x5 x6 : Int32) :
    (∃ (v : Int) (n' : Nat) (g' f' : Nat → Int), fX5_tryAddThrough (iN (n : Int)) (fun i => iN (g i)) x1 x2 x3 x4 x5 x6 = some (iN v, iN (n' : Int), fun i => iN (g' i)) ∧ (0 ≤ v ∧ v < 2147483648) ∧ (∀ w c sv w' sv', fX8_keep w (fun i => iN (f i)) sv = some (w', sv') → fX8_addThrough w c (fun i => iN (f i)) sv x1 x2 x3 x4 x5 x6 = some (iN v, w', 0, (fun i => iN (f' i)), sv')) ∧ SR mk now n' g' m q mw mz mg f')
    ∨ ∃ e cc, fX5_tryAddThrough (iN (n : Int)) (fun i => iN (g i)) x1 x2 x3 x4 x5 x6 = some (e, iN (n : Int), fun i => iN (g i)) ∧ (∀ w c sv, fX8_addThrough w c (fun i => iN (f i)) sv x1 x2 x3 x4 x5 x6 = some (0, w, cc, (fun i => iN (f i)), sv)) ∧ ((e = -2 ∧ cc = 1) ∨ (e = -3 ∧ cc = 2)) := by
  by_cases h : thP x1 x2 x3 x4 x5 x6
  · have e5 : fX5_tryAddThrough (iN (n : Int)) (fun i => iN (g i)) x1 x2 x3 x4 x5 x6 = nm (x3 - x1) (fun (y13 : Int32) => nm (x4 - x2) (fun (y14 : Int32) => if y13 = (0 : Int32) then (if y14 = (0 : Int32) then (jX5_tryAddThrough_96 x1 x2 x3 x5 x6 y13 y14 (iN (n : Int)) (fun i => iN (g i))) else (some ((-2 : Int32), (iN (n : Int)), (fun i => iN (g i))))) else (dv y13 (if (y14 - y14 / y13 * y13) = (0 : Int32) then (jX5_tryAddThrough_96 x1 x2 x3 x5 x6 y13 y14 (iN (n : Int)) (fun i => iN (g i))) else (some ((-2 : Int32), (iN (n : Int)), (fun i => iN (g i)))))))) := by
      obtain ⟨c1, c2, c3, c4, c5, c6⟩ := h
      unfold fX5_tryAddThrough
      rw [ib_t (a := 0) (b := 255) c1, qb, if_neg n10, ib_t (a := 0) (b := x3) c2, qb, if_neg n10, ib_t (a := 0) (b := 16384) c3, qb, if_neg n10, ib_t (a := 0) (b := x6) c4, qb, if_neg n10, s5_off_t c5, qb, if_neg n10, s5_off_t c6, qb, if_neg n10]
    have ez : ∀ a b : Int32, b - a = 0 ↔ a = b := fun a b => by
      constructor
      · intro e
        have e2 := congrArg (fun z => z + a) e
        simp only [Int32.sub_add_cancel, Int32.zero_add] at e2
        exact e2.symm
      · rintro rfl; exact Int32.sub_self _
    rw [e5, nm_v, nm_v]
    by_cases cw : x1 = x3
    · rw [if_pos ((ez _ _).mpr cw)]
      by_cases cc : x2 = x4
      · rw [if_pos ((ez _ _).mpr cc)]
        have e7 : jX5_tryAddThrough_96 x1 x2 x3 x5 x6 (x3 - x1) (x4 - x2) (iN (n : Int)) (fun i => iN (g i)) = jX5_tryAddThrough_110 x1 x2 x3 x5 x6 0 (iN (n : Int)) (fun i => iN (g i)) := by
          unfold jX5_tryAddThrough_96
          rw [if_pos ((ez _ _).mpr cw)]
        have e8 : ∀ w c sv, fX8_addThrough w c (fun i => iN (f i)) sv x1 x2 x3 x4 x5 x6 = jX8_addThrough_124 x1 x2 x3 x5 x6 0 w 0 (fun i => iN (f i)) sv := by
          intro w c sv
          rw [m8_thr_t h]
          unfold jX8_addThrough_67
          rw [if_neg n10, if_pos cw, if_pos cc]
          unfold jX8_addThrough_85
          rw [if_pos (by subst cw; exact Int32.le_refl _)]
          unfold jX8_addThrough_107
          rw [if_pos cw]
        rw [e7]
        rcases p_thr_tail hR h 0 with ⟨v, n', g', f', k1, k2, k3, k4⟩ | ⟨e, cc, k1, k2, k3⟩
        · exact Or.inl ⟨v, n', g', f', k1, k2, fun w c sv w' sv' hk => by rw [e8]; exact k3 w 0 sv w' sv' hk, k4⟩
        · exact Or.inr ⟨e, cc, k1, fun w c sv => by rw [e8]; exact k2 w 0 sv, k3⟩
      · rw [if_neg (fun q => cc ((ez _ _).mp q))]
        refine Or.inr ⟨-2, 1, rfl, fun w c sv => ?_, Or.inl ⟨rfl, rfl⟩⟩
        rw [m8_thr_t h]
        unfold jX8_addThrough_67
        rw [if_neg n10, if_pos cw, if_neg cc]
        unfold jX8_addThrough_101
        rw [m8_fails, qb, q2]
    · have hne : ¬ x3 - x1 = 0 := fun q => cw ((ez _ _).mp q)
      have hlt : ¬ x3 ≤ x1 := by
        rw [Int32.le_iff_toInt_le]
        intro q
        exact cw (Int32.toInt_inj.mp (by have := h.2.1.2; omega))
      rw [if_neg hne, dv_n hne]
      by_cases cr : (x4 - x2) - (x4 - x2) / (x3 - x1) * (x3 - x1) = 0
      · rw [if_pos cr]
        have e7 : jX5_tryAddThrough_96 x1 x2 x3 x5 x6 (x3 - x1) (x4 - x2) (iN (n : Int)) (fun i => iN (g i)) = jX5_tryAddThrough_110 x1 x2 x3 x5 x6 ((x4 - x2) / (x3 - x1)) (iN (n : Int)) (fun i => iN (g i)) := by
          unfold jX5_tryAddThrough_96
          rw [if_neg hne, dv_n hne]
        have e8 : ∀ w c sv, fX8_addThrough w c (fun i => iN (f i)) sv x1 x2 x3 x4 x5 x6 = jX8_addThrough_124 x1 x2 x3 x5 x6 ((x4 - x2) / (x3 - x1)) w 0 (fun i => iN (f i)) sv := by
          intro w c sv
          rw [m8_thr_t h]
          unfold jX8_addThrough_67
          rw [if_neg n10, if_neg cw]
          unfold jX8_addThrough_85
          rw [if_neg hlt, dv_n hne, if_pos cr]
          unfold jX8_addThrough_107
          rw [if_neg cw, dv_n hne]
        rw [e7]
        rcases p_thr_tail hR h ((x4 - x2) / (x3 - x1)) with ⟨v, n', g', f', k1, k2, k3, k4⟩ | ⟨e, cc, k1, k2, k3⟩
        · exact Or.inl ⟨v, n', g', f', k1, k2, fun w c sv w' sv' hk => by rw [e8]; exact k3 w 0 sv w' sv' hk, k4⟩
        · exact Or.inr ⟨e, cc, k1, fun w c sv => by rw [e8]; exact k2 w 0 sv, k3⟩
      · rw [if_neg cr]
        refine Or.inr ⟨-2, 1, rfl, fun w c sv => ?_, Or.inl ⟨rfl, rfl⟩⟩
        rw [m8_thr_t h]
        unfold jX8_addThrough_67
        rw [if_neg n10, if_neg cw]
        unfold jX8_addThrough_85 jX8_addThrough_101
        rw [if_neg hlt, dv_n hne, if_neg cr, m8_fails, qb, q2]
  · exact Or.inr ⟨-2, 1, s5_thr_f h, fun w c sv => m8_thr_f h, Or.inl ⟨rfl, rfl⟩⟩
/-! end -/
theorem SR.fin {mk : Nat} {now : Int} {n : Nat} {g : Nat → Int} {m : Nat} {q mw mz : Nat → Int} {mg : Nat → Nat → Int} {f : Nat → Int} (h : SR mk now n g m q mw mz mg f) {k : Nat} (hk : k < n) (hl : Liv g k now) : SR mk now n (updI g (6 * k + 5) now) m q mw mz mg (updI f (6 * k + 7) now) := by
  obtain ⟨⟨h1, h2, h3, h4, h5⟩, hQ, hM⟩ := h
  have hn := h4.1
  refine ⟨⟨?_, ?_, h3, ⟨hn, fun j hj => ?_⟩, fun i hi => ?_⟩, hQ.congr (fun i h0 _ => (updI_ne (by omega)).symm), hM.congr (fun i h0 _ => (updI_ne (by omega)).symm)⟩
  · rw [updI_ne (by omega)]; exact h1
  · rw [updI_ne (by omega)]; exact h2
  · have := h4.2 j hj
    rw [updI_ne (by omega), updI_ne (by omega), updI_ne (by omega), updI_ne (by omega), updI_ne (by omega)]
    by_cases c : j = k
    · subst c
      rw [updI_eq]
      refine ⟨this.1, this.2.1, this.2.2.1, this.2.2.2.1, hl.1, by omega⟩
    · rw [updI_ne (by omega)]
      exact this
  · unfold sh
    by_cases c : i = 6 * k + 5
    · subst c; rw [updI_eq, updI_eq]
    · rw [updI_ne c, updI_ne (by omega)]; exact h5 i hi
theorem s6_has_t {n : Nat} (hn : n ≤ 40) {x : Int32} (h : 0 ≤ x.toInt ∧ x.toInt < n) : fX6_has (iN (n : Int)) x = some 1 := by rw [s6_has hn, if_pos h]
theorem s6_has_f {n : Nat} (hn : n ≤ 40) {x : Int32} (h : ¬ (0 ≤ x.toInt ∧ x.toInt < n)) : fX6_has (iN (n : Int)) x = some 0 := by rw [s6_has hn, if_neg h]
theorem m8_seg_t {f : Nat → Int} {n : Nat} (hf : f 0 = n) (hn : n ≤ 40) {x : Int32} (h : 0 ≤ x.toInt ∧ x.toInt < n) : fX8_isSegment (fun i => iN (f i)) x = some 1 := by rw [m8_isSegment hf hn, if_pos h]
theorem m8_seg_f {f : Nat → Int} {n : Nat} (hf : f 0 = n) (hn : n ≤ 40) {x : Int32} (h : ¬ (0 ≤ x.toInt ∧ x.toInt < n)) : fX8_isSegment (fun i => iN (f i)) x = some 0 := by rw [m8_isSegment hf hn, if_neg h]
theorem m8_wr (f : Nat → Int) (k j : Nat) (hk : k < 40) (hj : j < 6) (x : Int) {α : Type} {r : (Nat → Int32) → Option α} : Option.bind (fX8_cell (iN (k : Int)) (iN (j : Int))) (fun r1 => wr 1634 (fun i => iN (f i)) r1 (iN x) r) = r (fun i => iN (updI f (6 * k + 2 + j) x i)) := by
  unfold fX8_cell
  rw [qb, show (6 : Int32) = iN 6 from rfl, iN_mul, show (2 : Int32) = iN 2 from rfl, iN_add, iN_add, wr_iN (by omega) (by omega) (by omega), upd_iN, show (2 + 6 * (k : Int) + (j : Int)).toNat = 6 * k + 2 + j by omega]
theorem rd_1 {α : Type} (f : Nat → Int) {k : Int32 → Option α} : rd 1634 (fun i => iN (f i)) (1 : Int32) k = k (iN (f 1)) := by
  rw [show (1 : Int32) = iN 1 from rfl, rd_iN (by omega) (by omega) (by omega)]
  rfl
theorem p_end {mk : Nat} {now : Int} {n : Nat} {g : Nat → Int} {m : Nat} {q mw mz : Nat → Int} {mg : Nat → Nat → Int} {f : Nat → Int} (hR : SR mk now n g m q mw mz mg f) (x1 : Int32) :
    (∃ (v : Int) (g' f' : Nat → Int), fX5_tryEnd (iN now) (iN (n : Int)) (fun i => iN (g i)) x1 = some (iN v, fun i => iN (g' i)) ∧ (0 ≤ v ∧ v < 2147483648) ∧ fX8_whyNotEnd (fun i => iN (f i)) x1 = some 0 ∧ fX8_endNow (fun i => iN (f i)) x1 = some (iN v, fun i => iN (f' i)) ∧ SR mk now n g' m q mw mz mg f')
    ∨ ∃ e c, fX5_tryEnd (iN now) (iN (n : Int)) (fun i => iN (g i)) x1 = some (e, fun i => iN (g i)) ∧ fX8_whyNotEnd (fun i => iN (f i)) x1 = some c ∧ ((e = -1 ∧ c = 1) ∨ (e = -3 ∧ c = 2)) := by
  obtain ⟨⟨hf, hw, hw2, H, hE⟩, hQ, hM⟩ := id hR
  have hn := H.1
  have H8 := H.eqOn hE
  unfold fX5_tryEnd fX8_whyNotEnd
  by_cases c1 : 0 ≤ x1.toInt ∧ x1.toInt < n
  · rw [s6_has_t hn c1, qb, if_neg n10, m8_seg_t hf hn c1, qb, if_neg n10, rd_1, hw]
    obtain ⟨k, hk⟩ : ∃ k : Nat, x1.toInt = k := ⟨x1.toInt.toNat, by omega⟩
    have ex : x1 = iN (k : Int) := by rw [← hk]; exact iN_of x1
    have hkn : k < n := by omega
    rw [ex, s6_isLive H hkn (by omega) (by omega), m8_isLive H8 hkn (by omega) (by omega), qb, qb]
    have hL := hE.liv hkn now
    have hb := H.2 k hkn
    by_cases c2 : Liv g k now
    · rw [if_neg (fun q => b01_0.mp q c2), if_neg (fun q => b01_0.mp q (hL.mp c2))]
      refine Or.inl ⟨now - g (6 * k + 4), _, _, ?_, by have := c2.1; omega, rfl, ?_, hR.fin hkn c2⟩
      · rw [show fX6_set (fun i => iN (g i)) (iN k) (5 : Int32) (iN now) = _ from s6_set g k 5 (by omega) (by omega) now, qb, s6_v4 _ k (by omega), qb, iN_sub, updI_ne (by omega)]
      · unfold fX8_endNow
        have e1 : ∀ {α : Type} {r : (Nat → Int32) → Option α}, Option.bind (fX8_cell (iN (k : Int)) (5 : Int32)) (fun r1 => rd 1634 (fun i => iN (f i)) (1 : Int32) (fun y2 => wr 1634 (fun i => iN (f i)) r1 y2 r)) = r (fun i => iN (updI f (6 * k + 2 + 5) now i)) := by
          intro α r
          have := m8_wr f k 5 (by omega) (by omega) now (r := r)
          rw [show (5 : Int32) = iN ((5 : Nat) : Int) from rfl, ← this]
          simp only [rd_1, hw]
        rw [e1, rd_1, m8_o4 _ k (by omega), qb, updI_ne (by omega), hw, iN_sub]
        have e2 : sh (updI f (6 * k + 2 + 5) now) (6 * k + 4) = g (6 * k + 4) := by
          rw [hE (6 * k + 4) (by omega)]
          unfold sh
          rw [updI_ne (by omega)]
        rw [e2]
    · rw [if_pos (b01_0.mpr c2), if_pos (b01_0.mpr (fun q => c2 (hL.mpr q)))]
      exact Or.inr ⟨_, _, rfl, rfl, Or.inr ⟨rfl, rfl⟩⟩
  · rw [s6_has_f hn c1, qb, if_pos rfl, m8_seg_f hf hn c1, qb, if_pos rfl]
    exact Or.inr ⟨_, _, rfl, rfl, Or.inl ⟨rfl, rfl⟩⟩
/-! lift -/
theorem p_lift {mk : Nat} {now : Int} {n : Nat} {g : Nat → Int} {m : Nat} {q mw mz : Nat → Int} {mg : Nat → Nat → Int} {f : Nat → Int} (hR : SR mk now n g m q mw mz mg f) (x1 x2 : Int32) :
    (∃ (v : Int) (n' : Nat) (g' f' : Nat → Int), fX5_tryLift (iN now) (iN (n : Int)) (fun i => iN (g i)) x1 x2 = some (iN v, iN (n' : Int), fun i => iN (g' i)) ∧ (0 ≤ v ∧ v < 2147483648) ∧ fX8_whyNotLift (fun i => iN (f i)) x1 x2 = some 0 ∧ fX8_liftNow (fun i => iN (f i)) x1 x2 = some (iN v, fun i => iN (f' i)) ∧ SR mk now n' g' m q mw mz mg f')
    ∨ ∃ e c, fX5_tryLift (iN now) (iN (n : Int)) (fun i => iN (g i)) x1 x2 = some (e, iN (n : Int), fun i => iN (g i)) ∧ fX8_whyNotLift (fun i => iN (f i)) x1 x2 = some c ∧ ((e = -1 ∧ c = 1) ∨ (e = -2 ∧ c = 2) ∨ (e = -3 ∧ c = 3)) := by
  obtain ⟨⟨hf, hw, hw2, H, hE⟩, hQ, hM⟩ := id hR
  have hn := H.1
  have H8 := H.eqOn hE
  unfold fX5_tryLift fX8_whyNotLift
  by_cases c1 : 0 ≤ x1.toInt ∧ x1.toInt < n
  · rw [s6_has_t hn c1, qb, if_neg n10, m8_seg_t hf hn c1, qb, if_neg n10]
    obtain ⟨k, hk⟩ : ∃ k : Nat, x1.toInt = k := ⟨x1.toInt.toNat, by omega⟩
    have ex : x1 = iN (k : Int) := by rw [← hk]; exact iN_of x1
    have hkn : k < n := by omega
    rw [ex]
    by_cases c2 : ofP x2
    · rw [s5_off_t c2, qb, if_neg n10, m8_val_t c2, qb, if_neg n10, s6_v1 g k (by omega), qb, m8_o1 f k (by omega), qb, ← hE (6 * k + 1) (by omega)]
      by_cases c3 : ofP (iN (g (6 * k + 1)) + x2)
      · rw [s5_off_t c3, qb, if_neg n10, m8_val_t c3, qb, if_neg n10, rd_1, hw, s6_isLive H hkn (by omega) (by omega), m8_isLive H8 hkn (by omega) (by omega), qb, qb]
        have hL := hE.liv hkn now
        by_cases c4 : Liv g k now
        · rw [if_neg (fun q => b01_0.mp q c4), if_neg (fun q => b01_0.mp q (hL.mp c4))]
          by_cases c5 : n < 40
          · rw [s6_full_f c5, qb, if_pos rfl, m8_full_f hf c5, qb, if_pos rfl]
            have hb := H.2 k hkn
            have hF := hR.fin hkn c4
            have hF0 : (updI f (6 * k + 7) now) 0 = n := hF.1.1
            have es : ∀ j : Nat, j < 6 → sh (updI f (6 * k + 7) now) (6 * k + j) = updI g (6 * k + 5) now (6 * k + j) := fun j hj => (hF.1.2.2.2.2 _ (by omega)).symm
            refine Or.inl ⟨n, n + 1, p6 (updI g (6 * k + 5) now) (6 * n) (g (6 * k)) (iN (g (6 * k + 1)) + x2).toInt (g (6 * k + 2)) (g (6 * k + 3)) now (g (6 * k + 5)), _, ?_, by omega, rfl, ?_, hF.put c5 hb.1 c3 hb.2.2.1 ⟨by omega, by have := c4.2; omega, by omega⟩⟩
            · rw [s6_v5 g k (by omega), qb, show fX6_set (fun i => iN (g i)) (iN k) (5 : Int32) (iN now) = _ from s6_set g k 5 (by omega) (by omega) now, qb, s6_v0 _ k (by omega), qb, s6_v1 _ k (by omega), qb, s6_v2 _ k (by omega), qb, s6_v3 _ k (by omega), qb, updI_ne (by omega), updI_ne (by omega), updI_ne (by omega), updI_ne (by omega)]
              have e1 := s6_insert (updI g (6 * k + 5) now) c5 (g (6 * k)) (iN (g (6 * k + 1)) + x2).toInt (g (6 * k + 2)) (g (6 * k + 3)) now (g (6 * k + 5))
              rw [← iN_of] at e1
              rw [e1, qb, q3]
            · unfold fX8_liftNow
              rw [m8_o5 f k (by omega), qb, ← hE (6 * k + 5) (by omega)]
              have e1 : ∀ {α : Type} {r : (Nat → Int32) → Option α}, Option.bind (fX8_cell (iN (k : Int)) (5 : Int32)) (fun r1 => rd 1634 (fun i => iN (f i)) (1 : Int32) (fun y2 => wr 1634 (fun i => iN (f i)) r1 y2 r)) = r (fun i => iN (updI f (6 * k + 2 + 5) now i)) := by
                intro α r
                have := m8_wr f k 5 (by omega) (by omega) now (r := r)
                rw [show (5 : Int32) = iN ((5 : Nat) : Int) from rfl, ← this]
                simp only [rd_1, hw]
              rw [e1, m8_o0 _ k (by omega), qb, m8_o1 _ k (by omega), qb, m8_o2 _ k (by omega), qb, m8_o3 _ k (by omega), qb, rd_1, show 6 * k + 2 + 5 = 6 * k + 7 by omega]
              rw [show sh (updI f (6 * k + 7) now) (6 * k) = _ from es 0 (by omega), es 1 (by omega), es 2 (by omega), es 3 (by omega), updI_ne (by omega), updI_ne (by omega), updI_ne (by omega), updI_ne (by omega), hF.1.2.1]
              have e2 := m8_put (updI f (6 * k + 7) now) hF0 c5 (g (6 * k)) (iN (g (6 * k + 1)) + x2).toInt (g (6 * k + 2)) (g (6 * k + 3)) now (g (6 * k + 5))
              rw [← iN_of] at e2
              rw [show g (6 * k + 0) = g (6 * k) from rfl, e2, qb, q2]
          · rw [s6_full_t (by omega), qb, if_neg n10, m8_full_t hf (by omega), qb, if_neg n10]
            exact Or.inr ⟨_, _, rfl, rfl, Or.inr (Or.inr ⟨rfl, rfl⟩)⟩
        · rw [if_pos (b01_0.mpr c4), if_pos (b01_0.mpr (fun q => c4 (hL.mpr q)))]
          exact Or.inr ⟨_, _, rfl, rfl, Or.inr (Or.inr ⟨rfl, rfl⟩)⟩
      · rw [s5_off_f c3, qb, if_pos rfl, m8_val_f c3, qb, if_pos rfl]
        exact Or.inr ⟨_, _, rfl, rfl, Or.inr (Or.inl ⟨rfl, rfl⟩)⟩
    · rw [s5_off_f c2, qb, if_pos rfl, m8_val_f c2, qb, if_pos rfl]
      exact Or.inr ⟨_, _, rfl, rfl, Or.inr (Or.inl ⟨rfl, rfl⟩)⟩
  · rw [s6_has_f hn c1, qb, if_pos rfl, m8_seg_f hf hn c1, qb, if_pos rfl]
    exact Or.inr ⟨_, _, rfl, rfl, Or.inl ⟨rfl, rfl⟩⟩
/-! pass -/
theorem SR.tick {mk : Nat} {now now' : Int} {n : Nat} {g : Nat → Int} {m : Nat} {q mw mz : Nat → Int} {mg : Nat → Nat → Int} {f : Nat → Int} (h : SR mk now n g m q mw mz mg f) (h0 : 0 ≤ now' ∧ now' ≤ 16383) : SR mk now' n g m q mw mz mg (updI f 1 now') := by
  obtain ⟨⟨h1, h2, h3, h4, h5⟩, hQ, hM⟩ := h
  refine ⟨⟨?_, updI_eq, h0, h4, fun i hi => ?_⟩, hQ.congr (fun i h0 _ => (updI_ne (by omega)).symm), hM.congr (fun i h0 _ => (updI_ne (by omega)).symm)⟩
  · rw [updI_ne (by omega)]; exact h1
  · unfold sh
    rw [updI_ne (by omega)]; exact h5 i hi
theorem p_pass {mk : Nat} {now : Int} {n : Nat} {g : Nat → Int} {m : Nat} {q mw mz : Nat → Int} {mg : Nat → Nat → Int} {f : Nat → Int} (hR : SR mk now n g m q mw mz mg f) (x1 : Int32) :
    (∃ (v : Int) (f' : Nat → Int), fX5_tryPass (iN now) x1 = some (iN v, iN v) ∧ (0 ≤ v ∧ v < 2147483648) ∧ fX8_whyNotPass (fun i => iN (f i)) x1 = some 0 ∧ (∀ {α : Type} {r : (Nat → Int32) → Option α}, rd 1634 (fun i => iN (f i)) (1 : Int32) (fun y4 => wr 1634 (fun i => iN (f i)) (1 : Int32) (y4 + x1) r) = r (fun i => iN (f' i))) ∧ f' 1 = v ∧ SR mk v n g m q mw mz mg f')
    ∨ ∃ e c, fX5_tryPass (iN now) x1 = some (e, iN now) ∧ fX8_whyNotPass (fun i => iN (f i)) x1 = some c ∧ ((e = -2 ∧ c = 1) ∨ (e = -3 ∧ c = 2)) := by
  have hw := hR.1.2.1
  have hw2 := hR.1.2.2.1
  unfold fX5_tryPass fX8_whyNotPass
  rw [show (0 : Int64) = lI 0 from rfl, show (1000 : Int64) = lI 1000 from rfl, m8_in32 x1 (by omega) (by omega) (by omega) (by omega), qb]
  by_cases c1 : 0 ≤ x1.toInt ∧ x1.toInt ≤ 1000
  · rw [ib_t (a := 0) (b := 1000) c1, qb, if_neg n10, if_neg (fun q => b01_0.mp q c1), rd_1, hw]
    obtain ⟨k, hk⟩ : ∃ k : Int, x1.toInt = k := ⟨_, rfl⟩
    have ex : x1 = iN k := by rw [← hk]; exact iN_of x1
    rw [hk] at c1
    rw [ex, iN_add]
    by_cases c2 : now + k < 16384
    · rw [if_pos (by rw [show (16384 : Int32) = iN 16384 from rfl, iN_lt (by omega) (by omega) (by omega) (by omega)]; omega), nm_v, if_pos (by rw [show (16383 : Int32) = iN 16383 from rfl, iN_le (by omega) (by omega) (by omega) (by omega)]; omega)]
      refine Or.inl ⟨now + k, _, rfl, by omega, rfl, ?_, updI_eq, hR.tick (by omega)⟩
      intro α r
      rw [rd_1, hw, iN_add, show (1 : Int32) = iN 1 from rfl, wr_iN (by omega) (by omega) (by omega), upd_iN]
      rfl
    · rw [if_neg (by rw [show (16384 : Int32) = iN 16384 from rfl, iN_lt (by omega) (by omega) (by omega) (by omega)]; omega), if_neg (by rw [show (16383 : Int32) = iN 16383 from rfl, iN_le (by omega) (by omega) (by omega) (by omega)]; omega)]
      exact Or.inr ⟨_, _, rfl, rfl, Or.inr ⟨rfl, rfl⟩⟩
  · rw [ib_f (a := 0) (b := 1000) c1, qb, if_pos rfl, if_pos (b01_0.mpr c1)]
    exact Or.inr ⟨_, _, rfl, rfl, Or.inl ⟨rfl, rfl⟩⟩
