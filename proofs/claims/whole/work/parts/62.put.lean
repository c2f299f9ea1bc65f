/-! ===== a segment more: add ===== -/
def p6 (h : Nat → Int) (o : Nat) (a b x y u v : Int) : Nat → Int := fun i => if i = o then a else if i = o + 1 then b else if i = o + 2 then x else if i = o + 3 then y else if i = o + 4 then u else if i = o + 5 then v else h i
theorem p6_ne {h : Nat → Int} {o i : Nat} {a b x y u v : Int} (c : i < o ∨ o + 6 ≤ i) : p6 h o a b x y u v i = h i := by
  unfold p6
  rw [if_neg (by omega), if_neg (by omega), if_neg (by omega), if_neg (by omega), if_neg (by omega), if_neg (by omega)]
theorem p6_0 {h : Nat → Int} {o : Nat} {a b x y u v : Int} : p6 h o a b x y u v o = a := if_pos rfl
theorem p6_1 {h : Nat → Int} {o : Nat} {a b x y u v : Int} : p6 h o a b x y u v (o + 1) = b := by
  unfold p6; rw [if_neg (by omega), if_pos rfl]
theorem p6_2 {h : Nat → Int} {o : Nat} {a b x y u v : Int} : p6 h o a b x y u v (o + 2) = x := by
  unfold p6; rw [if_neg (by omega), if_neg (by omega), if_pos rfl]
theorem p6_3 {h : Nat → Int} {o : Nat} {a b x y u v : Int} : p6 h o a b x y u v (o + 3) = y := by
  unfold p6; rw [if_neg (by omega), if_neg (by omega), if_neg (by omega), if_pos rfl]
theorem p6_4 {h : Nat → Int} {o : Nat} {a b x y u v : Int} : p6 h o a b x y u v (o + 4) = u := by
  unfold p6; rw [if_neg (by omega), if_neg (by omega), if_neg (by omega), if_neg (by omega), if_pos rfl]
theorem p6_5 {h : Nat → Int} {o : Nat} {a b x y u v : Int} : p6 h o a b x y u v (o + 5) = v := by
  unfold p6; rw [if_neg (by omega), if_neg (by omega), if_neg (by omega), if_neg (by omega), if_neg (by omega), if_pos rfl]
theorem updI_ne {f : Nat → Int} {k j : Nat} {x : Int} (h : ¬ j = k) : updI f k x j = f j := if_neg h
theorem updI_eq {f : Nat → Int} {k : Nat} {x : Int} : updI f k x k = x := if_pos rfl
theorem p6_upd (h : Nat → Int) (o : Nat) (a b x y u v : Int) : updI (updI (updI (updI (updI (updI h o a) (o + 1) b) (o + 2) x) (o + 3) y) (o + 4) u) (o + 5) v = p6 h o a b x y u v := by
  funext i
  by_cases c5 : i = o + 5
  · subst c5; rw [updI_eq, p6_5]
  · rw [updI_ne c5]
    by_cases c4 : i = o + 4
    · subst c4; rw [updI_eq, p6_4]
    · rw [updI_ne c4]
      by_cases c3 : i = o + 3
      · subst c3; rw [updI_eq, p6_3]
      · rw [updI_ne c3]
        by_cases c2 : i = o + 2
        · subst c2; rw [updI_eq, p6_2]
        · rw [updI_ne c2]
          by_cases c1 : i = o + 1
          · subst c1; rw [updI_eq, p6_1]
          · rw [updI_ne c1]
            by_cases c0 : i = o
            · subst c0; rw [updI_eq, p6_0]
            · rw [updI_ne c0, p6_ne (by omega)]
theorem s6_set (g : Nat → Int) (k j : Nat) (hk : k < 40) (hj : j < 6) (x : Int) : fX6_set (fun i => iN (g i)) (iN k) (iN j) (iN x) = some (fun i => iN (updI g (6 * k + j) x i)) := by
  unfold fX6_set
  rw [nm_v, show (6 : Int32) = iN 6 from rfl, show (0 : Int32) = iN 0 from rfl, show (240 : Int32) = iN 240 from rfl, iN_mul, iN_add, if_neg, if_neg, wr_iN (by omega) (by omega) (by omega)]
  · rw [upd_iN, show ((k : Int) * 6 + j).toNat = 6 * k + j by omega]
  · rw [iN_le (by omega) (by omega) (by omega) (by omega)]; omega
  · rw [iN_lt (by omega) (by omega) (by omega) (by omega)]; omega
theorem s6_insert (g : Nat → Int) {n : Nat} (hn : n < 40) (a b x y u v : Int) : fX6_insert (iN (n : Int)) (fun i => iN (g i)) (iN a) (iN b) (iN x) (iN y) (iN u) (iN v) = some (iN (n : Int), iN ((n + 1 : Nat) : Int), fun i => iN (p6 g (6 * n) a b x y u v i)) := by
  unfold fX6_insert
  rw [show fX6_set (fun i => iN (g i)) (iN n) (0 : Int32) (iN a) = _ from s6_set g n 0 hn (by omega) a, qb]
  rw [show ∀ h : Nat → Int, fX6_set (fun i => iN (h i)) (iN n) (1 : Int32) (iN b) = _ from fun h => s6_set h n 1 hn (by omega) b, qb]
  rw [show ∀ h : Nat → Int, fX6_set (fun i => iN (h i)) (iN n) (2 : Int32) (iN x) = _ from fun h => s6_set h n 2 hn (by omega) x, qb]
  rw [show ∀ h : Nat → Int, fX6_set (fun i => iN (h i)) (iN n) (3 : Int32) (iN y) = _ from fun h => s6_set h n 3 hn (by omega) y, qb]
  rw [show ∀ h : Nat → Int, fX6_set (fun i => iN (h i)) (iN n) (4 : Int32) (iN u) = _ from fun h => s6_set h n 4 hn (by omega) u, qb]
  rw [show ∀ h : Nat → Int, fX6_set (fun i => iN (h i)) (iN n) (5 : Int32) (iN v) = _ from fun h => s6_set h n 5 hn (by omega) v, qb]
  rw [nm_v, iN_succ, p6_upd]
  rfl
theorem m8_put (f : Nat → Int) {n : Nat} (hf : f 0 = n) (hn : n < 40) (a b x y u v : Int) : fX8_put (fun i => iN (f i)) (iN a) (iN b) (iN x) (iN y) (iN u) (iN v) = some (iN (n : Int), fun i => iN (updI (p6 f (6 * n + 2) a b x y u v) 0 ((n + 1 : Nat) : Int) i)) := by
  have w : ∀ (h : Nat → Int) (j : Nat) (z : Int) {k : (Nat → Int32) → Option (Int32 × (Nat → Int32))}, j < 6 → wr 1634 (fun i => iN (h i)) (iN (2 + 6 * (n : Int)) + iN (j : Int)) (iN z) k = k (fun i => iN (updI h (6 * n + 2 + j) z i)) := by
    intro h j z k hj
    rw [iN_add, wr_iN (by omega) (by omega) (by omega), upd_iN, show (2 + 6 * (n : Int) + (j : Int)).toNat = 6 * n + 2 + j by omega]
  unfold fX8_put fX8_cell
  rw [show (0 : Int32) = iN 0 from rfl, rd_iN (by omega) (by omega) (by omega), qb]
  simp only [show ((0 : Int)).toNat = 0 from rfl, hf]
  rw [show (6 : Int32) = iN 6 from rfl, iN_mul, show (2 : Int32) = iN 2 from rfl, iN_add, show iN (2 + 6 * (n : Int)) + iN 0 = iN (2 + 6 * (n : Int)) from by rw [iN_add, Int.add_zero]]
  rw [wr_iN (by omega) (by omega) (by omega), upd_iN, show (2 + 6 * (n : Int)).toNat = 6 * n + 2 by omega]
  rw [show (1 : Int32) = iN ((1 : Nat) : Int) from rfl, w _ 1 _ (by omega), show iN 2 = iN ((2 : Nat) : Int) from rfl, w _ 2 _ (by omega), show (3 : Int32) = iN ((3 : Nat) : Int) from rfl, w _ 3 _ (by omega), show (4 : Int32) = iN ((4 : Nat) : Int) from rfl, w _ 4 _ (by omega), show (5 : Int32) = iN ((5 : Nat) : Int) from rfl, w _ 5 _ (by omega), p6_upd]
  rw [rd_iN (by omega) (by omega) (by omega)]
  simp only [show ((0 : Int)).toNat = 0 from rfl]
  rw [p6_ne (by omega), hf, wr_iN (by omega) (by omega) (by omega), iN_add, upd_iN, rd_iN (by omega) (by omega) (by omega)]
  simp only [show ((0 : Int)).toNat = 0 from rfl, updI_eq]
  rw [iN_sub, show (n : Int) + ((1 : Nat) : Int) - ((1 : Nat) : Int) = n by omega]
  rfl
theorem SR.put {mk : Nat} {now : Int} {n : Nat} {g : Nat → Int} {m : Nat} {q mw mz : Nat → Int} {mg : Nat → Nat → Int} {f : Nat → Int} (h : SR mk now n g m q mw mz mg f) (hn : n < 40) {a b x y u v : Int} (ha : -1000 ≤ a ∧ a ≤ 1000) (hb : -1000000 ≤ b ∧ b ≤ 1000000) (hx : 0 ≤ x ∧ x ≤ y ∧ y ≤ 255) (hu : 0 ≤ u ∧ u ≤ v ∧ v ≤ 16384) : SR mk now (n + 1) (p6 g (6 * n) a b x y u v) m q mw mz mg (updI (p6 f (6 * n + 2) a b x y u v) 0 ((n + 1 : Nat) : Int)) := by
  obtain ⟨⟨h1, h2, h3, h4, h5⟩, hQ, hM⟩ := h
  have hi : ∀ i : Nat, 242 ≤ i → f i = updI (p6 f (6 * n + 2) a b x y u v) 0 ((n + 1 : Nat) : Int) i := fun i hi => by
    rw [updI_ne (by omega), p6_ne (by omega)]
  refine ⟨⟨updI_eq, ?_, h3, ⟨by omega, fun k hk => ?_⟩, fun i hi => ?_⟩, hQ.congr (fun i h0 _ => hi i h0), hM.congr (fun i h0 _ => hi i (by omega))⟩
  · rw [updI_ne (by omega), p6_ne (by omega)]; exact h2
  · by_cases c : k = n
    · subst c
      rw [p6_0, p6_1, p6_2, p6_3, p6_4, p6_5]
      exact ⟨ha, hb, hx, hu⟩
    · rw [p6_ne (by omega), p6_ne (by omega), p6_ne (by omega), p6_ne (by omega), p6_ne (by omega), p6_ne (by omega)]
      exact h4.2 k (by omega)
  · unfold sh
    rw [updI_ne (by omega)]
    by_cases c : i < 6 * n
    · rw [p6_ne (by omega), p6_ne (by omega)]
      exact h5 i c
    · have ej : i = 6 * n ∨ i = 6 * n + 1 ∨ i = 6 * n + 2 ∨ i = 6 * n + 3 ∨ i = 6 * n + 4 ∨ i = 6 * n + 5 := by omega
      rcases ej with rfl | rfl | rfl | rfl | rfl | rfl
      · rw [p6_0, p6_0]
      · rw [p6_1, show 6 * n + 1 + 2 = 6 * n + 2 + 1 by omega, p6_1]
      · rw [p6_2, p6_2]
      · rw [p6_3, show 6 * n + 3 + 2 = 6 * n + 2 + 3 by omega, p6_3]
      · rw [p6_4, show 6 * n + 4 + 2 = 6 * n + 2 + 4 by omega, p6_4]
      · rw [p6_5, show 6 * n + 5 + 2 = 6 * n + 2 + 5 by omega, p6_5]
theorem ib_t {x a b : Int32} (h : a.toInt ≤ x.toInt ∧ x.toInt ≤ b.toInt) : fX7_isBetween x a b = some 1 := by rw [s7_isBetween, if_pos h]
theorem ib_f {x a b : Int32} (h : ¬ (a.toInt ≤ x.toInt ∧ x.toInt ≤ b.toInt)) : fX7_isBetween x a b = some 0 := by rw [s7_isBetween, if_neg h]
theorem n10 : ¬ (1 : Int32) = 0 := by decide
theorem s5_isOffset (x : Int32) : fX5_isOffset x = some (if -1000000 ≤ x.toInt ∧ x.toInt ≤ 1000000 then 1 else 0) := by
  unfold fX5_isOffset
  rw [s7_isBetween, qb, zr_b]
  rfl
abbrev lnP (a b : Int32) : Prop := (-1000 ≤ a.toInt ∧ a.toInt ≤ 1000) ∧ (-1000000 ≤ b.toInt ∧ b.toInt ≤ 1000000)
theorem s5_line_t {a b : Int32} (h : lnP a b) : fX5_isLine a b = some 1 := by
  unfold fX5_isLine
  rw [ib_t (a := -1000) (b := 1000) h.1, qb, if_neg n10, s5_isOffset, qb, if_neg (fun q => b01_0.mp q h.2), zr_1]
theorem s5_line_f {a b : Int32} (h : ¬ lnP a b) : fX5_isLine a b = some 0 := by
  unfold fX5_isLine
  by_cases c1 : -1000 ≤ a.toInt ∧ a.toInt ≤ 1000
  · rw [ib_t (a := -1000) (b := 1000) c1, qb, if_neg n10, s5_isOffset, qb, if_pos (b01_0.mpr (fun q => h ⟨c1, q⟩)), zr_0]
  · rw [ib_f (a := -1000) (b := 1000) c1, qb, if_pos rfl, zr_0]
theorem m8_line_t {a b : Int32} (h : lnP a b) : fX8_isLine a b = some 1 := by
  rw [m8_isLine, if_pos h]
theorem m8_line_f {a b : Int32} (h : ¬ lnP a b) : fX8_isLine a b = some 0 := by
  rw [m8_isLine, if_neg h]
theorem m8_pos_t {x : Int32} (h : 0 ≤ x.toInt ∧ x.toInt ≤ 255) : fX8_isPosition x = some 1 := by rw [m8_isPosition, if_pos h]
theorem m8_pos_f {x : Int32} (h : ¬ (0 ≤ x.toInt ∧ x.toInt ≤ 255)) : fX8_isPosition x = some 0 := by rw [m8_isPosition, if_neg h]
theorem m8_tick_t {x : Int32} (h : 0 ≤ x.toInt ∧ x.toInt ≤ 16384) : fX8_isTick x = some 1 := by rw [m8_isTick, if_pos h]
theorem m8_tick_f {x : Int32} (h : ¬ (0 ≤ x.toInt ∧ x.toInt ≤ 16384)) : fX8_isTick x = some 0 := by rw [m8_isTick, if_neg h]
theorem m8_val_t {x : Int32} (h : -1000000 ≤ x.toInt ∧ x.toInt ≤ 1000000) : fX8_isValue x = some 1 := by rw [m8_isValue, if_pos h]
theorem m8_val_f {x : Int32} (h : ¬ (-1000000 ≤ x.toInt ∧ x.toInt ≤ 1000000)) : fX8_isValue x = some 0 := by rw [m8_isValue, if_neg h]
theorem s6_full_f {n : Nat} (hn : n < 40) : fX6_isFull (iN (n : Int)) = some 0 := by
  unfold fX6_isFull
  rw [if_pos (by rw [show (40 : Int32) = iN 40 from rfl, iN_lt (by omega) (by omega) (by omega) (by omega)]; omega), zr_0]
theorem s6_full_t {n : Nat} (hn : n = 40) : fX6_isFull (iN (n : Int)) = some 1 := by
  subst hn; decide +kernel
theorem m8_full_f {f : Nat → Int} {n : Nat} (hf : f 0 = n) (hn : n < 40) : fX8_isFull (fun i => iN (f i)) = some 0 := by
  unfold fX8_isFull
  rw [show (0 : Int32) = iN 0 from rfl, rd_iN (by omega) (by omega) (by omega)]
  simp only [show ((0 : Int)).toNat = 0 from rfl, hf]
  rw [if_neg (by rw [show (40 : Int32) = iN 40 from rfl, iN_eq (by omega) (by omega) (by omega) (by omega)]; omega)]
  exact zr_0
theorem m8_full_t {f : Nat → Int} {n : Nat} (hf : f 0 = n) (hn : n = 40) : fX8_isFull (fun i => iN (f i)) = some 1 := by
  unfold fX8_isFull
  rw [show (0 : Int32) = iN 0 from rfl, rd_iN (by omega) (by omega) (by omega)]
  simp only [show ((0 : Int)).toNat = 0 from rfl, hf]
  rw [if_pos (by subst hn; rfl)]
  exact zr_1
/-- what add asks for -/
def adP (x1 x2 x3 x4 : Int32) : Prop := lnP x1 x2 ∧ (0 ≤ x4.toInt ∧ x4.toInt ≤ 255) ∧ (0 ≤ x3.toInt ∧ x3.toInt ≤ x4.toInt)
theorem m8_wna_f {f : Nat → Int} {x1 x2 x3 x4 : Int32} (h : ¬ adP x1 x2 x3 x4) : fX8_whyNotAdd (fun i => iN (f i)) x1 x2 x3 x4 = some 1 := by
  have e : jX8_whyNotAdd_33 (fun i => iN (f i)) = some 1 := by
    unfold jX8_whyNotAdd_33 jX8_whyNotAdd_34
    exact if_pos rfl
  unfold fX8_whyNotAdd
  by_cases c1 : lnP x1 x2
  · rw [m8_line_t c1, qb, if_neg n10]
    by_cases c2 : 0 ≤ x3.toInt ∧ x3.toInt ≤ 255
    · rw [m8_pos_t c2, qb, if_neg n10]
      by_cases c3 : 0 ≤ x4.toInt ∧ x4.toInt ≤ 255
      · rw [m8_pos_t c3, qb, if_neg n10, if_pos (by rw [Int32.lt_iff_toInt_lt]; unfold adP at h; by_cases q : x4.toInt < x3.toInt; exact q; exact absurd ⟨c1, c3, c2.1, by omega⟩ h)]
        exact e
      · rw [m8_pos_f c3, qb, if_pos rfl]
        exact e
    · rw [m8_pos_f c2, qb, if_pos rfl]
      exact e
  · rw [m8_line_f c1, qb, if_pos rfl]
    exact e
theorem m8_wna_t {f : Nat → Int} {n : Nat} (hf : f 0 = n) {x1 x2 x3 x4 : Int32} (h : adP x1 x2 x3 x4) : (n < 40 → fX8_whyNotAdd (fun i => iN (f i)) x1 x2 x3 x4 = some 0) ∧ (n = 40 → fX8_whyNotAdd (fun i => iN (f i)) x1 x2 x3 x4 = some 2) := by
  obtain ⟨c1, c2, c3⟩ := h
  unfold fX8_whyNotAdd
  rw [m8_line_t c1, qb, if_neg n10, m8_pos_t (by omega), qb, if_neg n10, m8_pos_t c2, qb, if_neg n10, if_neg (by rw [Int32.lt_iff_toInt_lt]; omega)]
  unfold jX8_whyNotAdd_34
  rw [if_neg n10]
  refine ⟨fun q => ?_, fun q => ?_⟩
  · rw [m8_full_f hf q, qb, if_pos rfl]
  · rw [m8_full_t hf q, qb, if_neg n10]
/-- whether add's change is made, and what it makes: class and reference -/
theorem p_add {mk : Nat} {now : Int} {n : Nat} {g : Nat → Int} {m : Nat} {q mw mz : Nat → Int} {mg : Nat → Nat → Int} {f : Nat → Int} (hR : SR mk now n g m q mw mz mg f) (x1 x2 x3 x4 : Int32) :
    (∃ (v : Int) (n' : Nat) (g' f' : Nat → Int), fX5_tryAdd (iN now) (iN (n : Int)) (fun i => iN (g i)) x1 x2 x3 x4 = some (iN v, iN (n' : Int), fun i => iN (g' i)) ∧ (0 ≤ v ∧ v < 2147483648) ∧ fX8_whyNotAdd (fun i => iN (f i)) x1 x2 x3 x4 = some 0 ∧ fX8_put (fun i => iN (f i)) x1 x2 x3 x4 (iN now) (16384 : Int32) = some (iN v, fun i => iN (f' i)) ∧ SR mk now n' g' m q mw mz mg f')
    ∨ ∃ e c, fX5_tryAdd (iN now) (iN (n : Int)) (fun i => iN (g i)) x1 x2 x3 x4 = some (e, iN (n : Int), fun i => iN (g i)) ∧ fX8_whyNotAdd (fun i => iN (f i)) x1 x2 x3 x4 = some c ∧ ((e = -2 ∧ c = 1) ∨ (e = -3 ∧ c = 2)) := by
  have hf := hR.1.1
  have hn := hR.1.2.2.2.1.1
  have hw := hR.1.2.2.1
  by_cases h : adP x1 x2 x3 x4
  · obtain ⟨w1, w2⟩ := m8_wna_t hf h
    have e0 : fX5_tryAdd (iN now) (iN (n : Int)) (fun i => iN (g i)) x1 x2 x3 x4 = Option.bind (fX6_isFull (iN (n : Int))) (fun r7 => if r7 = (0 : Int32) then (Option.bind (fX6_insert (iN (n : Int)) (fun i => iN (g i)) x1 x2 x3 x4 (iN now) (16384 : Int32)) (fun r9 => up3 r9 (fun r9_0 r9_1 r9_2 => some (r9_0, r9_1, r9_2)))) else (some ((-3 : Int32), iN (n : Int), fun i => iN (g i)))) := by
      unfold fX5_tryAdd
      rw [s5_line_t h.1, qb, if_neg n10, ib_t (a := 0) (b := 255) h.2.1, qb, if_neg n10, ib_t (a := 0) (b := x4) h.2.2, qb, if_neg n10]
    by_cases c : n < 40
    · refine Or.inl ⟨n, n + 1, _, _, ?_, by omega, w1 c, ?_, hR.put c (a := x1.toInt) (b := x2.toInt) (x := x3.toInt) (y := x4.toInt) (u := now) (v := 16384) h.1.1 h.1.2 ⟨h.2.2.1, h.2.2.2, h.2.1.2⟩ (by omega)⟩
      · rw [e0, s6_full_f c, qb, if_pos rfl]
        have e1 := s6_insert g c x1.toInt x2.toInt x3.toInt x4.toInt now 16384
        rw [← iN_of, ← iN_of, ← iN_of, ← iN_of] at e1
        rw [show (16384 : Int32) = iN 16384 from rfl, e1, qb, q3]
      · have e1 := m8_put f hf c x1.toInt x2.toInt x3.toInt x4.toInt now 16384
        rw [← iN_of, ← iN_of, ← iN_of, ← iN_of] at e1
        exact e1
    · have c4 : n = 40 := by omega
      refine Or.inr ⟨-3, 2, ?_, w2 c4, Or.inr ⟨rfl, rfl⟩⟩
      rw [e0, s6_full_t c4, qb, if_neg n10]
  · refine Or.inr ⟨-2, 1, ?_, m8_wna_f h, Or.inl ⟨rfl, rfl⟩⟩
    unfold fX5_tryAdd
    by_cases c1 : lnP x1 x2
    · rw [s5_line_t c1, qb, if_neg n10]
      by_cases c2 : 0 ≤ x4.toInt ∧ x4.toInt ≤ 255
      · rw [ib_t (a := 0) (b := 255) c2, qb, if_neg n10, ib_f (a := 0) (b := x4) (fun q => h ⟨c1, c2, q⟩), qb, if_pos rfl]
      · rw [ib_f (a := 0) (b := 255) c2, qb, if_pos rfl]
    · rw [s5_line_f c1, qb, if_pos rfl]
