/-! ===== mark, rollBack ===== -/
/-- f with the first k cells written again from o on -/
def cp242 (f : Nat → Int) (o k : Nat) : Nat → Int := fun i => if o ≤ i ∧ i < o + k then f (i - o) else f i
theorem cp242_0 (f : Nat → Int) (o : Nat) : cp242 f o 0 = f := by
  funext i
  unfold cp242
  rw [if_neg (by omega)]
theorem cp242_s {f : Nat → Int} {o k : Nat} : updI (cp242 f o k) (o + k) (f k) = cp242 f o (k + 1) := by
  funext i
  unfold updI cp242
  by_cases c : i = o + k
  · rw [if_pos c, if_pos (by omega), show i - o = k by omega]
  · rw [if_neg c]
    by_cases c2 : o ≤ i ∧ i < o + k
    · rw [if_pos c2, if_pos (by omega)]
    · rw [if_neg c2, if_neg (by omega)]
theorem cp242_ne {f : Nat → Int} {o k i : Nat} (h : i < o ∨ o + k ≤ i) : cp242 f o k i = f i := if_neg (by omega)
theorem cp242_in {f : Nat → Int} {o k i : Nat} (h : i < k) : cp242 f o k (o + i) = f i := by
  unfold cp242
  rw [if_pos (by omega), show o + i - o = i by omega]
theorem m8_markLoop {f : Nat → Int} {mk N : Nat} (hN : N = 242) (hf : f 423 = mk) (hk : mk < 5) (w c : Int32) (sv : Nat → Int32) : lp (fun z => bX8_mark_29 w c sv z.1 z.2) fuel ((0 : Int32), fun i => iN (f i)) = some (iN ((mk + 1 : Nat) : Int), w, c, (fun i => iN (updI (cp242 f (424 + 242 * mk) N) 423 ((mk + 1 : Nat) : Int) i)), sv) := by
  have e0 : (fun i => iN (f i)) = fun i => iN (cp242 f (424 + 242 * mk) 0 i) := by rw [cp242_0]
  rw [e0]
  refine lp_for _ (fun k => (iN (k : Int), fun i => iN (cp242 f (424 + 242 * mk) k i))) N _ ?_ ?_ (fuel_ge (by omega))
  · intro k hk
    show bX8_mark_29 _ _ _ (iN (k : Int)) (fun i => iN (cp242 f (424 + 242 * mk) k i)) = _
    unfold bX8_mark_29
    rw [if_neg (by rw [show (242 : Int32) = iN 242 from rfl, iN_le (by omega) (by omega) (by omega) (by omega)]; omega), rd_423, cp242_ne (by omega), hf, rd_iN (by omega) (by omega) (by omega), show ((k : Int)).toNat = k from rfl, cp242_ne (by omega), show (242 : Int32) = iN 242 from rfl, iN_mul, show (424 : Int32) = iN 424 from rfl, iN_add, iN_add, wr_iN (by omega) (by omega) (by omega), upd_iN, nm_v, iN_succ, show (424 + 242 * (mk : Int) + (k : Int)).toNat = 424 + 242 * mk + k by omega, cp242_s]
  · show bX8_mark_29 _ _ _ (iN (N : Int)) (fun i => iN (cp242 f (424 + 242 * mk) N i)) = _
    unfold bX8_mark_29
    rw [if_pos (by rw [show (242 : Int32) = iN 242 from rfl, iN_le (by omega) (by omega) (by omega) (by omega)]; omega), rd_423, cp242_ne (by omega), hf, iN_succ, wr_423, rd_423, updI_eq]
    rfl
theorem SR.mrk {mk : Nat} {now : Int} {n : Nat} {g : Nat → Int} {m : Nat} {q mw mz : Nat → Int} {mg : Nat → Nat → Int} {f : Nat → Int} (h : SR mk now n g m q mw mz mg f) (hk : mk < 5) {g' : Nat → Int} (hg : EqOn n g g') {N : Nat} (hN : N = 242) : SR (mk + 1) now n g m q (va_up mw mk now) (va_up mz mk n) (va_up mg mk g') (updI (cp242 f (424 + 242 * mk) N) 423 ((mk + 1 : Nat) : Int)) := by
  obtain ⟨hS, hQ, h1, h2, h3⟩ := h
  have lo : ∀ i : Nat, i < 423 → f i = updI (cp242 f (424 + 242 * mk) N) 423 ((mk + 1 : Nat) : Int) i := fun i hi => by
    rw [updI_ne (by omega), cp242_ne (by omega)]
  refine ⟨hS.congr (fun i hi => lo i (by omega)), hQ.congr (fun i _ hi => lo i hi), by omega, updI_eq, fun j hj => ?_⟩
  by_cases c : j = mk
  · subst c
    rw [va_up_self, va_up_self, va_up_self]
    refine ⟨n, rfl, (hS.gcongr hg).congr (fun i hi => ?_)⟩
    rw [updI_ne (by omega), cp242_in (by omega)]
  · rw [va_up_ne _ _ c, va_up_ne _ _ c, va_up_ne _ _ c]
    obtain ⟨z, hz, h⟩ := h3 j (by omega)
    refine ⟨z, hz, h.congr (fun i hi => ?_)⟩
    rw [updI_ne (by omega), cp242_ne (by omega)]
theorem s5_mark {mk : Nat} (hk : mk < 5) {now : Int} {n : Nat} (hn : n ≤ 40) (g mw mz : Nat → Int) (mg : Nat → Nat → Int) : ∃ g' : Nat → Int, fX5_tryMark (iN (mk : Int)) (iN now) (iN (n : Int)) (fun i => iN (g i)) (fun j => iN (mw j)) (fun j => iN (mz j)) (fun j i => iN (mg j i)) = some (iN ((mk + 1 : Nat) : Int), iN ((mk + 1 : Nat) : Int), (fun j => iN (va_up mw mk now j)), (fun j => iN (va_up mz mk n j)), (fun j i => iN (va_up mg mk g' j i))) ∧ EqOn n g g' := by
  unfold fX5_tryMark
  rw [if_neg (by rw [show (0 : Int32) = iN 0 from rfl, iN_lt (by omega) (by omega) (by omega) (by omega)]; omega), if_pos (by rw [show (5 : Int32) = iN 5 from rfl, iN_lt (by omega) (by omega) (by omega) (by omega)]; omega), rf_iN (by omega) (by omega) (by omega), show ((mk : Int)).toNat = mk from rfl]
  obtain ⟨g', e, h⟩ := s6_copy hn (iN (mw mk)) (iN (mz mk)) (fun i => iN (mg mk i)) now g
  rw [e, qb, q3, nm_v, va_up_iN, va_up_iN, va_up_iN2, iN_succ]
  exact ⟨g', rfl, h⟩
theorem s5_mark_f {mk : Nat} (hk : mk = 5) {a b : Int32} {v w z : Nat → Int32} {y : Nat → Nat → Int32} : fX5_tryMark (iN (mk : Int)) a b v w z y = some (-3, iN (mk : Int), w, z, y) := by
  unfold fX5_tryMark
  rw [if_neg (by rw [show (0 : Int32) = iN 0 from rfl, iN_lt (by omega) (by omega) (by omega) (by omega)]; omega), if_neg (by rw [show (5 : Int32) = iN 5 from rfl, iN_lt (by omega) (by omega) (by omega) (by omega)]; omega)]
/-- f with its first k cells written from o on -/
def bk242 (f : Nat → Int) (o k : Nat) : Nat → Int := fun i => if i < k then f (o + i) else f i
theorem bk242_s {f : Nat → Int} {o k : Nat} : updI (bk242 f o k) k (f (o + k)) = bk242 f o (k + 1) := by
  funext i
  unfold updI bk242
  by_cases c : i = k
  · subst c; rw [if_pos rfl, if_pos (by omega)]
  · rw [if_neg c]
    by_cases c2 : i < k
    · rw [if_pos c2, if_pos (by omega)]
    · rw [if_neg c2, if_neg (by omega)]
theorem bk242_ne {f : Nat → Int} {o k i : Nat} (h : k ≤ i) : bk242 f o k i = f i := if_neg (by omega)
theorem bk242_in {f : Nat → Int} {o k i : Nat} (h : i < k) : bk242 f o k i = f (o + i) := if_pos h
theorem m8_backLoop {f : Nat → Int} {mk N : Nat} (hN : N = 242) (hf : f 423 = mk) (hk : mk < 5) (w c : Int32) (sv : Nat → Int32) : lp (fun z => bX8_rollBack_40 w c sv z.1 z.2) fuel ((0 : Int32), fun i => iN (f i)) = some (iN (mk : Int), w, c, (fun i => iN (bk242 f (424 + 242 * mk) N i)), sv) := by
  have e0 : (fun i => iN (f i)) = fun i => iN (bk242 f (424 + 242 * mk) 0 i) := by
    funext i
    rw [bk242_ne (by omega)]
  rw [e0]
  refine lp_for _ (fun k => (iN (k : Int), fun i => iN (bk242 f (424 + 242 * mk) k i))) N _ ?_ ?_ (fuel_ge (by omega))
  · intro k hk
    show bX8_rollBack_40 _ _ _ (iN (k : Int)) (fun i => iN (bk242 f (424 + 242 * mk) k i)) = _
    unfold bX8_rollBack_40
    rw [if_neg (by rw [show (242 : Int32) = iN 242 from rfl, iN_le (by omega) (by omega) (by omega) (by omega)]; omega), rd_423, bk242_ne (by omega), hf, show (242 : Int32) = iN 242 from rfl, iN_mul, show (424 : Int32) = iN 424 from rfl, iN_add, iN_add, rd_iN (by omega) (by omega) (by omega), show (424 + 242 * (mk : Int) + (k : Int)).toNat = 424 + 242 * mk + k by omega, bk242_ne (by omega), wr_iN (by omega) (by omega) (by omega), upd_iN, nm_v, iN_succ, show ((k : Int)).toNat = k from rfl, bk242_s]
  · show bX8_rollBack_40 _ _ _ (iN (N : Int)) (fun i => iN (bk242 f (424 + 242 * mk) N i)) = _
    unfold bX8_rollBack_40
    rw [if_pos (by rw [show (242 : Int32) = iN 242 from rfl, iN_le (by omega) (by omega) (by omega) (by omega)]; omega), rd_423, bk242_ne (by omega), hf]
    rfl
theorem SR.rbk {mk : Nat} {now : Int} {n : Nat} {g : Nat → Int} {m : Nat} {q mw mz : Nat → Int} {mg : Nat → Nat → Int} {f : Nat → Int} (h : SR (mk + 1) now n g m q mw mz mg f) {z : Nat} (hz : mz mk = z) {g' : Nat → Int} (hg : EqOn z (mg mk) g') {N : Nat} (hN : N = 242) : SR mk (mw mk) z g' m q mw mz mg (bk242 (updI f 423 mk) (424 + 242 * mk) N) := by
  obtain ⟨hS, hQ, h1, h2, h3⟩ := h
  obtain ⟨z', hz', hs⟩ := h3 mk (by omega)
  have ez : z' = z := by omega
  subst ez
  refine ⟨(hs.gcongr hg).congr (fun i hi => ?_), hQ.congr (fun i h0 hi => ?_), by omega, ?_, fun j hj => ?_⟩
  · rw [bk242_in (by omega), updI_ne (by omega)]
  · rw [bk242_ne (by omega), updI_ne (by omega)]
  · rw [bk242_ne (by omega), updI_eq]
  · obtain ⟨z, hz, h⟩ := h3 j (by omega)
    refine ⟨z, hz, h.congr (fun i hi => ?_)⟩
    rw [bk242_ne (by omega), updI_ne (by omega)]
theorem s5_rollBack {mk : Nat} (hk : mk < 5) {a b : Int32} {v : Nat → Int32} {mw mz : Nat → Int} {mg : Nat → Nat → Int} {z : Nat} (hz : mz mk = z) (hz4 : z ≤ 40) : ∃ g' : Nat → Int, fX5_tryRollBack (iN ((mk + 1 : Nat) : Int)) a b v (fun j => iN (mw j)) (fun j => iN (mz j)) (fun j i => iN (mg j i)) = some (iN (mk : Int), iN (mk : Int), iN (mw mk), iN (z : Int), fun i => iN (g' i)) ∧ EqOn z (mg mk) g' := by
  unfold fX5_tryRollBack
  rw [if_neg (by rw [show (0 : Int32) = iN 0 from rfl, iN_le (by omega) (by omega) (by omega) (by omega)]; omega), if_pos (by rw [show (5 : Int32) = iN 5 from rfl, iN_le (by omega) (by omega) (by omega) (by omega)]; omega), nm_v, show (1 : Int32) = iN 1 from rfl, iN_sub, show ((mk + 1 : Nat) : Int) - 1 = mk by omega, rf_iN (by omega) (by omega) (by omega), show ((mk : Int)).toNat = mk from rfl]
  dsimp only
  obtain ⟨g', e, h⟩ := s6_copy hz4 a b v (mw mk) (mg mk)
  rw [hz, e, qb, q3]
  exact ⟨g', rfl, h⟩
theorem s5_rollBack_f {a b : Int32} {v w z : Nat → Int32} {y : Nat → Nat → Int32} : fX5_tryRollBack (iN ((0 : Nat) : Int)) a b v w z y = some (-3, iN ((0 : Nat) : Int), a, b, v) := by
  unfold fX5_tryRollBack
  rw [if_pos (by decide)]
/-! undo's copy -/
theorem m8_undoLoop (s sv : Nat → Int32) {c N : Nat} (hN : N = 1634) (hc : c ≤ 3) (z : Int32) : ∃ s', lp (fun q => bX8_undo_30 sv (iN (c : Int)) z q.1 q.2) fuel ((0 : Int32), s) = some (iN (c : Int), iN (c : Int), z, s') ∧ ∀ j, j < 1634 → s' j = sv (1634 * c + j) := by
  have key := lp_iv (body := fun q : Int32 × (Nat → Int32) => bX8_undo_30 sv (iN (c : Int)) z q.1 q.2) (s0 := ((0 : Int32), s)) (fun k q => ∃ v : Nat → Int32, q = (iN (k : Int), v) ∧ ∀ j, j < k → v j = sv (1634 * c + j)) (fun r => ∃ v : Nat → Int32, r = (iN (c : Int), iN (c : Int), z, v) ∧ ∀ j, j < N → v j = sv (1634 * c + j)) N ⟨s, rfl, fun j hj => absurd hj (Nat.not_lt_zero j)⟩ ?_ ?_ (fuel_ge (by omega))
  · obtain ⟨r, e, v, rfl, h1⟩ := key
    exact ⟨v, e, fun j hj => h1 j (by omega)⟩
  · rintro k q hk ⟨v, rfl, h1⟩
    show ∃ s', bX8_undo_30 _ _ _ (iN (k : Int)) v = some (.inl s') ∧ _
    unfold bX8_undo_30
    rw [if_neg (by rw [show (1634 : Int32) = iN 1634 from rfl, iN_le (by omega) (by omega) (by omega) (by omega)]; omega), show (1634 : Int32) = iN 1634 from rfl, iN_mul, iN_add, rd_iN (by omega) (by omega) (by omega), wr_iN (by omega) (by omega) (by omega)]
    simp only [nm, iN_succ]
    rw [show ((1634 : Int) * (c : Int) + (k : Int)).toNat = 1634 * c + k by omega, show ((k : Int)).toNat = k from rfl]
    refine ⟨_, rfl, _, rfl, fun j hj => ?_⟩
    by_cases e : j = k
    · subst e; exact updW_eq
    · rw [updW_ne (by omega)]; exact h1 j (by omega)
  · rintro q ⟨v, rfl, h1⟩
    show ∃ r, bX8_undo_30 _ _ _ (iN (N : Int)) v = some (.inr r) ∧ _
    unfold bX8_undo_30
    rw [if_pos (by rw [show (1634 : Int32) = iN 1634 from rfl, iN_le (by omega) (by omega) (by omega) (by omega)]; omega)]
    exact ⟨_, rfl, v, rfl, h1⟩
