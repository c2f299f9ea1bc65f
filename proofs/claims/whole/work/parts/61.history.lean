/-! ===== saved states ===== -/
/-- how many states are saved, and where the oldest stands, after one more -/
def sv1 (c : Nat) : Nat := if c < 4 then c + 1 else 4
def ol1 (c o : Nat) : Nat := if c < 4 then o else (o + 1) % 5
theorem s2_free {c o : Nat} (hc : c ≤ 4) (ho : o < 5) : fX2_freeSlot (iN (c : Int)) (iN (o : Int)) = some ((o + c) % 5) := by
  have h : ∀ c : Fin 5, ∀ o : Fin 5, fX2_freeSlot (Int32.ofInt ((c.val : Nat) : Int)) (Int32.ofInt ((o.val : Nat) : Int)) = some ((o.val + c.val) % 5) := by decide +kernel
  exact h ⟨c, by omega⟩ ⟨o, ho⟩
theorem s2_confirm {c o : Nat} (hc : c ≤ 4) (ho : o < 5) : fX2_confirm (iN (c : Int)) (iN (o : Int)) = some (iN (sv1 c : Nat), iN (ol1 c o : Nat)) := by
  have h : ∀ c : Fin 5, ∀ o : Fin 5, fX2_confirm (Int32.ofInt ((c.val : Nat) : Int)) (Int32.ofInt ((o.val : Nat) : Int)) = some (Int32.ofInt ((sv1 c.val : Nat) : Int), Int32.ofInt ((ol1 c.val o.val : Nat) : Int)) := by decide +kernel
  exact h ⟨c, by omega⟩ ⟨o, ho⟩
theorem s7_conf_v {c o : Nat} (hc : c ≤ 4) (ho : o < 5) {v : Int} (h0 : 0 ≤ v) (h1 : v < 2147483648) : fX7_confirmed (iN (c : Int)) (iN (o : Int)) (iN v) = some (Sum.inl (iN v), iN (sv1 c : Nat), iN (ol1 c o : Nat)) := by
  unfold fX7_confirmed
  rw [if_neg (by rw [show (-1 : Int32) = iN (-1) from rfl, iN_eq (by omega) (by omega) (by omega) (by omega)]; omega), if_neg (by rw [show (-2 : Int32) = iN (-2) from rfl, iN_eq (by omega) (by omega) (by omega) (by omega)]; omega), if_pos (by rw [show (0 : Int32) = iN 0 from rfl, iN_le (by omega) (by omega) (by omega) (by omega)]; omega), s2_confirm hc ho, qb, q2]
theorem s7_conf_1 (a b : Int32) : fX7_confirmed a b (-1 : Int32) = some (Sum.inr 3, a, b) := by
  unfold fX7_confirmed
  rw [if_pos rfl]
theorem s7_conf_2 (a b : Int32) : fX7_confirmed a b (-2 : Int32) = some (Sum.inr 1, a, b) := by
  unfold fX7_confirmed
  rw [if_neg (by decide), if_pos rfl]
theorem s7_conf_3 (a b : Int32) : fX7_confirmed a b (-3 : Int32) = some (Sum.inr 2, a, b) := by
  unfold fX7_confirmed
  rw [if_neg (by decide), if_neg (by decide), if_neg (by decide)]
def HR (S : Nat → CS) (sv : Nat → Int32) (c o : Nat) : Prop := c ≤ 4 ∧ o < 5 ∧ ∀ a : Nat, a < c → RS (S ((o + a) % 5)) (fun j => sv (1634 * a + j))
theorem HR.skip {S : Nat → CS} {sv : Nat → Int32} {c o : Nat} (h : HR S sv c o) (D : CS) : HR (va_up S ((o + c) % 5) D) sv c o := by
  obtain ⟨h1, h2, h3⟩ := h
  refine ⟨h1, h2, fun a ha => ?_⟩
  rw [va_up_ne _ _ (by omega)]
  exact h3 a ha
/-- one more row behind, the first one gone where there were four -/
def Kept (sv sv' s : Nat → Int32) (c : Nat) : Prop := (∀ a j : Nat, a + 1 < sv1 c → j < 1634 → sv' (1634 * a + j) = sv (1634 * (a + (c + 1 - sv1 c)) + j)) ∧ ∀ j : Nat, j < 1634 → sv' (1634 * (sv1 c - 1) + j) = s j
theorem HR.push {S : Nat → CS} {sv sv' s : Nat → Int32} {c o : Nat} (h : HR S sv c o) {D : CS} (hD : RS D s) (hk : Kept sv sv' s c) : HR (va_up S ((o + c) % 5) D) sv' (sv1 c) (ol1 c o) := by
  obtain ⟨h1, h2, h3⟩ := h
  obtain ⟨k1, k2⟩ := hk
  by_cases c4 : c < 4
  · have e1 : sv1 c = c + 1 := if_pos c4
    have e2 : ol1 c o = o := if_pos c4
    rw [e1] at k1 k2
    rw [e1, e2]
    refine ⟨by omega, h2, fun a ha => ?_⟩
    by_cases ca : a = c
    · subst ca
      rw [va_up_self]
      exact hD.congr (fun i hi => (k2 i hi).symm)
    · rw [va_up_ne _ _ (by omega)]
      refine (h3 a (by omega)).congr (fun i hi => ?_)
      rw [k1 a i (by omega) hi]
      exact congrArg sv (by omega)
  · have e1 : sv1 c = 4 := if_neg c4
    have e2 : ol1 c o = (o + 1) % 5 := if_neg c4
    rw [e1] at k1 k2
    rw [e1, e2]
    refine ⟨by omega, by omega, fun a ha => ?_⟩
    by_cases ca : a = 3
    · subst ca
      have e3 : ((o + 1) % 5 + 3) % 5 = (o + c) % 5 := by omega
      rw [e3, va_up_self]
      exact hD.congr (fun i hi => (k2 i hi).symm)
    · rw [va_up_ne _ _ (by omega)]
      have e3 : ((o + 1) % 5 + a) % 5 = (o + (a + 1)) % 5 := by omega
      rw [e3]
      refine (h3 (a + 1) (by omega)).congr (fun i hi => ?_)
      rw [k1 a i (by omega) hi]
      exact congrArg sv (by omega)
theorem s2_keep {C : CS} {s : Nat → Int32} (hR : RS C s) {c o : Nat} (hc : c ≤ 4) (ho : o < 5) (Q : CS) : ∃ D : CS, fX2_keep ((o + c) % 5) (iN (c : Int)) (iN (o : Int)) C.1 C.2.1 C.2.2.1 C.2.2.2.1 C.2.2.2.2.1 C.2.2.2.2.2.1 C.2.2.2.2.2.2.1 C.2.2.2.2.2.2.2.1 C.2.2.2.2.2.2.2.2 Q.1 Q.2.1 Q.2.2.1 Q.2.2.2.1 Q.2.2.2.2.1 Q.2.2.2.2.2.1 Q.2.2.2.2.2.2.1 Q.2.2.2.2.2.2.2.1 Q.2.2.2.2.2.2.2.2 = some (D.1, D.2.1, D.2.2.1, D.2.2.2.1, D.2.2.2.2.1, D.2.2.2.2.2.1, D.2.2.2.2.2.2.1, D.2.2.2.2.2.2.2.1, D.2.2.2.2.2.2.2.2) ∧ RS D s := by
  obtain ⟨mk, now, n, g, m, q, mw, mz, mg, f, rfl, rfl, hS⟩ := hR
  obtain ⟨g', q', mw', mz', mg', e, h⟩ := s5_copy hS Q.1 Q.2.1 Q.2.2.1 Q.2.2.2.1 Q.2.2.2.2.1 Q.2.2.2.2.2.1 Q.2.2.2.2.2.2.1 Q.2.2.2.2.2.2.2.1 Q.2.2.2.2.2.2.2.2
  unfold fX2_keep
  rw [s2_free hc ho, gk_some, e, qb, q9]
  exact ⟨csI mk now n g' m q' mw' mz' mg', rfl, mk, now, n, g', m, q', mw', mz', mg', f, rfl, rfl, h⟩
theorem s2_back {D : CS} {s : Nat → Int32} (hR : RS D s) {c o : Nat} (hc : c ≤ 4) (ho : o < 5) (C : CS) : ∃ E : CS, fX2_bringBack ((o + c) % 5) (iN (c : Int)) (iN (o : Int)) C.1 C.2.1 C.2.2.1 C.2.2.2.1 C.2.2.2.2.1 C.2.2.2.2.2.1 C.2.2.2.2.2.2.1 C.2.2.2.2.2.2.2.1 C.2.2.2.2.2.2.2.2 D.1 D.2.1 D.2.2.1 D.2.2.2.1 D.2.2.2.2.1 D.2.2.2.2.2.1 D.2.2.2.2.2.2.1 D.2.2.2.2.2.2.2.1 D.2.2.2.2.2.2.2.2 = some (E.1, E.2.1, E.2.2.1, E.2.2.2.1, E.2.2.2.2.1, E.2.2.2.2.2.1, E.2.2.2.2.2.2.1, E.2.2.2.2.2.2.2.1, E.2.2.2.2.2.2.2.2) ∧ RS E s := by
  obtain ⟨mk, now, n, g, m, q, mw, mz, mg, f, rfl, rfl, hS⟩ := hR
  obtain ⟨g', q', mw', mz', mg', e, h⟩ := s5_copy hS C.1 C.2.1 C.2.2.1 C.2.2.2.1 C.2.2.2.2.1 C.2.2.2.2.2.1 C.2.2.2.2.2.2.1 C.2.2.2.2.2.2.2.1 C.2.2.2.2.2.2.2.2
  unfold fX2_bringBack
  rw [s2_free hc ho, gk_some, e, qb, q9]
  exact ⟨csI mk now n g' m q' mw' mz' mg', rfl, mk, now, n, g', m, q', mw', mz', mg', f, rfl, rfl, h⟩
/-! the reference's rows of saved cells -/
theorem updW_ne {f : Nat → Int32} {k j : Nat} {x : Int32} (h : ¬ j = k) : upd f k x j = f j := by unfold upd; rw [if_neg h]
theorem updW_eq {f : Nat → Int32} {k : Nat} {x : Int32} : upd f k x k = x := by unfold upd; rw [if_pos rfl]
/-- the row behind c rows is filled with s -/
theorem m8_fill (s sv : Nat → Int32) {c : Nat} (hc : c ≤ 3) : ∃ sv', lp (fun q => bX8_keep_51 s (iN (c : Int)) q.1 q.2) fuel ((0 : Int32), sv) = some (iN ((c + 1 : Nat) : Int), sv') ∧ (∀ j, j < 1634 * c → sv' j = sv j) ∧ ∀ j, j < 1634 → sv' (1634 * c + j) = s j := by
  obtain ⟨N, hN⟩ : ∃ N : Nat, N = 1634 := ⟨_, rfl⟩
  have key := lp_iv (body := fun q : Int32 × (Nat → Int32) => bX8_keep_51 s (iN (c : Int)) q.1 q.2) (s0 := ((0 : Int32), sv)) (fun k q => ∃ v : Nat → Int32, q = (iN (k : Int), v) ∧ (∀ j, j < 1634 * c → v j = sv j) ∧ ∀ j, j < k → v (1634 * c + j) = s j) (fun r => ∃ v : Nat → Int32, r = (iN ((c + 1 : Nat) : Int), v) ∧ (∀ j, j < 1634 * c → v j = sv j) ∧ ∀ j, j < N → v (1634 * c + j) = s j) N ⟨sv, rfl, fun _ _ => rfl, fun j hj => absurd hj (Nat.not_lt_zero j)⟩ ?_ ?_ (fuel_ge (by omega))
  · obtain ⟨r, e, v, rfl, h1, h2⟩ := key
    exact ⟨v, e, h1, fun j hj => h2 j (by omega)⟩
  · rintro k q hk ⟨v, rfl, h1, h2⟩
    show ∃ s', bX8_keep_51 _ _ (iN (k : Int)) v = some (.inl s') ∧ _
    unfold bX8_keep_51
    rw [if_neg (by rw [show (1634 : Int32) = iN 1634 from rfl, iN_le (by omega) (by omega) (by omega) (by omega)]; omega), rd_iN (by omega) (by omega) (by omega), show (1634 : Int32) = iN 1634 from rfl, iN_mul, iN_add, wr_iN (by omega) (by omega) (by omega)]
    simp only [nm, iN_succ]
    rw [show ((1634 : Int) * (c : Int) + (k : Int)).toNat = 1634 * c + k by omega, show ((k : Int)).toNat = k from rfl]
    refine ⟨_, rfl, _, rfl, fun j hj => ?_, fun j hj => ?_⟩
    · rw [updW_ne (by omega)]; exact h1 j hj
    · by_cases e : j = k
      · subst e; exact updW_eq
      · rw [updW_ne (by omega)]; exact h2 j (by omega)
  · rintro q ⟨v, rfl, h1, h2⟩
    show ∃ r, bX8_keep_51 _ _ (iN (N : Int)) v = some (.inr r) ∧ _
    unfold bX8_keep_51
    rw [if_pos (by rw [show (1634 : Int32) = iN 1634 from rfl, iN_le (by omega) (by omega) (by omega) (by omega)]; omega)]
    simp only [nm, iN_succ]
    exact ⟨_, rfl, v, rfl, h1, h2⟩
theorem m8_keep (s sv : Nat → Int32) {c : Nat} (hc : c ≤ 4) : ∃ sv', fX8_keep (iN (c : Int)) s sv = some (iN (sv1 c : Nat), sv') ∧ Kept sv sv' s c := by
  unfold fX8_keep Kept
  by_cases c4 : c < 4
  · have e1 : sv1 c = c + 1 := if_pos c4
    rw [e1, if_neg (by rw [show (4 : Int32) = iN 4 from rfl, iN_eq (by omega) (by omega) (by omega) (by omega)]; omega)]
    obtain ⟨sv', e, h1, h2⟩ := m8_fill s sv (show c ≤ 3 by omega)
    refine ⟨sv', e, fun a j ha hj => ?_, fun j hj => h2 j hj⟩
    rw [h1 _ (by omega)]
    exact congrArg sv (by omega)
  · have e1 : sv1 c = 4 := if_neg c4
    have ec : c = 4 := by omega
    subst ec
    rw [e1, if_pos (show iN ((4 : Nat) : Int) = (4 : Int32) from rfl)]
    obtain ⟨N, hN⟩ : ∃ N : Nat, N = 4902 := ⟨_, rfl⟩
    have key := lp_iv (body := fun q : Int32 × (Nat → Int32) => bX8_keep_10 s (iN ((4 : Nat) : Int)) q.1 q.2) (s0 := ((0 : Int32), sv)) (fun k q => ∃ v : Nat → Int32, q = (iN (k : Int), v) ∧ (∀ j, j < k → v j = sv (j + 1634)) ∧ ∀ j, k ≤ j → v j = sv j) (fun r => ∃ v : Nat → Int32, r = (iN ((4 : Nat) : Int), v) ∧ (∀ j, j < 4902 → v j = sv (j + 1634)) ∧ ∀ j, j < 1634 → v (1634 * 3 + j) = s j) N ⟨sv, rfl, fun j hj => absurd hj (Nat.not_lt_zero j), fun _ _ => rfl⟩ ?_ ?_ (fuel_ge (by omega))
    · obtain ⟨r, e, v, rfl, h1, h2⟩ := key
      refine ⟨v, e, fun a j ha hj => ?_, fun j hj => h2 j hj⟩
      rw [h1 _ (by omega)]
      exact congrArg sv (by omega)
    · rintro k q hk ⟨v, rfl, h1, h2⟩
      show ∃ s', bX8_keep_10 _ _ (iN (k : Int)) v = some (.inl s') ∧ _
      unfold bX8_keep_10
      rw [if_neg (by rw [show (4902 : Int32) = iN 4902 from rfl, iN_le (by omega) (by omega) (by omega) (by omega)]; omega), show (1634 : Int32) = iN 1634 from rfl, iN_add, rd_iN (by omega) (by omega) (by omega), wr_iN (by omega) (by omega) (by omega)]
      simp only [nm, iN_succ]
      rw [show ((k : Int) + (1634 : Int)).toNat = k + 1634 by omega, show ((k : Int)).toNat = k from rfl]
      refine ⟨_, rfl, _, rfl, fun j hj => ?_, fun j hj => ?_⟩
      · by_cases e : j = k
        · subst e; rw [updW_eq]; exact h2 _ (by omega)
        · rw [updW_ne (by omega)]; exact h1 j (by omega)
      · rw [updW_ne (by omega)]; exact h2 j (by omega)
    · rintro q ⟨v, rfl, h1, h2⟩
      show ∃ r, bX8_keep_10 _ _ (iN (N : Int)) v = some (.inr r) ∧ _
      unfold bX8_keep_10
      rw [if_pos (by rw [show (4902 : Int32) = iN 4902 from rfl, iN_le (by omega) (by omega) (by omega) (by omega)]; omega)]
      rw [nm_v]
      rw [show (iN ((4 : Nat) : Int) - (1 : Int32)) = iN ((3 : Nat) : Int) from rfl]
      obtain ⟨sv', e, k1, k2⟩ := m8_fill s v (show 3 ≤ 3 by omega)
      rw [e]
      refine ⟨_, rfl, sv', rfl, fun j hj => ?_, fun j hj => k2 j hj⟩
      rw [k1 j (by omega)]
      exact h1 j (by omega)
