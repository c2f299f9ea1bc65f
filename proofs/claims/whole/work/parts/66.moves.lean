/-! ===== the changing methods: class and reference keep their states alike ===== -/
abbrev cH (S : Nat → CS) (sv : Nat → Int32) (c o : Nat) (D : CS) (sv' : Nat → Int32) (c' o' : Nat) : Prop := HR (va_up S ((o + c) % 5) D) sv' c' o'
theorem r_add {C : CS} {s sv : Nat → Int32} {S : Nat → CS} {c o : Nat} (hR : RS C s) (hH : HR S sv c o) (c0 : Int32) (x1 x2 x3 x4 : Int32) : ∃ (r : Int32 ⊕ Nat) (u2 : Int32) (u3 : (Nat → Int32)) (c' o' : Nat) (D : CS) (b code : Int32) (s' sv' : Nat → Int32), fX7_add ((o + c) % 5) C.1 C.2.1 C.2.2.1 C.2.2.2.1 C.2.2.2.2.1 C.2.2.2.2.2.1 C.2.2.2.2.2.2.1 C.2.2.2.2.2.2.2.1 C.2.2.2.2.2.2.2.2 (iN (c : Int)) (iN (o : Int)) ((S ((o + c) % 5)).1) ((S ((o + c) % 5)).2.1) ((S ((o + c) % 5)).2.2.1) ((S ((o + c) % 5)).2.2.2.1) ((S ((o + c) % 5)).2.2.2.2.1) ((S ((o + c) % 5)).2.2.2.2.2.1) ((S ((o + c) % 5)).2.2.2.2.2.2.1) ((S ((o + c) % 5)).2.2.2.2.2.2.2.1) ((S ((o + c) % 5)).2.2.2.2.2.2.2.2) x1 x2 x3 x4 = some (r, u2, u3, iN (c' : Int), iN (o' : Int), D.1, D.2.1, D.2.2.1, D.2.2.2.1, D.2.2.2.2.1, D.2.2.2.2.2.1, D.2.2.2.2.2.2.1, D.2.2.2.2.2.2.2.1, D.2.2.2.2.2.2.2.2) ∧ fX8_add (iN (c : Int)) c0 s sv x1 x2 x3 x4 = some (b, iN (c' : Int), code, s', sv') ∧ agrI (fun e => if e = 1 then 1 else if e = 2 then 2 else 0) r b code ∧ RS (C.1, C.2.1, u2, u3, C.2.2.2.2.1, C.2.2.2.2.2.1, C.2.2.2.2.2.2.1, C.2.2.2.2.2.2.2.1, C.2.2.2.2.2.2.2.2) s' ∧ HR (va_up S ((o + c) % 5) D) sv' c' o' := by
  obtain ⟨mk, now, n, g, m, q, mw, mz, mg, f, rfl, rfl, hS⟩ := hR
  have hc := hH.1
  have ho := hH.2.1
  have hR' : RS (csI mk now n g m q mw mz mg) (fun i => iN (f i)) := ⟨mk, now, n, g, m, q, mw, mz, mg, f, rfl, rfl, hS⟩
  obtain ⟨D, eD, hD⟩ := s2_keep hR' hc ho (S ((o + c) % 5))
  obtain ⟨sv', eK, hK⟩ := m8_keep (fun i => iN (f i)) sv hc
  dsimp only [csI] at eD ⊢
  unfold fX7_add fX8_add
  rw [eD, qb, q9]
  rcases p_add hS x1 x2 x3 x4 with ⟨v, n', g', f', k1, k2, k3, k4, k5⟩ | ⟨e, cc, k1, k2, k3⟩
  · rw [k1, qb, q3, s7_conf_v hc ho k2.1 k2.2, qb, q3, qt, k3, qb, if_pos rfl, eK, qb, q2, rd_1, hS.1.2.1, k4, qb, q2]
    exact ⟨Sum.inl (iN v), _, _, sv1 c, ol1 c o, D, _, _, _, _, rfl, rfl, ⟨rfl, rfl⟩, ⟨mk, now, n', g', m, q, mw, mz, mg, f', rfl, rfl, k5⟩, hH.push hD hK⟩
  · rw [k1, qb, q3]
    rcases k3 with ⟨rfl, rfl⟩ | ⟨rfl, rfl⟩
    · rw [s7_conf_2, qb, q3, qe, k2, qb, if_neg (by decide)]
      exact ⟨Sum.inr 1, _, _, c, o, D, _, _, _, _, rfl, rfl, ⟨rfl, by decide, by decide⟩, hR', hH.skip D⟩
    · rw [s7_conf_3, qb, q3, qe, k2, qb, if_neg (by decide)]
      exact ⟨Sum.inr 2, _, _, c, o, D, _, _, _, _, rfl, rfl, ⟨rfl, by decide, by decide⟩, hR', hH.skip D⟩
theorem r_addThrough {C : CS} {s sv : Nat → Int32} {S : Nat → CS} {c o : Nat} (hR : RS C s) (hH : HR S sv c o) (c0 : Int32) (x1 x2 x3 x4 x5 x6 : Int32) : ∃ (r : Int32 ⊕ Nat) (u2 : Int32) (u3 : (Nat → Int32)) (c' o' : Nat) (D : CS) (b code : Int32) (s' sv' : Nat → Int32), fX7_addThrough ((o + c) % 5) C.1 C.2.1 C.2.2.1 C.2.2.2.1 C.2.2.2.2.1 C.2.2.2.2.2.1 C.2.2.2.2.2.2.1 C.2.2.2.2.2.2.2.1 C.2.2.2.2.2.2.2.2 (iN (c : Int)) (iN (o : Int)) ((S ((o + c) % 5)).1) ((S ((o + c) % 5)).2.1) ((S ((o + c) % 5)).2.2.1) ((S ((o + c) % 5)).2.2.2.1) ((S ((o + c) % 5)).2.2.2.2.1) ((S ((o + c) % 5)).2.2.2.2.2.1) ((S ((o + c) % 5)).2.2.2.2.2.2.1) ((S ((o + c) % 5)).2.2.2.2.2.2.2.1) ((S ((o + c) % 5)).2.2.2.2.2.2.2.2) x1 x2 x3 x4 x5 x6 = some (r, u2, u3, iN (c' : Int), iN (o' : Int), D.1, D.2.1, D.2.2.1, D.2.2.2.1, D.2.2.2.2.1, D.2.2.2.2.2.1, D.2.2.2.2.2.2.1, D.2.2.2.2.2.2.2.1, D.2.2.2.2.2.2.2.2) ∧ fX8_addThrough (iN (c : Int)) c0 s sv x1 x2 x3 x4 x5 x6 = some (b, iN (c' : Int), code, s', sv') ∧ agrI (fun e => if e = 1 then 1 else if e = 2 then 2 else 0) r b code ∧ RS (C.1, C.2.1, u2, u3, C.2.2.2.2.1, C.2.2.2.2.2.1, C.2.2.2.2.2.2.1, C.2.2.2.2.2.2.2.1, C.2.2.2.2.2.2.2.2) s' ∧ HR (va_up S ((o + c) % 5) D) sv' c' o' := by
  obtain ⟨mk, now, n, g, m, q, mw, mz, mg, f, rfl, rfl, hS⟩ := hR
  have hc := hH.1
  have ho := hH.2.1
  have hR' : RS (csI mk now n g m q mw mz mg) (fun i => iN (f i)) := ⟨mk, now, n, g, m, q, mw, mz, mg, f, rfl, rfl, hS⟩
  obtain ⟨D, eD, hD⟩ := s2_keep hR' hc ho (S ((o + c) % 5))
  obtain ⟨sv', eK, hK⟩ := m8_keep (fun i => iN (f i)) sv hc
  dsimp only [csI] at eD ⊢
  unfold fX7_addThrough
  rw [eD, qb, q9]
  rcases p_thr hS x1 x2 x3 x4 x5 x6 with ⟨v, n', g', f', k1, k2, k3, k5⟩ | ⟨e, cc, k1, k2, k3⟩
  · rw [k1, qb, q3, s7_conf_v hc ho k2.1 k2.2, qb, q3, qt, k3 _ c0 _ _ _ eK]
    exact ⟨Sum.inl (iN v), _, _, sv1 c, ol1 c o, D, _, _, _, _, rfl, rfl, ⟨rfl, rfl⟩, ⟨mk, now, n', g', m, q, mw, mz, mg, f', rfl, rfl, k5⟩, hH.push hD hK⟩
  · rw [k1, qb, q3]
    rcases k3 with ⟨rfl, rfl⟩ | ⟨rfl, rfl⟩
    · rw [s7_conf_2, qb, q3, qe, k2]
      exact ⟨Sum.inr 1, _, _, c, o, D, _, _, _, _, rfl, rfl, ⟨rfl, by decide, by decide⟩, hR', hH.skip D⟩
    · rw [s7_conf_3, qb, q3, qe, k2]
      exact ⟨Sum.inr 2, _, _, c, o, D, _, _, _, _, rfl, rfl, ⟨rfl, by decide, by decide⟩, hR', hH.skip D⟩
theorem r_end {C : CS} {s sv : Nat → Int32} {S : Nat → CS} {c o : Nat} (hR : RS C s) (hH : HR S sv c o) (c0 : Int32) (x1 : Int32) : ∃ (r : Int32 ⊕ Nat) (u3 : (Nat → Int32)) (c' o' : Nat) (D : CS) (b code : Int32) (s' sv' : Nat → Int32), fX7_end ((o + c) % 5) C.1 C.2.1 C.2.2.1 C.2.2.2.1 C.2.2.2.2.1 C.2.2.2.2.2.1 C.2.2.2.2.2.2.1 C.2.2.2.2.2.2.2.1 C.2.2.2.2.2.2.2.2 (iN (c : Int)) (iN (o : Int)) ((S ((o + c) % 5)).1) ((S ((o + c) % 5)).2.1) ((S ((o + c) % 5)).2.2.1) ((S ((o + c) % 5)).2.2.2.1) ((S ((o + c) % 5)).2.2.2.2.1) ((S ((o + c) % 5)).2.2.2.2.2.1) ((S ((o + c) % 5)).2.2.2.2.2.2.1) ((S ((o + c) % 5)).2.2.2.2.2.2.2.1) ((S ((o + c) % 5)).2.2.2.2.2.2.2.2) x1 = some (r, u3, iN (c' : Int), iN (o' : Int), D.1, D.2.1, D.2.2.1, D.2.2.2.1, D.2.2.2.2.1, D.2.2.2.2.2.1, D.2.2.2.2.2.2.1, D.2.2.2.2.2.2.2.1, D.2.2.2.2.2.2.2.2) ∧ fX8_end (iN (c : Int)) c0 s sv x1 = some (b, iN (c' : Int), code, s', sv') ∧ agrI (fun e => if e = 3 then 1 else if e = 2 then 2 else 0) r b code ∧ RS (C.1, C.2.1, C.2.2.1, u3, C.2.2.2.2.1, C.2.2.2.2.2.1, C.2.2.2.2.2.2.1, C.2.2.2.2.2.2.2.1, C.2.2.2.2.2.2.2.2) s' ∧ HR (va_up S ((o + c) % 5) D) sv' c' o' := by
  obtain ⟨mk, now, n, g, m, q, mw, mz, mg, f, rfl, rfl, hS⟩ := hR
  have hc := hH.1
  have ho := hH.2.1
  have hR' : RS (csI mk now n g m q mw mz mg) (fun i => iN (f i)) := ⟨mk, now, n, g, m, q, mw, mz, mg, f, rfl, rfl, hS⟩
  obtain ⟨D, eD, hD⟩ := s2_keep hR' hc ho (S ((o + c) % 5))
  obtain ⟨sv', eK, hK⟩ := m8_keep (fun i => iN (f i)) sv hc
  dsimp only [csI] at eD ⊢
  unfold fX7_end fX8_end
  rw [eD, qb, q9]
  rcases p_end hS x1 with ⟨v, g', f', k1, k2, k3, k4, k5⟩ | ⟨e, cc, k1, k2, k3⟩
  · rw [k1, qb, q2, s7_conf_v hc ho k2.1 k2.2, qb, q3, qt, k3, qb, if_pos rfl, eK, qb, q2, k4, qb, q2]
    exact ⟨Sum.inl (iN v), _, sv1 c, ol1 c o, D, _, _, _, _, rfl, rfl, ⟨rfl, rfl⟩, ⟨mk, now, n, g', m, q, mw, mz, mg, f', rfl, rfl, k5⟩, hH.push hD hK⟩
  · rw [k1, qb, q2]
    rcases k3 with ⟨rfl, rfl⟩ | ⟨rfl, rfl⟩
    · rw [s7_conf_1, qb, q3, qe, k2, qb, if_neg (by decide)]
      exact ⟨Sum.inr 3, _, c, o, D, _, _, _, _, rfl, rfl, ⟨rfl, by decide, by decide⟩, hR', hH.skip D⟩
    · rw [s7_conf_3, qb, q3, qe, k2, qb, if_neg (by decide)]
      exact ⟨Sum.inr 2, _, c, o, D, _, _, _, _, rfl, rfl, ⟨rfl, by decide, by decide⟩, hR', hH.skip D⟩
theorem r_lift {C : CS} {s sv : Nat → Int32} {S : Nat → CS} {c o : Nat} (hR : RS C s) (hH : HR S sv c o) (c0 : Int32) (x1 x2 : Int32) : ∃ (r : Int32 ⊕ Nat) (u2 : Int32) (u3 : (Nat → Int32)) (c' o' : Nat) (D : CS) (b code : Int32) (s' sv' : Nat → Int32), fX7_lift ((o + c) % 5) C.1 C.2.1 C.2.2.1 C.2.2.2.1 C.2.2.2.2.1 C.2.2.2.2.2.1 C.2.2.2.2.2.2.1 C.2.2.2.2.2.2.2.1 C.2.2.2.2.2.2.2.2 (iN (c : Int)) (iN (o : Int)) ((S ((o + c) % 5)).1) ((S ((o + c) % 5)).2.1) ((S ((o + c) % 5)).2.2.1) ((S ((o + c) % 5)).2.2.2.1) ((S ((o + c) % 5)).2.2.2.2.1) ((S ((o + c) % 5)).2.2.2.2.2.1) ((S ((o + c) % 5)).2.2.2.2.2.2.1) ((S ((o + c) % 5)).2.2.2.2.2.2.2.1) ((S ((o + c) % 5)).2.2.2.2.2.2.2.2) x1 x2 = some (r, u2, u3, iN (c' : Int), iN (o' : Int), D.1, D.2.1, D.2.2.1, D.2.2.2.1, D.2.2.2.2.1, D.2.2.2.2.2.1, D.2.2.2.2.2.2.1, D.2.2.2.2.2.2.2.1, D.2.2.2.2.2.2.2.2) ∧ fX8_lift (iN (c : Int)) c0 s sv x1 x2 = some (b, iN (c' : Int), code, s', sv') ∧ agrI (fun e => if e = 3 then 1 else if e = 1 then 2 else if e = 2 then 3 else 0) r b code ∧ RS (C.1, C.2.1, u2, u3, C.2.2.2.2.1, C.2.2.2.2.2.1, C.2.2.2.2.2.2.1, C.2.2.2.2.2.2.2.1, C.2.2.2.2.2.2.2.2) s' ∧ HR (va_up S ((o + c) % 5) D) sv' c' o' := by
  obtain ⟨mk, now, n, g, m, q, mw, mz, mg, f, rfl, rfl, hS⟩ := hR
  have hc := hH.1
  have ho := hH.2.1
  have hR' : RS (csI mk now n g m q mw mz mg) (fun i => iN (f i)) := ⟨mk, now, n, g, m, q, mw, mz, mg, f, rfl, rfl, hS⟩
  obtain ⟨D, eD, hD⟩ := s2_keep hR' hc ho (S ((o + c) % 5))
  obtain ⟨sv', eK, hK⟩ := m8_keep (fun i => iN (f i)) sv hc
  dsimp only [csI] at eD ⊢
  unfold fX7_lift fX8_lift
  rw [eD, qb, q9]
  rcases p_lift hS x1 x2 with ⟨v, n', g', f', k1, k2, k3, k4, k5⟩ | ⟨e, cc, k1, k2, k3⟩
  · rw [k1, qb, q3, s7_conf_v hc ho k2.1 k2.2, qb, q3, qt, k3, qb, if_pos rfl, eK, qb, q2, k4, qb, q2]
    exact ⟨Sum.inl (iN v), _, _, sv1 c, ol1 c o, D, _, _, _, _, rfl, rfl, ⟨rfl, rfl⟩, ⟨mk, now, n', g', m, q, mw, mz, mg, f', rfl, rfl, k5⟩, hH.push hD hK⟩
  · rw [k1, qb, q3]
    rcases k3 with ⟨rfl, rfl⟩ | ⟨rfl, rfl⟩ | ⟨rfl, rfl⟩
    · rw [s7_conf_1, qb, q3, qe, k2, qb, if_neg (by decide)]
      exact ⟨Sum.inr 3, _, _, c, o, D, _, _, _, _, rfl, rfl, ⟨rfl, by decide, by decide⟩, hR', hH.skip D⟩
    · rw [s7_conf_2, qb, q3, qe, k2, qb, if_neg (by decide)]
      exact ⟨Sum.inr 1, _, _, c, o, D, _, _, _, _, rfl, rfl, ⟨rfl, by decide, by decide⟩, hR', hH.skip D⟩
    · rw [s7_conf_3, qb, q3, qe, k2, qb, if_neg (by decide)]
      exact ⟨Sum.inr 2, _, _, c, o, D, _, _, _, _, rfl, rfl, ⟨rfl, by decide, by decide⟩, hR', hH.skip D⟩
theorem r_pass {C : CS} {s sv : Nat → Int32} {S : Nat → CS} {c o : Nat} (hR : RS C s) (hH : HR S sv c o) (c0 : Int32) (x1 : Int32) : ∃ (r : Int32 ⊕ Nat) (u1 : Int32) (c' o' : Nat) (D : CS) (b code : Int32) (s' sv' : Nat → Int32), fX7_pass ((o + c) % 5) C.1 C.2.1 C.2.2.1 C.2.2.2.1 C.2.2.2.2.1 C.2.2.2.2.2.1 C.2.2.2.2.2.2.1 C.2.2.2.2.2.2.2.1 C.2.2.2.2.2.2.2.2 (iN (c : Int)) (iN (o : Int)) ((S ((o + c) % 5)).1) ((S ((o + c) % 5)).2.1) ((S ((o + c) % 5)).2.2.1) ((S ((o + c) % 5)).2.2.2.1) ((S ((o + c) % 5)).2.2.2.2.1) ((S ((o + c) % 5)).2.2.2.2.2.1) ((S ((o + c) % 5)).2.2.2.2.2.2.1) ((S ((o + c) % 5)).2.2.2.2.2.2.2.1) ((S ((o + c) % 5)).2.2.2.2.2.2.2.2) x1 = some (r, u1, iN (c' : Int), iN (o' : Int), D.1, D.2.1, D.2.2.1, D.2.2.2.1, D.2.2.2.2.1, D.2.2.2.2.2.1, D.2.2.2.2.2.2.1, D.2.2.2.2.2.2.2.1, D.2.2.2.2.2.2.2.2) ∧ fX8_pass (iN (c : Int)) c0 s sv x1 = some (b, iN (c' : Int), code, s', sv') ∧ agrI (fun e => if e = 1 then 1 else if e = 2 then 2 else 0) r b code ∧ RS (C.1, u1, C.2.2.1, C.2.2.2.1, C.2.2.2.2.1, C.2.2.2.2.2.1, C.2.2.2.2.2.2.1, C.2.2.2.2.2.2.2.1, C.2.2.2.2.2.2.2.2) s' ∧ HR (va_up S ((o + c) % 5) D) sv' c' o' := by
  obtain ⟨mk, now, n, g, m, q, mw, mz, mg, f, rfl, rfl, hS⟩ := hR
  have hc := hH.1
  have ho := hH.2.1
  have hR' : RS (csI mk now n g m q mw mz mg) (fun i => iN (f i)) := ⟨mk, now, n, g, m, q, mw, mz, mg, f, rfl, rfl, hS⟩
  obtain ⟨D, eD, hD⟩ := s2_keep hR' hc ho (S ((o + c) % 5))
  obtain ⟨sv', eK, hK⟩ := m8_keep (fun i => iN (f i)) sv hc
  dsimp only [csI] at eD ⊢
  unfold fX7_pass fX8_pass
  rw [eD, qb, q9]
  rcases p_pass hS x1 with ⟨v, f', k1, k2, k3, k4, k6, k5⟩ | ⟨e, cc, k1, k2, k3⟩
  · rw [k1, qb, q2, s7_conf_v hc ho k2.1 k2.2, qb, q3, qt, k3, qb, if_pos rfl, eK, qb, q2, k4, rd_1, k6]
    exact ⟨Sum.inl (iN v), _, sv1 c, ol1 c o, D, _, _, _, _, rfl, rfl, ⟨rfl, rfl⟩, ⟨mk, v, n, g, m, q, mw, mz, mg, f', rfl, rfl, k5⟩, hH.push hD hK⟩
  · rw [k1, qb, q2]
    rcases k3 with ⟨rfl, rfl⟩ | ⟨rfl, rfl⟩
    · rw [s7_conf_2, qb, q3, qe, k2, qb, if_neg (by decide)]
      exact ⟨Sum.inr 1, _, c, o, D, _, _, _, _, rfl, rfl, ⟨rfl, by decide, by decide⟩, hR', hH.skip D⟩
    · rw [s7_conf_3, qb, q3, qe, k2, qb, if_neg (by decide)]
      exact ⟨Sum.inr 2, _, c, o, D, _, _, _, _, rfl, rfl, ⟨rfl, by decide, by decide⟩, hR', hH.skip D⟩
theorem r_collect {C : CS} {s sv : Nat → Int32} {S : Nat → CS} {c o : Nat} (hR : RS C s) (hH : HR S sv c o) (c0 : Int32) (x1 x2 : Int32) : ∃ (r : Int32 ⊕ Nat) (u4 : Int32) (u5 : (Nat → Int32)) (c' o' : Nat) (D : CS) (b code : Int32) (s' sv' : Nat → Int32), fX7_collect ((o + c) % 5) C.1 C.2.1 C.2.2.1 C.2.2.2.1 C.2.2.2.2.1 C.2.2.2.2.2.1 C.2.2.2.2.2.2.1 C.2.2.2.2.2.2.2.1 C.2.2.2.2.2.2.2.2 (iN (c : Int)) (iN (o : Int)) ((S ((o + c) % 5)).1) ((S ((o + c) % 5)).2.1) ((S ((o + c) % 5)).2.2.1) ((S ((o + c) % 5)).2.2.2.1) ((S ((o + c) % 5)).2.2.2.2.1) ((S ((o + c) % 5)).2.2.2.2.2.1) ((S ((o + c) % 5)).2.2.2.2.2.2.1) ((S ((o + c) % 5)).2.2.2.2.2.2.2.1) ((S ((o + c) % 5)).2.2.2.2.2.2.2.2) x1 x2 = some (r, u4, u5, iN (c' : Int), iN (o' : Int), D.1, D.2.1, D.2.2.1, D.2.2.2.1, D.2.2.2.2.1, D.2.2.2.2.2.1, D.2.2.2.2.2.2.1, D.2.2.2.2.2.2.2.1, D.2.2.2.2.2.2.2.2) ∧ fX8_collect (iN (c : Int)) c0 s sv x1 x2 = some (b, iN (c' : Int), code, s', sv') ∧ agrI (fun e => if e = 1 then 1 else if e = 2 then 2 else 0) r b code ∧ RS (C.1, C.2.1, C.2.2.1, C.2.2.2.1, u4, u5, C.2.2.2.2.2.2.1, C.2.2.2.2.2.2.2.1, C.2.2.2.2.2.2.2.2) s' ∧ HR (va_up S ((o + c) % 5) D) sv' c' o' := by
  obtain ⟨mk, now, n, g, m, q, mw, mz, mg, f, rfl, rfl, hS⟩ := hR
  have hc := hH.1
  have ho := hH.2.1
  have hR' : RS (csI mk now n g m q mw mz mg) (fun i => iN (f i)) := ⟨mk, now, n, g, m, q, mw, mz, mg, f, rfl, rfl, hS⟩
  obtain ⟨D, eD, hD⟩ := s2_keep hR' hc ho (S ((o + c) % 5))
  obtain ⟨sv', eK, hK⟩ := m8_keep (fun i => iN (f i)) sv hc
  dsimp only [csI] at eD ⊢
  unfold fX7_collect fX8_collect
  rw [eD, qb, q9]
  rcases p_collect hS x1 x2 with ⟨v, m', q', f', k1, k2, k3, k4, k5⟩ | ⟨e, cc, k1, k2, k3⟩
  · rw [k1, qb, q3, s7_conf_v hc ho k2.1 k2.2, qb, q3, qt, k3, qb, if_pos rfl, eK, qb, q2, k4, qb, q2]
    exact ⟨Sum.inl (iN v), _, _, sv1 c, ol1 c o, D, _, _, _, _, rfl, rfl, ⟨rfl, rfl⟩, ⟨mk, now, n, g, m', q', mw, mz, mg, f', rfl, rfl, k5⟩, hH.push hD hK⟩
  · rw [k1, qb, q3]
    rcases k3 with ⟨rfl, rfl⟩ | ⟨rfl, rfl⟩
    · rw [s7_conf_2, qb, q3, qe, k2, qb, if_neg (by decide)]
      exact ⟨Sum.inr 1, _, _, c, o, D, _, _, _, _, rfl, rfl, ⟨rfl, by decide, by decide⟩, hR', hH.skip D⟩
    · rw [s7_conf_3, qb, q3, qe, k2, qb, if_neg (by decide)]
      exact ⟨Sum.inr 2, _, _, c, o, D, _, _, _, _, rfl, rfl, ⟨rfl, by decide, by decide⟩, hR', hH.skip D⟩
theorem r_solve {C : CS} {s sv : Nat → Int32} {S : Nat → CS} {c o : Nat} (hR : RS C s) (hH : HR S sv c o) (c0 : Int32) : ∃ (r : Int32 ⊕ Nat) (u5 : (Nat → Int32)) (c' o' : Nat) (D : CS) (b code : Int32) (s' sv' : Nat → Int32), fX7_solve ((o + c) % 5) C.1 C.2.1 C.2.2.1 C.2.2.2.1 C.2.2.2.2.1 C.2.2.2.2.2.1 C.2.2.2.2.2.2.1 C.2.2.2.2.2.2.2.1 C.2.2.2.2.2.2.2.2 (iN (c : Int)) (iN (o : Int)) ((S ((o + c) % 5)).1) ((S ((o + c) % 5)).2.1) ((S ((o + c) % 5)).2.2.1) ((S ((o + c) % 5)).2.2.2.1) ((S ((o + c) % 5)).2.2.2.2.1) ((S ((o + c) % 5)).2.2.2.2.2.1) ((S ((o + c) % 5)).2.2.2.2.2.2.1) ((S ((o + c) % 5)).2.2.2.2.2.2.2.1) ((S ((o + c) % 5)).2.2.2.2.2.2.2.2) = some (r, u5, iN (c' : Int), iN (o' : Int), D.1, D.2.1, D.2.2.1, D.2.2.2.1, D.2.2.2.2.1, D.2.2.2.2.2.1, D.2.2.2.2.2.2.1, D.2.2.2.2.2.2.2.1, D.2.2.2.2.2.2.2.2) ∧ fX8_solve (iN (c : Int)) c0 s sv = some (b, iN (c' : Int), code, s', sv') ∧ agrI (fun e => 0) r b code ∧ RS (C.1, C.2.1, C.2.2.1, C.2.2.2.1, C.2.2.2.2.1, u5, C.2.2.2.2.2.2.1, C.2.2.2.2.2.2.2.1, C.2.2.2.2.2.2.2.2) s' ∧ HR (va_up S ((o + c) % 5) D) sv' c' o' := by
  obtain ⟨mk, now, n, g, m, q, mw, mz, mg, f, rfl, rfl, hS⟩ := hR
  have hc := hH.1
  have ho := hH.2.1
  have hR' : RS (csI mk now n g m q mw mz mg) (fun i => iN (f i)) := ⟨mk, now, n, g, m, q, mw, mz, mg, f, rfl, rfl, hS⟩
  obtain ⟨D, eD, hD⟩ := s2_keep hR' hc ho (S ((o + c) % 5))
  obtain ⟨sv', eK, hK⟩ := m8_keep (fun i => iN (f i)) sv hc
  dsimp only [csI] at eD ⊢
  unfold fX7_solve fX8_solve
  rw [eD, qb, q9]
  obtain ⟨v, q', f', k1, k2, k3, k5⟩ := p_solve hS
  rw [k1, qb, q2, s7_conf_v hc ho k2.1 k2.2, qb, q3, qt, eK, qb, q2, k3, qb, q2]
  exact ⟨Sum.inl (iN v), _, sv1 c, ol1 c o, D, _, _, _, _, rfl, rfl, ⟨rfl, rfl⟩, ⟨mk, now, n, g, m, q', mw, mz, mg, f', rfl, rfl, k5⟩, hH.push hD hK⟩
theorem r_forget {C : CS} {s sv : Nat → Int32} {S : Nat → CS} {c o : Nat} (hR : RS C s) (hH : HR S sv c o) (c0 : Int32) : ∃ (r : Int32 ⊕ Nat) (u4 : Int32) (c' o' : Nat) (D : CS) (b code : Int32) (s' sv' : Nat → Int32), fX7_forget ((o + c) % 5) C.1 C.2.1 C.2.2.1 C.2.2.2.1 C.2.2.2.2.1 C.2.2.2.2.2.1 C.2.2.2.2.2.2.1 C.2.2.2.2.2.2.2.1 C.2.2.2.2.2.2.2.2 (iN (c : Int)) (iN (o : Int)) ((S ((o + c) % 5)).1) ((S ((o + c) % 5)).2.1) ((S ((o + c) % 5)).2.2.1) ((S ((o + c) % 5)).2.2.2.1) ((S ((o + c) % 5)).2.2.2.2.1) ((S ((o + c) % 5)).2.2.2.2.2.1) ((S ((o + c) % 5)).2.2.2.2.2.2.1) ((S ((o + c) % 5)).2.2.2.2.2.2.2.1) ((S ((o + c) % 5)).2.2.2.2.2.2.2.2) = some (r, u4, iN (c' : Int), iN (o' : Int), D.1, D.2.1, D.2.2.1, D.2.2.2.1, D.2.2.2.2.1, D.2.2.2.2.2.1, D.2.2.2.2.2.2.1, D.2.2.2.2.2.2.2.1, D.2.2.2.2.2.2.2.2) ∧ fX8_forget (iN (c : Int)) c0 s sv = some (b, iN (c' : Int), code, s', sv') ∧ agrI (fun e => 0) r b code ∧ RS (C.1, C.2.1, C.2.2.1, C.2.2.2.1, u4, C.2.2.2.2.2.1, C.2.2.2.2.2.2.1, C.2.2.2.2.2.2.2.1, C.2.2.2.2.2.2.2.2) s' ∧ HR (va_up S ((o + c) % 5) D) sv' c' o' := by
  obtain ⟨mk, now, n, g, m, q, mw, mz, mg, f, rfl, rfl, hS⟩ := hR
  have hc := hH.1
  have ho := hH.2.1
  have hR' : RS (csI mk now n g m q mw mz mg) (fun i => iN (f i)) := ⟨mk, now, n, g, m, q, mw, mz, mg, f, rfl, rfl, hS⟩
  obtain ⟨D, eD, hD⟩ := s2_keep hR' hc ho (S ((o + c) % 5))
  obtain ⟨sv', eK, hK⟩ := m8_keep (fun i => iN (f i)) sv hc
  dsimp only [csI] at eD ⊢
  unfold fX7_forget fX8_forget
  rw [eD, qb, q9]
  have hm := hS.2.1.1
  unfold fX3_removeAll
  rw [qb, q2, s7_conf_v hc ho (show 0 ≤ (m : Int) by omega) (by omega), qb, q3, qt, eK, qb, q2, rd_242, hS.2.1.2.1, show (0 : Int32) = iN 0 from rfl, wr_242]
  exact ⟨Sum.inl (iN m), _, sv1 c, ol1 c o, D, _, _, _, _, rfl, rfl, ⟨rfl, rfl⟩, ⟨mk, now, n, g, 0, q, mw, mz, mg, _, rfl, rfl, hS.fgt⟩, hH.push hD hK⟩
theorem r_mark {C : CS} {s sv : Nat → Int32} {S : Nat → CS} {c o : Nat} (hR : RS C s) (hH : HR S sv c o) (c0 : Int32) : ∃ (r : Int32 ⊕ Nat) (u0 : Int32) (u6 : (Nat → Int32)) (u7 : (Nat → Int32)) (u8 : (Nat → Nat → Int32)) (c' o' : Nat) (D : CS) (b code : Int32) (s' sv' : Nat → Int32), fX7_mark ((o + c) % 5) C.1 C.2.1 C.2.2.1 C.2.2.2.1 C.2.2.2.2.1 C.2.2.2.2.2.1 C.2.2.2.2.2.2.1 C.2.2.2.2.2.2.2.1 C.2.2.2.2.2.2.2.2 (iN (c : Int)) (iN (o : Int)) ((S ((o + c) % 5)).1) ((S ((o + c) % 5)).2.1) ((S ((o + c) % 5)).2.2.1) ((S ((o + c) % 5)).2.2.2.1) ((S ((o + c) % 5)).2.2.2.2.1) ((S ((o + c) % 5)).2.2.2.2.2.1) ((S ((o + c) % 5)).2.2.2.2.2.2.1) ((S ((o + c) % 5)).2.2.2.2.2.2.2.1) ((S ((o + c) % 5)).2.2.2.2.2.2.2.2) = some (r, u0, u6, u7, u8, iN (c' : Int), iN (o' : Int), D.1, D.2.1, D.2.2.1, D.2.2.2.1, D.2.2.2.2.1, D.2.2.2.2.2.1, D.2.2.2.2.2.2.1, D.2.2.2.2.2.2.2.1, D.2.2.2.2.2.2.2.2) ∧ fX8_mark (iN (c : Int)) c0 s sv = some (b, iN (c' : Int), code, s', sv') ∧ agrI (fun e => if e = 2 then 1 else 0) r b code ∧ RS (u0, C.2.1, C.2.2.1, C.2.2.2.1, C.2.2.2.2.1, C.2.2.2.2.2.1, u6, u7, u8) s' ∧ HR (va_up S ((o + c) % 5) D) sv' c' o' := by
  obtain ⟨mk, now, n, g, m, q, mw, mz, mg, f, rfl, rfl, hS⟩ := hR
  have hc := hH.1
  have ho := hH.2.1
  have hR' : RS (csI mk now n g m q mw mz mg) (fun i => iN (f i)) := ⟨mk, now, n, g, m, q, mw, mz, mg, f, rfl, rfl, hS⟩
  obtain ⟨D, eD, hD⟩ := s2_keep hR' hc ho (S ((o + c) % 5))
  obtain ⟨sv', eK, hK⟩ := m8_keep (fun i => iN (f i)) sv hc
  dsimp only [csI] at eD ⊢
  unfold fX7_mark fX8_mark
  rw [eD, qb, q9]
  have hk := hS.2.2.1
  obtain ⟨N, hN⟩ : ∃ N : Nat, N = 242 := ⟨_, rfl⟩
  rw [rd_423, hS.2.2.2.1]
  by_cases k5 : mk < 5
  · obtain ⟨g', k1, hg⟩ := s5_mark k5 hS.1.2.2.2.1.1 (now := now) g mw mz mg
    rw [k1, qb, q5, s7_conf_v hc ho (show 0 ≤ ((mk + 1 : Nat) : Int) by omega) (by omega), qb, q3, qt, if_neg (by rw [show (5 : Int32) = iN 5 from rfl, iN_eq (by omega) (by omega) (by omega) (by omega)]; omega), eK, qb, q2, m8_markLoop hN hS.2.2.2.1 k5]
    exact ⟨Sum.inl (iN ((mk + 1 : Nat) : Int)), _, _, _, _, sv1 c, ol1 c o, D, _, _, _, _, rfl, rfl, ⟨rfl, rfl⟩, ⟨mk + 1, now, n, g, m, q, _, _, _, _, rfl, rfl, hS.mrk k5 hg hN⟩, hH.push hD hK⟩
  · rw [s5_mark_f (show mk = 5 by omega), qb, q5, s7_conf_3, qb, q3, qe, if_pos (by rw [show mk = 5 by omega]; rfl), m8_fails, qb, q2]
    exact ⟨Sum.inr 2, _, _, _, _, c, o, D, _, _, _, _, rfl, rfl, ⟨rfl, by decide, by decide⟩, hR', hH.skip D⟩
theorem r_rollBack {C : CS} {s sv : Nat → Int32} {S : Nat → CS} {c o : Nat} (hR : RS C s) (hH : HR S sv c o) (c0 : Int32) : ∃ (r : Int32 ⊕ Nat) (u0 : Int32) (u1 : Int32) (u2 : Int32) (u3 : (Nat → Int32)) (c' o' : Nat) (D : CS) (b code : Int32) (s' sv' : Nat → Int32), fX7_rollBack ((o + c) % 5) C.1 C.2.1 C.2.2.1 C.2.2.2.1 C.2.2.2.2.1 C.2.2.2.2.2.1 C.2.2.2.2.2.2.1 C.2.2.2.2.2.2.2.1 C.2.2.2.2.2.2.2.2 (iN (c : Int)) (iN (o : Int)) ((S ((o + c) % 5)).1) ((S ((o + c) % 5)).2.1) ((S ((o + c) % 5)).2.2.1) ((S ((o + c) % 5)).2.2.2.1) ((S ((o + c) % 5)).2.2.2.2.1) ((S ((o + c) % 5)).2.2.2.2.2.1) ((S ((o + c) % 5)).2.2.2.2.2.2.1) ((S ((o + c) % 5)).2.2.2.2.2.2.2.1) ((S ((o + c) % 5)).2.2.2.2.2.2.2.2) = some (r, u0, u1, u2, u3, iN (c' : Int), iN (o' : Int), D.1, D.2.1, D.2.2.1, D.2.2.2.1, D.2.2.2.2.1, D.2.2.2.2.2.1, D.2.2.2.2.2.2.1, D.2.2.2.2.2.2.2.1, D.2.2.2.2.2.2.2.2) ∧ fX8_rollBack (iN (c : Int)) c0 s sv = some (b, iN (c' : Int), code, s', sv') ∧ agrI (fun e => if e = 2 then 1 else 0) r b code ∧ RS (u0, u1, u2, u3, C.2.2.2.2.1, C.2.2.2.2.2.1, C.2.2.2.2.2.2.1, C.2.2.2.2.2.2.2.1, C.2.2.2.2.2.2.2.2) s' ∧ HR (va_up S ((o + c) % 5) D) sv' c' o' := by
  obtain ⟨mk, now, n, g, m, q, mw, mz, mg, f, rfl, rfl, hS⟩ := hR
  have hc := hH.1
  have ho := hH.2.1
  have hR' : RS (csI mk now n g m q mw mz mg) (fun i => iN (f i)) := ⟨mk, now, n, g, m, q, mw, mz, mg, f, rfl, rfl, hS⟩
  obtain ⟨D, eD, hD⟩ := s2_keep hR' hc ho (S ((o + c) % 5))
  obtain ⟨sv', eK, hK⟩ := m8_keep (fun i => iN (f i)) sv hc
  dsimp only [csI] at eD ⊢
  unfold fX7_rollBack fX8_rollBack
  rw [eD, qb, q9]
  have hk := hS.2.2.1
  obtain ⟨N, hN⟩ : ∃ N : Nat, N = 242 := ⟨_, rfl⟩
  rw [rd_423, hS.2.2.2.1]
  by_cases k5 : mk = 0
  · subst k5
    rw [s5_rollBack_f, qb, q5, s7_conf_3, qb, q3, qe, if_pos (show iN ((0 : Nat) : Int) = 0 from rfl), m8_fails, qb, q2]
    exact ⟨Sum.inr 2, _, _, _, _, c, o, D, _, _, _, _, rfl, rfl, ⟨rfl, by decide, by decide⟩, hR', hH.skip D⟩
  · obtain ⟨j, rfl⟩ : ∃ j, mk = j + 1 := ⟨mk - 1, by omega⟩
    obtain ⟨z, hz, hs⟩ := hS.2.2.2.2 j (by omega)
    obtain ⟨g', k1, hg⟩ := s5_rollBack (show j < 5 by omega) (a := iN now) (b := iN (n : Int)) (v := fun i => iN (g i)) (mw := mw) (mg := mg) hz hs.2.2.2.1.1
    rw [k1, qb, q5, s7_conf_v hc ho (show 0 ≤ (j : Int) by omega) (by omega), qb, q3, qt, if_neg (by rw [show (0 : Int32) = iN 0 from rfl, iN_eq (by omega) (by omega) (by omega) (by omega)]; omega), eK, qb, q2, rd_423, hS.2.2.2.1, show (1 : Int32) = iN 1 from rfl, iN_sub, show ((j + 1 : Nat) : Int) - 1 = j by omega, wr_423, m8_backLoop hN updI_eq (show j < 5 by omega)]
    exact ⟨Sum.inl (iN (j : Int)), _, _, _, _, sv1 c, ol1 c o, D, _, _, _, _, rfl, rfl, ⟨rfl, rfl⟩, ⟨j, mw j, z, g', m, q, mw, mz, mg, _, rfl, rfl, hS.rbk hz hg hN⟩, hH.push hD hK⟩
theorem q11 {T0 T1 T2 T3 T4 T5 T6 T7 T8 T9 T10 α : Type} {a0 : T0} {a1 : T1} {a2 : T2} {a3 : T3} {a4 : T4} {a5 : T5} {a6 : T6} {a7 : T7} {a8 : T8} {a9 : T9} {a10 : T10} {k : T0 → T1 → T2 → T3 → T4 → T5 → T6 → T7 → T8 → T9 → T10 → Option α} : up11 (a0, a1, a2, a3, a4, a5, a6, a7, a8, a9, a10) k = k a0 a1 a2 a3 a4 a5 a6 a7 a8 a9 a10 := by unfold up11; rfl
theorem r_undo {C : CS} {s sv : Nat → Int32} {S : Nat → CS} {c o : Nat} (hR : RS C s) (hH : HR S sv c o) (c0 : Int32) : ∃ (r : Int32 ⊕ Nat) (E : CS) (c' : Nat) (b code : Int32) (s' : Nat → Int32), fX7_undo ((o + (c - 1)) % 5) C.1 C.2.1 C.2.2.1 C.2.2.2.1 C.2.2.2.2.1 C.2.2.2.2.2.1 C.2.2.2.2.2.2.1 C.2.2.2.2.2.2.2.1 C.2.2.2.2.2.2.2.2 (iN (c : Int)) (iN (o : Int)) ((S ((o + (c - 1)) % 5)).1) ((S ((o + (c - 1)) % 5)).2.1) ((S ((o + (c - 1)) % 5)).2.2.1) ((S ((o + (c - 1)) % 5)).2.2.2.1) ((S ((o + (c - 1)) % 5)).2.2.2.2.1) ((S ((o + (c - 1)) % 5)).2.2.2.2.2.1) ((S ((o + (c - 1)) % 5)).2.2.2.2.2.2.1) ((S ((o + (c - 1)) % 5)).2.2.2.2.2.2.2.1) ((S ((o + (c - 1)) % 5)).2.2.2.2.2.2.2.2) = some (r, E.1, E.2.1, E.2.2.1, E.2.2.2.1, E.2.2.2.2.1, E.2.2.2.2.2.1, E.2.2.2.2.2.2.1, E.2.2.2.2.2.2.2.1, E.2.2.2.2.2.2.2.2, iN (c' : Int)) ∧ fX8_undo (iN (c : Int)) c0 s sv = some (b, iN (c' : Int), code, s') ∧ agrI (fun e => if e = 2 then 1 else 0) r b code ∧ RS E s' ∧ HR S sv c' o := by
  obtain ⟨hc, ho, h3⟩ := id hH
  unfold fX7_undo fX8_undo
  by_cases c1 : c = 0
  · subst c1
    rw [if_neg (by decide), if_pos (show iN ((0 : Nat) : Int) = 0 from rfl), m8_fails, qb, q2]
    exact ⟨Sum.inr 2, C, 0, _, _, _, rfl, rfl, ⟨rfl, by decide, by decide⟩, hR, hH⟩
  · obtain ⟨d, rfl⟩ : ∃ d, c = d + 1 := ⟨c - 1, by omega⟩
    rw [if_pos (by rw [show (0 : Int32) = iN 0 from rfl, iN_lt (by omega) (by omega) (by omega) (by omega)]; omega), if_neg (by rw [show (0 : Int32) = iN 0 from rfl, iN_eq (by omega) (by omega) (by omega) (by omega)]; omega)]
    have hd := h3 d (by omega)
    obtain ⟨E, eE, hE⟩ := s2_back hd (show d ≤ 4 by omega) ho C
    obtain ⟨N, hN⟩ : ∃ N : Nat, N = 1634 := ⟨_, rfl⟩
    obtain ⟨s', e8, h8⟩ := m8_undoLoop s sv hN (show d ≤ 3 by omega) 0
    unfold fX2_takeBack
    rw [show d + 1 - 1 = d from rfl, show (1 : Int32) = iN 1 from rfl, iN_sub, show ((d + 1 : Nat) : Int) - 1 = d by omega, nm_v, nm_v, eE, qb, q9, qb, q11, e8]
    exact ⟨Sum.inl (iN d), E, d, _, _, _, rfl, rfl, ⟨rfl, rfl⟩, hE.congr (fun i hi => (h8 i hi).symm), by omega, ho, fun a ha => h3 a (by omega)⟩
/-- the text -/
def TxR (len : Nat) (by_ tx_ : Nat → Int32) : Prop := len ≤ 120 ∧ ∀ i, i < len → by_ i = tx_ i ∧ 0 ≤ (by_ i).toInt ∧ (by_ i).toInt ≤ 127
theorem r_append {len : Nat} {by_ tx_ : Nat → Int32} (h : TxR len by_ tx_) (c0 x1 : Int32) : ∃ (r : Int32 ⊕ Nat) (len' : Nat) (by' : Nat → Int32) (b code : Int32) (tx' : Nat → Int32), fX7_append (iN (len : Int)) by_ x1 = some (r, iN (len' : Int), by') ∧ fX8_append (iN (len : Int)) c0 tx_ x1 = some (b, iN (len' : Int), code, tx') ∧ agrI (fun e => if e = 1 then 1 else if e = 2 then 2 else 0) r b code ∧ TxR len' by' tx' := by
  obtain ⟨h1, h2⟩ := id h
  unfold fX7_append fX8_append
  rw [show (0 : Int64) = lI 0 from rfl, show (127 : Int64) = lI 127 from rfl, m8_in32 x1 (by omega) (by omega) (by omega) (by omega), qb]
  by_cases c1 : 0 ≤ x1.toInt ∧ x1.toInt ≤ 127
  · rw [s7_rb_t (a := 0) (b := 127) c1, qb, qt, if_neg (fun z => b01_0.mp z c1)]
    by_cases c2 : len < 120
    · rw [if_pos (by rw [show (120 : Int32) = iN 120 from rfl, iN_lt (by omega) (by omega) (by omega) (by omega)]; omega), if_neg (by rw [show (120 : Int32) = iN 120 from rfl, iN_eq (by omega) (by omega) (by omega) (by omega)]; omega)]
      unfold fX4_put
      rw [if_neg (by rw [show (0 : Int32) = iN 0 from rfl, iN_lt (by omega) (by omega) (by omega) (by omega)]; omega), if_neg (by rw [show (120 : Int32) = iN 120 from rfl, iN_le (by omega) (by omega) (by omega) (by omega)]; omega), wr_iN (by omega) (by omega) (by omega), wr_iN (by omega) (by omega) (by omega), nm_v, nm_v, iN_succ, qb, q3]
      refine ⟨_, len + 1, _, _, _, _, rfl, rfl, ⟨rfl, rfl⟩, by omega, fun i hi => ?_⟩
      rw [show ((len : Int)).toNat = len from rfl]
      by_cases e : i = len
      · subst e; rw [updW_eq, updW_eq]; exact ⟨rfl, c1⟩
      · rw [updW_ne e, updW_ne e]; exact h2 i (by omega)
    · rw [if_neg (by rw [show (120 : Int32) = iN 120 from rfl, iN_lt (by omega) (by omega) (by omega) (by omega)]; omega), if_pos (by rw [show len = 120 by omega]; rfl), m8_fails, qb, q2]
      exact ⟨Sum.inr 2, len, _, _, _, _, rfl, rfl, ⟨rfl, by decide, by decide⟩, h⟩
  · rw [s7_rb_f (a := 0) (b := 127) c1, qb, qe, if_pos (b01_0.mpr c1), m8_fails, qb, q2]
    exact ⟨Sum.inr 1, len, _, _, _, _, rfl, rfl, ⟨rfl, by decide, by decide⟩, h⟩
theorem r_clearText {len : Nat} {by_ tx_ : Nat → Int32} (h : TxR len by_ tx_) (c0 : Int32) : fX7_clearText (iN (len : Int)) = some (iN (len : Int), 0) ∧ fX8_clearText (iN (len : Int)) c0 = some (iN (len : Int), 0, 0) ∧ TxR 0 by_ tx_ := by
  unfold fX7_clearText fX8_clearText fX4_wipe
  rw [qb, q2]
  exact ⟨rfl, rfl, by omega, fun i hi => absurd hi (Nat.not_lt_zero i)⟩
theorem r_now {C : CS} {s : Nat → Int32} (hR : RS C s) (c0 : Int32) : fX7_now C.2.1 = some C.2.1 ∧ fX8_now c0 s = some (C.2.1, 0) := by
  obtain ⟨mk, now, n, g, m, q, mw, mz, mg, f, rfl, rfl, hS⟩ := hR
  unfold fX7_now fX8_now
  rw [rd_1, hS.1.2.1]
  exact ⟨rfl, rfl⟩
theorem r_segments {C : CS} {s : Nat → Int32} (hR : RS C s) (c0 : Int32) : fX7_segments C.2.2.1 = some C.2.2.1 ∧ fX8_segments c0 s = some (C.2.2.1, 0) := by
  obtain ⟨mk, now, n, g, m, q, mw, mz, mg, f, rfl, rfl, hS⟩ := hR
  unfold fX7_segments fX8_segments
  rw [rd_0, hS.1.1]
  exact ⟨rfl, rfl⟩
