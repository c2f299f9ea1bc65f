/-! ===== digest ===== -/
def hf (h : Int64) (v : Nat → Int64) : Nat → Int64
  | 0 => h
  | k + 1 => (31 : Int64) * hf h v k + v k
theorem hf_s (h : Int64) (v : Nat → Int64) (k : Nat) : hf h v (k + 1) = (31 : Int64) * hf h v k + v k := rfl
theorem hf_congr {h : Int64} {v w : Nat → Int64} : ∀ {K : Nat}, (∀ i, i < K → v i = w i) → hf h v K = hf h w K := by
  intro K
  induction K with
  | zero => intro _; rfl
  | succ K ih => intro e; rw [hf_s, hf_s, ih (fun i hi => e i (by omega)), e K (by omega)]
theorem s7_mixed (h v : Int64) : fX7_mixed h v = some ((31 : Int64) * h + v) := rfl
theorem m8_mix (h v : Int64) : fX8_mix h v = some ((31 : Int64) * h + v) := rfl
abbrev i64 (g : Nat → Int) : Nat → Int64 := fun i => (iN (g i)).toInt64
theorem s6_mixedInto (now : Int32) {n : Nat} (hn : n ≤ 40) (g : Nat → Int) (h : Int64) : fX6_mixedInto now (iN (n : Int)) (fun i => iN (g i)) h = some (hf ((31 : Int64) * ((31 : Int64) * h + now.toInt64) + (iN (n : Int)).toInt64) (i64 g) (6 * n)) := by
  unfold fX6_mixedInto
  rw [s7_mixed, qb, s7_mixed, qb]
  generalize (31 : Int64) * ((31 : Int64) * h + now.toInt64) + (iN (n : Int)).toInt64 = h0
  refine lp_for _ (fun k => (hf h0 (i64 g) (6 * k), iN (k : Int))) n _ ?_ ?_ (fuel_ge (by omega))
  · intro k hk
    show bX6_mixedInto_22 _ _ (hf h0 (i64 g) (6 * k)) (iN (k : Int)) = _
    unfold bX6_mixedInto_22
    rw [if_neg (by rw [iN_le (by omega) (by omega) (by omega) (by omega)]; omega)]
    refine lp_for _ (fun j => (hf h0 (i64 g) (6 * k + j), iN (j : Int))) 6 _ ?_ ?_ (fuel_ge (by omega))
    · intro j hj
      show bX6_mixedInto_33 _ _ (hf h0 (i64 g) (6 * k + j)) (iN (j : Int)) = _
      unfold bX6_mixedInto_33
      rw [if_neg (by rw [show (6 : Int32) = iN 6 from rfl, iN_le (by omega) (by omega) (by omega) (by omega)]; omega), s6_value g k j (by omega) hj, qb, s7_mixed, qb, nm_v, iN_succ]
      rfl
    · show bX6_mixedInto_33 _ _ (hf h0 (i64 g) (6 * k + 6)) (iN ((6 : Nat) : Int)) = _
      unfold bX6_mixedInto_33
      rw [if_pos (by decide), nm_v, iN_succ]
      rfl
  · show bX6_mixedInto_22 _ _ (hf h0 (i64 g) (6 * n)) (iN (n : Int)) = _
    unfold bX6_mixedInto_22
    rw [if_pos (by rw [iN_le (by omega) (by omega) (by omega) (by omega)]; omega)]
    rfl
/-- one value of an answer -/
def Aw (q : Nat → Int) (k w : Nat) : Int64 := if w = 0 ∧ iN (q (6 * k + 4)) = -1 then 9223372036854775807 else (iN (q (6 * k + (3 + w)))).toInt64
theorem s3_aw (q : Nat → Int) {k w : Nat} (hk : k < 30) (hw : w < 3) : fX3_answerValue (fun i => iN (q i)) (iN (k : Int)) (iN (w : Int)) = some (Aw q k w) := by
  have j1 : jX3_answerValue_18 (fun i => iN (q i)) (iN (k : Int)) (iN (w : Int)) = some ((iN (q (6 * k + (3 + w)))).toInt64) := by
    unfold jX3_answerValue_18
    rw [show (3 : Int32) = iN 3 from rfl, iN_add, show (3 + (w : Int)) = ((3 + w : Nat) : Int) by omega, s3_value q k (3 + w) hk (by omega), qb]
  unfold fX3_answerValue Aw
  rw [j1]
  by_cases c : w = 0
  · subst c
    rw [if_pos (show iN ((0 : Nat) : Int) = (0 : Int32) from rfl), s3_r4 q k hk, qb]
    by_cases c2 : iN (q (6 * k + 4)) = -1
    · rw [if_pos c2, if_pos ⟨rfl, c2⟩]
    · rw [if_neg c2, if_neg (fun z => c2 z.2)]
  · rw [if_neg (by rw [show (0 : Int32) = iN 0 from rfl, iN_eq (by omega) (by omega) (by omega) (by omega)]; omega), if_neg (fun z => c z.1)]
theorem m8_aw {f q : Nat → Int} {k w : Nat} (hk : k < 30) (hw : w < 3) (he : q (6 * k + 3) = f (243 + 6 * k + 3) ∧ q (6 * k + 4) = f (243 + 6 * k + 4) ∧ q (6 * k + 5) = f (243 + 6 * k + 5)) : fX8_answerOf (fun i => iN (f i)) (iN (k : Int)) (iN (w : Int)) = some (Aw q k w) := by
  have ea : q (6 * k + (3 + w)) = f (243 + 6 * k + (3 + w)) := by
    have : w = 0 ∨ w = 1 ∨ w = 2 := by omega
    rcases this with rfl | rfl | rfl
    · exact he.1
    · exact he.2.1
    · exact he.2.2
  have j2 : jX8_answerOf_27 (fun i => iN (f i)) (iN (w : Int)) (iN (243 + 6 * (k : Int))) = some ((iN (q (6 * k + (3 + w)))).toInt64) := by
    unfold jX8_answerOf_27
    rw [show (3 : Int32) = iN 3 from rfl, iN_add, iN_add, show (243 + 6 * (k : Int) + 3 + (w : Int)) = 243 + 6 * (k : Int) + ((3 + w : Nat) : Int) by omega, ← iN_add, rd_q _ k (3 + w) hk (by omega), ea]
  unfold fX8_answerOf Aw
  rw [m8_query, qb, j2]
  by_cases c : w = 0
  · subst c
    rw [if_pos (show iN ((0 : Nat) : Int) = (0 : Int32) from rfl), rd_q4 _ k hk, ← he.2.1]
    by_cases c2 : iN (q (6 * k + 4)) = -1
    · rw [if_pos c2, if_pos ⟨rfl, c2⟩]
    · rw [if_neg c2, if_neg (fun z => c2 z.2)]
  · rw [if_neg (by rw [show (0 : Int32) = iN 0 from rfl, iN_eq (by omega) (by omega) (by omega) (by omega)]; omega), if_neg (fun z => c z.1)]
def q3h (q : Nat → Int) (h : Int64) (k : Nat) : Int64 := (31 : Int64) * ((31 : Int64) * ((31 : Int64) * h + (iN (q (6 * k))).toInt64) + (iN (q (6 * k + 1))).toInt64) + (iN (q (6 * k + 2))).toInt64
def qst (q : Nat → Int) (h : Int64) (k : Nat) : Int64 := if q (6 * k + 2) = 1 then hf (q3h q h k) (Aw q k) 3 else q3h q h k
def qfo (q : Nat → Int) (h : Int64) : Nat → Int64
  | 0 => h
  | k + 1 => qst q (qfo q h k) k
theorem qfo_s (q : Nat → Int) (h : Int64) (k : Nat) : qfo q h (k + 1) = qst q (qfo q h k) k := rfl
theorem s3_mixedInto {m : Nat} (hm : m ≤ 30) {q : Nat → Int} (hq : ∀ k : Nat, k < m → q (6 * k + 2) = 0 ∨ q (6 * k + 2) = 1) (h : Int64) : fX3_mixedInto (iN (m : Int)) (fun i => iN (q i)) h = some (qfo q ((31 : Int64) * h + (iN (m : Int)).toInt64) m) := by
  unfold fX3_mixedInto
  rw [s7_mixed, qb]
  generalize (31 : Int64) * h + (iN (m : Int)).toInt64 = h0
  refine lp_for _ (fun k => (qfo q h0 k, iN (k : Int))) m _ ?_ ?_ (fuel_ge (by omega))
  · intro k hk
    have hk3 : k < 30 := by omega
    show bX3_mixedInto_12 _ _ (qfo q h0 k) (iN (k : Int)) = _
    unfold bX3_mixedInto_12 fX3_isAnswered
    rw [if_neg (by rw [iN_le (by omega) (by omega) (by omega) (by omega)]; omega), s3_r0 q k hk3, qb, s7_mixed, qb, s3_r1 q k hk3, qb, s7_mixed, qb, s3_r2 q k hk3, qb, s7_mixed, qb, qb]
    have e3 : (31 : Int64) * ((31 : Int64) * ((31 : Int64) * qfo q h0 k + (iN (q (6 * k))).toInt64) + (iN (q (6 * k + 1))).toInt64) + (iN (q (6 * k + 2))).toInt64 = q3h q (qfo q h0 k) k := rfl
    rw [e3]
    rw [qfo_s]
    unfold qst
    by_cases c : q (6 * k + 2) = 1
    · rw [if_pos c, if_pos (show iN (q (6 * k + 2)) = 1 by rw [c]; rfl), zr_1, qb, if_neg n10]
      refine lp_for _ (fun j => (hf (q3h q (qfo q h0 k) k) (Aw q k) j, iN (j : Int))) 3 _ ?_ ?_ (fuel_ge (by omega))
      · intro j hj
        show bX3_mixedInto_67 _ _ (hf (q3h q (qfo q h0 k) k) (Aw q k) j) (iN (j : Int)) = _
        unfold bX3_mixedInto_67
        rw [if_neg (by rw [show (3 : Int32) = iN 3 from rfl, iN_le (by omega) (by omega) (by omega) (by omega)]; omega), s3_aw q hk3 hj, qb, s7_mixed, qb, nm_v, iN_succ]
        rfl
      · show bX3_mixedInto_67 _ _ (hf (q3h q (qfo q h0 k) k) (Aw q k) 3) (iN ((3 : Nat) : Int)) = _
        unfold bX3_mixedInto_67
        rw [if_pos (by decide), nm_v, iN_succ]
        rfl
    · have c0 : q (6 * k + 2) = 0 := (hq k hk).resolve_right c
      rw [if_neg c, if_neg (show ¬ iN (q (6 * k + 2)) = 1 by rw [c0]; decide), zr_0, qb, if_pos rfl, nm_v, iN_succ]
  · show bX3_mixedInto_12 _ _ (qfo q h0 m) (iN (m : Int)) = _
    unfold bX3_mixedInto_12
    rw [if_pos (by rw [iN_le (by omega) (by omega) (by omega) (by omega)]; omega)]
    rfl
theorem m8_mixQuery {f q : Nat → Int} {m k : Nat} (hm : m ≤ 30) (hk : k < m) (hQ : QuR m q f) (h : Int64) : fX8_mixQuery h (fun i => iN (f i)) (iN (k : Int)) = some (qst q h k) := by
  have hk3 : k < 30 := by omega
  obtain ⟨⟨a1, -⟩, ⟨a2, -⟩, ⟨a3, a4⟩, a5⟩ := hQ.2.2 k hk
  unfold fX8_mixQuery
  rw [m8_query, qb, rd_q0 _ k hk3, m8_mix, qb, rd_q1 _ k hk3, m8_mix, qb, rd_q2 _ k hk3, m8_mix, qb, ← a1, ← a2, ← a3]
  have e3 : (31 : Int64) * ((31 : Int64) * ((31 : Int64) * h + (iN (q (6 * k))).toInt64) + (iN (q (6 * k + 1))).toInt64) + (iN (q (6 * k + 2))).toInt64 = q3h q h k := rfl
  rw [e3]
  unfold qst
  by_cases c : q (6 * k + 2) = 1
  · rw [if_pos c]
    refine lp_for _ (fun j => (iN (j : Int), hf (q3h q h k) (Aw q k) j)) 3 _ ?_ ?_ (fuel_ge (by omega))
    · intro j hj
      show bX8_mixQuery_44 _ _ _ (iN (j : Int)) (hf (q3h q h k) (Aw q k) j) = _
      unfold bX8_mixQuery_44
      rw [if_neg (by rw [show (3 : Int32) = iN 3 from rfl, iN_le (by omega) (by omega) (by omega) (by omega)]; omega), rd_q2 _ k hk3, ← a3, if_pos (by rw [c]; rfl), m8_aw hk3 hj (a5 c), qb, m8_mix, qb, nm_v, iN_succ]
      rfl
    · show bX8_mixQuery_44 _ _ _ (iN ((3 : Nat) : Int)) (hf (q3h q h k) (Aw q k) 3) = _
      unfold bX8_mixQuery_44
      rw [if_pos (by decide)]
      rfl
  · have c0 : q (6 * k + 2) = 0 := a4.resolve_right c
    rw [if_neg c]
    refine lp_for _ (fun j => (iN (j : Int), q3h q h k)) 0 _ (fun j hj => absurd hj (Nat.not_lt_zero j)) ?_ (fuel_ge (by omega))
    show bX8_mixQuery_44 _ _ _ (iN ((0 : Nat) : Int)) (q3h q h k) = _
    unfold bX8_mixQuery_44
    rw [if_neg (by decide), rd_q2 _ k hk3, ← a3, if_neg (by rw [c0]; decide)]
    rfl
/-- the envelope's cells, flat -/
def ecl (la le : Nat → Int) (i : Nat) : Int := if i % 3 = 0 then fi la (i / 3) else if i % 3 = 1 then la (i / 3) else le (i / 3)
theorem s1_value (la le : Nat → Int) {k j : Nat} (hk : k < 256) (hj : j < 3) : fX1_value (fun i => iN (la i)) (fun i => iN (le i)) (iN (k : Int)) (iN (j : Int)) = some (iN (ecl la le (3 * k + j))) := by
  unfold fX1_value ecl
  have : j = 0 ∨ j = 1 ∨ j = 2 := by omega
  rcases this with rfl | rfl | rfl
  · rw [if_pos (show iN ((0 : Nat) : Int) = (0 : Int32) from rfl), s1_first la k hk, qb, if_pos (by omega), show (3 * k + 0) / 3 = k by omega]
  · rw [if_neg (by decide), if_pos (show iN ((1 : Nat) : Int) = (1 : Int32) from rfl), s1_last la k hk, qb, if_neg (by omega), if_pos (by omega), show (3 * k + 1) / 3 = k by omega]
  · rw [if_neg (by decide), if_neg (by decide), s1_leader le k hk, qb, if_neg (by omega), if_neg (by omega), show (3 * k + 2) / 3 = k by omega]
theorem s1_mixedInto {c : Nat} (hc : c ≤ 256) (la le : Nat → Int) (h : Int64) : fX1_mixedInto (iN (c : Int)) (fun i => iN (la i)) (fun i => iN (le i)) h = some (hf ((31 : Int64) * h + (iN (c : Int)).toInt64) (i64 (ecl la le)) (3 * c)) := by
  unfold fX1_mixedInto
  rw [s7_mixed, qb]
  generalize (31 : Int64) * h + (iN (c : Int)).toInt64 = h0
  refine lp_for _ (fun k => (hf h0 (i64 (ecl la le)) (3 * k), iN (k : Int))) c _ ?_ ?_ (fuel_ge (by omega))
  · intro k hk
    show bX1_mixedInto_12 _ _ _ (hf h0 (i64 (ecl la le)) (3 * k)) (iN (k : Int)) = _
    unfold bX1_mixedInto_12
    rw [if_neg (by rw [iN_le (by omega) (by omega) (by omega) (by omega)]; omega)]
    refine lp_for _ (fun j => (hf h0 (i64 (ecl la le)) (3 * k + j), iN (j : Int))) 3 _ ?_ ?_ (fuel_ge (by omega))
    · intro j hj
      show bX1_mixedInto_23 _ _ _ (hf h0 (i64 (ecl la le)) (3 * k + j)) (iN (j : Int)) = _
      unfold bX1_mixedInto_23
      rw [if_neg (by rw [show (3 : Int32) = iN 3 from rfl, iN_le (by omega) (by omega) (by omega) (by omega)]; omega), s1_value la le (by omega) hj, qb, s7_mixed, qb, nm_v, iN_succ]
      rfl
    · show bX1_mixedInto_23 _ _ _ (hf h0 (i64 (ecl la le)) (3 * k + 3)) (iN ((3 : Nat) : Int)) = _
      unfold bX1_mixedInto_23
      rw [if_pos (by decide), nm_v, iN_succ]
      rfl
  · show bX1_mixedInto_12 _ _ _ (hf h0 (i64 (ecl la le)) (3 * c)) (iN (c : Int)) = _
    unfold bX1_mixedInto_12
    rw [if_pos (by rw [iN_le (by omega) (by omega) (by omega) (by omega)]; omega)]
    rfl
theorem r_digest {C : CS} {s : Nat → Int32} (hR : RS C s) {c len : Nat} (hc : c ≤ 4) (hl : len ≤ 120) (z z8 c0 : Int32) (h8 : Int64) (l0 d0 p0 : Nat → Int32) : ∃ (r : Int64) (sz : Int32) (ls ld : Nat → Int32) (pc : Int32) (ps : Nat → Int32), fX7_digest C.1 C.2.1 C.2.2.1 C.2.2.2.1 C.2.2.2.2.1 C.2.2.2.2.2.1 (iN (c : Int)) (iN (len : Int)) z l0 d0 = some (r, sz, ls, ld) ∧ fX8_digest (iN (c : Int)) (iN (len : Int)) c0 z8 h8 s p0 = some (r, 0, pc, r, ps) := by
  obtain ⟨mk, now, n, g, m, q, mw, mz, mg, f, rfl, rfl, hS⟩ := hR
  obtain ⟨⟨hf0, hw, hw2, H, hE⟩, hQ, hM⟩ := id hS
  have H8 := H.eqOn hE
  have hn := H.1
  have hm := hQ.1
  have hmk := hM.1
  obtain ⟨N, hN⟩ : ∃ N : Nat, N = 256 := ⟨_, rfl⟩
  obtain ⟨⟨sz, ls, ld⟩, e, ec, la, le, k1, k2, k3, hRu⟩ := s1_build H hw2.1 (show now ≤ 16384 by omega) z l0 d0
  change sz = _ at k1
  change ls = _ at k2
  change ld = _ at k3
  subst k1 k2 k3
  obtain ⟨⟨pc, ps⟩, e8, c8, p, k4, k5, hR8, hpf⟩ := m8_layPieces hf0 H8 hw2.1 (show now ≤ 16384 by omega) z8 p0
  change pc = _ at k4
  change ps = _ at k5
  subst k4 k5
  have hF : ∀ x, -1 ≤ (fun x => fst g x now n) x ∧ (fun x => fst g x now n) x < n := fun x => fst_bd g x now n
  have hcl := hRu.cle
  have e1 := s1_sumBetween hN H hF hRu (show (0 : Int) ≤ 0 by omega) (show (0 : Int) ≤ 255 by omega) (by omega)
  have e2 := m8_sumOf hN hf0 H8 hw2.1 (show now ≤ 16384 by omega) (show (0 : Int) ≤ 0 by omega) (show (0 : Int) ≤ 255 by omega) (by omega)
  rw [vAt_eq hE hF, fst_fun hE] at e1
  rw [fst_fun hE] at hRu
  obtain ⟨u1, u2⟩ := hRu.uniq hR8
  subst u1
  have ep : ∀ i, i < 3 * ec → i64 (ecl la le) i = i64 p i := by
    intro i hi
    show (iN (ecl la le i)).toInt64 = (iN (p i)).toInt64
    have hk : i / 3 < ec := by omega
    obtain ⟨u3, u4⟩ := u2 (i / 3) hk
    have ee : ecl la le i = p i := by
      unfold ecl
      by_cases c1 : i % 3 = 0
      · rw [if_pos c1]
        have := hpf (i / 3) hk
        rw [show 3 * (i / 3) = i by omega] at this
        rw [this]
        exact fi_congr (fun j hj => (u2 j (by omega)).1)
      · rw [if_neg c1]
        by_cases c2 : i % 3 = 1
        · rw [if_pos c2, u3]
          exact congrArg p (by omega)
        · rw [if_neg c2, u4]
          exact congrArg p (by omega)
    rw [ee]
  dsimp only [csI]
  unfold fX7_digest fX8_digest
  rw [s7_mixed, qb, s6_mixedInto _ hn, qb, s3_mixedInto hm (fun k hk => (hQ.2.2 k hk).2.2.1.2), qb, s7_mixed, qb, e, qb, q3, s1_mixedInto (by omega) la le, qb, show (0 : Int32) = iN 0 from rfl, show (255 : Int32) = iN 255 from rfl, e1, qb, s7_mixed, qb, s7_mixed, qb, m8_mix, qb, rd_1, hw, m8_mix, qb, show iN 0 = (0 : Int32) from rfl, rd_0, hf0, m8_mix, qb]
  generalize (31 : Int64) * ((31 : Int64) * ((31 : Int64) * 2927 + (iN (len : Int)).toInt64) + (iN now).toInt64) + (iN (n : Int)).toInt64 = h0
  refine ⟨_, _, _, _, iN (ec : Int), (fun i => iN (p i)), rfl, ?_⟩
  refine lp_for _ (fun k => (iN (k : Int), hf h0 (i64 g) k)) (6 * n) _ ?_ ?_ (fuel_ge (by omega))
  · intro k hk
    show bX8_digest_45 _ _ _ _ _ (iN (k : Int)) (hf h0 (i64 g) k) = _
    unfold bX8_digest_45
    rw [rd_0, hf0, show (6 : Int32) = iN 6 from rfl, iN_mul, if_neg (by rw [iN_le (by omega) (by omega) (by omega) (by omega)]; omega), show (2 : Int32) = iN 2 from rfl, iN_add, rd_iN (by omega) (by omega) (by omega), m8_mix, qb, nm_v, iN_succ, show (2 + (k : Int)).toNat = k + 2 by omega, show f (k + 2) = g k from (hE k hk).symm]
    rfl
  · show bX8_digest_45 _ _ _ _ _ (iN ((6 * n : Nat) : Int)) (hf h0 (i64 g) (6 * n)) = _
    unfold bX8_digest_45
    rw [rd_0, hf0, show (6 : Int32) = iN 6 from rfl, iN_mul, if_pos (by rw [iN_le (by omega) (by omega) (by omega) (by omega)]; omega), rd_242, hQ.2.1, m8_mix, qb]
    generalize (31 : Int64) * hf h0 (i64 g) (6 * n) + (iN (m : Int)).toInt64 = h1
    refine congrArg xt (?_ : _ = some _)
    refine lp_for _ (fun k => (iN (k : Int), qfo q h1 k)) m _ ?_ ?_ (fuel_ge (by omega))
    · intro k hk
      show bX8_digest_92 _ _ _ _ _ (iN (k : Int)) (qfo q h1 k) = _
      unfold bX8_digest_92
      rw [rd_242, hQ.2.1, if_neg (by rw [iN_le (by omega) (by omega) (by omega) (by omega)]; omega), m8_mixQuery hm hk hQ, qb, nm_v, iN_succ]
      rfl
    · show bX8_digest_92 _ _ _ _ _ (iN (m : Int)) (qfo q h1 m) = _
      unfold bX8_digest_92
      rw [rd_242, hQ.2.1, if_pos (by rw [iN_le (by omega) (by omega) (by omega) (by omega)]; omega), rd_423, hM.2.1, m8_mix, qb, rd_1, hw, e8, qb, q2, m8_mix, qb]
      generalize (31 : Int64) * ((31 : Int64) * qfo q h1 m + (iN (mk : Int)).toInt64) + (iN (ec : Int)).toInt64 = h2
      refine congrArg xt (?_ : _ = some _)
      rw [hf_congr ep]
      refine lp_for _ (fun k => (iN (k : Int), hf h2 (i64 p) k)) (3 * ec) _ ?_ ?_ (fuel_ge (by omega))
      · intro k hk
        show bX8_digest_149 _ _ _ _ _ (iN (k : Int)) (hf h2 (i64 p) k) = _
        unfold bX8_digest_149
        rw [show (3 : Int32) = iN 3 from rfl, iN_mul, if_neg (by rw [iN_le (by omega) (by omega) (by omega) (by omega)]; omega), rd_iN (by omega) (by omega) (by omega), m8_mix, qb, nm_v, iN_succ]
        rfl
      · show bX8_digest_149 _ _ _ _ _ (iN ((3 * ec : Nat) : Int)) (hf h2 (i64 p) (3 * ec)) = _
        unfold bX8_digest_149
        rw [show (3 : Int32) = iN 3 from rfl, iN_mul, if_pos (by rw [iN_le (by omega) (by omega) (by omega) (by omega)]; omega), rd_1, hw, show (0 : Int32) = iN 0 from rfl, show (255 : Int32) = iN 255 from rfl, e2, qb, m8_mix, qb, m8_mix, qb]
        rfl
