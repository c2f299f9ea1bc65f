/-! ===== carryOut: class and reference ===== -/
theorem r_carryOut {C : CS} {s sv : Nat → Int32} {S : Nat → CS} {c o : Nat} (hR : RS C s) (hH : HR S sv c o) {len : Nat} {by_ tx_ : Nat → Int32} (hT : TxR len by_ tx_) (cm pl : Int32) (nums : Nat → Int32) (c0 a8 k8 : Int32) (letter number before : Nat → Int32) : ∃ (r : Int32) (E : CS) (c' o' : Nat) (cm' pl' : Int32) (nums' : Nat → Int32) (D : CS) (a' k' : Int32) (s' sv' l' u' b' : Nat → Int32), fX7_carryOut ((o + c) % 5) C.1 C.2.1 C.2.2.1 C.2.2.2.1 C.2.2.2.2.1 C.2.2.2.2.2.1 C.2.2.2.2.2.2.1 C.2.2.2.2.2.2.2.1 C.2.2.2.2.2.2.2.2 (iN (c : Int)) (iN (o : Int)) (iN (len : Int)) cm pl by_ nums ((S ((o + c) % 5)).1) ((S ((o + c) % 5)).2.1) ((S ((o + c) % 5)).2.2.1) ((S ((o + c) % 5)).2.2.2.1) ((S ((o + c) % 5)).2.2.2.2.1) ((S ((o + c) % 5)).2.2.2.2.2.1) ((S ((o + c) % 5)).2.2.2.2.2.2.1) ((S ((o + c) % 5)).2.2.2.2.2.2.2.1) ((S ((o + c) % 5)).2.2.2.2.2.2.2.2) = some (r, E.1, E.2.1, E.2.2.1, E.2.2.2.1, E.2.2.2.2.1, E.2.2.2.2.2.1, E.2.2.2.2.2.2.1, E.2.2.2.2.2.2.2.1, E.2.2.2.2.2.2.2.2, iN (c' : Int), iN (o' : Int), cm', pl', nums', D.1, D.2.1, D.2.2.1, D.2.2.2.1, D.2.2.2.2.1, D.2.2.2.2.2.1, D.2.2.2.2.2.2.1, D.2.2.2.2.2.2.2.1, D.2.2.2.2.2.2.2.2) ∧ fX8_carryOut (iN (c : Int)) (iN (len : Int)) c0 a8 k8 s sv tx_ letter number before = some (r, iN (c' : Int), 0, a', k', s', sv', l', u', b') ∧ RS E s' ∧ HR (va_up S ((o + c) % 5) D) sv' c' o' := by
  obtain ⟨mk, now, n, g, m, q, mw, mz, mg, f, rfl, rfl, hS⟩ := hR
  have hc := hH.1
  have ho := hH.2.1
  have hl := hT.1
  have hR' : RS (csI mk now n g m q mw mz mg) (fun i => iN (f i)) := ⟨mk, now, n, g, m, q, mw, mz, mg, f, rfl, rfl, hS⟩
  obtain ⟨D, eD, hD⟩ := s2_keep hR' hc ho (S ((o + c) % 5))
  dsimp only [csI] at eD ⊢
  obtain ⟨K, P, Ls, Vs, h0, h1, h2⟩ := chainCmds hT len 0 (by omega) (by omega)
  have hcl := chain_len h0 h1
  have hK : K ≤ 60 := by
    by_cases z : K = 0
    · omega
    · have := hcl K (Nat.le_refl K); have := this.2 (by omega); omega
  have y4 := s4_syntax hT h0 h1 cm pl nums
  have y8 := m8_readsAll hT h0 h1 a8 k8 letter number
  rcases h2 with hP | ⟨hP, e, hb⟩
  · obtain ⟨cm', pl', nums', e4⟩ := y4.1 hP
    obtain ⟨letter', number', e8, hln⟩ := y8.1 hP
    obtain ⟨J, A, j1, j2, j3, j4, j5⟩ := chainDo (mk := mk) (mw := mw) (mz := mz) (mg := mg) (A0 := (now, n, g, m, q, f)) hS (letter := letter') (number := number') (Vs := Vs) K hK (fun j hj => by
      obtain ⟨z1, z2⟩ := hln j hj
      rw [z1]
      exact ⟨(h1 j hj).2.2.1, z2⟩)
    have step7 : ∀ k, k < K → ∀ cm7 nums7, ∃ n2, fX4_readCommand (iN (len : Int)) cm7 (iN ((P k : Nat) : Int)) by_ nums7 = some (1, letter' k, iN ((P (k + 1) : Nat) : Int), n2) ∧ ∀ i, i < nc (letter' k) → n2 i = Vs k i := by
      intro k hk cm7 nums7
      rw [(hln k hk).1]
      exact (h1 k hk).2.2.2.1 cm7 nums7
    have run7 : ∀ R : (Int32 × Int32 × Int32 × Int32 × (Nat → Int32) × Int32 × (Nat → Int32) × (Nat → Int32) × (Nat → Int32) × (Nat → Nat → Int32) × Int32 × Int32 × Int32 × Int32 × (Nat → Int32) × Int32 × Int32 × Int32 × (Nat → Int32) × Int32 × (Nat → Int32) × (Nat → Int32) × (Nat → Int32) × (Nat → Nat → Int32)) → Prop, (∀ cm7 nums7, ∃ r, bX7_carryOut_38 ((o + c) % 5) (iN (len : Int)) by_ (iN (mk : Int)) (fun j => iN (mw j)) (fun j => iN (mz j)) (fun j i => iN (mg j i)) (iN (c : Int)) (iN (o : Int)) (D.1) (D.2.1) (D.2.2.1) (D.2.2.2.1) (D.2.2.2.2.1) (D.2.2.2.2.2.1) (D.2.2.2.2.2.2.1) (D.2.2.2.2.2.2.2.1) (D.2.2.2.2.2.2.2.2) (iN (J : Int)) (iN (A J).1) (iN ((A J).2.1 : Int)) ((fun i => iN ((A J).2.2.1 i))) (iN ((A J).2.2.2.1 : Int)) ((fun i => iN ((A J).2.2.2.2.1 i))) cm7 (iN ((P J : Nat) : Int)) nums7 = some (.inr r) ∧ R r) → ∃ r, fX7_carryOut ((o + c) % 5) (iN (mk : Int)) (iN now) (iN (n : Int)) (fun i => iN (g i)) (iN (m : Int)) (fun i => iN (q i)) (fun j => iN (mw j)) (fun j => iN (mz j)) (fun j i => iN (mg j i)) (iN (c : Int)) (iN (o : Int)) (iN (len : Int)) cm pl by_ nums ((S ((o + c) % 5)).1) ((S ((o + c) % 5)).2.1) ((S ((o + c) % 5)).2.2.1) ((S ((o + c) % 5)).2.2.2.1) ((S ((o + c) % 5)).2.2.2.2.1) ((S ((o + c) % 5)).2.2.2.2.2.1) ((S ((o + c) % 5)).2.2.2.2.2.2.1) ((S ((o + c) % 5)).2.2.2.2.2.2.2.1) ((S ((o + c) % 5)).2.2.2.2.2.2.2.2) = some r ∧ R r := by
      intro R hfin
      unfold fX7_carryOut fX4_restart
      rw [e4, qb, q4, if_pos rfl, eD, qb, q9, qb]
      refine lp_iv (fun k z => ∃ (cm7 : Int32) (nums7 : Nat → Int32), z = (iN (k : Int), iN (A k).1, iN ((A k).2.1 : Int), (fun i => iN ((A k).2.2.1 i)), iN ((A k).2.2.2.1 : Int), (fun i => iN ((A k).2.2.2.2.1 i)), cm7, iN ((P k : Nat) : Int), nums7)) R J ⟨cm', nums', by rw [h0, j2]; rfl⟩ ?_ ?_ (fuel_ge (by omega))
      · rintro k z hk ⟨cm7, nums7, rfl⟩
        obtain ⟨n2, en, hv⟩ := step7 k (by omega) cm7 nums7
        obtain ⟨v0, ep, v1, v2⟩ := (j3 k hk).1 n2 hv
        dsimp only [pfm] at ep
        show ∃ z, bX7_carryOut_38 ((o + c) % 5) (iN (len : Int)) by_ (iN (mk : Int)) (fun j => iN (mw j)) (fun j => iN (mz j)) (fun j i => iN (mg j i)) (iN (c : Int)) (iN (o : Int)) (D.1) (D.2.1) (D.2.2.1) (D.2.2.2.1) (D.2.2.2.2.1) (D.2.2.2.2.2.1) (D.2.2.2.2.2.2.1) (D.2.2.2.2.2.2.2.1) (D.2.2.2.2.2.2.2.2) (iN (k : Int)) (iN (A k).1) (iN ((A k).2.1 : Int)) ((fun i => iN ((A k).2.2.1 i))) (iN ((A k).2.2.2.1 : Int)) ((fun i => iN ((A k).2.2.2.2.1 i))) cm7 (iN ((P k : Nat) : Int)) nums7 = some (.inl z) ∧ _
        unfold bX7_carryOut_38
        rw [if_neg (by rw [show (120 : Int32) = iN 120 from rfl, iN_le (by omega) (by omega) (by omega) (by omega)]; omega), en, qb, q4, if_neg n10, ep, qb, q6, if_pos (by rw [show (0 : Int32) = iN 0 from rfl, iN_le (by omega) (by omega) (by omega) (by omega)]; omega), nm_v, iN_succ]
        exact ⟨_, rfl, _, _, rfl⟩
      · rintro z ⟨cm7, nums7, rfl⟩
        exact hfin cm7 nums7
    have run8 : ∀ R : Int32 × Int32 × Int32 × Int32 × Int32 × (Nat → Int32) × (Nat → Int32) × (Nat → Int32) × (Nat → Int32) × (Nat → Int32) → Prop, (∀ b' : Nat → Int32, (∀ j, j < 1634 → b' j = iN (f j)) → ∃ r, bX8_carryOut_49 (iN (c : Int)) 0 (iN (len : Int)) (iN (K : Int)) sv letter' number' b' (iN (J : Int)) (dsF (A J)) = some (.inr r) ∧ R r) → ∃ r, fX8_carryOut (iN (c : Int)) (iN (len : Int)) c0 a8 k8 (fun i => iN (f i)) sv tx_ letter number before = some r ∧ R r := by
      intro R hfin
      unfold fX8_carryOut
      rw [e8, qb, q5, if_neg n10]
      refine m8_before R () (fun b' hb' => ?_)
      refine lp_iv (fun k z => z = (iN (k : Int), dsF (A k))) R J (by rw [j2]; rfl) ?_ ?_ (fuel_ge (by omega))
      · rintro k z hk rfl
        obtain ⟨-, ew, ed⟩ := j3 k hk
        show ∃ z, bX8_carryOut_49 _ _ _ _ _ _ _ _ (iN (k : Int)) (dsF (A k)) = some (.inl z) ∧ _
        unfold bX8_carryOut_49
        rw [if_neg (by rw [iN_le (by omega) (by omega) (by omega) (by omega)]; omega), ew, qb, if_pos rfl, ed, qb, nm_v, iN_succ]
        exact ⟨_, rfl, rfl⟩
      · rintro z rfl
        exact hfin b' hb'
    rcases j5 with rfl | ⟨jK, jb⟩
    · -- all of it
      obtain ⟨r7, e7, cm7, pl7, nums7, rfl⟩ := run7 (fun r => ∃ cm7 pl7 nums7, r = (iN (J : Int), iN (mk : Int), iN (A J).1, iN ((A J).2.1 : Int), (fun i => iN ((A J).2.2.1 i)), iN ((A J).2.2.2.1 : Int), (fun i => iN ((A J).2.2.2.2.1 i)), (fun j => iN (mw j)), (fun j => iN (mz j)), (fun j i => iN (mg j i)), iN (sv1 c : Nat), iN (ol1 c o : Nat), cm7, pl7, nums7, D.1, D.2.1, D.2.2.1, D.2.2.2.1, D.2.2.2.2.1, D.2.2.2.2.2.1, D.2.2.2.2.2.2.1, D.2.2.2.2.2.2.2.1, D.2.2.2.2.2.2.2.2)) (fun cm7 nums7 => by
        obtain ⟨L, n2, en⟩ := (bad_end hT).2.1 cm7 nums7
        unfold bX7_carryOut_38
        rw [if_neg (by rw [show (120 : Int32) = iN 120 from rfl, iN_le (by omega) (by omega) (by omega) (by omega)]; omega), hP, en, qb, q4, if_pos rfl]
        unfold jX7_carryOut_84
        rw [s2_confirm hc ho, qb, q2]
        exact ⟨_, rfl, _, _, _, rfl⟩)
      obtain ⟨r8, e8', s2, sv', b2, s1, rfl, hs2, hs1, hk1⟩ := run8 (fun r => ∃ s2 sv' b2 s1, r = (iN (J : Int), iN (sv1 c : Nat), 0, iN (len : Int), iN (J : Int), s2, sv', letter', number', b2) ∧ (∀ j, j < 1634 → s2 j = dsF (A J) j) ∧ (∀ j, j < 1634 → s1 j = iN (f j)) ∧ Kept sv sv' s1 c) (fun b' hb' => by
        obtain ⟨s1, b1, ex1, hx1⟩ := m8_exchange (dsF (A J)) b'
        obtain ⟨sv', eK, hK1⟩ := m8_keep s1 sv hc
        obtain ⟨s2, b2, ex2, hx2⟩ := m8_exchange s1 b1
        unfold bX8_carryOut_49
        rw [if_pos (by rw [iN_le (by omega) (by omega) (by omega) (by omega)]; omega), ex1, qb, q2, eK, qb, q2, ex2, qb, q2]
        refine ⟨_, rfl, s2, sv', b2, s1, rfl, fun j hj => ?_, fun j hj => ?_, hK1⟩
        · rw [(hx2 j hj).1, (hx1 j hj).2]
        · rw [(hx1 j hj).1, hb' j hj])
      refine ⟨_, (csI mk (A J).1 (A J).2.1 (A J).2.2.1 (A J).2.2.2.1 (A J).2.2.2.2.1 mw mz mg), sv1 c, ol1 c o, cm7, pl7, nums7, D, _, _, s2, sv', _, _, b2, e7, e8', ?_, hH.push (hD.congr (fun i hi => (hs1 i hi).symm)) hk1⟩
      have hA : RS (csI mk (A J).1 (A J).2.1 (A J).2.2.1 (A J).2.2.2.1 (A J).2.2.2.2.1 mw mz mg) (dsF (A J)) := ⟨mk, (A J).1, (A J).2.1, (A J).2.2.1, (A J).2.2.2.1, (A J).2.2.2.2.1, mw, mz, mg, (A J).2.2.2.2.2, rfl, rfl, j4⟩
      exact hA.congr (fun i hi => (hs2 i hi).symm)
    · -- a command that cannot be carried out
      obtain ⟨E, eE, hE⟩ := s2_back hD hc ho (csI mk (A J).1 (A J).2.1 (A J).2.2.1 (A J).2.2.2.1 (A J).2.2.2.2.1 mw mz mg)
      dsimp only [csI] at eE
      obtain ⟨r7, e7, cm7, pl7, nums7, rfl⟩ := run7 (fun r => ∃ cm7 pl7 nums7, r = ((-1000 : Int32) - iN (J : Int), E.1, E.2.1, E.2.2.1, E.2.2.2.1, E.2.2.2.2.1, E.2.2.2.2.2.1, E.2.2.2.2.2.2.1, E.2.2.2.2.2.2.2.1, E.2.2.2.2.2.2.2.2, iN (c : Int), iN (o : Int), cm7, pl7, nums7, D.1, D.2.1, D.2.2.1, D.2.2.2.1, D.2.2.2.2.1, D.2.2.2.2.2.1, D.2.2.2.2.2.2.1, D.2.2.2.2.2.2.2.1, D.2.2.2.2.2.2.2.2)) (fun cm7 nums7 => by
        obtain ⟨n2, en, hv⟩ := step7 J (by omega) cm7 nums7
        obtain ⟨e, ep, hneg⟩ := jb.1 n2 hv
        dsimp only [pfm] at ep
        unfold bX7_carryOut_38
        rw [if_neg (by rw [show (120 : Int32) = iN 120 from rfl, iN_le (by omega) (by omega) (by omega) (by omega)]; omega), en, qb, q4, if_neg n10, ep, qb, q6, if_neg hneg, eE, qb, q9, nm_v]
        exact ⟨_, rfl, _, _, _, rfl⟩)
      obtain ⟨r8, e8', s2, b2, rfl, hs2⟩ := run8 (fun r => ∃ s2 b2, r = ((-1000 : Int32) - iN (J : Int), iN (c : Int), 0, iN (len : Int), iN (K : Int), s2, sv, letter', number', b2) ∧ ∀ j, j < 1634 → s2 j = iN (f j)) (fun b' hb' => by
        obtain ⟨cc, ew, hcc⟩ := jb.2
        obtain ⟨s1, b1, ex1, hx1⟩ := m8_exchange (dsF (A J)) b'
        unfold bX8_carryOut_49
        rw [if_neg (by rw [iN_le (by omega) (by omega) (by omega) (by omega)]; omega), ew, qb, if_neg hcc, ex1, qb, q2, nm_v]
        refine ⟨_, rfl, s1, b1, rfl, fun j hj => ?_⟩
        rw [(hx1 j hj).1, hb' j hj])
      exact ⟨_, E, c, o, cm7, pl7, nums7, D, _, _, s2, sv, _, _, b2, e7, e8', hE.congr (fun i hi => (hs2 i hi).symm), hH.skip D⟩
  · obtain ⟨cm', pl', nums', e4⟩ := y4.2 e hP hb
    obtain ⟨n', l', u', e8⟩ := y8.2 e hP hb
    have he := hb.1
    refine ⟨(-10 : Int32) - iN (e : Int), csI mk now n g m q mw mz mg, c, o, cm', pl', nums', S ((o + c) % 5), iN (e : Int), n', _, sv, l', u', before, ?_, ?_, hR', hH.skip _⟩
    · unfold fX7_carryOut
      rw [e4, qb, q4, if_neg (by rw [show (-1 : Int32) = iN (-1) from rfl, iN_eq (by omega) (by omega) (by omega) (by omega)]; omega), nm_v]
    · unfold fX8_carryOut
      rw [e8, qb, q5, if_pos rfl, nm_v]
