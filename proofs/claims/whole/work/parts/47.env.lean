/-! ===== the envelope and the pieces: their readers ===== -/
theorem Runs.fic {F : Int → Int} {x : Int} {c : Nat} {la le : Nat → Int} (h : Runs F x c la le) : fi la c = x := by
  unfold fi
  by_cases c0 : c = 0
  · rw [if_pos c0]; exact (h.1 c0).symm
  · rw [if_neg c0]; have := h.2.1 (c - 1) (by omega); omega
theorem fi_congr {la la' : Nat → Int} {k : Nat} (h : ∀ j, j < k → la j = la' j) : fi la k = fi la' k := by
  unfold fi
  by_cases c0 : k = 0
  · rw [if_pos c0, if_pos c0]
  · rw [if_neg c0, if_neg c0, h (k - 1) (by omega)]
theorem m8_layPieces {g : Nat → Int} {n : Nat} (hg : g 0 = n) (H : SegOK (sh g) n) {t : Int} (t0 : 0 ≤ t) (t1 : t ≤ 16384) (z : Int32) (c0 : Nat → Int32) : ∃ q, fX8_layPieces z (fun i => iN (g i)) c0 (iN t) = some q ∧ PcsOK (fun x => fst (sh g) x t n) q.1 q.2 := by
  have hn := H.1
  unfold fX8_layPieces
  refine lp_iv (fun k s => ∃ (c : Nat) (p : Nat → Int), s = (iN (k : Int), iN (c : Int), fun i => iN (p i)) ∧ Runs (fun x => fst (sh g) x t n) k c (fun k => p (3 * k + 1)) (fun k => p (3 * k + 2)) ∧ ∀ j, j < c → p (3 * j) = fi (fun k => p (3 * k + 1)) j) _ 256 ?_ ?_ ?_ (fuel_ge (by omega))
  · exact ⟨0, fun i => (c0 i).toInt, by rw [← iN_fun c0]; rfl, ⟨fun _ => rfl, fun k hk => by omega, fun k hk => by omega, fun k hk => by omega⟩, fun j hj => by omega⟩
  · rintro k s hk ⟨c, p, rfl, hR, hf⟩
    have hc := hR.cle
    have hb := fst_bd (sh g) k t n
    show ∃ s', bX8_layPieces_7 _ _ (iN (k : Int)) (iN (c : Int)) (fun i => iN (p i)) = some (.inl s') ∧ _
    unfold bX8_layPieces_7 jX8_layPieces_64
    rw [if_neg (by rw [show (255 : Int32) = iN 255 from rfl, iN_lt (by omega) (by omega) (by omega) (by omega)]; omega), m8_firstAt hg H (by omega) (by omega) t0 t1, Option.bind_some]
    simp only [nm, iN_succ, show iN (c : Int) - (1 : Int32) = iN (c - 1) from iN_sub c 1, show (3 : Int32) = iN 3 from rfl, show (4 : Int32) = iN 4 from rfl, show (5 : Int32) = iN 5 from rfl, show (2 : Int32) = iN 2 from rfl, iN_mul, iN_add]
    have new : (∀ j, j + 1 = c → ¬ fst (sh g) k t n = p (3 * j + 2)) → ∃ s', wr 768 (fun i => iN (p i)) (iN (3 * ((c : Int) - 1) + 3)) (iN (k : Int)) (fun g1 => wr 768 g1 (iN (3 * ((c : Int) - 1) + 4)) (iN (k : Int)) (fun g2 => wr 768 g2 (iN (3 * ((c : Int) - 1) + 5)) (iN (fst (sh g) k t n)) (fun g3 => some (Sum.inl (iN ((k + 1 : Nat) : Int), iN ((c + 1 : Nat) : Int), g3))))) = some (Sum.inl s' : (Int32 × Int32 × (Nat → Int32)) ⊕ (Int32 × (Nat → Int32))) ∧ ∃ (c : Nat) (p : Nat → Int), s' = (iN ((k + 1 : Nat) : Int), iN (c : Int), fun i => iN (p i)) ∧ Runs (fun x => fst (sh g) x t n) ((k + 1 : Nat) : Int) c (fun k => p (3 * k + 1)) (fun k => p (3 * k + 2)) ∧ ∀ j, j < c → p (3 * j) = fi (fun k => p (3 * k + 1)) j := by
      intro hN
      rw [wr_iN (by omega) (by omega) (by omega), upd_iN, wr_iN (by omega) (by omega) (by omega), upd_iN, wr_iN (by omega) (by omega) (by omega), upd_iN]
      rw [show (3 * ((c : Int) - 1) + 3).toNat = 3 * c by omega, show (3 * ((c : Int) - 1) + 4).toNat = 3 * c + 1 by omega, show (3 * ((c : Int) - 1) + 5).toNat = 3 * c + 2 by omega]
      refine ⟨_, rfl, c + 1, _, rfl, ?_, fun j hj => ?_⟩
      · have e1 : (fun j => updI (updI (updI p (3 * c) k) (3 * c + 1) k) (3 * c + 2) (fst (sh g) k t n) (3 * j + 1)) = updI (fun j => p (3 * j + 1)) c k := by
          funext j
          unfold updI
          rw [if_neg (by omega)]
          by_cases e : j = c
          · rw [if_pos (by omega), if_pos e]
          · rw [if_neg (by omega), if_neg e, if_neg (by omega)]
        have e2 : (fun j => updI (updI (updI p (3 * c) k) (3 * c + 1) k) (3 * c + 2) (fst (sh g) k t n) (3 * j + 2)) = updI (fun j => p (3 * j + 2)) c (fst (sh g) k t n) := by
          funext j
          unfold updI
          by_cases e : j = c
          · rw [if_pos (by omega), if_pos e]
          · rw [if_neg (by omega), if_neg e, if_neg (by omega), if_neg (by omega)]
        rw [e1, e2]
        exact hR.snoc (Int.le_refl _) (fun z hz hz2 => by rw [show z = (k : Int) by omega]) hN
      · have e1 : updI (updI (updI p (3 * c) k) (3 * c + 1) k) (3 * c + 2) (fst (sh g) k t n) (3 * j) = updI p (3 * c) k (3 * j) := by
          show (if _ then _ else _) = _
          rw [if_neg (by omega)]
          show (if _ then _ else _) = _
          rw [if_neg (by omega)]
        rw [e1]
        have e2 : fi (fun k_1 => updI (updI (updI p (3 * c) k) (3 * c + 1) k) (3 * c + 2) (fst (sh g) k t n) (3 * k_1 + 1)) j = fi (fun k => p (3 * k + 1)) j := by
          refine fi_congr (fun i hi => ?_)
          unfold updI
          rw [if_neg (by omega), if_neg (by omega), if_neg (by omega)]
        rw [e2]
        unfold updI
        by_cases e : j = c
        · subst e; rw [if_pos rfl, hR.fic]
        · rw [if_neg (by omega)]; exact hf j (by omega)
    by_cases c1 : (c : Int) ≤ 0
    · rw [if_pos (by rw [show (0 : Int32) = iN 0 from rfl, iN_le (by omega) (by omega) (by omega) (by omega)]; exact c1)]
      exact new (fun j hj => by omega)
    · rw [if_neg (by rw [show (0 : Int32) = iN 0 from rfl, iN_le (by omega) (by omega) (by omega) (by omega)]; exact c1)]
      obtain ⟨d, rfl⟩ : ∃ d, c = d + 1 := ⟨c - 1, by omega⟩
      rw [rd_iN (by omega) (by omega) (by omega), show (3 * (((d + 1 : Nat) : Int) - 1) + 2).toNat = 3 * d + 2 by omega]
      have ed : p (3 * d + 2) = fst (sh g) (fi (fun k => p (3 * k + 1)) d) t n := ((hR.2.2.1 d (by omega)).2 _ (Int.le_refl _) (hR.2.2.1 d (by omega)).1).symm
      have hb2 := fst_bd (sh g) (fi (fun k => p (3 * k + 1)) d) t n
      by_cases c2 : p (3 * d + 2) = fst (sh g) k t n
      · rw [if_pos (by rw [c2]), show iN (3 * (((d + 1 : Nat) : Int) - 1)) + (1 : Int32) = iN (3 * (((d + 1 : Nat) : Int) - 1) + 1) from iN_add _ 1, wr_iN (by omega) (by omega) (by omega), upd_iN, show (3 * (((d + 1 : Nat) : Int) - 1) + 1).toNat = 3 * d + 1 by omega]
        refine ⟨_, rfl, d + 1, _, rfl, ?_, fun j hj => ?_⟩
        · have e1 : (fun j => updI p (3 * d + 1) k (3 * j + 1)) = updI (fun j => p (3 * j + 1)) d k := by
            funext j
            unfold updI
            by_cases e : j = d
            · rw [if_pos (by omega), if_pos e]
            · rw [if_neg (by omega), if_neg e]
          have e2 : (fun j => updI p (3 * d + 1) k (3 * j + 2)) = fun j => p (3 * j + 2) := by
            funext j
            unfold updI
            rw [if_neg (by omega)]
          rw [e1, e2]
          exact hR.grow c2.symm
        · have e1 : updI p (3 * d + 1) k (3 * j) = p (3 * j) := if_neg (by omega)
          rw [e1, hf j hj]
          refine fi_congr (fun i hi => ?_)
          unfold updI
          rw [if_neg (by omega)]
      · rw [if_neg (by rw [iN_eq (by omega) (by omega) (by omega) (by omega)]; exact c2)]
        exact new (fun j hj => by rw [show j = d by omega]; exact fun q => c2 q.symm)
  · rintro s ⟨c, p, rfl, hR, hf⟩
    show ∃ r, bX8_layPieces_7 _ _ (iN ((256 : Nat) : Int)) (iN (c : Int)) (fun i => iN (p i)) = some (.inr r) ∧ _
    unfold bX8_layPieces_7
    rw [if_pos (by decide)]
    exact ⟨_, rfl, c, p, rfl, rfl, hR, hf⟩
theorem s1_last (la : Nat → Int) (k : Nat) (hk : k < 256) : fX1_last (fun i => iN (la i)) (iN (k : Int)) = some (iN (la k)) := by
  unfold fX1_last
  rw [if_neg (by rw [show (0 : Int32) = iN 0 from rfl, iN_lt (by omega) (by omega) (by omega) (by omega)]; omega), if_neg (by rw [show (256 : Int32) = iN 256 from rfl, iN_le (by omega) (by omega) (by omega) (by omega)]; omega), rd_iN (by omega) (by omega) (by omega)]
  rfl
theorem s1_leader (le : Nat → Int) (k : Nat) (hk : k < 256) : fX1_leader (fun i => iN (le i)) (iN (k : Int)) = some (iN (le k)) := by
  unfold fX1_leader
  rw [if_neg (by rw [show (0 : Int32) = iN 0 from rfl, iN_lt (by omega) (by omega) (by omega) (by omega)]; omega), if_neg (by rw [show (256 : Int32) = iN 256 from rfl, iN_le (by omega) (by omega) (by omega) (by omega)]; omega), rd_iN (by omega) (by omega) (by omega)]
  rfl
theorem s1_first (la : Nat → Int) (k : Nat) (hk : k < 256) : fX1_first (fun i => iN (la i)) (iN (k : Int)) = some (iN (fi la k)) := by
  unfold fX1_first
  by_cases c : k = 0
  · subst c; rfl
  · rw [if_neg (by rw [show (0 : Int32) = iN 0 from rfl, iN_eq (by omega) (by omega) (by omega) (by omega)]; omega)]
    obtain ⟨j, rfl⟩ : ∃ j, k = j + 1 := ⟨k - 1, by omega⟩
    have e : iN ((j + 1 : Nat) : Int) - (1 : Int32) = iN (j : Int) := by
      rw [show (1 : Int32) = iN 1 from rfl, iN_sub]; congr 1; omega
    rw [e, s1_last la j (by omega), Option.bind_some, fi_succ, show (1 : Int32) = iN 1 from rfl, iN_add]
theorem s7_be {g : Nat → Int} {n : Nat} (H : SegOK g n) {x1 : Int32} (h : 0 ≤ x1.toInt ∧ x1.toInt ≤ 16384) (z : Int32) (l0 d0 : Nat → Int32) : ∃ sz ls ld, fX7_buildEnvelope (iN n) (fun i => iN (g i)) z l0 d0 x1 = some (Sum.inl (), sz, ls, ld) ∧ EnvOK (fun x => fst g x x1.toInt n) sz ls ld := by
  unfold fX7_buildEnvelope
  rw [s7_rb_t (a := 0) (b := 16384) h, Option.bind_some]
  obtain ⟨q, e, hq⟩ := s1_build H h.1 h.2 z l0 d0
  rw [iN_of x1]
  simp only [tx]
  rw [e, ← iN_of x1]
  exact ⟨q.1, q.2.1, q.2.2, rfl, hq⟩
theorem s7_be_f {x1 : Int32} (h : ¬ (0 ≤ x1.toInt ∧ x1.toInt ≤ 16384)) (z sz : Int32) (g l0 d0 : Nat → Int32) : fX7_buildEnvelope sz g z l0 d0 x1 = some (Sum.inr 1, z, l0, d0) := by
  unfold fX7_buildEnvelope
  rw [s7_rb_f (a := 0) (b := 16384) h]
  rfl
theorem fst_fun {n : Nat} {g g' : Nat → Int} (h : EqOn n g g') (t : Int) : (fun x => fst g x t n) = fun x => fst g' x t n := funext fun x => EqOn_fst h x t n (Nat.le_refl n)
/-- promise 14: pieces -/
theorem r_pieces {g g8 : Nat → Int} {n : Nat} (hg : g8 0 = n) (H : SegOK g n) (hE : EqOn n g (sh g8)) (z z8 c0 : Int32) (l0 d0 p0 : Nat → Int32) (x1 : Int32) : ∃ r sz ls ld b c pc ps, fX7_pieces (iN n) (fun i => iN (g i)) z l0 d0 x1 = some (r, sz, ls, ld) ∧ fX8_pieces c0 z8 (fun i => iN (g8 i)) p0 x1 = some (b, c, pc, ps) ∧ agrI (fun e => if e = 1 then 1 else 0) r b c := by
  have H8 := H.eqOn hE
  unfold fX7_pieces fX8_pieces
  rw [m8_isTick, Option.bind_some]
  by_cases c1 : 0 ≤ x1.toInt ∧ x1.toInt ≤ 16384
  · obtain ⟨sz, ls, ld, e, c, la, le, rfl, rfl, rfl, hR⟩ := s7_be H c1 z l0 d0
    obtain ⟨⟨pc, ps⟩, e8, c8, p, h1, h2, hR8, hf⟩ := m8_layPieces hg H8 c1.1 c1.2 z8 p0
    change pc = _ at h1
    change ps = _ at h2
    subst h1 h2
    rw [← iN_of x1] at e8
    rw [e, if_neg (fun q => b01_0.mp q c1), e8]
    rw [fst_fun hE] at hR
    have u := hR.uniq hR8
    rw [u.1]
    exact ⟨_, _, _, _, _, _, _, _, rfl, rfl, rfl, rfl⟩
  · rw [s7_be_f c1, if_pos (b01_0.mpr c1)]
    exact ⟨_, _, _, _, _, _, _, _, rfl, rfl, rfl, by decide, by decide⟩
/-- promise 14: piece -/
theorem r_piece {g g8 : Nat → Int} {n : Nat} (hg : g8 0 = n) (H : SegOK g n) (hE : EqOn n g (sh g8)) (z z8 c0 : Int32) (l0 d0 p0 : Nat → Int32) (x1 x2 x3 : Int32) : ∃ r sz ls ld b c pc ps, fX7_piece (iN n) (fun i => iN (g i)) z l0 d0 x1 x2 x3 = some (r, sz, ls, ld) ∧ fX8_piece c0 z8 (fun i => iN (g8 i)) p0 x1 x2 x3 = some (b, c, pc, ps) ∧ agrI (fun e => if e = 1 then 1 else if e = 3 then 2 else 0) r b c := by
  have H8 := H.eqOn hE
  unfold fX7_piece fX8_piece jX8_piece_24
  rw [m8_isTick, show (0 : Int64) = lI 0 from rfl, show (2 : Int64) = lI 2 from rfl, m8_in32 x3 (by omega) (by omega) (by omega) (by omega)]
  simp only [Option.bind_some]
  by_cases c3 : 0 ≤ x3.toInt ∧ x3.toInt ≤ 2
  · rw [s7_rb_t (a := 0) (b := 2) c3]
    simp only [Option.bind_some, tx]
    by_cases c1 : 0 ≤ x1.toInt ∧ x1.toInt ≤ 16384
    · obtain ⟨sz, ls, ld, e, c, la, le, rfl, rfl, rfl, hR⟩ := s7_be H c1 z l0 d0
      obtain ⟨⟨pc, ps⟩, e8, c8, p, h1, h2, hR8, hf⟩ := m8_layPieces hg H8 c1.1 c1.2 z8 p0
      change pc = _ at h1
      change ps = _ at h2
      subst h1 h2
      rw [← iN_of x1] at e8
      rw [e, if_neg (fun q => b01_0.mp q c1), if_neg (fun q => b01_0.mp q c3), e8]
      rw [fst_fun hE] at hR
      have u := hR.uniq hR8
      have hc := hR.cle
      have u1 := u.1
      subst u1
      simp only [Option.bind_some, up2, up4]
      rw [show (1 : Int32) = iN 1 from rfl, iN_sub, iN_l (by omega) (by omega), m8_in32 x2 (by omega) (by omega) (by omega) (by omega), Option.bind_some]
      have e0 : (x2 < (0 : Int32)) = (x2.toInt < 0) := by rw [Int32.lt_iff_toInt_lt]; rfl
      have e1 : (x2 < iN (c : Int)) = (x2.toInt < c) := by rw [Int32.lt_iff_toInt_lt, iN_toInt (by omega) (by omega)]
      simp only [e0, e1]
      by_cases c2 : 0 ≤ x2.toInt ∧ x2.toInt ≤ (c : Int) - 1
      · rw [if_neg (by omega), if_pos (by omega), if_neg (fun q => b01_0.mp q c2)]
        obtain ⟨k, hk⟩ : ∃ k : Nat, x2.toInt = k := ⟨x2.toInt.toNat, by omega⟩
        obtain ⟨j, hj⟩ : ∃ j : Nat, x3.toInt = j := ⟨x3.toInt.toNat, by omega⟩
        have ek : x2 = iN k := by rw [← hk]; exact iN_of x2
        have ej : x3 = iN j := by rw [← hj]; exact iN_of x3
        have uk := u.2 k (by omega)
        rw [ek, ej]
        unfold fX1_value
        rw [show (3 : Int32) = iN 3 from rfl, iN_mul, iN_add, rd_iN (by omega) (by omega) (by omega), show (3 * (k : Int) + (j : Int)).toNat = 3 * k + j by omega, s1_first la k (by omega), s1_last la k (by omega), s1_leader le k (by omega)]
        have hj3 : j = 0 ∨ j = 1 ∨ j = 2 := by omega
        rcases hj3 with rfl | rfl | rfl
        · rw [if_pos (by rfl)]
          refine ⟨_, _, _, _, _, _, _, _, rfl, rfl, rfl, ?_⟩
          show iN (p (3 * k)) = iN (fi la k)
          rw [hf k (by omega), fi_congr (fun i hi => (u.2 i (by omega)).1)]
        · rw [if_neg (by decide), if_pos (by rfl)]
          refine ⟨_, _, _, _, _, _, _, _, rfl, rfl, rfl, ?_⟩
          rw [uk.1]
        · rw [if_neg (by decide), if_neg (by decide)]
          refine ⟨_, _, _, _, _, _, _, _, rfl, rfl, rfl, ?_⟩
          rw [uk.2]
      · rw [if_pos (b01_0.mpr c2)]
        by_cases c4 : x2.toInt < 0
        · rw [if_pos c4]
          exact ⟨_, _, _, _, _, _, _, _, rfl, rfl, rfl, by decide, by decide⟩
        · rw [if_neg c4, if_neg (by omega)]
          exact ⟨_, _, _, _, _, _, _, _, rfl, rfl, rfl, by decide, by decide⟩
    · rw [s7_be_f c1, if_pos (b01_0.mpr c1)]
      exact ⟨_, _, _, _, _, _, _, _, rfl, rfl, rfl, by decide, by decide⟩
  · rw [s7_rb_f (a := 0) (b := 2) c3, if_pos (b01_0.mpr c3)]
    by_cases c1 : 0 ≤ x1.toInt ∧ x1.toInt ≤ 16384
    · rw [if_neg (fun q => b01_0.mp q c1)]
      exact ⟨_, _, _, _, _, _, _, _, rfl, rfl, rfl, by decide, by decide⟩
    · rw [if_pos (b01_0.mpr c1)]
      exact ⟨_, _, _, _, _, _, _, _, rfl, rfl, rfl, by decide, by decide⟩
/-! ===== sums, counts, extremes over the runs ===== -/
def lns (F : Int → Int) (L : Int) (z : Nat) : Bool := decide (F z = L)
theorem cnt_run {p : Nat → Bool} {a : Nat} {b : Bool} : ∀ m, (∀ z, a ≤ z → z < a + m → p z = b) → cnt p (a + m) = cnt p a + if b = true then m else 0 := by
  intro m
  induction m with
  | zero => intro _; cases b <;> rfl
  | succ m ih =>
    intro h
    rw [← Nat.add_assoc, cnt_succ, ih (fun z h1 h2 => h z h1 (by omega)), h (a + m) (by omega) (by omega)]
    cases b
    · rfl
    · simp only [if_true]; omega
theorem Runs.cnt {F : Int → Int} {x : Int} {c : Nat} {la le : Nat → Int} (h : Runs F x c la le) (L : Int) {k : Nat} (hk : k < c) : cnt (lns F L) (fi la (k + 1)).toNat = cnt (lns F L) (fi la k).toNat + if le k = L then (la k - fi la k + 1).toNat else 0 := by
  have hb := h.bds hk
  have h3 := (h.2.2.1 k hk).2
  obtain ⟨m, hm⟩ : ∃ m : Nat, (fi la (k + 1)).toNat = (fi la k).toNat + m := ⟨(la k - fi la k + 1).toNat, by rw [fi_succ]; omega⟩
  have hm' : (la k - fi la k + 1).toNat = m := by rw [fi_succ] at hm; omega
  rw [hm, hm', cnt_run (b := decide (le k = L)) m]
  · congr 1
    by_cases c : le k = L
    · rw [if_pos c, if_pos (decide_eq_true c)]
    · rw [if_neg c, if_neg (fun q => c (of_decide_eq_true q))]
  · intro z hz hz2
    unfold lns
    rw [h3 z (by omega) (by omega)]
theorem s1_positionsOf {F : Int → Int} {c : Nat} {la le : Nat → Int} (hR : Runs F 256 c la le) (hF : ∀ z, -1 ≤ F z ∧ F z ≤ 100) {L : Int} (L0 : -1 ≤ L) (L1 : L ≤ 100) : fX1_positionsOf (iN c) (fun i => iN (la i)) (fun i => iN (le i)) (iN L) = some (iN (cnt (lns F L) 256)) := by
  have hc := hR.cle
  have e256 : cnt (lns F L) 256 = cnt (lns F L) (fi la c).toNat := by rw [hR.fic]; rfl
  rw [e256]
  unfold fX1_positionsOf
  refine lp_for _ (fun k => (iN (cnt (lns F L) (fi la k).toNat : Nat), iN (k : Int))) c _ ?_ ?_ (fuel_ge (by omega))
  · intro k hk
    have hb := hR.bds hk
    have h3 := (hR.2.2.1 k hk).2
    have hF1 := hF (fi la k)
    rw [h3 _ (Int.le_refl _) hb.2.1] at hF1
    show bX1_positionsOf_4 _ _ _ _ (iN (cnt (lns F L) (fi la k).toNat : Nat)) (iN (k : Int)) = _
    unfold bX1_positionsOf_4
    rw [if_neg (by rw [iN_le (by omega) (by omega) (by omega) (by omega)]; omega), s1_leader le k (by omega), Option.bind_some, s1_last la k (by omega), s1_first la k (by omega), hR.cnt L hk]
    simp only [Option.bind_some, nm, iN_succ]
    by_cases c1 : le k = L
    · rw [if_pos (by rw [c1]), if_pos c1, show (1 : Int32) = iN 1 from rfl, iN_sub, iN_add, iN_add]
      congr 4
      omega
    · rw [if_neg (by rw [iN_eq (by omega) (by omega) (by omega) (by omega)]; exact c1), if_neg c1]; rfl
  · show bX1_positionsOf_4 _ _ _ _ (iN (cnt (lns F L) (fi la c).toNat : Nat)) (iN (c : Int)) = _
    unfold bX1_positionsOf_4
    rw [if_pos (by rw [iN_le (by omega) (by omega) (by omega) (by omega)]; omega)]
    rfl
