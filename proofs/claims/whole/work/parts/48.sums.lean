/-! ===== visible, hidden, sum, extreme ===== -/
/-- the same as Option.bind_some and so on, but never by unfolding: what they lead to may be a loop -/
theorem qb {α β : Type} {x : α} {f : α → Option β} : Option.bind (some x) f = f x := by rw [Option.bind_some]
theorem qt {α β : Type} {v : β} {k : β → Option α} {e : Nat → Option α} : tx (Sum.inl v : β ⊕ Nat) k e = k v := by unfold tx; rfl
theorem qe {α β : Type} {n : Nat} {k : β → Option α} {e : Nat → Option α} : tx (Sum.inr n : β ⊕ Nat) k e = e n := by unfold tx; rfl
theorem q2 {T0 T1 α : Type} {a0 : T0} {a1 : T1} {k : T0 → T1 → Option α} : up2 (a0, a1) k = k a0 a1 := by unfold up2; rfl
theorem q3 {T0 T1 T2 α : Type} {a0 : T0} {a1 : T1} {a2 : T2} {k : T0 → T1 → T2 → Option α} : up3 (a0, a1, a2) k = k a0 a1 a2 := by unfold up3; rfl
theorem q4 {T0 T1 T2 T3 α : Type} {a0 : T0} {a1 : T1} {a2 : T2} {a3 : T3} {k : T0 → T1 → T2 → T3 → Option α} : up4 (a0, a1, a2, a3) k = k a0 a1 a2 a3 := by unfold up4; rfl
theorem fst_rng {g : Nat → Int} {n : Nat} (hn : n ≤ 40) (t : Int) (z : Int) : -1 ≤ (fun x => fst g x t n) z ∧ (fun x => fst g x t n) z ≤ 100 := by
  have := fst_bd g z t n
  show -1 ≤ fst g z t n ∧ fst g z t n ≤ 100
  omega
theorem m8_visibleAt {g : Nat → Int} {n : Nat} (hg : g 0 = n) (H : SegOK (sh g) n) {t L : Int} (t0 : 0 ≤ t) (t1 : t ≤ 16384) (L0 : -1 ≤ L) (L1 : L ≤ 100) : fX8_visibleAt (fun i => iN (g i)) (iN L) (iN t) = some (iN (cnt (lns (fun x => fst (sh g) x t n) L) 256)) := by
  have hn := H.1
  unfold fX8_visibleAt
  refine lp_for _ (fun k => (iN (cnt (lns (fun x => fst (sh g) x t n) L) k : Nat), iN (k : Int))) 256 _ ?_ ?_ (fuel_ge (by omega))
  · intro k hk
    have hb := fst_bd (sh g) k t n
    show bX8_visibleAt_5 _ _ _ (iN (cnt (lns (fun x => fst (sh g) x t n) L) k : Nat)) (iN (k : Int)) = _
    unfold bX8_visibleAt_5
    rw [if_neg (by rw [show (255 : Int32) = iN 255 from rfl, iN_lt (by omega) (by omega) (by omega) (by omega)]; omega), m8_firstAt hg H (by omega) (by omega) t0 t1, Option.bind_some, cnt_succ]
    simp only [nm, iN_succ]
    have ec : lns (fun x => fst (sh g) x t n) L k = true ↔ fst (sh g) k t n = L := decide_eq_true_iff
    by_cases c : fst (sh g) k t n = L
    · rw [if_pos (by rw [c]), if_pos (ec.mpr c)]
    · rw [if_neg (by rw [iN_eq (by omega) (by omega) (by omega) (by omega)]; exact c), if_neg (fun q => c (ec.mp q)), show (0 : Int32) = iN 0 from rfl, iN_add]; rfl
  · show bX8_visibleAt_5 _ _ _ (iN (cnt (lns (fun x => fst (sh g) x t n) L) 256 : Nat)) (iN ((256 : Nat) : Int)) = _
    unfold bX8_visibleAt_5
    rw [if_pos (by decide)]
    rfl
/-- promise 16: visible -/
theorem r_visible {g g8 : Nat → Int} {n : Nat} (hg : g8 0 = n) (H : SegOK g n) (hE : EqOn n g (sh g8)) (z c0 : Int32) (l0 d0 : Nat → Int32) (x1 x2 : Int32) : ∃ r sz ls ld b c, fX7_visible (iN n) (fun i => iN (g i)) z l0 d0 x1 x2 = some (r, sz, ls, ld) ∧ fX8_visible c0 (fun i => iN (g8 i)) x1 x2 = some (b, c) ∧ agrI (fun e => if e = 3 then 1 else if e = 1 then 2 else 0) r b c := by
  have H8 := H.eqOn hE
  have hn := H.1
  unfold fX7_visible fX8_visible
  rw [m8_isSegment hg hn, Option.bind_some]
  by_cases c1 : 0 ≤ x1.toInt ∧ x1.toInt < n
  · rw [s7_rs_t hn c1, if_neg (fun q => b01_0.mp q c1), m8_isTick]
    simp only [Option.bind_some, tx]
    by_cases c2 : 0 ≤ x2.toInt ∧ x2.toInt ≤ 16384
    · obtain ⟨sz, ls, ld, e, c, la, le, rfl, rfl, rfl, hR⟩ := s7_be H c2 z l0 d0
      rw [e, if_neg (fun q => b01_0.mp q c2)]
      simp only [Option.bind_some, up4]
      have e1 := s1_positionsOf hR (fst_rng hn _) (L := x1.toInt) (by omega) (by omega)
      have e2 := m8_visibleAt hg H8 (t := x2.toInt) (L := x1.toInt) c2.1 c2.2 (by omega) (by omega)
      rw [← iN_of x1] at e1
      rw [← iN_of x1, ← iN_of x2] at e2
      rw [e1, e2, fst_fun hE]
      exact ⟨_, _, _, _, _, _, rfl, rfl, rfl, rfl⟩
    · rw [s7_be_f c2, if_pos (b01_0.mpr c2)]
      exact ⟨_, _, _, _, _, _, rfl, rfl, rfl, by decide, by decide⟩
  · rw [s7_rs_f hn c1, if_pos (b01_0.mpr c1)]
    exact ⟨_, _, _, _, _, _, rfl, rfl, rfl, by decide, by decide⟩
/-- live, but nowhere the first -/
def hdn (N : Nat) (g : Nat → Int) (F : Int → Int) (t : Int) (i : Nat) : Bool := decide (Liv g i t ∧ cnt (lns F i) N = 0)
theorem hdn_iff {N : Nat} {g : Nat → Int} {F : Int → Int} {t : Int} {i : Nat} : hdn N g F t i = true ↔ (Liv g i t ∧ cnt (lns F i) N = 0) := decide_eq_true_iff
theorem m8_hiddenIn {N : Nat} (hN : N = 256) {F : Int → Int} {c : Nat} {p : Nat → Int} (hR : Runs F 256 c (fun k => p (3 * k + 1)) (fun k => p (3 * k + 2))) (hF : ∀ z, -1 ≤ F z ∧ F z ≤ 100) {i : Nat} (hi : i ≤ 40) {B : Prop} [iB : Decidable B] (l2 : Int) : lp (fun q => bX8_hidden_48 (iN c) (fun i => iN (p i)) (iN l2) (iN (i : Int)) q.1 q.2) fuel ((if B then (1 : Int32) else 0), (0 : Int32)) = some (Sum.inl (iN (l2 + if B ∧ cnt (lns F i) N = 0 then 1 else 0), iN ((i + 1 : Nat) : Int))) := by
  have hc := hR.cle
  have e256 : cnt (lns F i) N = cnt (lns F i) (fi (fun k => p (3 * k + 1)) c).toNat := by rw [hR.fic, hN]; rfl
  rw [e256]
  have e0 : (if B then (1 : Int32) else 0) = if B ∧ cnt (lns F i) (fi (fun k => p (3 * k + 1)) 0).toNat = 0 then (1 : Int32) else 0 := by
    by_cases h : B
    · rw [if_pos h, if_pos ⟨h, rfl⟩]
    · rw [if_neg h, if_neg (fun q => h q.1)]
  rw [e0]
  refine lp_for _ (fun k => ((if B ∧ cnt (lns F i) (fi (fun k => p (3 * k + 1)) k).toNat = 0 then (1 : Int32) else 0), iN (k : Int))) c _ ?_ ?_ (fuel_ge (by omega))
  · intro k hk
    have hb := hR.bds hk
    have h3 := (hR.2.2.1 k hk).2
    have hF1 := hF (fi (fun k => p (3 * k + 1)) k)
    rw [h3 _ (Int.le_refl _) hb.2.1] at hF1
    have hF1' : -1 ≤ p (3 * k + 2) ∧ p (3 * k + 2) ≤ 100 := hF1
    have hcn := hR.cnt (i : Int) hk
    show bX8_hidden_48 _ _ _ _ (if B ∧ cnt (lns F i) (fi (fun k => p (3 * k + 1)) k).toNat = 0 then (1 : Int32) else 0) (iN (k : Int)) = _
    unfold bX8_hidden_48
    rw [if_neg (by rw [iN_le (by omega) (by omega) (by omega) (by omega)]; omega), hcn]
    simp only [nm, iN_succ]
    by_cases c1 : B ∧ cnt (lns F i) (fi (fun k => p (3 * k + 1)) k).toNat = 0
    · rw [if_pos c1, if_neg (show ¬ (1 : Int32) = 0 by decide), show (3 : Int32) = iN 3 from rfl, iN_mul, show iN (3 * (k : Int)) + (2 : Int32) = iN (3 * k + 2) from iN_add _ 2, rd_iN (by omega) (by omega) (by omega), show (3 * (k : Int) + 2).toNat = 3 * k + 2 by omega]
      by_cases c2 : p (3 * k + 2) = i
      · rw [if_pos (by rw [c2]), if_pos c2, if_neg (fun q => by have := q.2; omega)]
      · rw [if_neg (by rw [iN_eq (by omega) (by omega) (by omega) (by omega)]; exact c2), if_neg c2, if_pos ⟨c1.1, by omega⟩]
    · rw [if_neg c1, if_pos rfl, if_neg (fun q => c1 ⟨q.1, by have := q.2; omega⟩)]
  · show bX8_hidden_48 _ _ _ _ (if B ∧ cnt (lns F i) (fi (fun k => p (3 * k + 1)) c).toNat = 0 then (1 : Int32) else 0) (iN (c : Int)) = _
    unfold bX8_hidden_48
    rw [if_pos (by rw [iN_le (by omega) (by omega) (by omega) (by omega)]; omega)]
    simp only [nm, iN_succ]
    by_cases c1 : B ∧ cnt (lns F i) (fi (fun k => p (3 * k + 1)) c).toNat = 0
    · rw [if_pos c1, if_neg (show ¬ (1 : Int32) = 0 by decide), if_pos c1, show (1 : Int32) = iN 1 from rfl, iN_add]; rfl
    · rw [if_neg c1, if_pos rfl, if_neg c1, show (0 : Int32) = iN 0 from rfl, iN_add]; rfl
theorem s7_hiddenLoop {N : Nat} (hN : N = 256) {g : Nat → Int} {n : Nat} (H : SegOK g n) {t : Int} (t0 : 0 ≤ t) (t1 : t ≤ 16384) {c : Nat} {la le : Nat → Int} (hR : Runs (fun x => fst g x t n) 256 c la le) : lp (fun q => bX7_hidden_18 (iN n) (fun i => iN (g i)) (iN t) (iN c) (fun i => iN (la i)) (fun i => iN (le i)) q.1 q.2) fuel ((0 : Int32), (0 : Int32)) = some (Sum.inl (iN (cnt (hdn N g (fun x => fst g x t n) t) n)), iN c, (fun i => iN (la i)), (fun i => iN (le i))) := by
  have hn := H.1
  have hp : ∀ L : Int, -1 ≤ L → L ≤ 100 → fX1_positionsOf (iN c) (fun i => iN (la i)) (fun i => iN (le i)) (iN L) = some (iN (cnt (lns (fun x => fst g x t n) L) N)) := by
    intro L h1 h2
    rw [hN]
    exact s1_positionsOf hR (fst_rng hn _) h1 h2
  refine lp_for _ (fun i => (iN (cnt (hdn N g (fun x => fst g x t n) t) i : Nat), iN (i : Int))) n _ ?_ ?_ (fuel_ge (by omega))
  · intro i hi
    show bX7_hidden_18 _ _ _ _ _ _ (iN (cnt (hdn N g (fun x => fst g x t n) t) i : Nat)) (iN (i : Int)) = _
    unfold bX7_hidden_18
    have hcl := cnt_le (lns (fun x => fst g x t n) i) N
    rw [if_neg (by rw [iN_le (by omega) (by omega) (by omega) (by omega)]; omega), s6_isLive H hi t0 t1, hp i (by omega) (by omega), cnt_succ (hdn N g (fun x => fst g x t n) t)]
    simp only [Option.bind_some, nm, iN_succ, b01_0]
    by_cases c2 : Liv g i t
    · rw [if_neg (not_not_intro c2)]
      by_cases c3 : cnt (lns (fun x => fst g x t n) i) N = 0
      · rw [if_pos (by rw [c3]; rfl), if_pos (hdn_iff.mpr ⟨c2, c3⟩)]
      · rw [if_neg (by rw [show (0 : Int32) = iN 0 from rfl, iN_eq (by omega) (by omega) (by omega) (by omega)]; omega), if_neg (fun q => c3 (hdn_iff.mp q).2)]; rfl
    · rw [if_pos c2, if_neg (fun q => c2 (hdn_iff.mp q).1)]; rfl
  · show bX7_hidden_18 _ _ _ _ _ _ (iN (cnt (hdn N g (fun x => fst g x t n) t) n : Nat)) (iN (n : Int)) = _
    unfold bX7_hidden_18
    rw [if_pos (by rw [iN_le (by omega) (by omega) (by omega) (by omega)]; omega)]
    rfl
theorem m8_hiddenLoop {N : Nat} (hN : N = 256) {g8 : Nat → Int} {n : Nat} (hg : g8 0 = n) (H8 : SegOK (sh g8) n) {t : Int} (t0 : 0 ≤ t) (t1 : t ≤ 16384) {c8 : Nat} {p : Nat → Int} (hR8 : Runs (fun x => fst (sh g8) x t n) 256 c8 (fun k => p (3 * k + 1)) (fun k => p (3 * k + 2))) : lp (fun q => bX8_hidden_27 (fun i => iN (g8 i)) (iN t) (0 : Int32) (iN c8) (fun i => iN (p i)) q.1 q.2) fuel ((0 : Int32), (0 : Int32)) = some (iN (cnt (hdn N (sh g8) (fun x => fst (sh g8) x t n) t) n), (0 : Int32), iN c8, (fun i => iN (p i))) := by
  have hn := H8.1
  refine lp_for _ (fun i => (iN (cnt (hdn N (sh g8) (fun x => fst (sh g8) x t n) t) i : Nat), iN (i : Int))) n _ ?_ ?_ (fuel_ge (by omega))
  · intro i hi
    show bX8_hidden_27 _ _ _ _ _ (iN (cnt (hdn N (sh g8) (fun x => fst (sh g8) x t n) t) i : Nat)) (iN (i : Int)) = _
    unfold bX8_hidden_27
    rw [show (0 : Int32) = iN 0 from rfl, rd_iN (by omega) (by omega) (by omega)]
    simp only [show (0 : Int).toNat = 0 from rfl, hg]
    rw [if_neg (by rw [iN_le (by omega) (by omega) (by omega) (by omega)]; omega), m8_isLive H8 hi t0 t1, Option.bind_some, show (iN 0 : Int32) = 0 from rfl, m8_hiddenIn hN hR8 (fst_rng hn _) (by omega), cnt_succ (hdn N (sh g8) (fun x => fst (sh g8) x t n) t)]
    have e : ((cnt (hdn N (sh g8) (fun x => fst (sh g8) x t n) t) i : Nat) : Int) + (if Liv (sh g8) i t ∧ cnt (lns (fun x => fst (sh g8) x t n) i) N = 0 then 1 else 0) = ((cnt (hdn N (sh g8) (fun x => fst (sh g8) x t n) t) i + (if hdn N (sh g8) (fun x => fst (sh g8) x t n) t i = true then 1 else 0) : Nat) : Int) := by
      by_cases c2 : hdn N (sh g8) (fun x => fst (sh g8) x t n) t i = true
      · rw [if_pos c2, if_pos (hdn_iff.mp c2)]; omega
      · rw [if_neg c2, if_neg (fun q => c2 (hdn_iff.mpr q))]; omega
    rw [e]
  · show bX8_hidden_27 _ _ _ _ _ (iN (cnt (hdn N (sh g8) (fun x => fst (sh g8) x t n) t) n : Nat)) (iN (n : Int)) = _
    unfold bX8_hidden_27
    rw [show (0 : Int32) = iN 0 from rfl, rd_iN (by omega) (by omega) (by omega)]
    simp only [show (0 : Int).toNat = 0 from rfl, hg]
    rw [if_pos (by rw [iN_le (by omega) (by omega) (by omega) (by omega)]; omega)]
    rfl
theorem hdn_congr {N n : Nat} {g g' : Nat → Int} (h : EqOn n g g') (F : Int → Int) {t : Int} {j : Nat} (hj : j < n) : hdn N g F t j = hdn N g' F t j := by
  unfold hdn
  exact decide_eq_decide.mpr (and_congr (h.liv hj t) Iff.rfl)
/-- promise 16: hidden -/
theorem r_hidden {g g8 : Nat → Int} {n : Nat} (hg : g8 0 = n) (H : SegOK g n) (hE : EqOn n g (sh g8)) (z z8 c0 : Int32) (l0 d0 p0 : Nat → Int32) (x1 : Int32) : ∃ r sz ls ld b c pc ps, fX7_hidden (iN n) (fun i => iN (g i)) z l0 d0 x1 = some (r, sz, ls, ld) ∧ fX8_hidden c0 z8 (fun i => iN (g8 i)) p0 x1 = some (b, c, pc, ps) ∧ agrI (fun e => if e = 1 then 1 else 0) r b c := by
  have H8 := H.eqOn hE
  unfold fX7_hidden fX8_hidden
  rw [m8_isTick, Option.bind_some]
  by_cases c1 : 0 ≤ x1.toInt ∧ x1.toInt ≤ 16384
  · obtain ⟨sz, ls, ld, e, c, la, le, rfl, rfl, rfl, hR⟩ := s7_be H c1 z l0 d0
    obtain ⟨⟨pc, ps⟩, e8, c8, p, h1, h2, hR8, hf⟩ := m8_layPieces hg H8 c1.1 c1.2 z8 p0
    change pc = _ at h1
    change ps = _ at h2
    subst h1 h2
    rw [e, if_neg (fun q => b01_0.mp q c1)]
    rw [iN_of x1]
    generalize x1.toInt = t at *
    rw [e8, qb, q4, qt, qb, q2]
    obtain ⟨N, hN⟩ : ∃ N : Nat, N = 256 := ⟨_, rfl⟩
    rw [s7_hiddenLoop hN H c1.1 c1.2 hR, m8_hiddenLoop hN hg H8 c1.1 c1.2 hR8, fst_fun hE, cnt_congr (fun j hj => hdn_congr hE (fun x => fst (sh g8) x t n) hj)]
    exact ⟨_, _, _, _, _, _, _, _, rfl, rfl, rfl, rfl⟩
  · rw [s7_be_f c1, if_pos (b01_0.mpr c1)]
    exact ⟨_, _, _, _, _, _, _, _, rfl, rfl, rfl, by decide, by decide⟩
/-- sums over positions -/
def tot (V : Int → Int) : Nat → Int
  | 0 => 0
  | k + 1 => tot V k + V k
theorem tot_const {V : Int → Int} {a : Nat} : ∀ m : Nat, (∀ z : Int, a ≤ z → z < a + m → V z = 0) → tot V (a + m) = tot V a := by
  intro m
  induction m with
  | zero => intro _; rfl
  | succ m ih =>
    intro h
    rw [← Nat.add_assoc]
    show tot V (a + m) + V ((a + m : Nat) : Int) = _
    rw [ih (fun z h1 h2 => h z h1 (by omega)), h _ (by omega) (by omega), Int.add_zero]
theorem tot_zero {V : Int → Int} {a b : Int} (h0 : 0 ≤ a) (h1 : a ≤ b) (h : ∀ z : Int, a ≤ z → z < b → V z = 0) : tot V b.toNat = tot V a.toNat := by
  obtain ⟨m, hm⟩ : ∃ m : Nat, b.toNat = a.toNat + m := ⟨b.toNat - a.toNat, by omega⟩
  rw [hm]
  exact tot_const m (fun z h1 h2 => h z (by omega) (by omega))
theorem tot_lin {V : Int → Int} {a : Nat} {A B : Int} : ∀ m : Nat, (∀ z : Int, a ≤ z → z < a + m → V z = A * z + B) → 2 * tot V (a + m) = 2 * tot V a + m * ((A * a + B) + (A * (a + m - 1) + B)) := by
  intro m
  induction m with
  | zero => intro _; show 2 * tot V a = _; simp
  | succ m ih =>
    intro h
    rw [← Nat.add_assoc]
    show 2 * (tot V (a + m) + V ((a + m : Nat) : Int)) = _
    have e := ih (fun z h1 h2 => h z h1 (by omega))
    rw [h _ (by omega) (by omega), Int.mul_add, e]
    have e1 : ((m + 1 : Nat) : Int) = m + 1 := by omega
    have e2 : ((a + m : Nat) : Int) = a + m := by omega
    rw [e1, e2]
    grind
theorem tot_line {V : Int → Int} {a b A B : Int} (h0 : 0 ≤ a) (h1 : a ≤ b + 1) (h : ∀ z : Int, a ≤ z → z ≤ b → V z = A * z + B) : 2 * (tot V (b + 1).toNat - tot V a.toNat) = (b - a + 1) * ((A * a + B) + (A * b + B)) := by
  obtain ⟨m, hm⟩ : ∃ m : Nat, (b + 1).toNat = a.toNat + m := ⟨(b + 1).toNat - a.toNat, by omega⟩
  have e := tot_lin (V := V) (a := a.toNat) (A := A) (B := B) m (fun z h1 h2 => h z (by omega) (by omega))
  have ea : (a.toNat : Int) = a := by omega
  have eb : b = a + m - 1 := by omega
  rw [hm, Int.mul_sub, e, ea, eb, show a + (m : Int) - 1 - a + 1 = m by omega]
  omega
theorem lI_div2 {s : Int} (h1 : -1000000000000 ≤ s) (h2 : s ≤ 1000000000000) : lI (2 * s) / (2 : Int64) = lI s := by
  rw [show (2 : Int64) = lI 2 from rfl, ← Int64.toInt_inj, Int64.toInt_div, lI_toInt (by omega) (by omega), lI_toInt (by omega) (by omega), lI_toInt (by omega) (by omega), Int.mul_tdiv_cancel_left _ (by omega)]
  exact Int.bmod_eq_of_le (by omega) (by omega)
/-- the value that stands at z, within a and b -/
def vAt (g : Nat → Int) (F : Int → Int) (a b z : Int) : Int := if a ≤ z ∧ z ≤ b ∧ ¬ F z = -1 then Val g (F z).toNat z else 0
theorem s1_sumBetween {N : Nat} (hN : N = 256) {g : Nat → Int} {n : Nat} (H : SegOK g n) {F : Int → Int} (hF : ∀ z, -1 ≤ F z ∧ F z < n) {c : Nat} {la le : Nat → Int} (hR : Runs F 256 c la le) {a b : Int} (a0 : 0 ≤ a) (ab : a ≤ b) (b1 : b ≤ 255) : fX1_sumBetween (iN c) (fun i => iN (la i)) (fun i => iN (le i)) (fun i => iN (g i)) (iN a) (iN b) = some (lI (tot (vAt g F a b) N)) := by
  have hn := H.1
  have hc := hR.cle
  have e256 : tot (vAt g F a b) N = tot (vAt g F a b) (fi la c).toNat := by rw [hR.fic, hN]; rfl
  rw [e256]
  unfold fX1_sumBetween
  refine lp_for _ (fun k => (lI (tot (vAt g F a b) (fi la k).toNat), iN (k : Int))) c _ ?_ ?_ (fuel_ge (by omega))
  · intro k hk
    have hb := hR.bds hk
    have h3 := (hR.2.2.1 k hk).2
    have hF1 := hF (fi la k)
    rw [h3 _ (Int.le_refl _) hb.2.1] at hF1
    show bX1_sumBetween_6 _ _ _ _ _ _ (lI (tot (vAt g F a b) (fi la k).toNat)) (iN (k : Int)) = _
    unfold bX1_sumBetween_6
    rw [if_neg (by rw [iN_le (by omega) (by omega) (by omega) (by omega)]; omega), s1_first la k (by omega), s1_last la k (by omega), s1_leader le k (by omega)]
    simp only [Option.bind_some, nm, iN_succ, iN_ite, iN_lt (show -2147483648 ≤ a by omega) (by omega) (show -2147483648 ≤ fi la k by omega) (by omega), iN_lt (show -2147483648 ≤ la k by omega) (by omega) (show -2147483648 ≤ b by omega) (by omega)]
    have hfr : ∃ f : Int, (if a < fi la k then fi la k else a) = f ∧ a ≤ f ∧ fi la k ≤ f ∧ (f = a ∨ f = fi la k) := ⟨_, rfl, by split <;> omega, by split <;> omega, by split <;> omega⟩
    have hto : ∃ u : Int, (if la k < b then la k else b) = u ∧ u ≤ b ∧ u ≤ la k ∧ (u = b ∨ u = la k) := ⟨_, rfl, by split <;> omega, by split <;> omega, by split <;> omega⟩
    obtain ⟨f, ef, f1, f2, f3⟩ := hfr
    obtain ⟨u, eu, u1, u2, u3⟩ := hto
    rw [ef, eu, fi_succ]
    have zero : (∀ z, fi la k ≤ z → z < la k + 1 → vAt g F a b z = 0) → tot (vAt g F a b) (la k + 1).toNat = tot (vAt g F a b) (fi la k).toNat := fun h => tot_zero (by omega) (by omega) h
    by_cases c1 : u < f
    · rw [if_pos (by rw [iN_lt (by omega) (by omega) (by omega) (by omega)]; exact c1), zero (fun z hz hz2 => if_neg (by omega))]
    · rw [if_neg (by rw [iN_lt (by omega) (by omega) (by omega) (by omega)]; exact c1)]
      by_cases c2 : le k = -1
      · rw [if_pos (by rw [c2]; rfl), zero (fun z hz hz2 => if_neg (fun q => q.2.2 (by rw [h3 z hz (by omega)]; exact c2)))]
      · rw [if_neg (by rw [show (-1 : Int32) = iN (-1) from rfl, iN_eq (by omega) (by omega) (by omega) (by omega)]; exact c2)]
        obtain ⟨m, hm⟩ : ∃ m : Nat, le k = m := ⟨(le k).toNat, by omega⟩
        have v1 := Val_bd H (show m < n by omega) (x := f) (by omega) (by omega)
        have v2 := Val_bd H (show m < n by omega) (x := u) (by omega) (by omega)
        rw [hm, s6_height g m (by omega), s6_height g m (by omega)]
        simp only [Option.bind_some, iN_l (show -2147483648 ≤ Val g m f by omega) (by omega), iN_l (show -2147483648 ≤ Val g m u by omega) (by omega), iN_sub, show ∀ y, iN y + (1 : Int32) = iN (y + 1) from fun y => iN_add y 1, iN_l (show -2147483648 ≤ u - f + 1 by omega) (by omega), lI_add, lI_mul]
        have z1 : tot (vAt g F a b) f.toNat = tot (vAt g F a b) (fi la k).toNat := tot_zero (by omega) (by omega) (fun z hz hz2 => if_neg (by omega))
        have z2 : tot (vAt g F a b) (la k + 1).toNat = tot (vAt g F a b) (u + 1).toNat := tot_zero (by omega) (by omega) (fun z hz hz2 => if_neg (by omega))
        have z3 : 2 * (tot (vAt g F a b) (u + 1).toNat - tot (vAt g F a b) f.toNat) = (u - f + 1) * (Val g m f + Val g m u) := tot_line (by omega) (by omega) (fun z hz hz2 => by
          have e := h3 z (by omega) (by omega)
          unfold vAt
          rw [e, hm, if_pos ⟨by omega, by omega, by omega⟩]
          rfl)
        have hbd := mul_bd (a := Val g m f + Val g m u) (A := 2510000) (x := u - f + 1) (X := 256) (by omega) (by omega) (by omega) (by omega) (by omega)
        rw [Int.mul_comm (Val g m f + Val g m u) (u - f + 1)] at hbd
        rw [dvl_n (by decide), ← z3, lI_div2 (by omega) (by omega), lI_add, z2, ← z1, show tot (vAt g F a b) f.toNat + (tot (vAt g F a b) (u + 1).toNat - tot (vAt g F a b) f.toNat) = tot (vAt g F a b) (u + 1).toNat by omega]
  · show bX1_sumBetween_6 _ _ _ _ _ _ (lI (tot (vAt g F a b) (fi la c).toNat)) (iN (c : Int)) = _
    unfold bX1_sumBetween_6
    rw [if_pos (by rw [iN_le (by omega) (by omega) (by omega) (by omega)]; omega)]
    rfl
theorem m8_sumOf {N : Nat} (hN : N = 256) {g : Nat → Int} {n : Nat} (hg : g 0 = n) (H : SegOK (sh g) n) {t a b : Int} (t0 : 0 ≤ t) (t1 : t ≤ 16384) (a0 : 0 ≤ a) (ab : a ≤ b) (b1 : b ≤ 255) : fX8_sumOf (fun i => iN (g i)) (iN t) (iN a) (iN b) = some (lI (tot (vAt (sh g) (fun x => fst (sh g) x t n) a b) N)) := by
  have hn := H.1
  generalize eV : vAt (sh g) (fun x => fst (sh g) x t n) a b = V
  have e256 : tot V N = tot V (b + 1).toNat := by
    rw [← eV, show N = (256 : Int).toNat by omega]
    exact tot_zero (b := 256) (by omega) (by omega) (fun z hz hz2 => if_neg (by omega))
  have e0 : tot V a.toNat = 0 := by
    rw [← eV]
    exact tot_zero (a := 0) (by omega) (by omega) (fun z hz hz2 => if_neg (by omega))
  obtain ⟨K, hK⟩ : ∃ K : Nat, b + 1 = a + K := ⟨(b + 1 - a).toNat, by omega⟩
  have h := lp_for (fun q : Int64 × Int32 => bX8_sumOf_6 (fun i => iN (g i)) (iN t) (iN b) q.1 q.2) (fun k => (lI (tot V (a + k).toNat), iN (a + k))) K (lI (tot V N)) ?_ ?_ (fuel_ge (by omega))
  · unfold fX8_sumOf
    rw [show (a + ((0 : Nat) : Int)) = a by omega, e0] at h
    exact h
  · intro k hk
    have hb := fst_bd (sh g) (a + k) t n
    show bX8_sumOf_6 _ _ _ (lI (tot V (a + k).toNat)) (iN (a + k)) = _
    unfold bX8_sumOf_6
    rw [if_neg (by rw [iN_lt (by omega) (by omega) (by omega) (by omega)]; omega), m8_firstAt hg H (by omega) (by omega) t0 t1, Option.bind_some]
    have e1 : (a + ((k + 1 : Nat) : Int)).toNat = (a + k).toNat + 1 := by omega
    have e2 : iN (a + (k : Int)) + (1 : Int32) = iN (a + ((k + 1 : Nat) : Int)) := by rw [show (1 : Int32) = iN 1 from rfl, iN_add]; congr 1; omega
    have e3 : (((a + (k : Int)).toNat : Nat) : Int) = a + k := by omega
    have e4 : tot V ((a + k).toNat + 1) = tot V (a + k).toNat + V (a + k) := by
      show tot V (a + k).toNat + V (((a + (k : Int)).toNat : Nat) : Int) = _
      rw [e3]
    simp only [nm, e2, e1]
    rw [e4]
    by_cases c : fst (sh g) (a + k) t n = -1
    · rw [if_pos (by rw [c]; rfl), show (0 : Int64) = lI 0 from rfl, lI_add, ← eV]
      have : vAt (sh g) (fun x => fst (sh g) x t n) a b (a + k) = 0 := if_neg (fun q => q.2.2 c)
      rw [this]
    · rw [if_neg (by rw [show (-1 : Int32) = iN (-1) from rfl, iN_eq (by omega) (by omega) (by omega) (by omega)]; exact c)]
      obtain ⟨m, hm⟩ : ∃ m : Nat, fst (sh g) (a + k) t n = m := ⟨(fst (sh g) (a + k) t n).toNat, by omega⟩
      have v1 := Val_bd H (show m < n by omega) (x := a + k) (by omega) (by omega)
      rw [hm, m8_valueAt g m (by omega), Option.bind_some, iN_l (by omega) (by omega), lI_add]
      have : V (a + k) = Val (sh g) m (a + k) := by
        rw [← eV]
        show (if a ≤ a + (k : Int) ∧ a + (k : Int) ≤ b ∧ ¬ fst (sh g) (a + k) t n = -1 then Val (sh g) (fst (sh g) (a + k) t n).toNat (a + k) else 0) = _
        rw [hm, if_pos ⟨by omega, by omega, by omega⟩]
        rfl
      rw [this]
  · show bX8_sumOf_6 _ _ _ (lI (tot V (a + K).toNat)) (iN (a + K)) = _
    unfold bX8_sumOf_6
    rw [if_pos (by rw [iN_lt (by omega) (by omega) (by omega) (by omega)]; omega), e256, hK]
    rfl
theorem vAt_eq {n : Nat} {g g' : Nat → Int} (h : EqOn n g g') {F : Int → Int} (hF : ∀ z, -1 ≤ F z ∧ F z < n) (a b : Int) : vAt g F a b = vAt g' F a b := by
  funext z
  unfold vAt
  by_cases c : a ≤ z ∧ z ≤ b ∧ ¬ F z = -1
  · have := hF z
    rw [if_pos c, if_pos c, h.val (show (F z).toNat < n by omega)]
  · rw [if_neg c, if_neg c]
/-- promise 15: sum -/
theorem r_sum {g g8 : Nat → Int} {n : Nat} (hg : g8 0 = n) (H : SegOK g n) (hE : EqOn n g (sh g8)) (z c0 : Int32) (l0 d0 : Nat → Int32) (x1 x2 x3 : Int32) : ∃ r sz ls ld b c, fX7_sum (iN n) (fun i => iN (g i)) z l0 d0 x1 x2 x3 = some (r, sz, ls, ld) ∧ fX8_sum c0 (fun i => iN (g8 i)) x1 x2 x3 = some (b, c) ∧ agrL (fun e => if e = 1 then 1 else 0) r b c := by
  have H8 := H.eqOn hE
  have hn := H.1
  unfold fX7_sum fX8_sum jX8_sum_41
  rw [m8_isTick, m8_isPosition, m8_isPosition]
  simp only [Option.bind_some]
  have e32 : (x3 < x2) = (x3.toInt < x2.toInt) := by rw [Int32.lt_iff_toInt_lt]
  simp only [e32]
  by_cases c3 : 0 ≤ x3.toInt ∧ x3.toInt ≤ 255
  · rw [s7_rb_t (a := 0) (b := 255) c3]
    simp only [Option.bind_some, tx]
    by_cases c2 : 0 ≤ x2.toInt ∧ x2.toInt ≤ x3.toInt
    · rw [s7_rb_t (a := 0) (b := x3) c2]
      simp only [Option.bind_some]
      have c2' : 0 ≤ x2.toInt ∧ x2.toInt ≤ 255 := by omega
      by_cases c1 : 0 ≤ x1.toInt ∧ x1.toInt ≤ 16384
      · obtain ⟨sz, ls, ld, e, c, la, le, rfl, rfl, rfl, hR⟩ := s7_be H c1 z l0 d0
        rw [e, if_neg (fun q => b01_0.mp q c1), if_neg (fun q => b01_0.mp q c2'), if_neg (fun q => b01_0.mp q c3), if_neg (by omega)]
        simp only [Option.bind_some, up4]
        have hF : ∀ z, -1 ≤ (fun x => fst g x x1.toInt n) z ∧ (fun x => fst g x x1.toInt n) z < n := fun z => fst_bd g z x1.toInt n
        obtain ⟨N, hN⟩ : ∃ N : Nat, N = 256 := ⟨_, rfl⟩
        have e1 := s1_sumBetween hN H hF hR c2.1 c2.2 c3.2
        have e2 := m8_sumOf hN hg H8 c1.1 c1.2 c2.1 c2.2 c3.2
        rw [vAt_eq hE hF, fst_fun hE] at e1
        rw [← iN_of x2, ← iN_of x3] at e1
        rw [← iN_of x1, ← iN_of x2, ← iN_of x3] at e2
        rw [e1, e2]
        exact ⟨_, _, _, _, _, _, rfl, rfl, rfl, rfl⟩
      · rw [s7_be_f c1, if_pos (b01_0.mpr c1)]
        exact ⟨_, _, _, _, _, _, rfl, rfl, rfl, by decide, by decide⟩
    · rw [s7_rb_f (a := 0) (b := x3) c2]
      refine ⟨_, _, _, _, (0 : Int64), 1, rfl, ?_, rfl, by decide, by decide⟩
      by_cases c1 : 0 ≤ x1.toInt ∧ x1.toInt ≤ 16384
      · rw [if_neg (fun q => b01_0.mp q c1)]
        by_cases c4 : 0 ≤ x2.toInt ∧ x2.toInt ≤ 255
        · rw [if_neg (fun q => b01_0.mp q c4), if_neg (fun q => b01_0.mp q c3), if_pos (by omega)]; rfl
        · rw [if_pos (b01_0.mpr c4)]; rfl
      · rw [if_pos (b01_0.mpr c1)]; rfl
  · rw [s7_rb_f (a := 0) (b := 255) c3]
    refine ⟨_, _, _, _, (0 : Int64), 1, rfl, ?_, rfl, by decide, by decide⟩
    by_cases c1 : 0 ≤ x1.toInt ∧ x1.toInt ≤ 16384
    · rw [if_neg (fun q => b01_0.mp q c1)]
      by_cases c4 : 0 ≤ x2.toInt ∧ x2.toInt ≤ 255
      · rw [if_neg (fun q => b01_0.mp q c4), if_pos (b01_0.mpr c3)]; rfl
      · rw [if_pos (b01_0.mpr c4)]; rfl
    · rw [if_pos (b01_0.mpr c1)]; rfl
