/-! ===== collect, solve, answer, forget ===== -/
theorem s3_value (g : Nat → Int) (k j : Nat) (hk : k < 30) (hj : j < 6) : fX3_value (fun i => iN (g i)) (iN k) (iN j) = some (iN (g (6 * k + j))) := by
  unfold fX3_value
  rw [nm_v, show (6 : Int32) = iN 6 from rfl, show (0 : Int32) = iN 0 from rfl, show (180 : Int32) = iN 180 from rfl, iN_mul, iN_add, if_neg, if_neg, rd_iN (by omega) (by omega) (by omega)]
  · rw [show ((k : Int) * 6 + (j : Int)).toNat = 6 * k + j by omega]
  · rw [iN_le (by omega) (by omega) (by omega) (by omega)]; omega
  · rw [iN_lt (by omega) (by omega) (by omega) (by omega)]; omega
theorem s3_set (g : Nat → Int) (k j : Nat) (hk : k < 30) (hj : j < 6) (x : Int) : fX3_set (fun i => iN (g i)) (iN k) (iN j) (iN x) = some (fun i => iN (updI g (6 * k + j) x i)) := by
  unfold fX3_set
  rw [nm_v, show (6 : Int32) = iN 6 from rfl, show (0 : Int32) = iN 0 from rfl, show (180 : Int32) = iN 180 from rfl, iN_mul, iN_add, if_neg, if_neg, wr_iN (by omega) (by omega) (by omega)]
  · rw [upd_iN, show ((k : Int) * 6 + (j : Int)).toNat = 6 * k + j by omega]
  · rw [iN_le (by omega) (by omega) (by omega) (by omega)]; omega
  · rw [iN_lt (by omega) (by omega) (by omega) (by omega)]; omega
theorem s3_w0 (g : Nat → Int) (k : Nat) (hk : k < 30) (x : Int) : fX3_set (fun i => iN (g i)) (iN k) (0 : Int32) (iN x) = some (fun i => iN (updI g (6 * k) x i)) := s3_set g k 0 hk (by omega) x
theorem s3_w1 (g : Nat → Int) (k : Nat) (hk : k < 30) (x : Int) : fX3_set (fun i => iN (g i)) (iN k) (1 : Int32) (iN x) = some (fun i => iN (updI g (6 * k + 1) x i)) := s3_set g k 1 hk (by omega) x
theorem s3_w2 (g : Nat → Int) (k : Nat) (hk : k < 30) (x : Int) : fX3_set (fun i => iN (g i)) (iN k) (2 : Int32) (iN x) = some (fun i => iN (updI g (6 * k + 2) x i)) := s3_set g k 2 hk (by omega) x
theorem s3_w3 (g : Nat → Int) (k : Nat) (hk : k < 30) (x : Int) : fX3_set (fun i => iN (g i)) (iN k) (3 : Int32) (iN x) = some (fun i => iN (updI g (6 * k + 3) x i)) := s3_set g k 3 hk (by omega) x
theorem s3_w4 (g : Nat → Int) (k : Nat) (hk : k < 30) (x : Int) : fX3_set (fun i => iN (g i)) (iN k) (4 : Int32) (iN x) = some (fun i => iN (updI g (6 * k + 4) x i)) := s3_set g k 4 hk (by omega) x
theorem s3_w5 (g : Nat → Int) (k : Nat) (hk : k < 30) (x : Int) : fX3_set (fun i => iN (g i)) (iN k) (5 : Int32) (iN x) = some (fun i => iN (updI g (6 * k + 5) x i)) := s3_set g k 5 hk (by omega) x
theorem s3_r0 (g : Nat → Int) (k : Nat) (hk : k < 30) : fX3_value (fun i => iN (g i)) (iN k) (0 : Int32) = some (iN (g (6 * k))) := s3_value g k 0 hk (by omega)
theorem s3_r1 (g : Nat → Int) (k : Nat) (hk : k < 30) : fX3_value (fun i => iN (g i)) (iN k) (1 : Int32) = some (iN (g (6 * k + 1))) := s3_value g k 1 hk (by omega)
theorem s3_r2 (g : Nat → Int) (k : Nat) (hk : k < 30) : fX3_value (fun i => iN (g i)) (iN k) (2 : Int32) = some (iN (g (6 * k + 2))) := s3_value g k 2 hk (by omega)
theorem s3_r4 (g : Nat → Int) (k : Nat) (hk : k < 30) : fX3_value (fun i => iN (g i)) (iN k) (4 : Int32) = some (iN (g (6 * k + 4))) := s3_value g k 4 hk (by omega)
theorem rd_242 {α : Type} (f : Nat → Int) {k : Int32 → Option α} : rd 1634 (fun i => iN (f i)) (242 : Int32) k = k (iN (f 242)) := by
  rw [show (242 : Int32) = iN 242 from rfl, rd_iN (by omega) (by omega) (by omega)]
  rfl
theorem wr_242 {α : Type} (f : Nat → Int) (x : Int) {k : (Nat → Int32) → Option α} : wr 1634 (fun i => iN (f i)) (242 : Int32) (iN x) k = k (fun i => iN (updI f 242 x i)) := by
  rw [show (242 : Int32) = iN 242 from rfl, wr_iN (by omega) (by omega) (by omega), upd_iN]
  rfl
theorem rd_0 {α : Type} (f : Nat → Int) {k : Int32 → Option α} : rd 1634 (fun i => iN (f i)) (0 : Int32) k = k (iN (f 0)) := by
  rw [show (0 : Int32) = iN 0 from rfl, rd_iN (by omega) (by omega) (by omega)]
  rfl
theorem rd_423 {α : Type} (f : Nat → Int) {k : Int32 → Option α} : rd 1634 (fun i => iN (f i)) (423 : Int32) k = k (iN (f 423)) := by
  rw [show (423 : Int32) = iN 423 from rfl, rd_iN (by omega) (by omega) (by omega)]
  rfl
theorem wr_423 {α : Type} (f : Nat → Int) (x : Int) {k : (Nat → Int32) → Option α} : wr 1634 (fun i => iN (f i)) (423 : Int32) (iN x) k = k (fun i => iN (updI f 423 x i)) := by
  rw [show (423 : Int32) = iN 423 from rfl, wr_iN (by omega) (by omega) (by omega), upd_iN]
  rfl
theorem SR.col {mk : Nat} {now : Int} {n : Nat} {g : Nat → Int} {m : Nat} {q mw mz : Nat → Int} {mg : Nat → Nat → Int} {f : Nat → Int} (h : SR mk now n g m q mw mz mg f) (hm : m < 30) {x t : Int} (hx : 0 ≤ x ∧ x ≤ 255) (ht : 0 ≤ t ∧ t ≤ 16384) : SR mk now n g (m + 1) (updI (updI (updI q (6 * m) x) (6 * m + 1) t) (6 * m + 2) 0) mw mz mg (updI (p6 f (243 + 6 * m) x t 0 0 0 0) 242 ((m + 1 : Nat) : Int)) := by
  obtain ⟨hS, ⟨h1, h2, h3⟩, hM⟩ := h
  have lo : ∀ i : Nat, i < 242 ∨ 423 ≤ i → f i = updI (p6 f (243 + 6 * m) x t 0 0 0 0) 242 ((m + 1 : Nat) : Int) i := fun i hi => by
    rw [updI_ne (by omega), p6_ne (by omega)]
  refine ⟨hS.congr (fun i hi => lo i (by omega)), ⟨by omega, updI_eq, fun k hk => ?_⟩, hM.congr (fun i h0 _ => lo i (by omega))⟩
  by_cases c : k = m
  · subst c
    have e0 : updI (updI (updI q (6 * k) x) (6 * k + 1) t) (6 * k + 2) 0 (6 * k) = x := by rw [updI_ne (by omega), updI_ne (by omega), updI_eq]
    have e1 : updI (updI (updI q (6 * k) x) (6 * k + 1) t) (6 * k + 2) 0 (6 * k + 1) = t := by rw [updI_ne (by omega), updI_eq]
    rw [e0, e1, updI_eq, updI_ne (by omega), updI_ne (by omega), updI_ne (by omega), p6_0, p6_1, p6_2]
    exact ⟨⟨rfl, hx⟩, ⟨rfl, ht⟩, ⟨rfl, Or.inl rfl⟩, fun q => absurd q (by decide)⟩
  · have hq : ∀ j : Nat, j < 6 → updI (updI (updI q (6 * m) x) (6 * m + 1) t) (6 * m + 2) 0 (6 * k + j) = q (6 * k + j) := fun j hj => by
      rw [updI_ne (by omega), updI_ne (by omega), updI_ne (by omega)]
    have hf : ∀ j : Nat, j < 6 → updI (p6 f (243 + 6 * m) x t 0 0 0 0) 242 ((m + 1 : Nat) : Int) (243 + 6 * k + j) = f (243 + 6 * k + j) := fun j hj => by
      rw [updI_ne (by omega), p6_ne (by omega)]
    rw [show updI (updI (updI q (6 * m) x) (6 * m + 1) t) (6 * m + 2) 0 (6 * k) = _ from hq 0 (by omega), hq 1 (by omega), hq 2 (by omega), hq 3 (by omega), hq 4 (by omega), hq 5 (by omega), show updI (p6 f (243 + 6 * m) x t 0 0 0 0) 242 ((m + 1 : Nat) : Int) (243 + 6 * k) = _ from hf 0 (by omega), hf 1 (by omega), hf 2 (by omega), hf 3 (by omega), hf 4 (by omega), hf 5 (by omega)]
    exact h3 k (by omega)
theorem m8_query (k : Nat) : fX8_query (iN (k : Int)) = some (iN (243 + 6 * (k : Int))) := by
  unfold fX8_query
  rw [show (6 : Int32) = iN 6 from rfl, iN_mul, show (243 : Int32) = iN 243 from rfl, iN_add]
theorem m8_collectNow {f : Nat → Int} {m : Nat} (hf : f 242 = m) (hm : m < 30) (x t : Int) : fX8_collectNow (fun i => iN (f i)) (iN x) (iN t) = some (iN (m : Int), fun i => iN (updI (p6 f (243 + 6 * m) x t 0 0 0 0) 242 ((m + 1 : Nat) : Int) i)) := by
  unfold fX8_collectNow
  rw [rd_242, hf, m8_query, qb, wr_iN (by omega) (by omega) (by omega), upd_iN, show (243 + 6 * (m : Int)).toNat = 243 + 6 * m by omega, show (1 : Int32) = iN 1 from rfl, iN_add, wr_iN (by omega) (by omega) (by omega), upd_iN, show (243 + 6 * (m : Int) + 1).toNat = 243 + 6 * m + 1 by omega]
  have e2 := p6_upd f (243 + 6 * m) x t 0 0 0 0
  generalize hF : (fun k : Nat => Nat.rec (motive := fun _ => Nat → Int) (updI (updI f (243 + 6 * m) x) (243 + 6 * m + 1) t) (fun j F => updI F (243 + 6 * m + (2 + j)) 0) k) = F
  have F0 : F 0 = updI (updI f (243 + 6 * m) x) (243 + 6 * m + 1) t := by rw [← hF]; rfl
  have FS : ∀ k, F (k + 1) = updI (F k) (243 + 6 * m + (2 + k)) 0 := fun k => by rw [← hF]
  have F4 : F 4 = p6 f (243 + 6 * m) x t 0 0 0 0 := by
    rw [← e2, FS 3, FS 2, FS 1, FS 0, F0]
  rw [← F0]
  refine lp_for _ (fun k => (iN (2 + (k : Int)), fun i => iN (F k i))) 4 _ ?_ ?_ (fuel_ge (by omega))
  · intro k hk
    show bX8_collectNow_31 _ (iN (2 + (k : Int))) (fun i => iN (F k i)) = _
    unfold bX8_collectNow_31
    rw [if_neg (by rw [show (6 : Int32) = iN 6 from rfl, iN_le (by omega) (by omega) (by omega) (by omega)]; omega), iN_add, show (0 : Int32) = iN 0 from rfl, wr_iN (by omega) (by omega) (by omega), upd_iN, show (243 + 6 * (m : Int) + (2 + (k : Int))).toNat = 243 + 6 * m + (2 + k) by omega, nm_v, FS k, show (1 : Int32) = iN 1 from rfl, iN_add, show (2 + (k : Int) + 1) = 2 + ((k + 1 : Nat) : Int) by omega]
  · show bX8_collectNow_31 _ (iN (2 + ((4 : Nat) : Int))) (fun i => iN (F 4 i)) = _
    unfold bX8_collectNow_31
    rw [if_pos (by decide), F4, rd_242, p6_ne (by omega), hf, iN_succ, wr_242, rd_242, updI_eq, show (1 : Int32) = iN 1 from rfl, iN_sub, show ((m + 1 : Nat) : Int) - 1 = m by omega]
    rfl
theorem p_collect {mk : Nat} {now : Int} {n : Nat} {g : Nat → Int} {m : Nat} {q mw mz : Nat → Int} {mg : Nat → Nat → Int} {f : Nat → Int} (hR : SR mk now n g m q mw mz mg f) (x1 x2 : Int32) :
    (∃ (v : Int) (m' : Nat) (q' f' : Nat → Int), fX5_tryCollect (iN (m : Int)) (fun i => iN (q i)) x1 x2 = some (iN v, iN (m' : Int), fun i => iN (q' i)) ∧ (0 ≤ v ∧ v < 2147483648) ∧ fX8_whyNotCollect (fun i => iN (f i)) x1 x2 = some 0 ∧ fX8_collectNow (fun i => iN (f i)) x1 x2 = some (iN v, fun i => iN (f' i)) ∧ SR mk now n g m' q' mw mz mg f')
    ∨ ∃ e c, fX5_tryCollect (iN (m : Int)) (fun i => iN (q i)) x1 x2 = some (e, iN (m : Int), fun i => iN (q i)) ∧ fX8_whyNotCollect (fun i => iN (f i)) x1 x2 = some c ∧ ((e = -2 ∧ c = 1) ∨ (e = -3 ∧ c = 2)) := by
  obtain ⟨hm, hf, hq⟩ := hR.2.1
  unfold fX5_tryCollect fX8_whyNotCollect
  rw [m8_isPlace, qb]
  by_cases c1 : 0 ≤ x1.toInt ∧ x1.toInt ≤ 255
  · rw [ib_t (a := 0) (b := 255) c1, qb, if_neg n10]
    by_cases c2 : 0 ≤ x2.toInt ∧ x2.toInt ≤ 16384
    · rw [ib_t (a := 0) (b := 16384) c2, qb, if_neg n10, if_neg (fun z => b01_0.mp z ⟨c1, c2⟩), rd_242, hf]
      unfold fX3_isFull
      by_cases c3 : m < 30
      · rw [if_pos (by rw [show (30 : Int32) = iN 30 from rfl, iN_lt (by omega) (by omega) (by omega) (by omega)]; omega), zr_0, qb, if_pos rfl, if_neg (by rw [show (30 : Int32) = iN 30 from rfl, iN_eq (by omega) (by omega) (by omega) (by omega)]; omega)]
        refine Or.inl ⟨m, m + 1, _, _, ?_, by omega, rfl, ?_, hR.col c3 (x := x1.toInt) (t := x2.toInt) c1 c2⟩
        · unfold fX3_insert
          have e1 := s3_w0 q m c3 x1.toInt
          have e2 := s3_w1 (updI q (6 * m) x1.toInt) m c3 x2.toInt
          rw [← iN_of] at e1 e2
          rw [e1, qb, e2, qb, show (fX3_set (fun i => iN (updI (updI q (6 * m) x1.toInt) (6 * m + 1) x2.toInt i)) (iN (m : Int)) (2 : Int32) (0 : Int32)) = _ from s3_w2 _ m c3 0, qb, nm_v, iN_succ, qb, q3]
        · have e1 := m8_collectNow hf c3 x1.toInt x2.toInt
          rw [← iN_of, ← iN_of] at e1
          exact e1
      · rw [if_neg (by rw [show (30 : Int32) = iN 30 from rfl, iN_lt (by omega) (by omega) (by omega) (by omega)]; omega), zr_1, qb, if_neg n10, if_pos (by rw [show m = 30 by omega]; rfl)]
        exact Or.inr ⟨_, _, rfl, rfl, Or.inr ⟨rfl, rfl⟩⟩
    · rw [ib_f (a := 0) (b := 16384) c2, qb, if_pos rfl, if_pos (b01_0.mpr (fun z => c2 z.2))]
      exact Or.inr ⟨_, _, rfl, rfl, Or.inl ⟨rfl, rfl⟩⟩
  · rw [ib_f (a := 0) (b := 255) c1, qb, if_pos rfl, if_pos (b01_0.mpr (fun z => c1 z.1))]
    exact Or.inr ⟨_, _, rfl, rfl, Or.inl ⟨rfl, rfl⟩⟩
/-! solve -/
def thB (g : Nat → Int) (x t : Int) (i : Nat) : Bool := decide (The g i x t)
theorem thB_iff {g : Nat → Int} {x t : Int} {i : Nat} : thB g x t i = true ↔ The g i x t := decide_eq_true_iff
theorem cnt_pos {p : Nat → Bool} : ∀ {n : Nat}, 0 < cnt p n ↔ ∃ j, j < n ∧ p j = true := by
  intro n
  induction n with
  | zero => exact ⟨fun h => absurd h (Nat.lt_irrefl 0), fun ⟨j, hj, _⟩ => absurd hj (Nat.not_lt_zero j)⟩
  | succ n ih =>
    rw [cnt_succ]
    by_cases c : p n = true
    · rw [if_pos c]
      exact ⟨fun _ => ⟨n, by omega, c⟩, fun _ => by omega⟩
    · rw [if_neg c, Nat.add_zero, ih]
      constructor
      · rintro ⟨j, hj, h⟩; exact ⟨j, by omega, h⟩
      · rintro ⟨j, hj, h⟩
        by_cases e : j = n
        · subst e; exact absurd h c
        · exact ⟨j, by omega, h⟩
theorem many_first {g : Nat → Int} {n : Nat} {x t : Int} : 0 < cnt (thB g x t) n ↔ ¬ fst g x t n = -1 := by
  rw [cnt_pos]
  constructor
  · rintro ⟨j, hj, h⟩ e
    exact fst_empty e j hj (thB_iff.mp h)
  · intro h
    have hb := fst_bd g x t n
    obtain ⟨k, hk⟩ : ∃ k : Nat, fst g x t n = k := ⟨(fst g x t n).toNat, by omega⟩
    obtain ⟨h1, h2, -⟩ := fst_there hk
    exact ⟨k, h1, thB_iff.mpr h2⟩
theorem below_all {g : Nat → Int} {n : Nat} (H : SegOK g n) {x t : Int} (h0 : 0 ≤ x) (h1 : x ≤ 255) : cnt (blw g x t (9223372036854775807 : Int64)) n = cnt (thB g x t) n := by
  refine cnt_congr (fun j hj => ?_)
  have hv := Val_bd H hj h0 h1
  by_cases c : The g j x t
  · rw [thB_iff.mpr c, blw_iff.mpr ⟨c, by rw [show (9223372036854775807 : Int64) = lI 9223372036854775807 from rfl, lI_lt (by omega) (by omega) (by omega) (by omega)]; omega⟩]
  · have a1 : ¬ thB g x t j = true := fun z => c (thB_iff.mp z)
    have a2 : ¬ blw g x t (9223372036854775807 : Int64) j = true := fun z => c (blw_iff.mp z).1
    rw [Bool.eq_false_iff.mpr a1, Bool.eq_false_iff.mpr a2]
/-- the answers: q' is q with its first k queries answered -/
def Ans (g : Nat → Int) (n m k : Nat) (q q' : Nat → Int) : Prop := ∀ j : Nat, j < m → q' (6 * j) = q (6 * j) ∧ q' (6 * j + 1) = q (6 * j + 1) ∧ (j < k → q' (6 * j + 2) = 1 ∧ q' (6 * j + 3) = lst g (q (6 * j)) (q (6 * j + 1)) n ∧ q' (6 * j + 4) = fst g (q (6 * j)) (q (6 * j + 1)) n ∧ q' (6 * j + 5) = (cnt (thB g (q (6 * j)) (q (6 * j + 1))) n : Nat))
def fdB (g : Nat → Int) (n : Nat) (q : Nat → Int) (j : Nat) : Bool := decide (¬ fst g (q (6 * j)) (q (6 * j + 1)) n = -1)
theorem fdB_iff {g : Nat → Int} {n : Nat} {q : Nat → Int} {j : Nat} : fdB g n q j = true ↔ ¬ fst g (q (6 * j)) (q (6 * j + 1)) n = -1 := decide_eq_true_iff
theorem Ans.step {g : Nat → Int} {n m k : Nat} {q q' : Nat → Int} (h : Ans g n m k q q') : Ans g n m (k + 1) q (updI (updI (updI (updI q' (6 * k + 2) 1) (6 * k + 3) (lst g (q (6 * k)) (q (6 * k + 1)) n)) (6 * k + 4) (fst g (q (6 * k)) (q (6 * k + 1)) n)) (6 * k + 5) (cnt (thB g (q (6 * k)) (q (6 * k + 1))) n : Nat)) := by
  intro j hj
  obtain ⟨h1, h2, h3⟩ := h j hj
  refine ⟨?_, ?_, fun hk => ?_⟩
  · rw [updI_ne (by omega), updI_ne (by omega), updI_ne (by omega), updI_ne (by omega)]; exact h1
  · rw [updI_ne (by omega), updI_ne (by omega), updI_ne (by omega), updI_ne (by omega)]; exact h2
  · by_cases c : j = k
    · subst c
      refine ⟨?_, ?_, ?_, updI_eq⟩
      · rw [updI_ne (by omega), updI_ne (by omega), updI_ne (by omega), updI_eq]
      · rw [updI_ne (by omega), updI_ne (by omega), updI_eq]
      · rw [updI_ne (by omega), updI_eq]
    · rw [updI_ne (by omega), updI_ne (by omega), updI_ne (by omega), updI_ne (by omega), updI_ne (by omega), updI_ne (by omega), updI_ne (by omega), updI_ne (by omega), updI_ne (by omega), updI_ne (by omega), updI_ne (by omega), updI_ne (by omega), updI_ne (by omega), updI_ne (by omega), updI_ne (by omega), updI_ne (by omega)]
      exact h3 (by omega)
theorem s3_answerAll {g q : Nat → Int} {n m : Nat} (H : SegOK g n) (hm : m ≤ 30) (hq : ∀ k : Nat, k < m → (0 ≤ q (6 * k) ∧ q (6 * k) ≤ 255) ∧ (0 ≤ q (6 * k + 1) ∧ q (6 * k + 1) ≤ 16384)) : ∃ q' : Nat → Int, fX3_answerAll (iN (m : Int)) (fun i => iN (q i)) (iN (n : Int)) (fun i => iN (g i)) = some (iN (cnt (fdB g n q) m : Nat), fun i => iN (q' i)) ∧ Ans g n m m q q' := by
  have hn := H.1
  unfold fX3_answerAll
  have key := lp_iv (body := fun z : Int32 × Int32 × (Nat → Int32) => bX3_answerAll_4 (iN (m : Int)) (iN (n : Int)) (fun i => iN (g i)) z.1 z.2.1 z.2.2) (s0 := ((0 : Int32), (0 : Int32), fun i => iN (q i))) (fun k z => ∃ q' : Nat → Int, z = (iN (cnt (fdB g n q) k : Nat), iN (k : Int), fun i => iN (q' i)) ∧ Ans g n m k q q') (fun r => ∃ q' : Nat → Int, r = (iN (cnt (fdB g n q) m : Nat), fun i => iN (q' i)) ∧ Ans g n m m q q') m ⟨q, rfl, fun j hj => ⟨rfl, rfl, fun z => absurd z (Nat.not_lt_zero j)⟩⟩ ?_ ?_ (fuel_ge (by omega))
  · obtain ⟨r, e, q', rfl, h⟩ := key
    exact ⟨q', e, h⟩
  · rintro k z hk ⟨q', rfl, h⟩
    obtain ⟨h1, h2, -⟩ := h k hk
    obtain ⟨⟨x0, x1⟩, t0, t1⟩ := hq k hk
    show ∃ s', bX3_answerAll_4 _ _ _ (iN (cnt (fdB g n q) k : Nat)) (iN (k : Int)) (fun i => iN (q' i)) = some (.inl s') ∧ _
    have hk3 : k < 30 := by omega
    have hst := h.step
    unfold bX3_answerAll_4
    rw [if_neg (by rw [iN_le (by omega) (by omega) (by omega) (by omega)]; omega), s3_r0 _ k hk3, qb, s3_r1 _ k hk3, qb, h1, h2, s6_firstAt H x0 x1 t0 t1, qb, show fX3_set (fun i => iN (q' i)) (iN (k : Int)) (2 : Int32) (1 : Int32) = _ from s3_w2 q' k hk3 1, qb]
    have fin : jX3_answerAll_66 (iN (n : Int)) (fun i => iN (g i)) (iN (cnt (fdB g n q) k : Nat)) (iN (k : Int)) (iN (q (6 * k))) (iN (q (6 * k + 1))) (iN (fst g (q (6 * k)) (q (6 * k + 1)) n)) (iN (k : Int)) (3 : Int32) (iN (lst g (q (6 * k)) (q (6 * k + 1)) n)) (fun i => iN (updI q' (6 * k + 2) 1 i)) = some (.inl (iN (cnt (fdB g n q) (k + 1) : Nat), iN ((k + 1 : Nat) : Int), fun i => iN (updI (updI (updI (updI q' (6 * k + 2) 1) (6 * k + 3) (lst g (q (6 * k)) (q (6 * k + 1)) n)) (6 * k + 4) (fst g (q (6 * k)) (q (6 * k + 1)) n)) (6 * k + 5) (cnt (thB g (q (6 * k)) (q (6 * k + 1))) n : Nat) i))) := by
      unfold jX3_answerAll_66
      have hb := fst_bd g (q (6 * k)) (q (6 * k + 1)) n
      rw [s3_w3 _ k hk3, qb, s3_w4 _ k hk3, qb, s6_countBelow H x0 x1 t0 t1, qb, below_all H x0 x1, s3_w5 _ k hk3, qb, cnt_succ]
      by_cases c : fst g (q (6 * k)) (q (6 * k + 1)) n = -1
      · rw [if_pos (by rw [c]; rfl), nm_v, iN_succ, if_neg (fun z => fdB_iff.mp z c), show cnt (fdB g n q) k + 0 = cnt (fdB g n q) k from rfl]
      · rw [if_neg (by rw [show (-1 : Int32) = iN (-1) from rfl, iN_eq (by omega) (by omega) (by omega) (by omega)]; exact c), nm_v, nm_v, iN_succ, iN_succ, if_pos (fdB_iff.mpr c)]
    by_cases c : fst g (q (6 * k)) (q (6 * k + 1)) n = -1
    · have el : lst g (q (6 * k)) (q (6 * k + 1)) n = 0 := if_pos c
      rw [if_pos (show iN (fst g (q (6 * k)) (q (6 * k + 1)) n) = (-1 : Int32) by rw [c]; rfl)]
      have fin2 := fin
      rw [show iN (lst g (q (6 * k)) (q (6 * k + 1)) n) = (0 : Int32) by rw [el]; rfl] at fin2
      exact ⟨_, fin2, _, rfl, hst⟩
    · have hb := fst_bd g (q (6 * k)) (q (6 * k + 1)) n
      have el : lst g (q (6 * k)) (q (6 * k + 1)) n = Val g (fst g (q (6 * k)) (q (6 * k + 1)) n).toNat (q (6 * k)) := if_neg c
      rw [if_neg (show ¬ iN (fst g (q (6 * k)) (q (6 * k + 1)) n) = (-1 : Int32) by rw [show (-1 : Int32) = iN (-1) from rfl, iN_eq (by omega) (by omega) (by omega) (by omega)]; exact c)]
      have eh := s6_height g (fst g (q (6 * k)) (q (6 * k + 1)) n).toNat (by omega) (q (6 * k))
      rw [show (((fst g (q (6 * k)) (q (6 * k + 1)) n).toNat : Nat) : Int) = fst g (q (6 * k)) (q (6 * k + 1)) n by omega, ← el] at eh
      rw [eh, qb]
      exact ⟨_, fin, _, rfl, hst⟩
  · rintro z ⟨q', rfl, h⟩
    show ∃ s', bX3_answerAll_4 _ _ _ (iN (cnt (fdB g n q) m : Nat)) (iN (m : Int)) (fun i => iN (q' i)) = some (.inr s') ∧ _
    unfold bX3_answerAll_4
    rw [if_pos (by rw [iN_le (by omega) (by omega) (by omega) (by omega)]; omega)]
    exact ⟨_, rfl, q', rfl, h⟩
theorem wr_q {α : Type} (f : Nat → Int) (k j : Nat) (hk : k < 30) (hj : j < 6) (x : Int) {r : (Nat → Int32) → Option α} : wr 1634 (fun i => iN (f i)) (iN (243 + 6 * (k : Int)) + iN (j : Int)) (iN x) r = r (fun i => iN (updI f (243 + 6 * k + j) x i)) := by
  rw [iN_add, wr_iN (by omega) (by omega) (by omega), upd_iN, show (243 + 6 * (k : Int) + (j : Int)).toNat = 243 + 6 * k + j by omega]
theorem rd_q {α : Type} (f : Nat → Int) (k j : Nat) (hk : k < 30) (hj : j < 6) {r : Int32 → Option α} : rd 1634 (fun i => iN (f i)) (iN (243 + 6 * (k : Int)) + iN (j : Int)) r = r (iN (f (243 + 6 * k + j))) := by
  rw [iN_add, rd_iN (by omega) (by omega) (by omega), show (243 + 6 * (k : Int) + (j : Int)).toNat = 243 + 6 * k + j by omega]
theorem rd_q0 {α : Type} (f : Nat → Int) (k : Nat) (hk : k < 30) {r : Int32 → Option α} : rd 1634 (fun i => iN (f i)) (iN (243 + 6 * (k : Int))) r = r (iN (f (243 + 6 * k))) := by
  rw [rd_iN (by omega) (by omega) (by omega), show (243 + 6 * (k : Int)).toNat = 243 + 6 * k by omega]
theorem rd_q1 {α : Type} (f : Nat → Int) (k : Nat) (hk : k < 30) {r : Int32 → Option α} : rd 1634 (fun i => iN (f i)) (iN (243 + 6 * (k : Int)) + (1 : Int32)) r = r (iN (f (243 + 6 * k + 1))) := rd_q f k 1 hk (by omega)
theorem rd_q2 {α : Type} (f : Nat → Int) (k : Nat) (hk : k < 30) {r : Int32 → Option α} : rd 1634 (fun i => iN (f i)) (iN (243 + 6 * (k : Int)) + (2 : Int32)) r = r (iN (f (243 + 6 * k + 2))) := rd_q f k 2 hk (by omega)
theorem rd_q4 {α : Type} (f : Nat → Int) (k : Nat) (hk : k < 30) {r : Int32 → Option α} : rd 1634 (fun i => iN (f i)) (iN (243 + 6 * (k : Int)) + (4 : Int32)) r = r (iN (f (243 + 6 * k + 4))) := rd_q f k 4 hk (by omega)
theorem wr_q2 {α : Type} (f : Nat → Int) (k : Nat) (hk : k < 30) {r : (Nat → Int32) → Option α} : wr 1634 (fun i => iN (f i)) (iN (243 + 6 * (k : Int)) + (2 : Int32)) (1 : Int32) r = r (fun i => iN (updI f (243 + 6 * k + 2) 1 i)) := wr_q f k 2 hk (by omega) 1
theorem wr_q3 {α : Type} (f : Nat → Int) (k : Nat) (hk : k < 30) (x : Int) {r : (Nat → Int32) → Option α} : wr 1634 (fun i => iN (f i)) (iN (243 + 6 * (k : Int)) + (3 : Int32)) (iN x) r = r (fun i => iN (updI f (243 + 6 * k + 3) x i)) := wr_q f k 3 hk (by omega) x
theorem wr_q4 {α : Type} (f : Nat → Int) (k : Nat) (hk : k < 30) (x : Int) {r : (Nat → Int32) → Option α} : wr 1634 (fun i => iN (f i)) (iN (243 + 6 * (k : Int)) + (4 : Int32)) (iN x) r = r (fun i => iN (updI f (243 + 6 * k + 4) x i)) := wr_q f k 4 hk (by omega) x
theorem wr_q5 {α : Type} (f : Nat → Int) (k : Nat) (hk : k < 30) (x : Int) {r : (Nat → Int32) → Option α} : wr 1634 (fun i => iN (f i)) (iN (243 + 6 * (k : Int)) + (5 : Int32)) (iN x) r = r (fun i => iN (updI f (243 + 6 * k + 5) x i)) := wr_q f k 5 hk (by omega) x
/-- the reference's cells of the queries as q has them -/
abbrev qs (f : Nat → Int) : Nat → Int := fun i => f (243 + i)
theorem m8_solveNow {g f : Nat → Int} {n m : Nat} (hf0 : f 0 = n) (hf : f 242 = m) (H : SegOK g n) (hE : EqOn n g (sh f)) (hm : m ≤ 30) {q : Nat → Int} (hqf : ∀ k : Nat, k < m → f (243 + 6 * k) = q (6 * k) ∧ f (243 + 6 * k + 1) = q (6 * k + 1)) (hq : ∀ k : Nat, k < m → (0 ≤ q (6 * k) ∧ q (6 * k) ≤ 255) ∧ (0 ≤ q (6 * k + 1) ∧ q (6 * k + 1) ≤ 16384)) : ∃ f' : Nat → Int, fX8_solveNow (fun i => iN (f i)) = some (iN (cnt (fdB g n q) m : Nat), fun i => iN (f' i)) ∧ Ans g n m m q (qs f') ∧ ∀ i, i < 243 ∨ 423 ≤ i → f' i = f i := by
  have hn := H.1
  unfold fX8_solveNow
  have key := lp_iv (body := fun z : Int32 × Int32 × (Nat → Int32) => bX8_solveNow_4 z.1 z.2.1 z.2.2) (s0 := ((0 : Int32), (0 : Int32), fun i => iN (f i))) (fun k z => ∃ f' : Nat → Int, z = (iN (cnt (fdB g n q) k : Nat), iN (k : Int), fun i => iN (f' i)) ∧ Ans g n m k q (qs f') ∧ ∀ i, i < 243 ∨ 423 ≤ i → f' i = f i) (fun r => ∃ f' : Nat → Int, r = (iN (cnt (fdB g n q) m : Nat), fun i => iN (f' i)) ∧ Ans g n m m q (qs f') ∧ ∀ i, i < 243 ∨ 423 ≤ i → f' i = f i) m ⟨f, rfl, fun j hj => ⟨(hqf j hj).1, (hqf j hj).2, fun z => absurd z (Nat.not_lt_zero j)⟩, fun _ _ => rfl⟩ ?_ ?_ (fuel_ge (by omega))
  · obtain ⟨r, e, f', rfl, h⟩ := key
    exact ⟨f', e, h⟩
  · rintro k z hk ⟨f', rfl, h, hlo⟩
    obtain ⟨h1, h2, -⟩ := h k hk
    change f' (243 + 6 * k) = _ at h1
    change f' (243 + 6 * k + 1) = _ at h2
    obtain ⟨⟨x0, x1⟩, t0, t1⟩ := hq k hk
    have hk3 : k < 30 := by omega
    have hE' : EqOn n g (sh f') := fun i hi => by rw [hE i hi]; unfold sh; rw [hlo _ (by omega)]
    have H8 := H.eqOn hE'
    have g0 : f' 0 = n := by rw [hlo 0 (by omega)]; exact hf0
    have hst := h.step
    show ∃ s', bX8_solveNow_4 (iN (cnt (fdB g n q) k : Nat)) (iN (k : Int)) (fun i => iN (f' i)) = some (.inl s') ∧ _
    unfold bX8_solveNow_4
    rw [rd_242, hlo 242 (by omega), hf, if_neg (by rw [iN_le (by omega) (by omega) (by omega) (by omega)]; omega), m8_query, qb, rd_q0 _ k hk3, rd_q1 _ k hk3, h1, h2, m8_firstAt g0 H8 x0 x1 t0 t1, qb, ← EqOn_fst hE' (q (6 * k)) (q (6 * k + 1)) n (Nat.le_refl n)]
    have fin : ∀ w : Int32, w = iN (lst g (q (6 * k)) (q (6 * k + 1)) n) → jX8_solveNow_135 (iN (cnt (fdB g n q) k : Nat)) (iN (k : Int)) (iN (243 + 6 * (k : Int))) (iN (fst g (q (6 * k)) (q (6 * k + 1)) n)) (iN (cnt (thB g (q (6 * k)) (q (6 * k + 1))) n : Nat)) (iN (243 + 6 * (k : Int)) + (3 : Int32)) w (fun i => iN (updI f' (243 + 6 * k + 2) 1 i)) = some (.inl (iN (cnt (fdB g n q) (k + 1) : Nat), iN ((k + 1 : Nat) : Int), fun i => iN (updI (updI (updI (updI f' (243 + 6 * k + 2) 1) (243 + 6 * k + 3) (lst g (q (6 * k)) (q (6 * k + 1)) n)) (243 + 6 * k + 4) (fst g (q (6 * k)) (q (6 * k + 1)) n)) (243 + 6 * k + 5) (cnt (thB g (q (6 * k)) (q (6 * k + 1))) n : Nat) i))) := by
      rintro w rfl
      unfold jX8_solveNow_135
      have hcb := cnt_le (thB g (q (6 * k)) (q (6 * k + 1))) n
      have hmf := many_first (g := g) (n := n) (x := q (6 * k)) (t := q (6 * k + 1))
      rw [wr_q3 _ k hk3, wr_q4 _ k hk3, wr_q5 _ k hk3, cnt_succ]
      by_cases c : fst g (q (6 * k)) (q (6 * k + 1)) n = -1
      · have c0 : ¬ 0 < cnt (thB g (q (6 * k)) (q (6 * k + 1))) n := fun z => hmf.mp z c
        rw [if_pos (by rw [show (0 : Int32) = iN 0 from rfl, iN_le (by omega) (by omega) (by omega) (by omega)]; omega), nm_v, nm_v, iN_succ, if_neg (fun z => fdB_iff.mp z c), show (0 : Int32) = iN 0 from rfl, iN_add]
        rfl
      · have c0 := hmf.mpr c
        rw [if_neg (by rw [show (0 : Int32) = iN 0 from rfl, iN_le (by omega) (by omega) (by omega) (by omega)]; omega), nm_v, nm_v, iN_succ, iN_succ, if_pos (fdB_iff.mpr c)]
    have eq : Ans g n m (k + 1) q (qs (updI (updI (updI (updI f' (243 + 6 * k + 2) 1) (243 + 6 * k + 3) (lst g (q (6 * k)) (q (6 * k + 1)) n)) (243 + 6 * k + 4) (fst g (q (6 * k)) (q (6 * k + 1)) n)) (243 + 6 * k + 5) (cnt (thB g (q (6 * k)) (q (6 * k + 1))) n : Nat))) := by
      have e0 : ∀ (F : Nat → Int) (j : Nat) (x : Int), qs (updI F (243 + 6 * k + j) x) = updI (qs F) (6 * k + j) x := by
        intro F j x
        funext i
        unfold qs updI
        by_cases c : i = 6 * k + j
        · rw [if_pos (by omega), if_pos c]
        · rw [if_neg (by omega), if_neg c]
      rw [e0, e0, e0, e0]
      exact hst
    refine ⟨_, ?_, _, rfl, eq, fun i hi => ?_⟩
    · refine lp_for _ (fun i => (iN (cnt (thB g (q (6 * k)) (q (6 * k + 1))) i : Nat), iN (i : Int))) n _ ?_ ?_ (fuel_ge (by omega))
      · intro i hi
        show bX8_solveNow_47 _ _ _ _ _ (iN (cnt (thB g (q (6 * k)) (q (6 * k + 1))) i : Nat)) (iN (i : Int)) = _
        unfold bX8_solveNow_47
        rw [rd_0, g0, if_neg (by rw [iN_le (by omega) (by omega) (by omega) (by omega)]; omega), rd_q0 _ k hk3, rd_q1 _ k hk3, h1, h2, m8_isThere H8 hi x0 x1 t0 t1, qb, cnt_succ]
        have ht := hE'.the hi (q (6 * k)) (q (6 * k + 1))
        by_cases c : The g i (q (6 * k)) (q (6 * k + 1))
        · rw [if_neg (fun z => b01_0.mp z (ht.mp c)), nm_v, nm_v, if_pos (thB_iff.mpr c), iN_succ, iN_succ]
        · rw [if_pos (b01_0.mpr (fun z => c (ht.mpr z))), nm_v, nm_v, if_neg (fun z => c (thB_iff.mp z)), iN_succ, show (0 : Int32) = iN 0 from rfl, iN_add]
          rfl
      · show bX8_solveNow_47 _ _ _ _ _ (iN (cnt (thB g (q (6 * k)) (q (6 * k + 1))) n : Nat)) (iN (n : Int)) = _
        unfold bX8_solveNow_47
        rw [rd_0, g0, if_pos (by rw [iN_le (by omega) (by omega) (by omega) (by omega)]; omega), wr_q2 _ k hk3]
        by_cases c : fst g (q (6 * k)) (q (6 * k + 1)) n = -1
        · rw [if_pos (show iN (fst g (q (6 * k)) (q (6 * k + 1)) n) = (-1 : Int32) by rw [c]; rfl), fin 0 (by unfold lst; rw [if_pos c]; rfl)]
          rfl
        · have hb := fst_bd g (q (6 * k)) (q (6 * k + 1)) n
          rw [if_neg (show ¬ iN (fst g (q (6 * k)) (q (6 * k + 1)) n) = (-1 : Int32) by rw [show (-1 : Int32) = iN (-1) from rfl, iN_eq (by omega) (by omega) (by omega) (by omega)]; exact c), rd_q0 _ k hk3, updI_ne (by omega), h1]
          have eh := m8_valueAt (updI f' (243 + 6 * k + 2) 1) (fst g (q (6 * k)) (q (6 * k + 1)) n).toNat (by omega) (q (6 * k))
          rw [show (((fst g (q (6 * k)) (q (6 * k + 1)) n).toNat : Nat) : Int) = fst g (q (6 * k)) (q (6 * k + 1)) n by omega] at eh
          have ev : Val (sh (updI f' (243 + 6 * k + 2) 1)) (fst g (q (6 * k)) (q (6 * k + 1)) n).toNat (q (6 * k)) = lst g (q (6 * k)) (q (6 * k + 1)) n := by
            unfold lst
            rw [if_neg c]
            have hE2 : EqOn n g (sh (updI f' (243 + 6 * k + 2) 1)) := fun i hi => by rw [hE' i hi]; unfold sh; rw [updI_ne (by omega)]
            exact (hE2.val (by omega) _).symm
          rw [ev] at eh
          rw [eh, qb, fin _ rfl]
          rfl
    · rw [updI_ne (by omega), updI_ne (by omega), updI_ne (by omega), updI_ne (by omega)]
      exact hlo i hi
  · rintro z ⟨f', rfl, h, hlo⟩
    show ∃ s', bX8_solveNow_4 (iN (cnt (fdB g n q) m : Nat)) (iN (m : Int)) (fun i => iN (f' i)) = some (.inr s') ∧ _
    unfold bX8_solveNow_4
    rw [rd_242, hlo 242 (by omega), hf, if_pos (by rw [iN_le (by omega) (by omega) (by omega) (by omega)]; omega)]
    exact ⟨_, rfl, f', rfl, h, hlo⟩
theorem p_solve {mk : Nat} {now : Int} {n : Nat} {g : Nat → Int} {m : Nat} {q mw mz : Nat → Int} {mg : Nat → Nat → Int} {f : Nat → Int} (hR : SR mk now n g m q mw mz mg f) :
    ∃ (v : Int) (q' f' : Nat → Int), fX3_answerAll (iN (m : Int)) (fun i => iN (q i)) (iN (n : Int)) (fun i => iN (g i)) = some (iN v, fun i => iN (q' i)) ∧ (0 ≤ v ∧ v < 2147483648) ∧ fX8_solveNow (fun i => iN (f i)) = some (iN v, fun i => iN (f' i)) ∧ SR mk now n g m q' mw mz mg f' := by
  obtain ⟨hS, ⟨hm, hf, hq⟩, hM⟩ := hR
  have hb : ∀ k : Nat, k < m → (0 ≤ q (6 * k) ∧ q (6 * k) ≤ 255) ∧ (0 ≤ q (6 * k + 1) ∧ q (6 * k + 1) ≤ 16384) := fun k hk => ⟨(hq k hk).1.2, (hq k hk).2.1.2⟩
  obtain ⟨q', e1, h1⟩ := s3_answerAll hS.2.2.2.1 hm hb
  obtain ⟨f', e2, h2, h3⟩ := m8_solveNow hS.1 hf hS.2.2.2.1 hS.2.2.2.2 hm (q := q) (fun k hk => ⟨(hq k hk).1.1.symm, (hq k hk).2.1.1.symm⟩) hb
  have hc := cnt_le (fdB g n q) m
  refine ⟨_, q', f', e1, by omega, e2, hS.congr (fun i hi => (h3 i (by omega)).symm), ⟨hm, by rw [h3 242 (by omega)]; exact hf, fun k hk => ?_⟩, hM.congr (fun i h0 _ => (h3 i (by omega)).symm)⟩
  obtain ⟨a1, a2, a3⟩ := h1 k hk
  obtain ⟨b1, b2, b3⟩ := h2 k hk
  obtain ⟨c1, c2, c3, c4⟩ := a3 hk
  obtain ⟨d1, d2, d3, d4⟩ := b3 hk
  change f' (243 + 6 * k) = _ at b1
  change f' (243 + 6 * k + 1) = _ at b2
  change f' (243 + 6 * k + 2) = _ at d1
  change f' (243 + 6 * k + 3) = _ at d2
  change f' (243 + 6 * k + 4) = _ at d3
  change f' (243 + 6 * k + 5) = _ at d4
  rw [a1, a2, c1, c2, c3, c4, b1, b2, d1, d2, d3, d4]
  exact ⟨⟨rfl, (hb k hk).1⟩, ⟨rfl, (hb k hk).2⟩, ⟨rfl, Or.inr rfl⟩, fun _ => ⟨rfl, rfl, rfl⟩⟩
/-! answer -/
theorem r_answer {mk : Nat} {now : Int} {n : Nat} {g : Nat → Int} {m : Nat} {q mw mz : Nat → Int} {mg : Nat → Nat → Int} {f : Nat → Int} (hR : SR mk now n g m q mw mz mg f) (c0 : Int32) (x1 x2 : Int32) : ∃ r b c, fX7_answer (iN (m : Int)) (fun i => iN (q i)) x1 x2 = some r ∧ fX8_answer c0 (fun i => iN (f i)) x1 x2 = some (b, c) ∧ agrL (fun e => if e = 3 then 1 else if e = 1 then 2 else if e = 2 then 3 else 0) r b c := by
  obtain ⟨hm, hf, hq⟩ := hR.2.1
  unfold fX7_answer fX8_answer
  rw [rd_242, hf, show (1 : Int32) = iN 1 from rfl, iN_sub, iN_l (by omega) (by omega), show (0 : Int64) = lI 0 from rfl, m8_in32 x1 (by omega) (by omega) (by omega) (by omega), qb, show (iN 1 : Int32) = 1 from rfl]
  have e0 : (0 : Int32).toInt = 0 := rfl
  have em : (iN (m : Int)).toInt = m := iN_toInt (by omega) (by omega)
  by_cases c1 : 0 ≤ x1.toInt ∧ x1.toInt < m
  · rw [if_neg (by rw [Int32.lt_iff_toInt_lt]; omega), if_pos (by rw [Int32.lt_iff_toInt_lt, em]; omega), if_neg (fun z => b01_0.mp z (by omega)), show (2 : Int64) = lI 2 from rfl, m8_in32 x2 (by omega) (by omega) (by omega) (by omega), qb]
    by_cases c2 : 0 ≤ x2.toInt ∧ x2.toInt ≤ 2
    · rw [s7_rb_t (a := 0) (b := 2) c2, qb, qt, if_neg (fun z => b01_0.mp z c2)]
      obtain ⟨k, hk⟩ : ∃ k : Nat, x1.toInt = k := ⟨x1.toInt.toNat, by omega⟩
      have ex : x1 = iN (k : Int) := by rw [← hk]; exact iN_of x1
      obtain ⟨j, hj⟩ : ∃ j : Nat, x2.toInt = j := ⟨x2.toInt.toNat, by omega⟩
      have ex2 : x2 = iN (j : Int) := by rw [← hj]; exact iN_of x2
      have hk3 : k < 30 := by omega
      obtain ⟨-, -, ⟨q1, q2⟩, q3⟩ := hq k (by omega)
      rw [ex, ex2, m8_query, qb, rd_q2 _ k hk3, ← q1]
      unfold fX3_isAnswered
      rw [s3_r2 q k hk3, qb]
      by_cases c3 : q (6 * k + 2) = 1
      · obtain ⟨a1, a2, a3⟩ := q3 c3
        have ea : ∀ j : Nat, j < 3 → q (6 * k + (3 + j)) = f (243 + 6 * k + (3 + j)) := by
          intro j hj
          have : j = 0 ∨ j = 1 ∨ j = 2 := by omega
          rcases this with rfl | rfl | rfl
          · exact a1
          · exact a2
          · exact a3
        rw [if_pos (by rw [c3]; rfl), if_pos (by rw [c3]; rfl), zr_1, qb, if_neg n10]
        have j1 : jX3_answerValue_18 (fun i => iN (q i)) (iN (k : Int)) (iN (j : Int)) = some ((iN (q (6 * k + (3 + j)))).toInt64) := by
          unfold jX3_answerValue_18
          rw [show (3 : Int32) = iN 3 from rfl, iN_add, show (3 + (j : Int)) = ((3 + j : Nat) : Int) by omega, s3_value q k (3 + j) hk3 (by omega), qb]
        have j2 : jX8_answerOf_27 (fun i => iN (f i)) (iN (j : Int)) (iN (243 + 6 * (k : Int))) = some ((iN (q (6 * k + (3 + j)))).toInt64) := by
          unfold jX8_answerOf_27
          rw [show (3 : Int32) = iN 3 from rfl, iN_add, iN_add, show (243 + 6 * (k : Int) + 3 + (j : Int)) = 243 + 6 * (k : Int) + ((3 + j : Nat) : Int) by omega, ← iN_add, rd_q _ k (3 + j) hk3 (by omega), ea j (by omega)]
        unfold fX3_answerValue fX8_answerOf
        rw [m8_query, qb, j1, j2]
        by_cases c4 : iN (j : Int) = 0
        · rw [if_pos c4, if_pos c4, s3_r4 q k hk3, qb, rd_q4 _ k hk3, ← a2]
          by_cases c5 : iN (q (6 * k + 4)) = (-1 : Int32)
          · rw [if_pos c5]
            exact ⟨_, _, _, rfl, rfl, rfl, rfl⟩
          · rw [if_neg c5]
            exact ⟨_, _, _, rfl, rfl, rfl, rfl⟩
        · rw [if_neg c4, if_neg c4]
          exact ⟨_, _, _, rfl, rfl, rfl, rfl⟩
      · have c3' : q (6 * k + 2) = 0 := q2.resolve_right c3
        rw [if_neg (by rw [c3']; decide), if_neg (by rw [c3']; decide), zr_0, qb, if_pos rfl]
        exact ⟨_, _, _, rfl, rfl, rfl, by decide, by decide⟩
    · rw [s7_rb_f (a := 0) (b := 2) c2, qb, qe, if_pos (b01_0.mpr c2)]
      exact ⟨_, _, _, rfl, rfl, rfl, by decide, by decide⟩
  · rw [if_pos (b01_0.mpr (by omega))]
    by_cases c2 : x1 < 0
    · rw [if_pos c2]
      exact ⟨_, _, _, rfl, rfl, rfl, by decide, by decide⟩
    · rw [Int32.lt_iff_toInt_lt] at c2
      rw [if_neg (by rw [Int32.lt_iff_toInt_lt]; exact c2), if_neg (by rw [Int32.lt_iff_toInt_lt, em]; omega)]
      exact ⟨_, _, _, rfl, rfl, rfl, by decide, by decide⟩
/-! forget -/
theorem SR.fgt {mk : Nat} {now : Int} {n : Nat} {g : Nat → Int} {m : Nat} {q mw mz : Nat → Int} {mg : Nat → Nat → Int} {f : Nat → Int} (h : SR mk now n g m q mw mz mg f) : SR mk now n g 0 q mw mz mg (updI f 242 0) :=
  ⟨h.1.congr (fun i hi => (updI_ne (by omega)).symm), ⟨by omega, updI_eq, fun k hk => absurd hk (Nat.not_lt_zero k)⟩, h.2.2.congr (fun i h0 _ => (updI_ne (by omega)).symm)⟩
