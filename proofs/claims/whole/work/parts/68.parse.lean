/-! ===== reading the text: both read alike ===== -/
def nx (len : Nat) (tx_ : Nat → Int32) (p : Nat) : Int32 := if p < len then tx_ p else -1
theorem nx_in {len : Nat} {tx_ : Nat → Int32} {p : Nat} (h : p < len) : nx len tx_ p = tx_ p := if_pos h
theorem nx_out {len : Nat} {tx_ : Nat → Int32} {p : Nat} (h : len ≤ p) : nx len tx_ p = -1 := if_neg (by omega)
theorem s4_next {len : Nat} {by_ tx_ : Nat → Int32} (hT : TxR len by_ tx_) {p : Nat} (hp : p ≤ len) : fX4_next (iN (len : Int)) (iN (p : Int)) by_ = some (nx len tx_ p) := by
  have hl := hT.1
  unfold fX4_next
  rw [if_neg (by rw [show (0 : Int32) = iN 0 from rfl, iN_lt (by omega) (by omega) (by omega) (by omega)]; omega)]
  by_cases c : p < len
  · rw [if_neg (by rw [iN_le (by omega) (by omega) (by omega) (by omega)]; omega), if_neg (by rw [show (120 : Int32) = iN 120 from rfl, iN_le (by omega) (by omega) (by omega) (by omega)]; omega), rd_iN (by omega) (by omega) (by omega), nx_in c, show ((p : Int)).toNat = p from rfl, (hT.2 p c).1]
  · rw [if_pos (by rw [iN_le (by omega) (by omega) (by omega) (by omega)]; omega), nx_out (by omega)]
theorem m8_here {len : Nat} {by_ tx_ : Nat → Int32} (hT : TxR len by_ tx_) {p : Nat} (hp : p ≤ len) : fX8_here (iN (len : Int)) (iN (p : Int)) tx_ = some (nx len tx_ p) := by
  have hl := hT.1
  unfold fX8_here
  by_cases c : p < len
  · rw [if_neg (by rw [iN_le (by omega) (by omega) (by omega) (by omega)]; omega), rd_iN (by omega) (by omega) (by omega), nx_in c, show ((p : Int)).toNat = p from rfl]
  · rw [if_pos (by rw [iN_le (by omega) (by omega) (by omega) (by omega)]; omega), nx_out (by omega)]
theorem s4_skip_t {len : Nat} {by_ tx_ : Nat → Int32} (hT : TxR len by_ tx_) {p : Nat} (hp : p ≤ len) {ch : Int32} (h : nx len tx_ p = ch) : fX4_skip (iN (len : Int)) (iN (p : Int)) by_ ch = some (1, iN ((p + 1 : Nat) : Int)) := by
  unfold fX4_skip
  rw [s4_next hT hp, qb, if_pos h, nm_v, zr_1, iN_succ]
theorem s4_skip_f {len : Nat} {by_ tx_ : Nat → Int32} (hT : TxR len by_ tx_) {p : Nat} (hp : p ≤ len) {ch : Int32} (h : ¬ nx len tx_ p = ch) : fX4_skip (iN (len : Int)) (iN (p : Int)) by_ ch = some (0, iN (p : Int)) := by
  unfold fX4_skip
  rw [s4_next hT hp, qb, if_neg h, zr_0]
theorem m8_takes_t {len : Nat} {by_ tx_ : Nat → Int32} (hT : TxR len by_ tx_) {p : Nat} (hp : p ≤ len) {ch : Int32} (h : nx len tx_ p = ch) : fX8_takes (iN (len : Int)) (iN (p : Int)) tx_ ch = some (1, iN ((p + 1 : Nat) : Int)) := by
  unfold fX8_takes
  rw [m8_here hT hp, qb, if_pos h]
  unfold jX8_takes_13 jX8_takes_28
  rw [if_neg n10, nm_v, zr_1, iN_succ]
theorem m8_takes_f {len : Nat} {by_ tx_ : Nat → Int32} (hT : TxR len by_ tx_) {p : Nat} (hp : p ≤ len) {ch : Int32} (h : ¬ nx len tx_ p = ch) : fX8_takes (iN (len : Int)) (iN (p : Int)) tx_ ch = some (0, iN (p : Int)) := by
  unfold fX8_takes
  rw [m8_here hT hp, qb, if_neg h]
  unfold jX8_takes_13 jX8_takes_28
  rw [if_pos rfl, nm_v, zr_0, show (0 : Int32) = iN 0 from rfl, iN_add, Int.add_zero]
theorem nx_lt {len : Nat} {tx_ : Nat → Int32} {p : Nat} {ch : Int32} (h : nx len tx_ p = ch) (hc : ¬ ch = -1) : p < len := by
  by_cases c : p < len
  · exact c
  · rw [nx_out (by omega)] at h
    exact absurd h.symm hc
/-- up to where a property holds -/
theorem upto (P : Nat → Prop) : ∀ N : Nat, ∃ d, d ≤ N ∧ (∀ k, k < d → P k) ∧ (d = N ∨ ¬ P d) := by
  intro N
  induction N with
  | zero => exact ⟨0, Nat.le_refl 0, fun k hk => absurd hk (Nat.not_lt_zero k), Or.inl rfl⟩
  | succ N ih =>
    obtain ⟨d, h1, h2, h3⟩ := ih
    by_cases c : P d
    · have : d = N := h3.resolve_right (fun z => z c)
      subst this
      refine ⟨d + 1, Nat.le_refl _, fun k hk => ?_, Or.inl rfl⟩
      by_cases e : k = d
      · subst e; exact c
      · exact h2 k (by omega)
    · exact ⟨d, by omega, h2, Or.inr c⟩
def dgP (len : Nat) (tx_ : Nat → Int32) (p k : Nat) : Prop := p + k < len ∧ 48 ≤ (tx_ (p + k)).toInt ∧ (tx_ (p + k)).toInt ≤ 57
def vl (tx_ : Nat → Int32) (p : Nat) : Nat → Int32
  | 0 => 0
  | k + 1 => 10 * vl tx_ p k + tx_ (p + k) - 48
theorem vl_s (tx_ : Nat → Int32) (p k : Nat) : vl tx_ p (k + 1) = 10 * vl tx_ p k + tx_ (p + k) - 48 := rfl
theorem dg_out {len : Nat} {tx_ : Nat → Int32} {p k : Nat} (h : ¬ dgP len tx_ p k) : ¬ (48 ≤ (nx len tx_ (p + k)).toInt ∧ (nx len tx_ (p + k)).toInt ≤ 57) := by
  unfold dgP at h
  by_cases c : p + k < len
  · rw [nx_in c]
    intro z
    exact h ⟨c, z⟩
  · rw [nx_out (by omega)]
    decide
/-- a number's value, its sign seen -/
def vsg (ng : Int32) (v : Int32) : Int32 := if ng = 0 then v else -v
theorem s4_digits {len : Nat} {by_ tx_ : Nat → Int32} (hT : TxR len by_ tx_) {p d i : Nat} (hi : i < 4) (hd : d ≤ 7) (h1 : ∀ k, k < d → dgP len tx_ p k) (h2 : d = 7 ∨ ¬ dgP len tx_ p d) (hp : p ≤ len) (ng : Int32) (nums : Nat → Int32) : lp (fun q => bX4_readNumber_23 (iN (len : Int)) by_ (iN (i : Int)) ng nums q.1 q.2.1 q.2.2) fuel ((0 : Int32), (0 : Int32), iN (p : Int)) = some ((if d = 0 then 0 else 1), iN ((p + d : Nat) : Int), upd nums i (vsg ng (vl tx_ p d))) := by
  have hl := hT.1
  have hpd : p + d ≤ len := by
    by_cases c : d = 0
    · omega
    · have := (h1 (d - 1) (by omega)).1; omega
  refine lp_for _ (fun k => (vl tx_ p k, iN (k : Int), iN ((p + k : Nat) : Int))) d _ ?_ ?_ (fuel_ge (by omega))
  · intro k hk
    obtain ⟨k1, k2⟩ := h1 k hk
    show bX4_readNumber_23 _ _ _ _ _ (vl tx_ p k) (iN (k : Int)) (iN ((p + k : Nat) : Int)) = _
    unfold bX4_readNumber_23
    rw [if_neg (by rw [show (7 : Int32) = iN 7 from rfl, iN_le (by omega) (by omega) (by omega) (by omega)]; omega), s4_next hT (by omega), qb, nx_in k1, ib_t (a := 48) (b := 57) k2, qb, if_neg n10, qb, nm_v, nm_v, nm_v, iN_succ, iN_succ]
    rfl
  · show bX4_readNumber_23 _ _ _ _ _ (vl tx_ p d) (iN (d : Int)) (iN ((p + d : Nat) : Int)) = _
    have fin : jX4_readNumber_73 (iN (i : Int)) ng (vl tx_ p d) (iN (d : Int)) (iN ((p + d : Nat) : Int)) nums = some ((if d = 0 then 0 else 1), iN ((p + d : Nat) : Int), upd nums i (vsg ng (vl tx_ p d))) := by
      unfold jX4_readNumber_73 jX4_readNumber_101 jX4_readNumber_102 vsg
      rw [if_neg (by rw [show (0 : Int32) = iN 0 from rfl, iN_lt (by omega) (by omega) (by omega) (by omega)]; omega), if_neg (by rw [show (4 : Int32) = iN 4 from rfl, iN_le (by omega) (by omega) (by omega) (by omega)]; omega), wr_iN (by omega) (by omega) (by omega), wr_iN (by omega) (by omega) (by omega), show ((i : Int)).toNat = i from rfl]
      by_cases c : d = 0
      · rw [if_pos (show iN (d : Int) ≤ 0 by rw [c]; decide), if_pos (show iN (d : Int) ≤ 0 by rw [c]; decide), zr_0, zr_0, if_pos c]
        by_cases c2 : ng = 0
        · rw [if_pos c2, if_pos c2]
        · rw [if_neg c2, if_neg c2]
      · have cd : ¬ iN (d : Int) ≤ 0 := by rw [show (0 : Int32) = iN 0 from rfl, iN_le (by omega) (by omega) (by omega) (by omega)]; omega
        rw [if_neg cd, if_neg cd, zr_1, zr_1, if_neg c]
        by_cases c2 : ng = 0
        · rw [if_pos c2, if_pos c2]
        · rw [if_neg c2, if_neg c2]
    unfold bX4_readNumber_23
    by_cases c : d = 7
    · rw [if_pos (by rw [c]; decide), fin]; rfl
    · have h3 := dg_out (h2.resolve_left c)
      rw [if_neg (by rw [show (7 : Int32) = iN 7 from rfl, iN_le (by omega) (by omega) (by omega) (by omega)]; omega), s4_next hT hpd, qb, ib_f (a := 48) (b := 57) h3, qb, if_pos rfl, fin]; rfl
theorem m8_digits {len : Nat} {by_ tx_ : Nat → Int32} (hT : TxR len by_ tx_) {p d i n : Nat} (hi : i < 4) (hn : n < 60) (hd : d ≤ 7) (h1 : ∀ k, k < d → dgP len tx_ p k) (h2 : d = 7 ∨ ¬ dgP len tx_ p d) (hp : p ≤ len) (ng : Int32) (nums : Nat → Int32) : lp (fun q => bX8_readsNumber_23 (iN (len : Int)) (iN (n : Int)) tx_ (iN (i : Int)) ng nums q.1 q.2.1 q.2.2) fuel ((0 : Int32), (0 : Int32), iN (p : Int)) = some ((if d = 0 then 0 else 1), iN ((p + d : Nat) : Int), upd nums (4 * n + i) (vsg ng (vl tx_ p d))) := by
  have hl := hT.1
  have hpd : p + d ≤ len := by
    by_cases c : d = 0
    · omega
    · have := (h1 (d - 1) (by omega)).1; omega
  refine lp_for _ (fun k => (iN (k : Int), vl tx_ p k, iN ((p + k : Nat) : Int))) d _ ?_ ?_ (fuel_ge (by omega))
  · intro k hk
    obtain ⟨k1, k2⟩ := h1 k hk
    show bX8_readsNumber_23 _ _ _ _ _ _ (iN (k : Int)) (vl tx_ p k) (iN ((p + k : Nat) : Int)) = _
    unfold bX8_readsNumber_23
    rw [if_neg (by rw [show (7 : Int32) = iN 7 from rfl, iN_le (by omega) (by omega) (by omega) (by omega)]; omega), m8_here hT (by omega), qb, nx_in k1, show (48 : Int64) = lI 48 from rfl, show (57 : Int64) = lI 57 from rfl, m8_in32 _ (by omega) (by omega) (by omega) (by omega), qb, if_neg (fun z => b01_0.mp z k2), qb, nm_v, nm_v, nm_v, iN_succ, iN_succ]
    rfl
  · show bX8_readsNumber_23 _ _ _ _ _ _ (iN (d : Int)) (vl tx_ p d) (iN ((p + d : Nat) : Int)) = _
    have fin : jX8_readsNumber_77 (iN (n : Int)) (iN (i : Int)) ng (iN (d : Int)) (vl tx_ p d) (iN ((p + d : Nat) : Int)) nums = some ((if d = 0 then 0 else 1), iN ((p + d : Nat) : Int), upd nums (4 * n + i) (vsg ng (vl tx_ p d))) := by
      unfold jX8_readsNumber_77 jX8_readsNumber_101 vsg
      rw [show (4 : Int32) = iN 4 from rfl, iN_mul, iN_add, wr_iN (by omega) (by omega) (by omega), wr_iN (by omega) (by omega) (by omega), show (4 * (n : Int) + (i : Int)).toNat = 4 * n + i by omega]
      by_cases c : d = 0
      · rw [if_pos (show iN (d : Int) ≤ 0 by rw [c]; decide), if_pos (show iN (d : Int) ≤ 0 by rw [c]; decide), zr_0, zr_0, if_pos c]
        by_cases c2 : ng = 0
        · rw [if_pos c2, if_pos c2]
        · rw [if_neg c2, if_neg c2]
      · have cd : ¬ iN (d : Int) ≤ 0 := by rw [show (0 : Int32) = iN 0 from rfl, iN_le (by omega) (by omega) (by omega) (by omega)]; omega
        rw [if_neg cd, if_neg cd, zr_1, zr_1, if_neg c]
        by_cases c2 : ng = 0
        · rw [if_pos c2, if_pos c2]
        · rw [if_neg c2, if_neg c2]
    unfold bX8_readsNumber_23
    by_cases c : d = 7
    · rw [if_pos (by rw [c]; decide), fin]; rfl
    · have h3 := dg_out (h2.resolve_left c)
      rw [if_neg (by rw [show (7 : Int32) = iN 7 from rfl, iN_le (by omega) (by omega) (by omega) (by omega)]; omega), m8_here hT hpd, qb, show (48 : Int64) = lI 48 from rfl, show (57 : Int64) = lI 57 from rfl, m8_in32 _ (by omega) (by omega) (by omega) (by omega), qb, if_pos (b01_0.mpr h3), fin]; rfl
theorem p_num {len : Nat} {by_ tx_ : Nat → Int32} (hT : TxR len by_ tx_) {p i : Nat} (hp : p ≤ len) (hi : i < 4) :
    (∃ (p' : Nat) (v : Int32), p < p' ∧ p' ≤ len ∧ (∀ nums, fX4_readNumber (iN (len : Int)) (iN (p : Int)) by_ nums (iN (i : Int)) = some (1, iN (p' : Int), upd nums i v)) ∧ ∀ (n : Nat) nums, n < 60 → fX8_readsNumber (iN (len : Int)) (iN (p : Int)) (iN (n : Int)) tx_ nums (iN (i : Int)) = some (1, iN (p' : Int), upd nums (4 * n + i) v))
    ∨ ∃ e : Nat, e ≤ len ∧ (∀ nums, ∃ nums', fX4_readNumber (iN (len : Int)) (iN (p : Int)) by_ nums (iN (i : Int)) = some (0, iN (e : Int), nums')) ∧ ∀ (n : Nat) nums, n < 60 → ∃ nums', fX8_readsNumber (iN (len : Int)) (iN (p : Int)) (iN (n : Int)) tx_ nums (iN (i : Int)) = some (0, iN (e : Int), nums') := by
  by_cases c1 : nx len tx_ p = 32
  · have p1 := nx_lt c1 (by decide)
    obtain ⟨ng, p2, h2, h3, e4, e8⟩ : ∃ (ng : Int32) (p2 : Nat), p + 1 ≤ p2 ∧ p2 ≤ len ∧ fX4_skip (iN (len : Int)) (iN ((p + 1 : Nat) : Int)) by_ (45 : Int32) = some (ng, iN (p2 : Int)) ∧ fX8_takes (iN (len : Int)) (iN ((p + 1 : Nat) : Int)) tx_ (45 : Int32) = some (ng, iN (p2 : Int)) := by
      by_cases c2 : nx len tx_ (p + 1) = 45
      · have := nx_lt c2 (by decide)
        exact ⟨1, p + 2, by omega, by omega, s4_skip_t hT (by omega) c2, m8_takes_t hT (by omega) c2⟩
      · exact ⟨0, p + 1, by omega, by omega, s4_skip_f hT (by omega) c2, m8_takes_f hT (by omega) c2⟩
    obtain ⟨d, hd, k1, k2⟩ := upto (dgP len tx_ p2) 7
    have a4 : ∀ nums, fX4_readNumber (iN (len : Int)) (iN (p : Int)) by_ nums (iN (i : Int)) = some ((if d = 0 then 0 else 1), iN ((p2 + d : Nat) : Int), upd nums i (vsg ng (vl tx_ p2 d))) := by
      intro nums
      unfold fX4_readNumber
      rw [s4_skip_t hT hp c1, qb, q2, if_neg n10, e4, qb, q2, s4_digits hT hi hd k1 k2 h3]
    have a8 : ∀ (n : Nat) nums, n < 60 → fX8_readsNumber (iN (len : Int)) (iN (p : Int)) (iN (n : Int)) tx_ nums (iN (i : Int)) = some ((if d = 0 then 0 else 1), iN ((p2 + d : Nat) : Int), upd nums (4 * n + i) (vsg ng (vl tx_ p2 d))) := by
      intro n nums hn
      unfold fX8_readsNumber
      rw [m8_takes_t hT hp c1, qb, q2, if_neg n10, e8, qb, q2, m8_digits hT hi hn hd k1 k2 h3]
    have hpd : p2 + d ≤ len := by
      by_cases c : d = 0
      · omega
      · have := (k1 (d - 1) (by omega)).1; omega
    by_cases c : d = 0
    · refine Or.inr ⟨p2 + d, hpd, fun nums => ?_, fun n nums hn => ?_⟩
      · rw [a4, if_pos c]; exact ⟨_, rfl⟩
      · rw [a8 n nums hn, if_pos c]; exact ⟨_, rfl⟩
    · refine Or.inl ⟨p2 + d, vsg ng (vl tx_ p2 d), by omega, hpd, fun nums => ?_, fun n nums hn => ?_⟩
      · rw [a4, if_neg c]
      · rw [a8 n nums hn, if_neg c]
  · refine Or.inr ⟨p, hp, fun nums => ⟨nums, ?_⟩, fun n nums hn => ⟨nums, ?_⟩⟩
    · unfold fX4_readNumber
      rw [s4_skip_f hT hp c1, qb, q2, if_pos rfl, zr_0]
    · unfold fX8_readsNumber
      rw [m8_takes_f hT hp c1, qb, q2, if_pos rfl, zr_0]
