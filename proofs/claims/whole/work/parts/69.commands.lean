/-! ===== commands; the whole text ===== -/
def isL (L : Int32) : Prop := L = 97 ∨ L = 101 ∨ L = 109 ∨ L = 113 ∨ L = 115 ∨ L = 116
def nc (L : Int32) : Nat := if L = 97 then 4 else if L = 101 then 1 else if L = 109 then 2 else if L = 113 then 2 else if L = 116 then 1 else 0
theorem nc_le (L : Int32) : nc L ≤ 4 := by
  unfold nc
  by_cases c1 : L = 97
  · rw [if_pos c1]; omega
  · rw [if_neg c1]
    by_cases c2 : L = 101
    · rw [if_pos c2]; omega
    · rw [if_neg c2]
      by_cases c3 : L = 109
      · rw [if_pos c3]; omega
      · rw [if_neg c3]
        by_cases c4 : L = 113
        · rw [if_pos c4]; omega
        · rw [if_neg c4]
          by_cases c5 : L = 116
          · rw [if_pos c5]; omega
          · rw [if_neg c5]; omega
theorem s4_nO_t {L : Int32} (h : isL L) : fX4_numbersOf L = some (iN (nc L : Nat)) := by
  rcases h with rfl | rfl | rfl | rfl | rfl | rfl <;> decide +kernel
theorem s4_nO_f {L : Int32} (h : ¬ isL L) : fX4_numbersOf L = some (-1) := by
  unfold isL at h
  unfold fX4_numbersOf
  rw [if_neg (fun z => h (Or.inl z)), if_neg (fun z => h (Or.inr (Or.inl z))), if_neg (fun z => h (Or.inr (Or.inr (Or.inl z)))), if_neg (fun z => h (Or.inr (Or.inr (Or.inr (Or.inl z))))), if_neg (fun z => h (Or.inr (Or.inr (Or.inr (Or.inr (Or.inl z)))))), if_neg (fun z => h (Or.inr (Or.inr (Or.inr (Or.inr (Or.inr z))))))]
theorem m8_nO (L : Int32) : fX8_numbersOf L = fX4_numbersOf L := rfl
def NumOK (len : Nat) (by_ tx_ : Nat → Int32) (p i p' : Nat) (v : Int32) : Prop := p < p' ∧ p' ≤ len ∧ (∀ nums, fX4_readNumber (iN (len : Int)) (iN (p : Int)) by_ nums (iN (i : Int)) = some (1, iN (p' : Int), upd nums i v)) ∧ ∀ (n : Nat) nums, n < 60 → fX8_readsNumber (iN (len : Int)) (iN (p : Int)) (iN (n : Int)) tx_ nums (iN (i : Int)) = some (1, iN (p' : Int), upd nums (4 * n + i) v)
def NumBad (len : Nat) (by_ tx_ : Nat → Int32) (p i e : Nat) : Prop := e ≤ len ∧ (∀ nums, ∃ nums', fX4_readNumber (iN (len : Int)) (iN (p : Int)) by_ nums (iN (i : Int)) = some (0, iN (e : Int), nums')) ∧ ∀ (n : Nat) nums, n < 60 → ∃ nums', fX8_readsNumber (iN (len : Int)) (iN (p : Int)) (iN (n : Int)) tx_ nums (iN (i : Int)) = some (0, iN (e : Int), nums')
theorem chainNums {len : Nat} {by_ tx_ : Nat → Int32} (hT : TxR len by_ tx_) {p0 : Nat} (hp : p0 ≤ len) : ∀ c : Nat, c ≤ 4 → ∃ (d : Nat) (Q : Nat → Nat) (v : Nat → Int32), d ≤ c ∧ Q 0 = p0 ∧ (∀ i, i < d → NumOK len by_ tx_ (Q i) i (Q (i + 1)) (v i)) ∧ Q d ≤ len ∧ p0 ≤ Q d ∧ (d = c ∨ ∃ e, NumBad len by_ tx_ (Q d) d e) := by
  intro c
  induction c with
  | zero => intro _; exact ⟨0, fun _ => p0, fun _ => 0, Nat.le_refl 0, rfl, fun i hi => absurd hi (Nat.not_lt_zero i), hp, Nat.le_refl _, Or.inl rfl⟩
  | succ c ih =>
    intro hc
    obtain ⟨d, Q, v, h1, h2, h3, h4, h5, h6⟩ := ih (by omega)
    by_cases hd : d = c
    · subst hd
      rcases p_num hT h4 (show d < 4 by omega) with ⟨p', w, k1, k2, k3, k4⟩ | ⟨e, k⟩
      · refine ⟨d + 1, fun i => if i = d + 1 then p' else Q i, fun i => if i = d then w else v i, Nat.le_refl _, ?_, fun i hi => ?_, ?_, ?_, Or.inl rfl⟩
        · show (if 0 = d + 1 then p' else Q 0) = p0
          rw [if_neg (by omega)]; exact h2
        · by_cases ci : i = d
          · subst ci
            simp only [if_pos rfl, if_neg (show ¬ i = i + 1 by omega)]
            exact ⟨k1, k2, k3, k4⟩
          · simp only [if_neg ci, if_neg (show ¬ i = d + 1 by omega), if_neg (show ¬ i + 1 = d + 1 by omega)]
            exact h3 i (by omega)
        · show (if d + 1 = d + 1 then p' else Q (d + 1)) ≤ len
          rw [if_pos rfl]; exact k2
        · show p0 ≤ (if d + 1 = d + 1 then p' else Q (d + 1))
          rw [if_pos rfl]; omega
      · exact ⟨d, Q, v, by omega, h2, h3, h4, h5, Or.inr ⟨e, k⟩⟩
    · exact ⟨d, Q, v, by omega, h2, h3, h4, h5, Or.inr (h6.resolve_left hd)⟩
def OKc (len : Nat) (by_ tx_ : Nat → Int32) (p p' : Nat) (L : Int32) (v : Nat → Int32) : Prop := p + 2 ≤ p' ∧ p' ≤ len ∧ isL L ∧ (∀ cm nums, ∃ nums', fX4_readCommand (iN (len : Int)) cm (iN (p : Int)) by_ nums = some (1, L, iN (p' : Int), nums') ∧ ∀ i, i < nc L → nums' i = v i) ∧ ∀ (n : Nat) letter number, n < 60 → ∃ number', fX8_readsCommand (iN (len : Int)) (iN (p : Int)) (iN (n : Int)) tx_ letter number = some (1, iN (p' : Int), iN ((n + 1 : Nat) : Int), upd letter n L, number') ∧ (∀ i, i < 4 * n → number' i = number i) ∧ ∀ i, i < nc L → number' (4 * n + i) = v i
def BADc (len : Nat) (by_ tx_ : Nat → Int32) (p e : Nat) : Prop := e ≤ len ∧ (∀ cm nums, ∃ L nums', fX4_readCommand (iN (len : Int)) cm (iN (p : Int)) by_ nums = some (0, L, iN (e : Int), nums')) ∧ ∀ (n : Nat) letter number, n < 60 → ∃ n' l' u', fX8_readsCommand (iN (len : Int)) (iN (p : Int)) (iN (n : Int)) tx_ letter number = some (0, iN (e : Int), n', l', u')
theorem bad_none {len : Nat} {by_ tx_ : Nat → Int32} (hT : TxR len by_ tx_) {p : Nat} (hp : p ≤ len) (h : ¬ isL (nx len tx_ p)) : BADc len by_ tx_ p p := by
  refine ⟨hp, fun cm nums => ⟨nx len tx_ p, nums, ?_⟩, fun n letter number hn => ⟨iN (n : Int), letter, number, ?_⟩⟩
  · unfold fX4_readCommand
    rw [s4_next hT hp, qb, s4_nO_f h, qb, if_pos rfl, zr_0]
  · unfold fX8_readsCommand
    rw [m8_here hT hp, qb, m8_nO, s4_nO_f h, qb, if_pos rfl, zr_0]
theorem bad_end {len : Nat} {by_ tx_ : Nat → Int32} (hT : TxR len by_ tx_) : BADc len by_ tx_ len len := by
  refine bad_none hT (Nat.le_refl _) ?_
  rw [nx_out (Nat.le_refl _)]
  unfold isL
  decide
theorem p_cmd {len : Nat} {by_ tx_ : Nat → Int32} (hT : TxR len by_ tx_) {p : Nat} (hp : p ≤ len) : (∃ p' L v, OKc len by_ tx_ p p' L v) ∨ ∃ e, BADc len by_ tx_ p e := by
  have hl := hT.1
  by_cases h : isL (nx len tx_ p)
  · have pl : p < len := by
      by_cases c : p < len
      · exact c
      · exact absurd h (by rw [nx_out (by omega)]; unfold isL; decide)
    generalize hL : nx len tx_ p = L at h
    have hc := nc_le L
    obtain ⟨d, Q, v, h1, h2, h3, h4, h5, h6⟩ := chainNums hT (show p + 1 ≤ len by omega) (nc L) hc
    have e4 : ∀ cm nums, fX4_readCommand (iN (len : Int)) cm (iN (p : Int)) by_ nums = lp (fun q => bX4_readCommand_35 (iN (len : Int)) by_ (iN (nc L : Nat)) L q.1 q.2.1 q.2.2) fuel ((0 : Int32), iN ((Q 0 : Nat) : Int), nums) := by
      intro cm nums
      unfold fX4_readCommand
      rw [s4_next hT hp, qb, hL, s4_nO_t h, qb, if_neg (by rw [show (-1 : Int32) = iN (-1) from rfl, iN_eq (by omega) (by omega) (by omega) (by omega)]; omega), nm_v, iN_succ, h2]
    have e8 : ∀ (n : Nat) letter number, n < 60 → fX8_readsCommand (iN (len : Int)) (iN (p : Int)) (iN (n : Int)) tx_ letter number = lp (fun q => bX8_readsCommand_40 (iN (len : Int)) tx_ (iN (nc L : Nat)) (iN (n : Int)) (upd letter n L) q.1 q.2.1 q.2.2) fuel ((0 : Int32), iN ((Q 0 : Nat) : Int), number) := by
      intro n letter number hn
      unfold fX8_readsCommand
      rw [m8_here hT hp, qb, hL, m8_nO, s4_nO_t h, qb, if_neg (by rw [show (-1 : Int32) = iN (-1) from rfl, iN_eq (by omega) (by omega) (by omega) (by omega)]; omega), qb, wr_iN (by omega) (by omega) (by omega), nm_v, iN_succ, h2]
      rfl
    -- the class's numbers, the reference's numbers, and what each end gives
    have w4 : ∀ (R : Int32 × Int32 × Int32 × (Nat → Int32) → Prop) nums, (∀ nums' : Nat → Int32, (∀ i, i < d → nums' i = v i) → ∃ r, bX4_readCommand_35 (iN (len : Int)) by_ (iN (nc L : Nat)) L (iN (d : Int)) (iN ((Q d : Nat) : Int)) nums' = some (.inr r) ∧ R r) → ∃ r, lp (fun q => bX4_readCommand_35 (iN (len : Int)) by_ (iN (nc L : Nat)) L q.1 q.2.1 q.2.2) fuel ((0 : Int32), iN ((Q 0 : Nat) : Int), nums) = some r ∧ R r := by
      intro R nums hfin
      refine lp_iv (fun k s => ∃ nums' : Nat → Int32, s = (iN (k : Int), iN ((Q k : Nat) : Int), nums') ∧ ∀ i, i < k → nums' i = v i) R d ⟨nums, rfl, fun i hi => absurd hi (Nat.not_lt_zero i)⟩ ?_ ?_ (fuel_ge (by omega))
      · rintro k s hk ⟨nums', rfl, hv⟩
        obtain ⟨-, -, k3, -⟩ := h3 k hk
        show ∃ s', bX4_readCommand_35 _ _ _ _ (iN (k : Int)) (iN ((Q k : Nat) : Int)) nums' = some (.inl s') ∧ _
        unfold bX4_readCommand_35
        rw [if_neg (by rw [iN_le (by omega) (by omega) (by omega) (by omega)]; omega), k3, qb, q3, if_neg n10, nm_v, iN_succ]
        refine ⟨_, rfl, _, rfl, fun i hi => ?_⟩
        by_cases c : i = k
        · subst c; exact updW_eq
        · rw [updW_ne c]; exact hv i (by omega)
      · rintro s ⟨nums', rfl, hv⟩
        exact hfin nums' hv
    have w8 : ∀ (R : Int32 × Int32 × Int32 × (Nat → Int32) × (Nat → Int32) → Prop) (n : Nat) letter number, n < 60 → (∀ number' : Nat → Int32, (∀ i, i < 4 * n → number' i = number i) → (∀ i, i < d → number' (4 * n + i) = v i) → ∃ r, bX8_readsCommand_40 (iN (len : Int)) tx_ (iN (nc L : Nat)) (iN (n : Int)) (upd letter n L) (iN (d : Int)) (iN ((Q d : Nat) : Int)) number' = some (.inr r) ∧ R r) → ∃ r, lp (fun q => bX8_readsCommand_40 (iN (len : Int)) tx_ (iN (nc L : Nat)) (iN (n : Int)) (upd letter n L) q.1 q.2.1 q.2.2) fuel ((0 : Int32), iN ((Q 0 : Nat) : Int), number) = some r ∧ R r := by
      intro R n letter number hn hfin
      refine lp_iv (fun k s => ∃ number' : Nat → Int32, s = (iN (k : Int), iN ((Q k : Nat) : Int), number') ∧ (∀ i, i < 4 * n → number' i = number i) ∧ ∀ i, i < k → number' (4 * n + i) = v i) R d ⟨number, rfl, fun _ _ => rfl, fun i hi => absurd hi (Nat.not_lt_zero i)⟩ ?_ ?_ (fuel_ge (by omega))
      · rintro k s hk ⟨number', rfl, hu, hv⟩
        obtain ⟨-, -, -, k4⟩ := h3 k hk
        show ∃ s', bX8_readsCommand_40 _ _ _ _ _ (iN (k : Int)) (iN ((Q k : Nat) : Int)) number' = some (.inl s') ∧ _
        unfold bX8_readsCommand_40
        rw [if_neg (by rw [iN_le (by omega) (by omega) (by omega) (by omega)]; omega), k4 n number' hn, qb, q3, if_neg n10, nm_v, iN_succ]
        refine ⟨_, rfl, _, rfl, fun i hi => ?_, fun i hi => ?_⟩
        · rw [updW_ne (by omega)]; exact hu i hi
        · by_cases c : i = k
          · subst c; exact updW_eq
          · rw [updW_ne (by omega)]; exact hv i (by omega)
      · rintro s ⟨number', rfl, hu, hv⟩
        exact hfin number' hu hv
    by_cases hd : d = nc L
    · -- all its numbers are there
      by_cases cs : nx len tx_ (Q d) = 59
      · have ql := nx_lt cs (by decide)
        refine Or.inl ⟨Q d + 1, L, v, by omega, by omega, h, fun cm nums => ?_, fun n letter number hn => ?_⟩
        · rw [e4]
          obtain ⟨r, er, nums', rfl, hv⟩ := w4 (fun r => ∃ nums' : Nat → Int32, r = (1, L, iN ((Q d + 1 : Nat) : Int), nums') ∧ ∀ i, i < nc L → nums' i = v i) nums (fun nums' hv => by
            unfold bX4_readCommand_35
            rw [if_pos (by rw [iN_le (by omega) (by omega) (by omega) (by omega)]; omega), s4_skip_t hT h4 cs, qb, q2, zr_1]
            exact ⟨_, rfl, nums', rfl, fun i hi => hv i (by omega)⟩)
          exact ⟨nums', er, hv⟩
        · rw [e8 n letter number hn]
          obtain ⟨r, er, number', rfl, hu, hv⟩ := w8 (fun r => ∃ number' : Nat → Int32, r = (1, iN ((Q d + 1 : Nat) : Int), iN ((n + 1 : Nat) : Int), upd letter n L, number') ∧ (∀ i, i < 4 * n → number' i = number i) ∧ ∀ i, i < nc L → number' (4 * n + i) = v i) n letter number hn (fun number' hu hv => by
            unfold bX8_readsCommand_40
            rw [if_pos (by rw [iN_le (by omega) (by omega) (by omega) (by omega)]; omega), nm_v, m8_takes_t hT h4 cs, qb, q2, zr_1, iN_succ]
            exact ⟨_, rfl, number', rfl, hu, fun i hi => hv i (by omega)⟩)
          exact ⟨number', er, hu, hv⟩
      · refine Or.inr ⟨Q d, h4, fun cm nums => ?_, fun n letter number hn => ?_⟩
        · rw [e4]
          obtain ⟨r, er, nums', rfl⟩ := w4 (fun r => ∃ nums' : Nat → Int32, r = (0, L, iN ((Q d : Nat) : Int), nums')) nums (fun nums' hv => by
            unfold bX4_readCommand_35
            rw [if_pos (by rw [iN_le (by omega) (by omega) (by omega) (by omega)]; omega), s4_skip_f hT h4 cs, qb, q2, zr_0]
            exact ⟨_, rfl, nums', rfl⟩)
          exact ⟨_, _, er⟩
        · rw [e8 n letter number hn]
          obtain ⟨r, er, n', l', u', rfl⟩ := w8 (fun r => ∃ n' l' u', r = (0, iN ((Q d : Nat) : Int), n', l', u')) n letter number hn (fun number' hu hv => by
            unfold bX8_readsCommand_40
            rw [if_pos (by rw [iN_le (by omega) (by omega) (by omega) (by omega)]; omega), nm_v, m8_takes_f hT h4 cs, qb, q2, zr_0]
            exact ⟨_, rfl, _, _, _, rfl⟩)
          exact ⟨_, _, _, er⟩
    · obtain ⟨e, k1, k2, k3⟩ := h6.resolve_left hd
      refine Or.inr ⟨e, k1, fun cm nums => ?_, fun n letter number hn => ?_⟩
      · rw [e4]
        obtain ⟨r, er, nums', rfl⟩ := w4 (fun r => ∃ nums' : Nat → Int32, r = (0, L, iN (e : Int), nums')) nums (fun nums' hv => by
          obtain ⟨n2, en⟩ := k2 nums'
          unfold bX4_readCommand_35
          rw [if_neg (by rw [iN_le (by omega) (by omega) (by omega) (by omega)]; omega), en, qb, q3, if_pos rfl, zr_0]
          exact ⟨_, rfl, n2, rfl⟩)
        exact ⟨_, _, er⟩
      · rw [e8 n letter number hn]
        obtain ⟨r, er, n', l', u', rfl⟩ := w8 (fun r => ∃ n' l' u', r = (0, iN (e : Int), n', l', u')) n letter number hn (fun number' hu hv => by
          obtain ⟨n2, en⟩ := k3 n number' hn
          unfold bX8_readsCommand_40
          rw [if_neg (by rw [iN_le (by omega) (by omega) (by omega) (by omega)]; omega), en, qb, q3, if_pos rfl, zr_0]
          exact ⟨_, rfl, _, _, _, rfl⟩)
        exact ⟨_, _, _, er⟩
  · exact Or.inr ⟨p, bad_none hT hp h⟩
/-- the commands of a text, one behind the other; then its end, or what is wrong -/
theorem chainCmds {len : Nat} {by_ tx_ : Nat → Int32} (hT : TxR len by_ tx_) : ∀ (m p : Nat), p ≤ len → len - p ≤ m → ∃ (K : Nat) (P : Nat → Nat) (Ls : Nat → Int32) (Vs : Nat → Nat → Int32), P 0 = p ∧ (∀ j, j < K → OKc len by_ tx_ (P j) (P (j + 1)) (Ls j) (Vs j)) ∧ (P K = len ∨ (P K < len ∧ ∃ e, BADc len by_ tx_ (P K) e)) := by
  intro m
  induction m with
  | zero => intro p hp hm; exact ⟨0, fun _ => p, fun _ => 0, fun _ _ => 0, rfl, fun j hj => absurd hj (Nat.not_lt_zero j), Or.inl (show p = len by omega)⟩
  | succ m ih =>
    intro p hp hm
    by_cases c : p = len
    · exact ⟨0, fun _ => p, fun _ => 0, fun _ _ => 0, rfl, fun j hj => absurd hj (Nat.not_lt_zero j), Or.inl c⟩
    · rcases p_cmd hT hp with ⟨p', L, v, hok⟩ | ⟨e, hb⟩
      · obtain ⟨K, P, Ls, Vs, h0, h1, h2⟩ := ih p' hok.2.1 (by have := hok.1; omega)
        refine ⟨K + 1, fun j => Nat.casesOn j p P, fun j => Nat.casesOn j L Ls, fun j => Nat.casesOn j v Vs, rfl, fun j hj => ?_, h2⟩
        cases j with
        | zero => show OKc len by_ tx_ p (P 0) L v; rw [h0]; exact hok
        | succ j => exact h1 j (by omega)
      · exact ⟨0, fun _ => p, fun _ => 0, fun _ _ => 0, rfl, fun j hj => absurd hj (Nat.not_lt_zero j), Or.inr ⟨show p < len by omega, e, hb⟩⟩
theorem chain_len {len : Nat} {by_ tx_ : Nat → Int32} {K : Nat} {P : Nat → Nat} {Ls : Nat → Int32} {Vs : Nat → Nat → Int32} (h0 : P 0 = 0) (h : ∀ j, j < K → OKc len by_ tx_ (P j) (P (j + 1)) (Ls j) (Vs j)) : ∀ k, k ≤ K → 2 * k ≤ P k ∧ (0 < k → P k ≤ len) := by
  intro k
  induction k with
  | zero => intro _; exact ⟨by omega, fun z => absurd z (Nat.lt_irrefl 0)⟩
  | succ k ih =>
    intro hk
    have := ih (by omega)
    have ho := h k (by omega)
    exact ⟨by have := ho.1; omega, fun _ => ho.2.1⟩
theorem s4_syntax {len : Nat} {by_ tx_ : Nat → Int32} (hT : TxR len by_ tx_) {K : Nat} {P : Nat → Nat} {Ls : Nat → Int32} {Vs : Nat → Nat → Int32} (h0 : P 0 = 0) (h : ∀ j, j < K → OKc len by_ tx_ (P j) (P (j + 1)) (Ls j) (Vs j)) (cm pl : Int32) (nums : Nat → Int32) : (P K = len → ∃ cm' pl' nums', fX4_syntaxError (iN (len : Int)) cm pl by_ nums = some (-1, cm', pl', nums')) ∧ ∀ e, P K < len → BADc len by_ tx_ (P K) e → ∃ cm' pl' nums', fX4_syntaxError (iN (len : Int)) cm pl by_ nums = some (iN (e : Int), cm', pl', nums') := by
  have hl := hT.1
  have hcl := chain_len h0 h
  have hK : K ≤ 60 := by
    by_cases c : K = 0
    · omega
    · have := hcl K (Nat.le_refl K); have := this.2 (by omega); omega
  have key : ∀ R : Int32 × Int32 × Int32 × (Nat → Int32) → Prop, (∀ cm' nums', ∃ r, bX4_syntaxError_6 (iN (len : Int)) by_ (iN (K : Int)) cm' (iN ((P K : Nat) : Int)) nums' = some (.inr r) ∧ R r) → ∃ r, fX4_syntaxError (iN (len : Int)) cm pl by_ nums = some r ∧ R r := by
    intro R hfin
    unfold fX4_syntaxError fX4_restart
    rw [qb]
    refine lp_iv (fun k s => ∃ (cm' : Int32) (nums' : Nat → Int32), s = (iN (k : Int), cm', iN ((P k : Nat) : Int), nums')) R K ⟨cm, nums, by rw [h0]; rfl⟩ ?_ ?_ (fuel_ge (by omega))
    · rintro k s hk ⟨cm', nums', rfl⟩
      obtain ⟨o1, o2, o3, o4, -⟩ := h k hk
      obtain ⟨n2, en, -⟩ := o4 cm' nums'
      show ∃ s', bX4_syntaxError_6 _ _ (iN (k : Int)) cm' (iN ((P k : Nat) : Int)) nums' = some (.inl s') ∧ _
      unfold bX4_syntaxError_6
      rw [if_neg (by rw [show (120 : Int32) = iN 120 from rfl, iN_le (by omega) (by omega) (by omega) (by omega)]; omega), if_neg (by rw [iN_le (by omega) (by omega) (by omega) (by omega)]; omega), en, qb, q4, if_neg n10, nm_v, iN_succ]
      exact ⟨_, rfl, _, _, rfl⟩
    · rintro s ⟨cm', nums', rfl⟩
      exact hfin cm' nums'
  constructor
  · intro hP
    obtain ⟨r, er, cm', pl', nums', rfl⟩ := key (fun r => ∃ cm' pl' nums', r = (-1, cm', pl', nums')) (fun cm' nums' => by
      unfold bX4_syntaxError_6
      rw [if_neg (by rw [show (120 : Int32) = iN 120 from rfl, iN_le (by omega) (by omega) (by omega) (by omega)]; omega), if_pos (by rw [iN_le (by omega) (by omega) (by omega) (by omega)]; omega)]
      exact ⟨_, rfl, _, _, _, rfl⟩)
    exact ⟨cm', pl', nums', er⟩
  · intro e hP hb
    obtain ⟨r, er, cm', pl', nums', rfl⟩ := key (fun r => ∃ cm' pl' nums', r = (iN (e : Int), cm', pl', nums')) (fun cm' nums' => by
      obtain ⟨L, n2, en⟩ := hb.2.1 cm' nums'
      unfold bX4_syntaxError_6
      rw [if_neg (by rw [show (120 : Int32) = iN 120 from rfl, iN_le (by omega) (by omega) (by omega) (by omega)]; omega), if_neg (by rw [iN_le (by omega) (by omega) (by omega) (by omega)]; omega), en, qb, q4, if_pos rfl]
      exact ⟨_, rfl, _, _, _, rfl⟩)
    exact ⟨cm', pl', nums', er⟩
theorem m8_readsAll {len : Nat} {by_ tx_ : Nat → Int32} (hT : TxR len by_ tx_) {K : Nat} {P : Nat → Nat} {Ls : Nat → Int32} {Vs : Nat → Nat → Int32} (h0 : P 0 = 0) (h : ∀ j, j < K → OKc len by_ tx_ (P j) (P (j + 1)) (Ls j) (Vs j)) (a b : Int32) (letter number : Nat → Int32) : (P K = len → ∃ letter' number', fX8_readsAll (iN (len : Int)) a b tx_ letter number = some (1, iN (len : Int), iN (K : Int), letter', number') ∧ ∀ j, j < K → letter' j = Ls j ∧ ∀ i, i < nc (Ls j) → number' (4 * j + i) = Vs j i) ∧ ∀ e, P K < len → BADc len by_ tx_ (P K) e → ∃ n' l' u', fX8_readsAll (iN (len : Int)) a b tx_ letter number = some (0, iN (e : Int), n', l', u') := by
  have hl := hT.1
  have hcl := chain_len h0 h
  have hK : K ≤ 60 := by
    by_cases c : K = 0
    · omega
    · have := hcl K (Nat.le_refl K); have := this.2 (by omega); omega
  have nne : ∀ q, q < len → ¬ nx len tx_ q = -1 := by
    intro q hq z
    rw [nx_in hq] at z
    have := (hT.2 q hq).2.1
    rw [(hT.2 q hq).1, z] at this
    exact absurd this (by decide)
  have key : ∀ (F : Nat) (R : Int32 × Int32 × Int32 × (Nat → Int32) × (Nat → Int32) → Prop), F < 1000 → (∀ l' u' : Nat → Int32, (∀ j, j < K → l' j = Ls j ∧ ∀ i, i < nc (Ls j) → u' (4 * j + i) = Vs j i) → ∃ r, lp (fun q => bX8_readsAll_12 (iN (len : Int)) tx_ q.1 q.2.1 q.2.2.1 q.2.2.2.1 q.2.2.2.2) (fuel - K) ((1 : Int32), iN ((P K : Nat) : Int), iN (K : Int), l', u') = some r ∧ R r) → ∃ r, fX8_readsAll (iN (len : Int)) a b tx_ letter number = some r ∧ R r := by
    intro F R _ hfin
    unfold fX8_readsAll
    have hrun : ∀ k, k ≤ K → ∃ l' u' : Nat → Int32, lp (fun q => bX8_readsAll_12 (iN (len : Int)) tx_ q.1 q.2.1 q.2.2.1 q.2.2.2.1 q.2.2.2.2) fuel ((1 : Int32), (0 : Int32), (0 : Int32), letter, number) = lp (fun q => bX8_readsAll_12 (iN (len : Int)) tx_ q.1 q.2.1 q.2.2.1 q.2.2.2.1 q.2.2.2.2) (fuel - k) ((1 : Int32), iN ((P k : Nat) : Int), iN (k : Int), l', u') ∧ ∀ j, j < k → l' j = Ls j ∧ ∀ i, i < nc (Ls j) → u' (4 * j + i) = Vs j i := by
      intro k
      induction k with
      | zero => intro _; exact ⟨letter, number, by rw [h0]; rfl, fun j hj => absurd hj (Nat.not_lt_zero j)⟩
      | succ k ih =>
        intro hk
        obtain ⟨l', u', e1, hv⟩ := ih (by omega)
        obtain ⟨o1, o2, o3, -, o5⟩ := h k (by omega)
        obtain ⟨u2, en, hu, hw⟩ := o5 k l' u' (by omega)
        refine ⟨upd l' k (Ls k), u2, ?_, fun j hj => ?_⟩
        · rw [e1]
          obtain ⟨F', hF'⟩ : ∃ F', fuel - k = F' + 1 := ⟨fuel - k - 1, by unfold fuel; omega⟩
          rw [show fuel - (k + 1) = F' by omega, hF']
          have eb : bX8_readsAll_12 (iN (len : Int)) tx_ (1 : Int32) (iN ((P k : Nat) : Int)) (iN (k : Int)) l' u' = some (.inl (1, iN ((P (k + 1) : Nat) : Int), iN ((k + 1 : Nat) : Int), upd l' k (Ls k), u2)) := by
            unfold bX8_readsAll_12
            rw [if_neg n10, m8_here hT (by omega), qb, if_neg (nne _ (by omega)), en, qb, q5]
          simp only [lp, eb, Option.bind_some]
        · by_cases c : j = k
          · subst c; exact ⟨updW_eq, hw⟩
          · refine ⟨by rw [updW_ne c]; exact (hv j (by omega)).1, fun i hi => ?_⟩
            have := nc_le (Ls j)
            rw [hu _ (by omega)]
            exact (hv j (by omega)).2 i hi
    obtain ⟨l', u', e1, hv⟩ := hrun K (Nat.le_refl K)
    rw [e1]
    exact hfin l' u' hv
  constructor
  · intro hP
    obtain ⟨r, er, l', u', rfl, hv⟩ := key 0 (fun r => ∃ l' u', r = (1, iN (len : Int), iN (K : Int), l', u') ∧ ∀ j, j < K → l' j = Ls j ∧ ∀ i, i < nc (Ls j) → u' (4 * j + i) = Vs j i) (by omega) (fun l' u' hv => by
      obtain ⟨F', hF'⟩ : ∃ F', fuel - K = F' + 1 := ⟨fuel - K - 1, by unfold fuel; omega⟩
      have eb : bX8_readsAll_12 (iN (len : Int)) tx_ (1 : Int32) (iN ((P K : Nat) : Int)) (iN (K : Int)) l' u' = some (.inr (1, iN (len : Int), iN (K : Int), l', u')) := by
        unfold bX8_readsAll_12
        rw [if_neg n10, m8_here hT (by omega), qb, nx_out (by omega), if_pos rfl, zr_1, hP]
        rfl
      rw [hF']
      simp only [lp, eb, Option.bind_some]
      exact ⟨_, rfl, _, _, rfl, hv⟩)
    exact ⟨l', u', er, hv⟩
  · intro e hP hb
    obtain ⟨r, er, n', l', u', rfl⟩ := key 0 (fun r => ∃ n' l' u', r = (0, iN (e : Int), n', l', u')) (by omega) (fun l' u' hv => by
      have hK2 : K < 60 := by
        by_cases c : K = 0
        · omega
        · have := hcl K (Nat.le_refl K); omega
      obtain ⟨F', hF'⟩ : ∃ F', fuel - K = F' + 1 + 1 := ⟨fuel - K - 2, by unfold fuel; omega⟩
      obtain ⟨n2, l2, u2, en⟩ := hb.2.2 K l' u' hK2
      have eb : bX8_readsAll_12 (iN (len : Int)) tx_ (1 : Int32) (iN ((P K : Nat) : Int)) (iN (K : Int)) l' u' = some (.inl (0, iN (e : Int), n2, l2, u2)) := by
        unfold bX8_readsAll_12
        rw [if_neg n10, m8_here hT (by omega), qb, if_neg (nne _ (by omega)), en, qb, q5]
      have eb2 : bX8_readsAll_12 (iN (len : Int)) tx_ (0 : Int32) (iN (e : Int)) n2 l2 u2 = some (.inr (0, iN (e : Int), n2, l2, u2)) := by
        unfold bX8_readsAll_12
        rw [if_pos rfl, zr_0]
        rfl
      rw [hF']
      simp only [lp, eb, eb2, Option.bind_some]
      exact ⟨_, rfl, _, _, _, rfl⟩)
    exact ⟨n', l', u', er⟩
