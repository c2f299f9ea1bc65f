/-! ===== leads ===== -/
/-- m is the first one at a+k -/
def ldC (T : Int → Int) (a : Int) (m : Int) (k : Nat) : Bool := decide (T (a + k) = m)
theorem ldC_run {T : Int → Int} {a m t t2 : Int} (h0 : a ≤ t) (h1 : t ≤ t2) (hc : ∀ u, t ≤ u → u < t2 → T u = T t) : cnt (ldC T a m) (t2 - a).toNat = cnt (ldC T a m) (t - a).toNat + if T t = m then (t2 - t).toNat else 0 := by
  have e := cnt_run (p := ldC T a m) (a := (t - a).toNat) (b := decide (T t = m)) (t2 - t).toNat (fun z hz hz2 => by
    unfold ldC
    rw [hc (a + z) (by omega) (by omega)])
  rw [show (t2 - a).toNat = (t - a).toNat + (t2 - t).toNat by omega, e]
  congr 1
  by_cases c : T t = m
  · rw [if_pos c, if_pos (decide_eq_true c)]
  · rw [if_neg c, if_neg (fun q => c (of_decide_eq_true q))]
theorem s6_ticksLed {g : Nat → Int} {n m : Nat} (H : SegOK g n) (hm : m < n) {x : Int} (x0 : 0 ≤ x) (x1 : x ≤ 255) : fX6_ticksLed (iN n) (fun i => iN (g i)) (iN (m : Int)) (iN x) = some (iN (cnt (ldC (fun t => fst g x t n) (g (6 * m + 4)) m) (g (6 * m + 5) - g (6 * m + 4)).toNat)) := by
  have hn := H.1
  obtain ⟨-, -, -, a0, ab, b1⟩ := H.2 m hm
  unfold fX6_ticksLed
  rw [s6_v5 g m (by omega), qb, s6_v4 g m (by omega), qb]
  generalize g (6 * m + 4) = a at *
  generalize g (6 * m + 5) = b at *
  have key := lp_m (fun q : Int32 × Int32 × Int32 => bX6_ticksLed_21 (iN n) (fun i => iN (g i)) (iN (m : Int)) (iN x) (iN b) q.1 q.2.1 q.2.2) (fun q => ∃ t k : Int, q = (iN t, iN (cnt (ldC (fun t => fst g x t n) a m) (t - a).toNat : Nat), iN k) ∧ a ≤ t ∧ t ≤ b ∧ 0 ≤ k ∧ k ≤ t - a) (fun q => (16386 - q.1.toInt).toNat) (fun q => q = iN (cnt (ldC (fun t => fst g x t n) a m) (b - a).toNat)) ?_ fuel (iN a, (0 : Int32), (0 : Int32)) ⟨a, 0, by rw [show (a - a).toNat = 0 by omega]; rfl, by omega, by omega, by omega, by omega⟩ (fuel_ge (by show (16386 - (iN a).toInt).toNat ≤ _; rw [iN_toInt (by omega) (by omega)]; omega))
  · obtain ⟨q, e, rfl⟩ := key
    exact e
  · rintro q ⟨t, k, rfl, t0, t1, k0, k1⟩
    have hcl := cnt_le (ldC (fun t => fst g x t n) a m) (t - a).toNat
    have fin : b ≤ t → ∃ s', xt (some (iN (cnt (ldC (fun t => fst g x t n) a m) (t - a).toNat : Nat))) = some (.inr s' : (Int32 × Int32 × Int32) ⊕ Int32) ∧ s' = iN (cnt (ldC (fun t => fst g x t n) a m) (b - a).toNat) := fun h => ⟨_, rfl, by rw [show t = b by omega]⟩
    show (∃ s', bX6_ticksLed_21 _ _ _ _ _ (iN t) (iN (cnt (ldC (fun t => fst g x t n) a m) (t - a).toNat : Nat)) (iN k) = some (.inl s') ∧ _) ∨ (∃ s', bX6_ticksLed_21 _ _ _ _ _ (iN t) (iN (cnt (ldC (fun t => fst g x t n) a m) (t - a).toNat : Nat)) (iN k) = some (.inr s') ∧ _)
    unfold bX6_ticksLed_21
    rw [if_neg (by rw [show (16384 : Int32) = iN 16384 from rfl, iN_lt (by omega) (by omega) (by omega) (by omega)]; omega)]
    by_cases c1 : b ≤ t
    · rw [if_pos (by rw [iN_le (by omega) (by omega) (by omega) (by omega)]; exact c1)]
      exact Or.inr (fin c1)
    · rw [if_neg (by rw [iN_le (by omega) (by omega) (by omega) (by omega)]; exact c1)]
      obtain ⟨t2, e2, g1, g2, g3⟩ := s6_nextTurn H x0 x1 (show 0 ≤ t by omega) (show t ≤ 16384 by omega)
      have hb := fst_bd g x t n
      rw [e2, Option.bind_some, s6_firstAt H x0 x1 (by omega) (by omega)]
      simp only [Option.bind_some, nm, iN_ite, iN_lt (show -2147483648 ≤ b by omega) (by omega) (show -2147483648 ≤ t2 by omega) (by omega)]
      obtain ⟨t3, et3, h1, h2, h3⟩ : ∃ t3 : Int, (if b < t2 then b else t2) = t3 ∧ t < t3 ∧ t3 ≤ b ∧ t3 ≤ t2 := ⟨_, rfl, by split <;> omega, by split <;> omega, by split <;> omega⟩
      rw [et3]
      have run := ldC_run (T := fun t => fst g x t n) (a := a) (m := m) t0 (show t ≤ t3 by omega) (fun u hu hu2 => fst_const hu (fun w hw hw2 => g3 w hw (by omega)))
      have dec : (16386 - (iN t3).toInt).toNat < (16386 - (iN t).toInt).toNat := by
        rw [iN_toInt (by omega) (by omega), iN_toInt (by omega) (by omega)]; omega
      by_cases c2 : fst g x t n = m
      · rw [if_pos (by rw [c2])]
        rw [if_pos c2] at run
        refine Or.inl ⟨_, rfl, ⟨t3, k + 1, ?_, by omega, by omega, by omega, by omega⟩, dec⟩
        rw [run, iN_sub, iN_add, show iN k + (1 : Int32) = iN (k + 1) from iN_add k 1]
        congr 3
        omega
      · rw [if_neg (by rw [iN_eq (by omega) (by omega) (by omega) (by omega)]; exact c2)]
        rw [if_neg c2] at run
        refine Or.inl ⟨_, rfl, ⟨t3, k + 1, ?_, by omega, by omega, by omega, by omega⟩, dec⟩
        rw [run, show iN k + (1 : Int32) = iN (k + 1) from iN_add k 1]
        rfl
theorem m8_eventBehind {g : Nat → Int} {n : Nat} (hg : g 0 = n) (H : SegOK (sh g) n) {t : Int} (t0 : 0 ≤ t) (t1 : t < 16384) : ∃ r, fX8_eventBehind (fun i => iN (g i)) (iN t) = some (iN r) ∧ t < r ∧ r ≤ 16384 ∧ ∀ i, i < 2 * n → ev (sh g) i ≤ t ∨ r ≤ ev (sh g) i := by
  have hn := H.1
  unfold fX8_eventBehind
  have key := lp_iv (body := fun q : Int32 × Int32 => bX8_eventBehind_6 (fun i => iN (g i)) (iN t) q.1 q.2) (s0 := ((16384 : Int32), (0 : Int32))) (fun k q => ∃ r, q = (iN r, iN (k : Int)) ∧ t < r ∧ r ≤ 16384 ∧ ∀ i, i < k → ev (sh g) i ≤ t ∨ r ≤ ev (sh g) i) (fun q => ∃ r, q = iN r ∧ t < r ∧ r ≤ 16384 ∧ ∀ i, i < 2 * n → ev (sh g) i ≤ t ∨ r ≤ ev (sh g) i) (2 * n) ?_ ?_ ?_ (fuel_ge (by omega))
  · obtain ⟨q, e, r, rfl, h⟩ := key
    exact ⟨r, e, h⟩
  · exact ⟨16384, rfl, by omega, by omega, fun i hi => absurd hi (Nat.not_lt_zero i)⟩
  · rintro k q hk ⟨r, rfl, r0, r1, hr⟩
    have hv := ev_bd H hk
    show ∃ s', bX8_eventBehind_6 _ _ (iN r) (iN (k : Int)) = some (.inl s') ∧ _
    unfold bX8_eventBehind_6
    rw [show (0 : Int32) = iN 0 from rfl, rd_iN (by omega) (by omega) (by omega)]
    simp only [show (0 : Int).toNat = 0 from rfl, hg]
    rw [show (2 : Int32) = iN 2 from rfl, iN_mul, if_neg (by rw [iN_le (by omega) (by omega) (by omega) (by omega)]; omega), m8_event g k (by omega)]
    simp only [Option.bind_some, nm, iN_succ]
    have all : ∀ r2 : Int, r2 ≤ r → (ev (sh g) k ≤ t ∨ r2 ≤ ev (sh g) k) → ∀ i, i < k + 1 → ev (sh g) i ≤ t ∨ r2 ≤ ev (sh g) i := by
      intro r2 h1 h2 i hi
      by_cases e : i = k
      · subst e; exact h2
      · have := hr i (by omega); omega
    by_cases c1 : ev (sh g) k ≤ t
    · rw [if_pos (by rw [iN_le (by omega) (by omega) (by omega) (by omega)]; exact c1)]
      exact ⟨_, rfl, r, rfl, r0, r1, all r (Int.le_refl _) (Or.inl c1)⟩
    · rw [if_neg (by rw [iN_le (by omega) (by omega) (by omega) (by omega)]; exact c1)]
      by_cases c2 : r ≤ ev (sh g) k
      · rw [if_pos (by rw [iN_le (by omega) (by omega) (by omega) (by omega)]; exact c2)]
        exact ⟨_, rfl, r, rfl, r0, r1, all r (Int.le_refl _) (Or.inr c2)⟩
      · rw [if_neg (by rw [iN_le (by omega) (by omega) (by omega) (by omega)]; exact c2)]
        exact ⟨_, rfl, _, rfl, by omega, by omega, all _ (by omega) (Or.inr (Int.le_refl _))⟩
  · rintro q ⟨r, rfl, h⟩
    show ∃ s', bX8_eventBehind_6 _ _ (iN r) (iN ((2 * n : Nat) : Int)) = some (.inr s') ∧ _
    unfold bX8_eventBehind_6
    rw [show (0 : Int32) = iN 0 from rfl, rd_iN (by omega) (by omega) (by omega)]
    simp only [show (0 : Int).toNat = 0 from rfl, hg]
    rw [show (2 : Int32) = iN 2 from rfl, iN_mul, if_pos (by rw [iN_le (by omega) (by omega) (by omega) (by omega)]; omega)]
    exact ⟨_, rfl, r, rfl, h⟩
theorem m8_leadsLoop {g : Nat → Int} {n m : Nat} (hg : g 0 = n) (H : SegOK (sh g) n) (hm : m < n) {x : Int} (x0 : 0 ≤ x) (x1 : x ≤ 255) (w : Int32) : lp (fun q => bX8_leads_42 (fun i => iN (g i)) (iN (m : Int)) (iN x) w q.1 q.2) fuel ((0 : Int32), iN (sh g (6 * m + 4))) = some (iN (cnt (ldC (fun t => fst (sh g) x t n) (sh g (6 * m + 4)) m) (sh g (6 * m + 5) - sh g (6 * m + 4)).toNat), w) := by
  have hn := H.1
  obtain ⟨-, -, -, a0, ab, b1⟩ := H.2 m hm
  have hbe : ev (sh g) (2 * m + 1) = sh g (6 * m + 5) := by unfold ev; rw [show (2 * m + 1) / 2 = m by omega, show (2 * m + 1) % 2 = 1 by omega]
  have hv5 := m8_o5 g m (by omega)
  generalize sh g (6 * m + 4) = a at *
  generalize sh g (6 * m + 5) = b at *
  have key := lp_m (fun q : Int32 × Int32 => bX8_leads_42 (fun i => iN (g i)) (iN (m : Int)) (iN x) w q.1 q.2) (fun q => ∃ t : Int, q = (iN (cnt (ldC (fun t => fst (sh g) x t n) a m) (t - a).toNat : Nat), iN t) ∧ a ≤ t ∧ t ≤ b) (fun q => (16386 - q.2.toInt).toNat) (fun q => q = (iN (cnt (ldC (fun t => fst (sh g) x t n) a m) (b - a).toNat), w)) ?_ fuel ((0 : Int32), iN a) ⟨a, by rw [show (a - a).toNat = 0 by omega]; rfl, by omega, by omega⟩ (fuel_ge (by show (16386 - (iN a).toInt).toNat ≤ _; rw [iN_toInt (by omega) (by omega)]; omega))
  · obtain ⟨q, e, rfl⟩ := key
    exact e
  · rintro q ⟨t, rfl, t0, t1⟩
    show (∃ s', bX8_leads_42 _ _ _ _ (iN (cnt (ldC (fun t => fst (sh g) x t n) a m) (t - a).toNat : Nat)) (iN t) = some (.inl s') ∧ _) ∨ (∃ s', bX8_leads_42 _ _ _ _ (iN (cnt (ldC (fun t => fst (sh g) x t n) a m) (t - a).toNat : Nat)) (iN t) = some (.inr s') ∧ _)
    unfold bX8_leads_42 jX8_leads_82
    rw [hv5, Option.bind_some]
    by_cases c1 : b ≤ t
    · rw [if_pos (by rw [iN_le (by omega) (by omega) (by omega) (by omega)]; exact c1)]
      exact Or.inr ⟨_, rfl, by rw [show t = b by omega]⟩
    · rw [if_neg (by rw [iN_le (by omega) (by omega) (by omega) (by omega)]; exact c1)]
      obtain ⟨t2, e2, g1, g2, g3⟩ := m8_eventBehind hg H (show 0 ≤ t by omega) (show t < 16384 by omega)
      have hb := fst_bd (sh g) x t n
      have t2b : t2 ≤ b := by have := g3 (2 * m + 1) (by omega); omega
      rw [e2, Option.bind_some, m8_firstAt hg H x0 x1 (by omega) (by omega), Option.bind_some]
      simp only [nm]
      have run := ldC_run (T := fun t => fst (sh g) x t n) (a := a) (m := m) t0 (show t ≤ t2 by omega) (fun u hu hu2 => fst_const hu (fun w hw hw2 ht => by
        obtain ⟨i, hi, hie⟩ := turn_ev ht
        have := g3 i hi
        omega))
      have dec : (16386 - (iN t2).toInt).toNat < (16386 - (iN t).toInt).toNat := by
        rw [iN_toInt (by omega) (by omega), iN_toInt (by omega) (by omega)]; omega
      by_cases c2 : fst (sh g) x t n = m
      · rw [if_pos (by rw [c2])]
        rw [if_pos c2] at run
        refine Or.inl ⟨_, rfl, ⟨t2, ?_, by omega, by omega⟩, dec⟩
        rw [run, iN_sub, iN_add]
        congr 2
        omega
      · rw [if_neg (by rw [iN_eq (by omega) (by omega) (by omega) (by omega)]; exact c2)]
        rw [if_neg c2] at run
        refine Or.inl ⟨_, rfl, ⟨t2, ?_, by omega, by omega⟩, dec⟩
        rw [run, show (0 : Int32) = iN 0 from rfl, iN_add, Int.add_zero]
        rfl
/-- promise 21: how long one leads -/
theorem r_leads {g g8 : Nat → Int} {n : Nat} (hg : g8 0 = n) (H : SegOK g n) (hE : EqOn n g (sh g8)) (c0 : Int32) (x1 x2 : Int32) : ∃ r b c, fX7_leads (iN n) (fun i => iN (g i)) x1 x2 = some r ∧ fX8_leads c0 (fun i => iN (g8 i)) x1 x2 = some (b, c) ∧ agrI (fun e => if e = 3 then 1 else if e = 1 then 2 else 0) r b c := by
  have hn := H.1
  have H8 := H.eqOn hE
  unfold fX7_leads fX8_leads
  rw [m8_isSegment hg hn, qb]
  by_cases c1 : 0 ≤ x1.toInt ∧ x1.toInt < n
  · rw [s7_rs_t hn c1, if_neg (fun q => b01_0.mp q c1), qb, qt, m8_isPosition, qb]
    by_cases c2 : 0 ≤ x2.toInt ∧ x2.toInt ≤ 255
    · rw [s7_rb_t (a := 0) (b := 255) c2, if_neg (fun q => b01_0.mp q c2), qb, qt]
      obtain ⟨m, hm⟩ : ∃ k : Nat, x1.toInt = k := ⟨x1.toInt.toNat, by omega⟩
      have hmn : m < n := by omega
      rw [iN_of x1, iN_of x2, hm]
      generalize x2.toInt = x at *
      rw [s6_ticksLed H hmn c2.1 c2.2, qb, m8_o4 g8 m (by omega), qb, m8_leadsLoop hg H8 hmn c2.1 c2.2]
      have hT : (fun t => fst g x t n) = fun t => fst (sh g8) x t n := funext fun t => EqOn_fst hE x t n (Nat.le_refl n)
      rw [hT, hE (6 * m + 4) (by omega), hE (6 * m + 5) (by omega)]
      exact ⟨_, _, _, rfl, rfl, rfl, rfl⟩
    · rw [s7_rb_f (a := 0) (b := 255) c2, if_pos (b01_0.mpr c2)]
      exact ⟨_, _, _, rfl, rfl, rfl, by decide, by decide⟩
  · rw [s7_rs_f hn c1, if_pos (b01_0.mpr c1)]
    exact ⟨_, _, _, rfl, rfl, rfl, by decide, by decide⟩
