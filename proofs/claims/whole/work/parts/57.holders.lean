/-! ===== holders ===== -/
/-- no dyadic interval within f..e has t inside -/
def NoS (f e t : Nat) : Prop := ∀ k u, u % 2 ^ k = 0 → f ≤ u → u + 2 ^ k ≤ e → ¬ (u < t ∧ t < u + 2 ^ k)
theorem mul_gap {P x y : Nat} (hx : x % P = 0) (hy : y % P = 0) (h : x < y) : x + P ≤ y := by
  obtain ⟨a, rfl⟩ := Nat.dvd_of_mod_eq_zero hx
  obtain ⟨b, rfl⟩ := Nat.dvd_of_mod_eq_zero hy
  have hab : a < b := Nat.lt_of_mul_lt_mul_left h
  have := Nat.mul_le_mul_left P (show a + 1 ≤ b from hab)
  rw [Nat.mul_add, Nat.mul_one] at this
  exact this
theorem NoS.step {f e t : Nat} (h : NoS f e t) (ht : t < e) (he : e ≤ 16384) : NoS f e (t + dl t e) := by
  obtain ⟨⟨j, -, hj⟩, h1, h2, h3⟩ := dl_ok ht he
  rw [hj] at h1 h2 h3 ⊢
  intro k u hu hf hue hin
  have hge : t ≤ u := by
    by_cases c : t ≤ u
    · exact c
    · exact absurd ⟨by omega, by omega⟩ (h k u hu hf hue)
  by_cases c : k ≤ j
  · have e1 : (t + 2 ^ j) % 2 ^ k = 0 := by
      rw [Nat.add_mod, mod_pow c h1, mod_pow c (Nat.mod_self _)]
      exact Nat.zero_mod _
    have := mul_gap hu e1 hin.1
    omega
  · have e1 : u % 2 ^ j = 0 := mod_pow (by omega) hu
    have e2 : u = t := by
      by_cases q : t < u
      · have := mul_gap h1 e1 q; omega
      · omega
    subst e2
    have e3 : 2 * 2 ^ j = 2 ^ (j + 1) := by rw [Nat.pow_succ, Nat.mul_comm]
    have e4 : 2 ^ (j + 1) ≤ 2 ^ k := Nat.pow_le_pow_right (by omega) (by omega)
    rw [e3] at h3
    exact h3 ⟨mod_pow (by omega) hu, by omega⟩
/-- the interval s, s+1, .. s + 2^k - 1 lies within f..e, the next larger one doesn't -/
def Hold (f e s k : Nat) : Prop := f ≤ s ∧ s + 2 ^ k ≤ e ∧ ¬ (f ≤ 2 ^ (k + 1) * (s / 2 ^ (k + 1)) ∧ 2 ^ (k + 1) * (s / 2 ^ (k + 1)) + 2 ^ (k + 1) ≤ e)
theorem Hold.step {f e s k t : Nat} (hH : Hold f e s k) (hs : s % 2 ^ k = 0) (hN : NoS f e t) (ft : f ≤ t) (he : e ≤ 16384) (hts : t < s) : t + dl t e ≤ s := by
  have p0 : 0 < 2 ^ k := Nat.pow_pos (by omega)
  obtain ⟨h1, h2, h3⟩ := hH
  have hte : t < e := by omega
  have hN2 := hN.step hte he
  obtain ⟨⟨j, -, hj⟩, k1, k2, k3⟩ := dl_ok hte he
  rw [hj] at k1 k2 k3 hN2 ⊢
  by_cases c : t + 2 ^ j ≤ s
  · exact c
  · exfalso
    have h4 : s + 2 ^ k ≤ t + 2 ^ j := by
      by_cases d : s + 2 ^ k ≤ t + 2 ^ j
      · exact d
      · exact absurd ⟨by omega, by omega⟩ (hN2 k s hs h1 h2)
    have hkj : k + 1 ≤ j := by
      by_cases d : k + 1 ≤ j
      · exact d
      · have : 2 ^ j ≤ 2 ^ k := Nat.pow_le_pow_right (by omega) (by omega)
        omega
    have m1 : t % 2 ^ (k + 1) = 0 := mod_pow hkj k1
    have m2 : (t + 2 ^ j) % 2 ^ (k + 1) = 0 := by
      rw [Nat.add_mod, m1, mod_pow hkj (Nat.mod_self _)]
      exact Nat.zero_mod _
    have hd := Nat.div_add_mod s (2 ^ (k + 1))
    have hlt : s % 2 ^ (k + 1) < 2 ^ (k + 1) := Nat.mod_lt _ (Nat.pow_pos (by omega))
    have m3 : (2 ^ (k + 1) * (s / 2 ^ (k + 1))) % 2 ^ (k + 1) = 0 := Nat.mul_mod_right _ _
    have g2 := mul_gap m3 m2 (by omega)
    have g1 : t ≤ 2 ^ (k + 1) * (s / 2 ^ (k + 1)) := by
      by_cases d : 2 ^ (k + 1) * (s / 2 ^ (k + 1)) < t
      · have := mul_gap m3 m1 d; omega
      · omega
    exact h3 ⟨by omega, by omega⟩
theorem Hold.iff {f e s k t : Nat} (hs : s % 2 ^ k = 0) (hN : NoS f e t) (ft : f ≤ t) (he : e ≤ 16384) (hx : e ≤ t ∨ s ≤ t) (hts : Hold f e s k → t ≤ s) : Hold f e s k ↔ (t < e ∧ t = s ∧ dl t e = 2 ^ k) := by
  have p0 : 0 < 2 ^ k := Nat.pow_pos (by omega)
  have ep : 2 ^ (k + 1) = 2 * 2 ^ k := by rw [Nat.pow_succ, Nat.mul_comm]
  have hd := Nat.div_add_mod s (2 ^ (k + 1))
  have hlt : s % 2 ^ (k + 1) < 2 ^ (k + 1) := Nat.mod_lt _ (Nat.pow_pos (by omega))
  constructor
  · intro hH
    have h0 := hts hH
    obtain ⟨h1, h2, h3⟩ := hH
    have hte : t < e := by omega
    have hst : t = s := by omega
    refine ⟨hte, hst, ?_⟩
    have hL := dl_ok hte he
    obtain ⟨⟨j, -, hj⟩, k1, k2, k3⟩ := id hL
    rw [hj] at hL k1 k2 ⊢
    have l1 := hL.le (j := k) (by rw [hst]; exact hs) (by rw [hst]; exact h2)
    by_cases c : k = j
    · rw [c]
    · exfalso
      have m1 : s % 2 ^ (k + 1) = 0 := by rw [← hst]; exact mod_pow (by omega) k1
      have l2 : 2 ^ (k + 1) ≤ 2 ^ j := Nat.pow_le_pow_right (by omega) (by omega)
      exact h3 ⟨by omega, by omega⟩
  · rintro ⟨hte, hst, hdl⟩
    obtain ⟨-, k1, k2, k3⟩ := dl_ok hte he
    rw [hdl] at k1 k2 k3
    subst hst
    refine ⟨ft, k2, fun q => ?_⟩
    by_cases c : t % 2 ^ (k + 1) = 0
    · rw [← ep] at k3
      exact k3 ⟨c, by omega⟩
    · exact hN (k + 1) (2 ^ (k + 1) * (t / 2 ^ (k + 1))) (Nat.mul_mod_right _ _) q.1 q.2 ⟨by omega, by omega⟩
theorem s0_holds {f e s k : Nat} (he : e ≤ 16384) (hs : s ≤ 16384) (hk : k ≤ 14) (hfe : f ≤ e) : ∃ r, fX0_holds (iN (f : Int)) (iN (e : Int)) (iN (s : Int)) (iN ((2 ^ k : Nat) : Int)) = some r ∧ (r = 1 ∨ r = 0) ∧ (r = 1 ↔ Hold f e s k) := by
  have p0 : 0 < 2 ^ k := Nat.pow_pos (by omega)
  have p1 : 2 ^ k ≤ 2 ^ 14 := Nat.pow_le_pow_right (by omega) hk
  have ep : 2 ^ (k + 1) = 2 * 2 ^ k := by rw [Nat.pow_succ, Nat.mul_comm]
  have hq : 2 ^ (k + 1) * (s / 2 ^ (k + 1)) ≤ s := Nat.mul_div_le s _
  have ez : (2 : Int32) * iN ((2 ^ k : Nat) : Int) = iN ((2 ^ (k + 1) : Nat) : Int) := by
    rw [show (2 : Int32) = iN 2 from rfl, iN_mul, ep]; congr 1
  unfold fX0_holds
  rw [ez]
  simp only [nm]
  rw [and_high (show s < 2147483648 by omega) (show k + 1 ≤ 30 by omega), iN_add, iN_add, zr_0, zr_1]
  unfold Hold
  generalize 2 ^ (k + 1) * (s / 2 ^ (k + 1)) = ws at *
  generalize 2 ^ (k + 1) = Q at *
  generalize 2 ^ k = P at *
  have n1 : ¬ ((0 : Int32) = 1) := by decide
  by_cases c1 : s < f
  · rw [if_pos (by rw [iN_lt (by omega) (by omega) (by omega) (by omega)]; omega)]
    exact ⟨_, rfl, Or.inr rfl, fun q => absurd q n1, fun q => by omega⟩
  · rw [if_neg (by rw [iN_lt (by omega) (by omega) (by omega) (by omega)]; omega)]
    by_cases c2 : s + P ≤ e
    · rw [if_pos (by rw [iN_le (by omega) (by omega) (by omega) (by omega)]; omega)]
      by_cases c3 : 16384 < Q
      · rw [if_pos (by rw [show (16384 : Int32) = iN 16384 from rfl, iN_lt (by omega) (by omega) (by omega) (by omega)]; omega)]
        exact ⟨_, rfl, Or.inl rfl, fun _ => ⟨by omega, c2, by omega⟩, fun _ => rfl⟩
      · rw [if_neg (by rw [show (16384 : Int32) = iN 16384 from rfl, iN_lt (by omega) (by omega) (by omega) (by omega)]; omega)]
        by_cases c4 : ws < f
        · rw [if_pos (by rw [iN_lt (by omega) (by omega) (by omega) (by omega)]; omega)]
          exact ⟨_, rfl, Or.inl rfl, fun _ => ⟨by omega, c2, by omega⟩, fun _ => rfl⟩
        · rw [if_neg (by rw [iN_lt (by omega) (by omega) (by omega) (by omega)]; omega)]
          by_cases c5 : ws + Q ≤ e
          · rw [if_pos (by rw [iN_le (by omega) (by omega) (by omega) (by omega)]; omega)]
            exact ⟨_, rfl, Or.inr rfl, fun q => absurd q n1, fun q => absurd ⟨by omega, c5⟩ q.2.2⟩
          · rw [if_neg (by rw [iN_le (by omega) (by omega) (by omega) (by omega)]; omega)]
            exact ⟨_, rfl, Or.inl rfl, fun _ => ⟨by omega, c2, by omega⟩, fun _ => rfl⟩
    · rw [if_neg (by rw [iN_le (by omega) (by omega) (by omega) (by omega)]; omega)]
      exact ⟨_, rfl, Or.inr rfl, fun q => absurd q n1, fun q => absurd q.2.1 c2⟩
theorem m8_isHolder {g : Nat → Int} {m f e s k : Nat} (hm : m < 40) (ha : sh g (6 * m + 4) = f) (hb : sh g (6 * m + 5) = e) (hfe : f ≤ e) (he : e ≤ 16384) (hs : s ≤ 16384) (hk : k ≤ 14) (hd : s % 2 ^ k = 0) : ∃ r, fX8_isHolder (fun i => iN (g i)) (iN (m : Int)) (iN (s : Int)) (iN ((2 ^ k : Nat) : Int)) = some r ∧ (r = 1 ∨ r = 0) ∧ (r = 1 ↔ Hold f e s k) := by
  have p1 : 2 ^ k ≤ 2 ^ 14 := Nat.pow_le_pow_right (by omega) hk
  have v5 := m8_o5 g m hm
  rw [hb] at v5
  unfold fX8_isHolder
  rw [m8_o4 g m hm, ha, qb]
  refine lp_m (fun q : Int32 => bX8_isHolder_8 (fun i => iN (g i)) (iN (m : Int)) (iN (s : Int)) (iN ((2 ^ k : Nat) : Int)) q) (fun q => ∃ t : Nat, q = iN (t : Int) ∧ f ≤ t ∧ t ≤ e ∧ NoS f e t ∧ (Hold f e s k → t ≤ s)) (fun q => (16386 - q.toInt).toNat) _ ?_ fuel _ ⟨f, rfl, Nat.le_refl _, hfe, ?_, fun q => q.1⟩ (fuel_ge (by rw [iN_toInt (by omega) (by omega)]; omega))
  · rintro q ⟨t, rfl, t0, t1, hN, hts⟩
    unfold bX8_isHolder_8
    rw [v5]
    have n1 : ¬ ((0 : Int32) = 1) := by decide
    have fin : (e ≤ t ∨ s ≤ t) → ∃ r, xt (jX8_isHolder_44 (fun i => iN (g i)) (iN (m : Int)) (iN (s : Int)) (iN ((2 ^ k : Nat) : Int)) (iN (t : Int))) = some (.inr r : Int32 ⊕ Int32) ∧ (r = 1 ∨ r = 0) ∧ (r = 1 ↔ Hold f e s k) := by
      intro hx
      have hI := Hold.iff hd hN t0 he hx hts
      unfold jX8_isHolder_44
      rw [v5, Option.bind_some, zr_0, zr_1]
      by_cases c1 : e ≤ t
      · rw [if_pos (by rw [iN_le (by omega) (by omega) (by omega) (by omega)]; omega)]
        exact ⟨_, rfl, Or.inr rfl, fun q => absurd q n1, fun q => by have := (hI.mp q).1; omega⟩
      · rw [if_neg (by rw [iN_le (by omega) (by omega) (by omega) (by omega)]; omega)]
        by_cases c2 : t = s
        · have hp := dl_pos (show t < e by omega) he
          rw [if_pos (by rw [c2]), Option.bind_some, m8_dl (show t < e by omega) he, Option.bind_some]
          by_cases c3 : dl t e = 2 ^ k
          · rw [if_pos (by rw [c3])]
            exact ⟨_, rfl, Or.inl rfl, fun _ => hI.mpr ⟨by omega, c2, c3⟩, fun _ => rfl⟩
          · rw [if_neg (by rw [iN_eq (by omega) (by omega) (by omega) (by omega)]; omega)]
            exact ⟨_, rfl, Or.inr rfl, fun q => absurd q n1, fun q => absurd (hI.mp q).2.2 c3⟩
        · rw [if_neg (by rw [iN_eq (by omega) (by omega) (by omega) (by omega)]; omega)]
          exact ⟨_, rfl, Or.inr rfl, fun q => absurd q n1, fun q => absurd (hI.mp q).2.1 c2⟩
    rw [Option.bind_some]
    by_cases c1 : e ≤ t
    · rw [if_pos (by rw [iN_le (by omega) (by omega) (by omega) (by omega)]; omega)]
      exact Or.inr (fin (Or.inl c1))
    · rw [if_neg (by rw [iN_le (by omega) (by omega) (by omega) (by omega)]; omega)]
      by_cases c2 : s ≤ t
      · rw [if_pos (by rw [iN_le (by omega) (by omega) (by omega) (by omega)]; omega)]
        exact Or.inr (fin (Or.inr c2))
      · have hp := dl_pos (show t < e by omega) he
        rw [if_neg (by rw [iN_le (by omega) (by omega) (by omega) (by omega)]; omega), Option.bind_some, m8_dl (show t < e by omega) he, Option.bind_some]
        simp only [nm, iN_add]
        refine Or.inl ⟨_, rfl, ⟨t + dl t e, ?_, by omega, by omega, hN.step (by omega) he, fun hH => hH.step hd hN t0 he (by omega)⟩, ?_⟩
        · rw [Int.natCast_add]
        · rw [iN_toInt (by omega) (by omega), iN_toInt (by omega) (by omega)]; omega
  · intro k u hu hf hue hin
    omega
def Hold_dec (f e s k : Nat) : Decidable (Hold f e s k) := by unfold Hold; infer_instance
def hlB (g : Nat → Int) (s k m : Nat) : Bool := @decide (Hold (g (6 * m + 4)).toNat (g (6 * m + 5)).toNat s k) (Hold_dec _ _ _ _)
theorem hlB_iff {g : Nat → Int} {s k m f e : Nat} (hf : g (6 * m + 4) = f) (he : g (6 * m + 5) = e) : hlB g s k m = true ↔ Hold f e s k := by
  unfold hlB
  rw [@decide_eq_true_iff _ (Hold_dec _ _ _ _), hf, he]
  rfl
/-- promise 23: holders -/
theorem r_holders {g g8 : Nat → Int} {n : Nat} (hg : g8 0 = n) (H : SegOK g n) (hE : EqOn n g (sh g8)) (c0 : Int32) (x1 x2 : Int32) : ∃ r b c, fX7_holders (iN n) (fun i => iN (g i)) x1 x2 = some r ∧ fX8_holders c0 (fun i => iN (g8 i)) x1 x2 = some (b, c) ∧ agrI (fun e => if e = 1 then 1 else 0) r b c := by
  have hn := H.1
  unfold fX7_holders fX8_holders jX8_holders_44 jX8_holders_45 jX8_holders_56 fX0_isInterval
  rw [s7_isBetween, show (1 : Int64) = lI 1 from rfl, show (16384 : Int64) = lI 16384 from rfl, m8_in32 x2 (by omega) (by omega) (by omega) (by omega), qb, qb, zr_0, zr_1, show ((1 : Int32).toInt) = 1 from rfl, show ((16384 : Int32).toInt) = 16384 from rfl]
  have bad : ∀ {X : Option ((Int32 ⊕ Nat))}, X = some (Sum.inr 1) → ∀ {Y : Option (Int32 × Int32)}, Y = some (0, 1) → ∃ r b c, X = some r ∧ Y = some (b, c) ∧ agrI (fun e => if e = 1 then 1 else 0) r b c := by
    rintro X rfl Y rfl
    exact ⟨_, _, _, rfl, rfl, rfl, by decide, by decide⟩
  by_cases c1 : 1 ≤ x2.toInt ∧ x2.toInt ≤ 16384
  · rw [if_neg (fun q => b01_0.mp q c1), if_neg (fun q => b01_0.mp q c1)]
    obtain ⟨L, hL⟩ : ∃ k : Nat, x2.toInt = k := ⟨x2.toInt.toNat, by omega⟩
    have e2 : x2 = iN (L : Int) := by rw [← hL]; exact iN_of x2
    rw [e2]
    rw [hL] at c1
    rw [show iN (L : Int) - (1 : Int32) = iN (L - 1) from iN_sub L 1]
    by_cases c2 : (iN (L : Int) &&& iN ((L : Int) - 1)) = (0 : Int32)
    · rw [if_pos c2, if_pos c2]
      obtain ⟨k, hk, rfl⟩ := pow_two (by omega) (by omega) c2
      rw [show (16384 : Int32) - iN ((2 ^ k : Nat) : Int) = iN (16384 - (2 ^ k : Nat)) from iN_sub 16384 _, s7_isBetween, iN_l (by omega) (by omega), show (0 : Int64) = lI 0 from rfl, m8_in32 x1 (by omega) (by omega) (by omega) (by omega), qb, qb, show ((0 : Int32).toInt) = 0 from rfl, iN_toInt (by omega) (by omega)]
      by_cases c3 : 0 ≤ x1.toInt ∧ x1.toInt ≤ 16384 - ((2 ^ k : Nat) : Int)
      · rw [if_neg (fun q => b01_0.mp q c3), if_neg (fun q => b01_0.mp q c3), if_neg (show ¬ (1 : Int32) = 0 by decide)]
        obtain ⟨s, hs⟩ : ∃ k : Nat, x1.toInt = k := ⟨x1.toInt.toNat, by omega⟩
        have e1 : x1 = iN (s : Int) := by rw [← hs]; exact iN_of x1
        rw [hs] at c3
        rw [e1]
        have hmod := Nat.mod_le s (2 ^ k)
        have hdiv := Nat.div_mul_le_self s (2 ^ k)
        have hdm := Nat.div_add_mod s (2 ^ k)
        have hmc : s / 2 ^ k * 2 ^ k = 2 ^ k * (s / 2 ^ k) := Nat.mul_comm _ _
        have el : iN ((((2 ^ k : Nat) : Int)) - 1) = iN ((2 ^ k - 1 : Nat) : Int) := by congr 1; omega
        rw [el, and_low (show s < 2147483648 by omega) (show k ≤ 30 by omega), dv_n (by rw [show (0 : Int32) = iN 0 from rfl, iN_eq (by omega) (by omega) (by omega) (by omega)]; omega), iN_div (by omega) (by omega) (by omega) (by omega), iN_mul, iN_sub]
        have ec : (s : Int) - (s : Int) / ((2 ^ k : Nat) : Int) * ((2 ^ k : Nat) : Int) = ((s % 2 ^ k : Nat) : Int) := by
          rw [← Int.natCast_ediv, ← Int.natCast_mul]; omega
        rw [ec]
        by_cases c4 : s % 2 ^ k = 0
        · rw [if_pos (by rw [c4]; rfl), if_pos (show iN ((s % 2 ^ k : Nat) : Int) = 0 by rw [c4]; rfl), qb, if_neg (show ¬ (1 : Int32) = 0 by decide)]
          have p1 : 2 ^ k ≤ 2 ^ 14 := Nat.pow_le_pow_right (by omega) hk
          have key : ∃ cs : Nat → Nat, (∀ i, cs i ≤ i) ∧ lp (fun q => bX7_holders_32 (iN n) (fun i => iN (g i)) (iN (s : Int)) (iN ((2 ^ k : Nat) : Int)) q.1 q.2) fuel ((0 : Int32), (0 : Int32)) = some (Sum.inl (iN (cs n : Nat))) ∧ lp (fun q => bX8_holders_68 (fun i => iN (g8 i)) (iN (s : Int)) (iN ((2 ^ k : Nat) : Int)) (0 : Int32) q.1 q.2) fuel ((0 : Int32), (0 : Int32)) = some (iN (cs n : Nat), (0 : Int32)) := by
            have hH : ∀ m, m < n → ∃ f e : Nat, g (6 * m + 4) = f ∧ g (6 * m + 5) = e ∧ f ≤ e ∧ e ≤ 16384 := fun m hm => life_nat H hm
            refine ⟨cnt (hlB g s k), cnt_le _, ?_, ?_⟩
            · refine lp_for _ (fun i => (iN (cnt (hlB g s k) i : Nat), iN (i : Int))) n _ ?_ ?_ (fuel_ge (by omega))
              · intro i hi
                obtain ⟨f, e, hf, he, h1, h2⟩ := hH i hi
                obtain ⟨r, hr1, hr2, hr3⟩ := s0_holds (f := f) (s := s) h2 (by omega) hk h1
                show bX7_holders_32 _ _ _ _ (iN (cnt (hlB g s k) i : Nat)) (iN (i : Int)) = _
                unfold bX7_holders_32
                rw [if_neg (by rw [iN_le (by omega) (by omega) (by omega) (by omega)]; omega), s6_v4 g i (by omega), s6_v5 g i (by omega), hf, he, cnt_succ]
                simp only [Option.bind_some, nm, iN_succ, hr1]
                cases hr2 with
                | inl q => rw [q, if_neg (show ¬ (1 : Int32) = 0 by decide), if_pos ((hlB_iff hf he).mpr (hr3.mp q))]
                | inr q => rw [q, if_pos rfl, if_neg (fun z => by have := hr3.mpr ((hlB_iff hf he).mp z); rw [q] at this; exact absurd this (by decide))]; rfl
              · show bX7_holders_32 _ _ _ _ (iN (cnt (hlB g s k) n : Nat)) (iN (n : Int)) = _
                unfold bX7_holders_32
                rw [if_pos (by rw [iN_le (by omega) (by omega) (by omega) (by omega)]; omega)]
                rfl
            · refine lp_for _ (fun i => (iN (cnt (hlB g s k) i : Nat), iN (i : Int))) n _ ?_ ?_ (fuel_ge (by omega))
              · intro i hi
                obtain ⟨f, e, hf, he, h1, h2⟩ := hH i hi
                obtain ⟨r, hr1, hr2, hr3⟩ := m8_isHolder (g := g8) (m := i) (f := f) (e := e) (s := s) (by omega) (by rw [← hE _ (by omega)]; exact hf) (by rw [← hE _ (by omega)]; exact he) h1 h2 (by omega) hk c4
                show bX8_holders_68 _ _ _ _ (iN (cnt (hlB g s k) i : Nat)) (iN (i : Int)) = _
                unfold bX8_holders_68
                rw [show (0 : Int32) = iN 0 from rfl, rd_iN (by omega) (by omega) (by omega)]
                simp only [show (0 : Int).toNat = 0 from rfl, hg]
                rw [if_neg (by rw [iN_le (by omega) (by omega) (by omega) (by omega)]; omega), cnt_succ]
                simp only [Option.bind_some, nm, iN_succ, hr1, iN_add, Int.add_zero]
                cases hr2 with
                | inl q => rw [q, if_neg (show ¬ (1 : Int32) = iN 0 by decide), if_pos ((hlB_iff hf he).mpr (hr3.mp q))]
                | inr q => rw [q, if_pos (show (0 : Int32) = iN 0 from rfl), if_neg (fun z => by have := hr3.mpr ((hlB_iff hf he).mp z); rw [q] at this; exact absurd this (by decide))]; rfl
              · show bX8_holders_68 _ _ _ _ (iN (cnt (hlB g s k) n : Nat)) (iN (n : Int)) = _
                unfold bX8_holders_68
                rw [show (0 : Int32) = iN 0 from rfl, rd_iN (by omega) (by omega) (by omega)]
                simp only [show (0 : Int).toNat = 0 from rfl, hg]
                rw [if_pos (by rw [iN_le (by omega) (by omega) (by omega) (by omega)]; omega)]
                rfl
          obtain ⟨cs, -, h1, h2⟩ := key
          rw [h1, h2]
          exact ⟨_, _, _, rfl, rfl, rfl, rfl⟩
        · rw [if_neg (by rw [show (0 : Int32) = iN 0 from rfl, iN_eq (by omega) (by omega) (by omega) (by omega)]; omega), if_neg (show ¬ iN ((s % 2 ^ k : Nat) : Int) = 0 by rw [show (0 : Int32) = iN 0 from rfl, iN_eq (by omega) (by omega) (by omega) (by omega)]; omega)]
          exact bad rfl rfl
      · rw [if_pos (b01_0.mpr c3), if_pos (b01_0.mpr c3)]
        exact bad rfl rfl
    · rw [if_neg c2, if_neg c2]
      exact bad rfl rfl
  · rw [if_pos (b01_0.mpr c1), if_pos (b01_0.mpr c1)]
    exact bad rfl rfl
