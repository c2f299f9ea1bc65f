/-! ===== crossing: the first position at which the second lies under the first ===== -/
def crI (low high rise base : Int) : Int := if low ≤ high then (if 0 ≤ rise * low + base then (if rise < 0 then (if high < base / (-rise) + 1 then -1 else base / (-rise) + 1) else -1) else low) else -1
def FirstIn (p : Int → Prop) (r : Int) : Prop := (r = -1 ∧ ∀ x, 0 ≤ x → ¬ p x) ∨ (0 ≤ r ∧ p r ∧ ∀ x, 0 ≤ x → x < r → ¬ p x)
theorem FirstIn.uniq {p q : Int → Prop} (h : ∀ x, 0 ≤ x → (p x ↔ q x)) {r s : Int} (h1 : FirstIn p r) (h2 : FirstIn q s) : r = s := by
  cases h1 with
  | inl a =>
    cases h2 with
    | inl b => omega
    | inr b => exact absurd ((h s b.1).mpr b.2.1) (a.2 s b.1)
  | inr a =>
    cases h2 with
    | inl b => exact absurd ((h r a.1).mp a.2.1) (b.2 r a.1)
    | inr b =>
      by_cases c1 : r < s
      · exact absurd ((h r a.1).mp a.2.1) (b.2.2 r a.1 c1)
      · by_cases c2 : s < r
        · exact absurd ((h s b.1).mpr b.2.1) (a.2.2 s b.1 c2)
        · omega
theorem crI_spec {low high rise base : Int} (hl : 0 ≤ low) : FirstIn (fun x => low ≤ x ∧ x ≤ high ∧ rise * x + base < 0) (crI low high rise base) := by
  unfold crI FirstIn
  by_cases c1 : low ≤ high
  · rw [if_pos c1]
    by_cases c2 : 0 ≤ rise * low + base
    · rw [if_pos c2]
      by_cases c3 : rise < 0
      · rw [if_pos c3]
        have key : ∀ x, rise * x + base < 0 ↔ base / (-rise) < x := by
          intro x
          rw [Int.ediv_lt_iff_lt_mul (by omega), Int.mul_neg, Int.mul_comm x rise]
          omega
        have hlow : ¬ base / (-rise) < low := fun q => by have := (key low).mpr q; omega
        by_cases c4 : high < base / (-rise) + 1
        · rw [if_pos c4]
          refine Or.inl ⟨rfl, fun x _ q => ?_⟩
          have := (key x).mp q.2.2
          omega
        · rw [if_neg c4]
          refine Or.inr ⟨by omega, ⟨by omega, by omega, (key _).mpr (by omega)⟩, fun x _ hx q => ?_⟩
          have := (key x).mp q.2.2
          omega
      · rw [if_neg c3]
        refine Or.inl ⟨rfl, fun x _ q => ?_⟩
        have := Int.mul_le_mul_of_nonneg_left q.1 (show 0 ≤ rise by omega)
        omega
    · rw [if_neg c2]
      exact Or.inr ⟨hl, ⟨Int.le_refl _, c1, by omega⟩, fun x _ hx q => by omega⟩
  · rw [if_neg c1]
    exact Or.inl ⟨rfl, fun x _ q => by omega⟩
theorem iN_div {a b : Int} (ha0 : 0 ≤ a) (ha : a < 2147483648) (hb0 : 0 < b) (hb : b < 2147483648) : iN a / iN b = iN (a / b) := by
  have h1 : a / b ≤ a := Int.ediv_le_self b ha0
  have h2 : 0 ≤ a / b := Int.ediv_nonneg ha0 (by omega)
  rw [← Int32.toInt_inj, Int32.toInt_div, iN_toInt (by omega) ha, iN_toInt (by omega) hb, iN_toInt (by omega) (by omega), Int.tdiv_eq_ediv_of_nonneg ha0]
  exact Int.bmod_eq_of_le (by omega) (by omega)
theorem iN_ite {c : Prop} {i : Decidable c} (a b : Int) : @ite _ c i (iN a) (iN b) = iN (@ite _ c i a b) := by
  by_cases h : c
  · rw [if_pos h, if_pos h]
  · rw [if_neg h, if_neg h]
/-- the place from which the second (less the handicap) lies under the first, both being there in space -/
def Und (g : Nat → Int) (a b : Nat) (f h : Int) (x : Int) : Prop := f ≤ x ∧ Cov g a x ∧ Cov g b x ∧ Val g b x - h < Val g a x
theorem s6_crossing {g : Nat → Int} {n a b : Nat} (H : SegOK g n) (ha : a < n) (hb : b < n) {f h : Int} (f0 : 0 ≤ f) (f1 : f ≤ 256) (h0 : 0 ≤ h) (h1 : h ≤ 1) : ∃ r, fX6_crossing (fun i => iN (g i)) (iN a) (iN b) (iN f) (iN h) = some (iN r) ∧ FirstIn (Und g a b f h) r ∧ r ≤ 255 := by
  have ha4 := H.le40 ha
  have hb4 := H.le40 hb
  obtain ⟨⟨a1, a2⟩, ⟨a3, a4⟩, ⟨a5, a6, a7⟩, -⟩ := H.2 a ha
  obtain ⟨⟨b1, b2⟩, ⟨b3, b4⟩, ⟨b5, b6, b7⟩, -⟩ := H.2 b hb
  let low : Int := if f < (if g (6 * a + 2) < g (6 * b + 2) then g (6 * b + 2) else g (6 * a + 2)) then (if g (6 * a + 2) < g (6 * b + 2) then g (6 * b + 2) else g (6 * a + 2)) else f
  let high : Int := if g (6 * b + 3) < g (6 * a + 3) then g (6 * b + 3) else g (6 * a + 3)
  have el : ∀ x, low ≤ x ↔ (f ≤ x ∧ g (6 * a + 2) ≤ x ∧ g (6 * b + 2) ≤ x) := by
    intro x
    show (if f < (if g (6 * a + 2) < g (6 * b + 2) then g (6 * b + 2) else g (6 * a + 2)) then (if g (6 * a + 2) < g (6 * b + 2) then g (6 * b + 2) else g (6 * a + 2)) else f) ≤ x ↔ _
    split <;> split <;> omega
  have eh : ∀ x, x ≤ high ↔ (x ≤ g (6 * a + 3) ∧ x ≤ g (6 * b + 3)) := by
    intro x
    show x ≤ (if g (6 * b + 3) < g (6 * a + 3) then g (6 * b + 3) else g (6 * a + 3)) ↔ _
    split <;> omega
  have l0 : 0 ≤ low ∧ low ≤ 256 := by
    have e1 := el 256
    have e2 := (el low).mp (Int.le_refl _)
    omega
  have hh : high ≤ 255 := by have := (eh high).mp (Int.le_refl _); omega
  have hh0 : 0 ≤ high := (eh 0).mpr ⟨by omega, by omega⟩
  refine ⟨crI low high (g (6 * b) - g (6 * a)) (g (6 * b + 1) - g (6 * a + 1) - h), ?_, ?_, ?_⟩
  · have hr := mul_bd (a := g (6 * b) - g (6 * a)) (A := 2000) (x := low) (X := 256) (by omega) (by omega) l0.1 l0.2 (by omega)
    unfold fX6_crossing
    rw [s6_v2 g a ha4, s6_v2 g b hb4, s6_v3 g a ha4, s6_v3 g b hb4, s6_v0 g a ha4, s6_v0 g b hb4, s6_v1 g a ha4, s6_v1 g b hb4]
    simp only [Option.bind_some, nm]
    simp only [iN_lt (show -2147483648 ≤ g (6 * a + 2) by omega) (by omega) (show -2147483648 ≤ g (6 * b + 2) by omega) (by omega), iN_lt (show -2147483648 ≤ g (6 * b + 3) by omega) (by omega) (show -2147483648 ≤ g (6 * a + 3) by omega) (by omega), iN_ite, iN_sub]
    have e1 : (if iN f < iN (if g (6 * a + 2) < g (6 * b + 2) then g (6 * b + 2) else g (6 * a + 2)) then iN (if g (6 * a + 2) < g (6 * b + 2) then g (6 * b + 2) else g (6 * a + 2)) else iN f) = iN low := by
      rw [iN_ite]
      show iN _ = iN (if _ then _ else _)
      congr 1
      simp only [iN_lt (show -2147483648 ≤ f by omega) (by omega) (show -2147483648 ≤ (if g (6 * a + 2) < g (6 * b + 2) then g (6 * b + 2) else g (6 * a + 2)) by split <;> omega) (by split <;> omega)]
    simp only [iN_ite] at e1
    simp only [e1]
    change (if iN low ≤ iN high then _ else _) = _
    simp only [show (0 : Int32) = iN 0 from rfl, show (1 : Int32) = iN 1 from rfl, show (-1 : Int32) = iN (-1) from rfl, iN_mul, iN_add, iN_neg]
    unfold crI
    by_cases c1 : low ≤ high
    · rw [if_pos (by rw [iN_le (by omega) (by omega) (by omega) (by omega)]; exact c1), if_pos c1]
      by_cases c2 : 0 ≤ (g (6 * b) - g (6 * a)) * low + (g (6 * b + 1) - g (6 * a + 1) - h)
      · rw [if_pos (by rw [iN_le (by omega) (by omega) (by omega) (by omega)]; exact c2), if_pos c2]
        by_cases c3 : g (6 * b) - g (6 * a) < 0
        · have hp := Int.mul_le_mul_of_nonneg_right (show g (6 * b) - g (6 * a) ≤ 0 by omega) l0.1
          rw [Int.zero_mul] at hp
          have hbase : 0 ≤ g (6 * b + 1) - g (6 * a + 1) - h := by omega
          rw [if_pos (by rw [iN_lt (by omega) (by omega) (by omega) (by omega)]; exact c3), if_pos c3, dv_n (by rw [show (0 : Int32) = iN 0 from rfl, iN_eq (by omega) (by omega) (by omega) (by omega)]; omega), iN_div hbase (by omega) (by omega) (by omega), iN_add]
          have q1 := Int.ediv_le_self (-(g (6 * b) - g (6 * a))) hbase
          have q2 := Int.ediv_nonneg hbase (show 0 ≤ -(g (6 * b) - g (6 * a)) by omega)
          by_cases c4 : high < (g (6 * b + 1) - g (6 * a + 1) - h) / (-(g (6 * b) - g (6 * a))) + 1
          · rw [if_pos (by rw [iN_lt (by omega) (by omega) (by omega) (by omega)]; exact c4), if_pos c4]
          · rw [if_neg (by rw [iN_lt (by omega) (by omega) (by omega) (by omega)]; exact c4), if_neg c4]
        · rw [if_neg (by rw [iN_lt (by omega) (by omega) (by omega) (by omega)]; exact c3), if_neg c3]
      · rw [if_neg (by rw [iN_le (by omega) (by omega) (by omega) (by omega)]; exact c2), if_neg c2]
    · rw [if_neg (by rw [iN_le (by omega) (by omega) (by omega) (by omega)]; exact c1), if_neg c1]
  · refine cast ?_ (crI_spec (low := low) (high := high) (rise := g (6 * b) - g (6 * a)) (base := g (6 * b + 1) - g (6 * a + 1) - h) l0.1)
    congr 1
    funext x
    apply propext
    unfold Und
    rw [el, eh]
    have e : (g (6 * b) - g (6 * a)) * x = g (6 * b) * x - g (6 * a) * x := Int.sub_mul _ _ _
    unfold Cov Val
    rw [e]
    constructor <;> intro q <;> omega
  · have := crI_spec (low := low) (high := high) (rise := g (6 * b) - g (6 * a)) (base := g (6 * b + 1) - g (6 * a + 1) - h) l0.1
    cases this with
    | inl q => omega
    | inr q => have := q.2.1.2.1; omega
theorem FirstIn_fN {p : Nat → Bool} {q : Int → Prop} {K : Nat} (h : ∀ k : Nat, k < K → (p k = true ↔ q (k : Int))) (hq : ∀ x : Int, q x → x < K) : FirstIn q (fE (fun k => (k : Int)) (-1) (fN p 0 K)) := by
  have key : ∀ (m i : Nat), i + m = K → (∀ j : Nat, j < i → ¬ q (j : Int)) → FirstIn q (fE (fun k => (k : Int)) (-1) (fN p i m)) := by
    intro m
    induction m with
    | zero =>
      intro i hi hn
      refine Or.inl ⟨rfl, fun x hx hqx => ?_⟩
      have := hq x hqx
      obtain ⟨j, hj⟩ : ∃ j : Nat, x = j := ⟨x.toNat, by omega⟩
      subst hj
      exact hn j (by omega) hqx
    | succ m ih =>
      intro i hi hn
      unfold fN
      by_cases c : p i = true
      · rw [if_pos c]
        refine Or.inr ⟨by show (0 : Int) ≤ (i : Int); omega, (h i (by omega)).mp c, fun x hx hxi hqx => ?_⟩
        obtain ⟨j, hj⟩ : ∃ j : Nat, x = j := ⟨x.toNat, by omega⟩
        subst hj
        have hxi' : (j : Int) < (i : Int) := hxi
        exact hn j (by omega) hqx
      · rw [if_neg c]
        refine ih (i + 1) (by omega) (fun j hj hqj => ?_)
        by_cases c2 : j = i
        · subst c2; exact c ((h j (by omega)).mpr hqj)
        · exact hn j (by omega) hqj
  exact key K 0 (by omega) (fun j hj => absurd hj (Nat.not_lt_zero j))
def ovt (g : Nat → Int) (a b : Nat) (x : Nat) : Bool := decide (Cov g a x ∧ Cov g b x ∧ Val g b x < Val g a x)
theorem ovt_iff {g : Nat → Int} {a b x : Nat} : ovt g a b x = true ↔ (Cov g a x ∧ Cov g b x ∧ Val g b x < Val g a x) := decide_eq_true_iff
theorem m8_overtakesLoop {g : Nat → Int} {n a b : Nat} (H : SegOK (sh g) n) (ha : a < n) (hb : b < n) (w : Int32) : lp (fun q => bX8_overtakes_29 (fun i => iN (g i)) (iN a) (iN b) w q) fuel (0 : Int32) = some (fE (fun k => iN (k : Int)) (-1) (fN (ovt (sh g) a b) 0 256), w) := by
  have ha4 := H.le40 ha
  have hb4 := H.le40 hb
  obtain ⟨-, -, ⟨a5, a6, a7⟩, -⟩ := H.2 a ha
  obtain ⟨-, -, ⟨b5, b6, b7⟩, -⟩ := H.2 b hb
  have hbd : ∀ k : Nat, k < 256 → bX8_overtakes_29 (fun i => iN (g i)) (iN a) (iN b) w (iN (k : Int)) = if ovt (sh g) a b k = true then some (.inr (iN (k : Int), w)) else some (.inl (iN ((k + 1 : Nat) : Int))) := by
    intro k hk
    have va := Val_bd H ha (x := (k : Int)) (by omega) (by omega)
    have vb := Val_bd H hb (x := (k : Int)) (by omega) (by omega)
    unfold bX8_overtakes_29 jX8_overtakes_84 jX8_overtakes_85
    rw [show (255 : Int32) = iN 255 from rfl, if_neg (by rw [iN_lt (by omega) (by omega) (by omega) (by omega)]; omega), m8_o2 g a ha4, m8_o3 g a ha4, m8_o2 g b hb4, m8_o3 g b hb4, m8_valueAt g a ha4, m8_valueAt g b hb4]
    simp only [Option.bind_some, iN_l (show -2147483648 ≤ (k : Int) by omega) (by omega), iN_l (show -2147483648 ≤ sh g (6 * a + 2) by omega) (by omega), iN_l (show -2147483648 ≤ sh g (6 * a + 3) by omega) (by omega), iN_l (show -2147483648 ≤ sh g (6 * b + 2) by omega) (by omega), iN_l (show -2147483648 ≤ sh g (6 * b + 3) by omega) (by omega)]
    rw [m8_in (by omega) (by omega) (by omega) (by omega) (by omega) (by omega), m8_in (by omega) (by omega) (by omega) (by omega) (by omega) (by omega)]
    simp only [Option.bind_some, nm, iN_succ, b01_0, ovt_iff, if_true]
    by_cases c1 : Cov (sh g) a k
    · rw [if_neg (not_not_intro c1)]
      by_cases c2 : Cov (sh g) b k
      · rw [if_neg (not_not_intro c2), if_neg (show ¬ (1 : Int32) = 0 by decide)]
        by_cases c3 : Val (sh g) b k < Val (sh g) a k
        · rw [if_neg (by rw [iN_le (by omega) (by omega) (by omega) (by omega)]; omega), if_pos ⟨c1, c2, c3⟩]; rfl
        · rw [if_pos (by rw [iN_le (by omega) (by omega) (by omega) (by omega)]; omega), if_neg (fun q => c3 q.2.2)]
      · rw [if_pos c2, if_neg (fun q => c2 q.2.1)]
    · rw [if_pos c1, if_neg (fun q => c1 q.1)]
  have e : (fE (fun k => iN (k : Int)) (-1) (fN (ovt (sh g) a b) 0 256), w) = fE (fun k => (iN (k : Int), w)) ((-1 : Int32), w) (fN (ovt (sh g) a b) 0 256) := by
    cases fN (ovt (sh g) a b) 0 256 <;> rfl
  rw [e]
  refine lp_find _ (fun k => iN (k : Int)) (ovt (sh g) a b) 256 (fun k => (iN (k : Int), w)) _ ?_ ?_ ?_ (fuel_ge (by omega))
  · intro k hk hp
    show bX8_overtakes_29 _ _ _ _ _ = _
    rw [hbd k hk, if_neg (by rw [hp]; decide)]
  · intro k hk hp
    show bX8_overtakes_29 _ _ _ _ _ = _
    rw [hbd k hk, if_pos hp]
  · show bX8_overtakes_29 _ _ _ _ _ = _
    unfold bX8_overtakes_29
    rw [if_pos (by decide)]
    rfl
theorem fE_iN (o : Option Nat) : fE (fun k => iN (k : Int)) (-1) o = iN (fE (fun k => (k : Int)) (-1) o) := by
  cases o <;> rfl
/-- promise 13: who overtakes -/
theorem r_overtakes {g g8 : Nat → Int} {n : Nat} (hg : g8 0 = n) (H : SegOK g n) (hE : EqOn n g (sh g8)) (c0 : Int32) (x1 x2 : Int32) : ∃ r b c, fX7_overtakes (iN n) (fun i => iN (g i)) x1 x2 = some r ∧ fX8_overtakes c0 (fun i => iN (g8 i)) x1 x2 = some (b, c) ∧ agrI (fun e => if e = 3 then 1 else 0) r b c := by
  have hn := H.1
  have H8 := H.eqOn hE
  unfold fX7_overtakes fX8_overtakes jX8_overtakes_21
  rw [m8_isSegment hg hn, m8_isSegment hg hn, Option.bind_some]
  by_cases c1 : 0 ≤ x1.toInt ∧ x1.toInt < n
  · rw [s7_rs_t hn c1, if_neg (fun q => b01_0.mp q c1)]
    simp only [Option.bind_some, tx]
    by_cases c2 : 0 ≤ x2.toInt ∧ x2.toInt < n
    · rw [s7_rs_t hn c2, if_neg (fun q => b01_0.mp q c2)]
      simp only [Option.bind_some]
      obtain ⟨a, ha⟩ : ∃ k : Nat, x1.toInt = k := ⟨x1.toInt.toNat, by omega⟩
      obtain ⟨b, hb⟩ : ∃ k : Nat, x2.toInt = k := ⟨x2.toInt.toNat, by omega⟩
      have ha2 : a < n := by omega
      have hb2 : b < n := by omega
      rw [iN_of x1, iN_of x2, ha, hb]
      obtain ⟨r, h1, h2, -⟩ := s6_crossing H ha2 hb2 (f := 0) (h := 0) (by omega) (by omega) (by omega) (by omega)
      rw [m8_overtakesLoop H8 ha2 hb2, fE_iN, show (0 : Int32) = iN 0 from rfl, h1]
      have e : r = fE (fun k => (k : Int)) (-1) (fN (ovt (sh g8) a b) 0 256) := by
        refine h2.uniq (q := fun x : Int => 0 ≤ x ∧ Cov (sh g8) a x ∧ Cov (sh g8) b x ∧ Val (sh g8) b x < Val (sh g8) a x) ?_ (FirstIn_fN ?_ ?_)
        · intro x hx
          unfold Und
          rw [← hE.val ha2, ← hE.val hb2, ← hE.cov ha2, ← hE.cov hb2, Int.sub_zero]
        · intro k hk
          rw [ovt_iff]
          exact ⟨fun q => ⟨by omega, q⟩, fun q => q.2⟩
        · intro x q
          obtain ⟨-, -, ⟨b5, b6, b7⟩, -⟩ := H8.2 b hb2
          have := q.2.2.1.2
          omega
      rw [← e]
      exact ⟨_, _, _, rfl, rfl, rfl, rfl⟩
    · rw [s7_rs_f hn c2, if_pos (b01_0.mpr c2)]
      exact ⟨_, _, _, rfl, rfl, rfl, by decide, by decide⟩
  · rw [s7_rs_f hn c1, if_pos (b01_0.mpr c1)]
    exact ⟨_, _, _, rfl, rfl, rfl, by decide, by decide⟩
