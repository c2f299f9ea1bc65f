/-! ===== extreme: where the envelope is smallest or greatest ===== -/
def Best (F K : Int → Int) (x b : Int) : Prop := (b = -1 ∧ ∀ z, 0 ≤ z → z < x → F z = -1) ∨ (0 ≤ b ∧ b < x ∧ ¬ F b = -1 ∧ ∀ z, 0 ≤ z → z < x → ¬ F z = -1 → K b ≤ K z ∧ (z < b → K b < K z))
theorem Best.uniq {F K : Int → Int} {x b b' : Int} (h : Best F K x b) (h' : Best F K x b') : b = b' := by
  cases h with
  | inl a =>
    cases h' with
    | inl a' => omega
    | inr a' => exact absurd (a.2 b' a'.1 a'.2.1) a'.2.2.1
  | inr a =>
    cases h' with
    | inl a' => exact absurd (a'.2 b a.1 a.2.1) a.2.2.1
    | inr a' =>
      have e1 := a.2.2.2 b' a'.1 a'.2.1 a'.2.2.1
      have e2 := a'.2.2.2 b a.1 a.2.1 a.2.2.1
      by_cases c1 : b < b'
      · have := e2.2 c1; omega
      · by_cases c2 : b' < b
        · have := e1.2 c2; omega
        · omega
theorem Best.skip {F K : Int → Int} {p q b : Int} (h : Best F K p b) (hpq : p ≤ q) (hz : ∀ z, p ≤ z → z < q → F z = -1) : Best F K q b := by
  cases h with
  | inl a =>
    refine Or.inl ⟨a.1, fun z z0 zq => ?_⟩
    by_cases c : z < p
    · exact a.2 z z0 c
    · exact hz z (by omega) zq
  | inr a =>
    refine Or.inr ⟨a.1, by omega, a.2.2.1, fun z z0 zq hF => ?_⟩
    by_cases c : z < p
    · exact a.2.2.2 z z0 c hF
    · exact absurd (hz z (by omega) zq) hF
theorem Best.take {F K : Int → Int} {p q b e : Int} (h : Best F K p b) (p0 : 0 ≤ p) (pe : p ≤ e) (eq : e < q) (hF : ¬ F e = -1) (he : ∀ z, p ≤ z → z < q → K e ≤ K z ∧ (z < e → K e < K z)) (hb : b = -1 ∨ K e < K b) : Best F K q e := by
  refine Or.inr ⟨by omega, eq, hF, fun z z0 zq hFz => ?_⟩
  by_cases c : z < p
  · cases h with
    | inl a => exact absurd (a.2 z z0 c) hFz
    | inr a =>
      have := (a.2.2.2 z z0 c hFz).1
      have : K e < K z := by omega
      exact ⟨by omega, fun _ => this⟩
  · exact he z (by omega) zq
theorem Best.keep {F K : Int → Int} {p q b e : Int} (h : Best F K p b) (pe : p ≤ e) (eq : e < q) (he : ∀ z, p ≤ z → z < q → K e ≤ K z) (hb : ¬ b = -1) (hk : K b ≤ K e) : Best F K q b := by
  cases h with
  | inl a => exact absurd a.1 hb
  | inr a =>
    refine Or.inr ⟨a.1, by omega, a.2.2.1, fun z z0 zq hFz => ?_⟩
    by_cases c : z < p
    · exact a.2.2.2 z z0 c hFz
    · have := he z (by omega) zq
      exact ⟨by omega, fun q => by omega⟩
/-- the height at z, turned over when the greatest is looked for -/
def kyE (g : Nat → Int) (F : Int → Int) (s : Int) (z : Int) : Int := s * Val g (F z).toNat z
theorem line_min {s A B p q e : Int} (hs : s = 1 ∨ s = -1) (he : (s * A < 0 ∧ e = q - 1) ∨ (0 ≤ s * A ∧ e = p)) {z : Int} (hz : p ≤ z) (hz2 : z < q) : s * (A * e + B) ≤ s * (A * z + B) ∧ (z < e → s * (A * e + B) < s * (A * z + B)) := by
  have k : ∀ y, s * (A * y + B) = (s * A) * y + s * B := fun y => by rw [Int.mul_add, Int.mul_assoc]
  rw [k, k]
  generalize s * A = C at *
  generalize s * B = D
  cases he with
  | inl h =>
    have e1 : C * e = C * z + C * (e - z) := by rw [← Int.mul_add]; congr 1; omega
    by_cases c : z = e
    · subst c; exact ⟨Int.le_refl _, fun q => by omega⟩
    · have : C * (e - z) ≤ C * 1 := Int.mul_le_mul_of_nonpos_left (by omega) (by omega)
      constructor <;> omega
  | inr h =>
    have e1 : C * z = C * e + C * (z - e) := by rw [← Int.mul_add]; congr 1; omega
    have : 0 ≤ C * (z - e) := Int.mul_nonneg h.1 (by omega)
    exact ⟨by omega, fun q => by omega⟩
/-- the state of a search: the best so far, and its height -/
def ExSt (g : Nat → Int) (F : Int → Int) (s x b v : Int) : Prop := Best F (kyE g F s) x b ∧ (¬ b = -1 → v = Val g (F b).toNat b) ∧ -1 ≤ b ∧ b ≤ 255 ∧ -1255000 ≤ v ∧ v ≤ 1255000
theorem sgn_lt {s a b : Int} (h : s = 1 ∨ s = -1) : s * a < s * b ↔ (s = 1 ∧ a < b ∨ s = -1 ∧ b < a) := by
  rcases h with rfl | rfl <;> omega
theorem sgn_le {s a b : Int} (h : s = 1 ∨ s = -1) : s * a ≤ s * b ↔ (s = 1 ∧ a ≤ b ∨ s = -1 ∧ b ≤ a) := by
  rcases h with rfl | rfl <;> omega
theorem s1_extreme {g : Nat → Int} {n : Nat} (H : SegOK g n) {F : Int → Int} (hF : ∀ z, -1 ≤ F z ∧ F z < n) {c : Nat} {la le : Nat → Int} (hR : Runs F 256 c la le) (x2 : Int32) {s : Int} (hs : s = if x2 = 0 then 1 else -1) : ∃ r, fX1_extremePosition (iN c) (fun i => iN (la i)) (fun i => iN (le i)) (fun i => iN (g i)) x2 = some r ∧ ∃ b, r = iN b ∧ Best F (kyE g F s) 256 b := by
  have hn := H.1
  have hc := hR.cle
  have hs1 : s = 1 ∨ s = -1 := by rw [hs]; split <;> omega
  unfold fX1_extremePosition
  refine lp_iv (fun k q => ∃ b v, q = (iN b, iN v, iN (k : Int)) ∧ ExSt g F s (fi la k) b v) _ c ?_ ?_ ?_ (fuel_ge (by omega))
  · exact ⟨-1, 0, rfl, Or.inl ⟨rfl, fun z h1 h2 => by have : fi la 0 = 0 := rfl; omega⟩, fun q => absurd rfl q, by omega, by omega, by omega, by omega⟩
  · rintro k q hk ⟨b, v, rfl, hB, hv, b0, b1, v0, v1⟩
    have hb := hR.bds hk
    have h3 := (hR.2.2.1 k hk).2
    have hF1 := hF (fi la k)
    rw [h3 _ (Int.le_refl _) hb.2.1] at hF1
    show ∃ s', bX1_extremePosition_8 _ _ _ _ _ (iN b) (iN v) (iN (k : Int)) = some (.inl s') ∧ _
    unfold bX1_extremePosition_8
    rw [if_neg (by rw [iN_le (by omega) (by omega) (by omega) (by omega)]; omega), s1_leader le k (by omega), Option.bind_some]
    simp only [nm, iN_succ, fi_succ]
    by_cases c1 : le k = -1
    · rw [if_pos (by rw [c1]; rfl)]
      exact ⟨_, rfl, b, v, rfl, hB.skip (by omega) (fun z hz hz2 => by rw [h3 z hz (by omega)]; exact c1), hv, b0, b1, v0, v1⟩
    · rw [if_neg (by rw [show (-1 : Int32) = iN (-1) from rfl, iN_eq (by omega) (by omega) (by omega) (by omega)]; exact c1)]
      obtain ⟨m, hm⟩ : ∃ m : Nat, le k = m := ⟨(le k).toNat, by omega⟩
      obtain ⟨⟨s1, s2⟩, -⟩ := H.2 m (by omega)
      have hK : ∀ z, fi la k ≤ z → z < la k + 1 → kyE g F s z = s * Val g m z := by
        intro z hz hz2
        unfold kyE
        rw [h3 z hz (by omega), hm]
        rfl
      have step : ∀ e : Int, ((s * g (6 * m) < 0 ∧ e = la k + 1 - 1) ∨ (0 ≤ s * g (6 * m) ∧ e = fi la k)) → ∃ s', jX1_extremePosition_89 (fun i => iN (g i)) x2 (iN b) (iN v) (iN (k : Int)) (iN (m : Int)) (iN e) = some (.inl s') ∧ ∃ b v, s' = (iN b, iN v, iN ((k + 1 : Nat) : Int)) ∧ ExSt g F s (la k + 1) b v := by
        intro e he
        have e0 : fi la k ≤ e ∧ e ≤ la k := by omega
        have ve := Val_bd H (show m < n by omega) (x := e) (by omega) (by omega)
        have hmin : ∀ z, fi la k ≤ z → z < la k + 1 → kyE g F s e ≤ kyE g F s z ∧ (z < e → kyE g F s e < kyE g F s z) := by
          intro z hz hz2
          rw [hK z hz hz2, hK e e0.1 (by omega)]
          exact line_min hs1 he hz hz2
        have hFe : ¬ F e = -1 := by rw [h3 e e0.1 e0.2]; exact c1
        have hve : Val g m e = Val g (F e).toNat e := by rw [h3 e e0.1 e0.2, hm]; rfl
        unfold jX1_extremePosition_89 jX1_extremePosition_127
        rw [s6_height g m (by omega), Option.bind_some]
        simp only [nm, iN_succ]
        by_cases c2 : b = -1
        · rw [if_pos (by rw [c2]; rfl)]
          exact ⟨_, rfl, e, _, rfl, hB.take (by omega) e0.1 (by omega) hFe hmin (Or.inl c2), fun _ => hve, by omega, by omega, ve.1, ve.2⟩
        · rw [if_neg (by rw [show (-1 : Int32) = iN (-1) from rfl, iN_eq (by omega) (by omega) (by omega) (by omega)]; exact c2)]
          have hvb := hv c2
          have kb : kyE g F s b = s * v := by unfold kyE; rw [hvb]
          have ke : kyE g F s e = s * Val g m e := hK e e0.1 (by omega)
          have tk : s * Val g m e < s * v → ∃ b' v', (iN e, iN (Val g m e), iN ((k + 1 : Nat) : Int)) = (iN b', iN v', iN ((k + 1 : Nat) : Int)) ∧ ExSt g F s (la k + 1) b' v' := fun h => ⟨e, _, rfl, hB.take (by omega) e0.1 (by omega) hFe hmin (Or.inr (by rw [kb, ke]; exact h)), fun _ => hve, by omega, by omega, ve.1, ve.2⟩
          have kp : s * v ≤ s * Val g m e → ∃ b' v', (iN b, iN v, iN ((k + 1 : Nat) : Int)) = (iN b', iN v', iN ((k + 1 : Nat) : Int)) ∧ ExSt g F s (la k + 1) b' v' := fun h => ⟨b, v, rfl, hB.keep e0.1 (by omega) (fun z hz hz2 => (hmin z hz hz2).1) c2 (by rw [kb, ke]; exact h), hv, b0, b1, v0, v1⟩
          by_cases c3 : x2 = 0
          · rw [if_pos c3]
            rw [if_pos c3] at hs
            by_cases c4 : v ≤ Val g m e
            · rw [if_pos (by rw [iN_le (by omega) (by omega) (by omega) (by omega)]; exact c4)]
              exact ⟨_, rfl, kp (by rw [sgn_le hs1]; omega)⟩
            · rw [if_neg (by rw [iN_le (by omega) (by omega) (by omega) (by omega)]; exact c4)]
              exact ⟨_, rfl, tk (by rw [sgn_lt hs1]; omega)⟩
          · rw [if_neg c3]
            rw [if_neg c3] at hs
            by_cases c4 : Val g m e ≤ v
            · rw [if_pos (by rw [iN_le (by omega) (by omega) (by omega) (by omega)]; exact c4)]
              exact ⟨_, rfl, kp (by rw [sgn_le hs1]; omega)⟩
            · rw [if_neg (by rw [iN_le (by omega) (by omega) (by omega) (by omega)]; exact c4)]
              exact ⟨_, rfl, tk (by rw [sgn_lt hs1]; omega)⟩
      rw [hm, s6_v0 g m (by omega), Option.bind_some]
      unfold jX1_extremePosition_67
      rw [if_pos rfl, if_neg (show ¬ (1 : Int32) = 0 by decide), s1_first la k (by omega), s1_last la k (by omega)]
      simp only [Option.bind_some]
      by_cases c3 : x2 = 0
      · rw [if_pos c3]
        rw [if_pos c3] at hs
        by_cases c4 : 0 ≤ g (6 * m)
        · rw [if_pos (by rw [show (0 : Int32) = iN 0 from rfl, iN_le (by omega) (by omega) (by omega) (by omega)]; exact c4)]
          exact step _ (Or.inr ⟨by rw [hs]; omega, rfl⟩)
        · rw [if_neg (by rw [show (0 : Int32) = iN 0 from rfl, iN_le (by omega) (by omega) (by omega) (by omega)]; exact c4)]
          exact step _ (Or.inl ⟨by rw [hs]; omega, by omega⟩)
      · rw [if_neg c3]
        rw [if_neg c3] at hs
        by_cases c4 : g (6 * m) ≤ 0
        · rw [if_pos (by rw [show (0 : Int32) = iN 0 from rfl, iN_le (by omega) (by omega) (by omega) (by omega)]; exact c4)]
          exact step _ (Or.inr ⟨by rw [hs]; omega, rfl⟩)
        · rw [if_neg (by rw [show (0 : Int32) = iN 0 from rfl, iN_le (by omega) (by omega) (by omega) (by omega)]; exact c4)]
          exact step _ (Or.inl ⟨by rw [hs]; omega, by omega⟩)
  · rintro q ⟨b, v, rfl, hB, -⟩
    show ∃ r, bX1_extremePosition_8 _ _ _ _ _ (iN b) (iN v) (iN (c : Int)) = some (.inr r) ∧ _
    unfold bX1_extremePosition_8
    rw [if_pos (by rw [iN_le (by omega) (by omega) (by omega) (by omega)]; omega)]
    rw [hR.fic] at hB
    exact ⟨_, rfl, b, rfl, hB⟩
theorem m8_extremeLoop {g : Nat → Int} {n : Nat} (hg : g 0 = n) (H : SegOK (sh g) n) {t : Int} (t0 : 0 ≤ t) (t1 : t ≤ 16384) (x2 w : Int32) {s : Int} (hs : s = if x2 = 0 then 1 else -1) : ∃ r, lp (fun q => bX8_extreme_26 (fun i => iN (g i)) (iN t) x2 w q.1 q.2.1 q.2.2) fuel ((-1 : Int32), (0 : Int32), (0 : Int32)) = some r ∧ ∃ b, r = (iN b, w) ∧ Best (fun x => fst (sh g) x t n) (kyE (sh g) (fun x => fst (sh g) x t n) s) 256 b := by
  have hn := H.1
  have hs1 : s = 1 ∨ s = -1 := by rw [hs]; split <;> omega
  generalize eF : (fun x => fst (sh g) x t n) = F
  have hFd : ∀ z, F z = fst (sh g) z t n := fun z => by rw [← eF]
  refine lp_iv (fun k q => ∃ b v, q = (iN b, iN v, iN (k : Int)) ∧ ExSt (sh g) F s k b v) _ 256 ?_ ?_ ?_ (fuel_ge (by omega))
  · exact ⟨-1, 0, rfl, Or.inl ⟨rfl, fun z h1 h2 => by omega⟩, fun q => absurd rfl q, by omega, by omega, by omega, by omega⟩
  · rintro k q hk ⟨b, v, rfl, hB, hv, b0, b1, v0, v1⟩
    have hFk := hFd k
    have hb := fst_bd (sh g) k t n
    rw [← hFk] at hb
    show ∃ s', bX8_extreme_26 _ _ _ _ (iN b) (iN v) (iN (k : Int)) = some (.inl s') ∧ _
    unfold bX8_extreme_26
    rw [if_neg (by rw [show (255 : Int32) = iN 255 from rfl, iN_lt (by omega) (by omega) (by omega) (by omega)]; omega), m8_firstAt hg H (by omega) (by omega) t0 t1, Option.bind_some, ← hFk]
    unfold jX8_extreme_61 jX8_extreme_95
    simp only [nm, iN_succ]
    have eq1 : ((k + 1 : Nat) : Int) = (k : Int) + 1 := by omega
    by_cases c1 : F k = -1
    · rw [if_pos (by rw [c1]; rfl), if_pos (by rw [c1]; rfl)]
      exact ⟨_, rfl, b, v, rfl, hB.skip (by omega) (fun z hz hz2 => by rw [show z = (k : Int) by omega]; exact c1), hv, b0, b1, v0, v1⟩
    · have c1' : ¬ iN (F k) = (-1 : Int32) := by rw [show (-1 : Int32) = iN (-1) from rfl, iN_eq (by omega) (by omega) (by omega) (by omega)]; exact c1
      rw [if_neg c1']
      obtain ⟨m, hm⟩ : ∃ m : Nat, F k = m := ⟨(F k).toNat, by omega⟩
      rw [hm] at c1' ⊢
      have ve := Val_bd H (show m < n by omega) (x := (k : Int)) (by omega) (by omega)
      have hve : Val (sh g) m k = Val (sh g) (F k).toNat k := by rw [hm]; rfl
      have ke : kyE (sh g) F s k = s * Val (sh g) m k := by unfold kyE; rw [hve]
      have hmin : ∀ z, (k : Int) ≤ z → z < ((k + 1 : Nat) : Int) → kyE (sh g) F s k ≤ kyE (sh g) F s z ∧ (z < (k : Int) → kyE (sh g) F s k < kyE (sh g) F s z) := by
        intro z hz hz2
        rw [show z = (k : Int) by omega]
        exact ⟨Int.le_refl _, fun q => by omega⟩
      rw [m8_valueAt g m (by omega), Option.bind_some, if_neg c1']
      by_cases c2 : b = -1
      · rw [if_pos (by rw [c2]; rfl)]
        exact ⟨_, rfl, k, _, rfl, hB.take (by omega) (by omega) (by omega) c1 hmin (Or.inl c2), fun _ => hve, by omega, by omega, ve.1, ve.2⟩
      · rw [if_neg (by rw [show (-1 : Int32) = iN (-1) from rfl, iN_eq (by omega) (by omega) (by omega) (by omega)]; exact c2)]
        have hvb := hv c2
        have kb : kyE (sh g) F s b = s * v := by unfold kyE; rw [hvb]
        have tk : s * Val (sh g) m k < s * v → ∃ b' v', (iN (k : Int), iN (Val (sh g) m k), iN ((k + 1 : Nat) : Int)) = (iN b', iN v', iN ((k + 1 : Nat) : Int)) ∧ ExSt (sh g) F s ((k + 1 : Nat) : Int) b' v' := fun h => ⟨k, _, rfl, hB.take (by omega) (by omega) (by omega) c1 hmin (Or.inr (by rw [kb, ke]; exact h)), fun _ => hve, by omega, by omega, ve.1, ve.2⟩
        have kp : s * v ≤ s * Val (sh g) m k → ∃ b' v', (iN b, iN v, iN ((k + 1 : Nat) : Int)) = (iN b', iN v', iN ((k + 1 : Nat) : Int)) ∧ ExSt (sh g) F s ((k + 1 : Nat) : Int) b' v' := fun h => ⟨b, v, rfl, hB.keep (e := (k : Int)) (by omega) (by omega) (fun z hz hz2 => (hmin z hz hz2).1) c2 (by rw [kb, ke]; exact h), hv, b0, b1, v0, v1⟩
        by_cases c3 : x2 = 0
        · rw [if_pos c3]
          rw [if_pos c3] at hs
          by_cases c4 : v ≤ Val (sh g) m k
          · rw [if_pos (by rw [iN_le (by omega) (by omega) (by omega) (by omega)]; exact c4)]
            exact ⟨_, rfl, kp (by rw [sgn_le hs1]; omega)⟩
          · rw [if_neg (by rw [iN_le (by omega) (by omega) (by omega) (by omega)]; exact c4)]
            exact ⟨_, rfl, tk (by rw [sgn_lt hs1]; omega)⟩
        · rw [if_neg c3]
          rw [if_neg c3] at hs
          by_cases c4 : Val (sh g) m k ≤ v
          · rw [if_pos (by rw [iN_le (by omega) (by omega) (by omega) (by omega)]; exact c4)]
            exact ⟨_, rfl, kp (by rw [sgn_le hs1]; omega)⟩
          · rw [if_neg (by rw [iN_le (by omega) (by omega) (by omega) (by omega)]; exact c4)]
            exact ⟨_, rfl, tk (by rw [sgn_lt hs1]; omega)⟩
  · rintro q ⟨b, v, rfl, hB, -⟩
    show ∃ r, bX8_extreme_26 _ _ _ _ (iN b) (iN v) (iN ((256 : Nat) : Int)) = some (.inr r) ∧ _
    unfold bX8_extreme_26
    rw [if_pos (by decide)]
    exact ⟨_, rfl, b, rfl, hB⟩
theorem kyE_eq {n : Nat} {g g' : Nat → Int} (h : EqOn n g g') {F : Int → Int} (hF : ∀ z, -1 ≤ F z ∧ F z < n) (s : Int) {b : Int} : Best F (kyE g F s) 256 b → Best F (kyE g' F s) 256 b := by
  have k : ∀ z, ¬ F z = -1 → kyE g F s z = kyE g' F s z := by
    intro z hz
    have := hF z
    unfold kyE
    rw [h.val (show (F z).toNat < n by omega)]
  intro hB
  cases hB with
  | inl a => exact Or.inl a
  | inr a =>
    refine Or.inr ⟨a.1, a.2.1, a.2.2.1, fun z z0 zx hz => ?_⟩
    rw [← k b a.2.2.1, ← k z hz]
    exact a.2.2.2 z z0 zx hz
/-- promise 17: extreme -/
theorem r_extreme {g g8 : Nat → Int} {n : Nat} (hg : g8 0 = n) (H : SegOK g n) (hE : EqOn n g (sh g8)) (z c0 : Int32) (l0 d0 : Nat → Int32) (x1 x2 : Int32) : ∃ r sz ls ld b c, fX7_extreme (iN n) (fun i => iN (g i)) z l0 d0 x1 x2 = some (r, sz, ls, ld) ∧ fX8_extreme c0 (fun i => iN (g8 i)) x1 x2 = some (b, c) ∧ agrI (fun e => if e = 1 then 1 else 0) r b c := by
  have H8 := H.eqOn hE
  have hn := H.1
  unfold fX7_extreme fX8_extreme
  rw [m8_isTick, qb]
  by_cases c1 : 0 ≤ x1.toInt ∧ x1.toInt ≤ 16384
  · obtain ⟨sz, ls, ld, e, c, la, le, rfl, rfl, rfl, hR⟩ := s7_be H c1 z l0 d0
    rw [e, if_neg (fun q => b01_0.mp q c1), qb, q4, qt]
    have hF : ∀ z, -1 ≤ (fun x => fst g x x1.toInt n) z ∧ (fun x => fst g x x1.toInt n) z < n := fun z => fst_bd g z x1.toInt n
    obtain ⟨r, e1, b, rfl, hB⟩ := s1_extreme H hF hR x2 rfl
    obtain ⟨r8, e8, b8, rfl, hB8⟩ := m8_extremeLoop hg H8 c1.1 c1.2 x2 0 rfl
    rw [← iN_of x1] at e8
    rw [e1, e8, qb]
    have hB' := kyE_eq hE hF _ hB
    rw [fst_fun hE] at hB'
    rw [hB'.uniq hB8]
    exact ⟨_, _, _, _, _, _, rfl, rfl, rfl, rfl⟩
  · rw [s7_be_f c1, if_pos (b01_0.mpr c1)]
    exact ⟨_, _, _, _, _, _, rfl, rfl, rfl, by decide, by decide⟩
