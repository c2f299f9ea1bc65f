/-! ===== overTime, leads ===== -/
def exMX : Int := 9223372036854775807
/-- v is the extreme value of the first ones from a to b -/
def ExV (T V : Int → Int) (s a b v : Int) : Prop := (v = exMX ∧ ∀ u, a ≤ u → u ≤ b → T u = -1) ∨ ((∃ w, a ≤ w ∧ w ≤ b ∧ ¬ T w = -1 ∧ v = V (T w)) ∧ ∀ u, a ≤ u → u ≤ b → ¬ T u = -1 → s * v ≤ s * V (T u))
theorem ExV.uniq {T V : Int → Int} {s a b v v' : Int} (hs : s = 1 ∨ s = -1) (h : ExV T V s a b v) (h' : ExV T V s a b v') : v = v' := by
  cases h with
  | inl p =>
    cases h' with
    | inl q => rw [p.1, q.1]
    | inr q => obtain ⟨⟨w, h1, h2, h3, -⟩, -⟩ := q; exact absurd (p.2 w h1 h2) h3
  | inr p =>
    cases h' with
    | inl q => obtain ⟨⟨w, h1, h2, h3, -⟩, -⟩ := p; exact absurd (q.2 w h1 h2) h3
    | inr q =>
      obtain ⟨⟨w, h1, h2, h3, h4⟩, h5⟩ := p
      obtain ⟨⟨w', k1, k2, k3, k4⟩, k5⟩ := q
      have e1 := h5 w' k1 k2 k3
      have e2 := k5 w h1 h2 h3
      rw [← k4] at e1
      rw [← h4] at e2
      rcases hs with rfl | rfl <;> omega
theorem s6_extremeMinimum {g : Nat → Int} {n : Nat} (H : SegOK g n) {x a b : Int} (x0 : 0 ≤ x) (x1 : x ≤ 255) (a0 : 0 ≤ a) (ab : a ≤ b) (b1 : b ≤ 16384) (x4 : Int32) {s : Int} (hs : s = if x4 = 0 then 1 else -1) : ∃ v, fX6_extremeMinimum (iN n) (fun i => iN (g i)) (iN x) (iN a) (iN b) x4 = some (lI v) ∧ ExV (fun t => fst g x t n) (fun L => Val g L.toNat x) s a b v := by
  have hn := H.1
  have hs1 : s = 1 ∨ s = -1 := by rw [hs]; split <;> omega
  unfold fX6_extremeMinimum
  have key := lp_m (fun q : Int64 × Int32 × Int32 => bX6_extremeMinimum_11 (iN n) (fun i => iN (g i)) (iN x) (iN b) x4 q.1 q.2.1 q.2.2) (fun q => ∃ v t k : Int, q = (lI v, iN t, iN k) ∧ a ≤ t ∧ t ≤ 16385 ∧ 0 ≤ k ∧ k ≤ t - a ∧ ((v = exMX ∧ ∀ u, a ≤ u → u < t → fst g x u n = -1) ∨ ((∃ w, a ≤ w ∧ w ≤ b ∧ ¬ fst g x w n = -1 ∧ v = Val g (fst g x w n).toNat x) ∧ ∀ u, a ≤ u → u < t → ¬ fst g x u n = -1 → s * v ≤ s * Val g (fst g x u n).toNat x))) (fun q => (16386 - q.2.1.toInt).toNat) (fun q => ∃ v, q = lI v ∧ ExV (fun t => fst g x t n) (fun L => Val g L.toNat x) s a b v) ?_ fuel ((9223372036854775807 : Int64), iN a, (0 : Int32)) ⟨exMX, a, 0, rfl, by omega, by omega, by omega, by omega, Or.inl ⟨rfl, fun u h1 h2 => by omega⟩⟩ (fuel_ge (by show (16386 - (iN a).toInt).toNat ≤ _; rw [iN_toInt (by omega) (by omega)]; omega))
  · obtain ⟨q, e, v, rfl, h⟩ := key
    exact ⟨v, e, h⟩
  · rintro q ⟨v, t, k, rfl, t0, t1, k0, k1, hI⟩
    show (∃ s', bX6_extremeMinimum_11 _ _ _ _ _ (lI v) (iN t) (iN k) = some (.inl s') ∧ _) ∨ (∃ s', bX6_extremeMinimum_11 _ _ _ _ _ (lI v) (iN t) (iN k) = some (.inr s') ∧ _)
    unfold bX6_extremeMinimum_11
    have fin : b < t → ∃ s', xt (some (lI v)) = some (.inr s' : (Int64 × Int32 × Int32) ⊕ Int64) ∧ ∃ v, s' = lI v ∧ ExV (fun t => fst g x t n) (fun L => Val g L.toNat x) s a b v := by
      intro hbt
      refine ⟨_, rfl, v, rfl, ?_⟩
      cases hI with
      | inl h => exact Or.inl ⟨h.1, fun u h1 h2 => h.2 u h1 (by omega)⟩
      | inr h => exact Or.inr ⟨h.1, fun u h1 h2 h3 => h.2 u h1 (by omega) h3⟩
    by_cases c1 : 16384 < k
    · rw [if_pos (by rw [show (16384 : Int32) = iN 16384 from rfl, iN_lt (by omega) (by omega) (by omega) (by omega)]; exact c1)]
      exact Or.inr (fin (by omega))
    · rw [if_neg (by rw [show (16384 : Int32) = iN 16384 from rfl, iN_lt (by omega) (by omega) (by omega) (by omega)]; exact c1)]
      by_cases c2 : b < t
      · rw [if_pos (by rw [iN_lt (by omega) (by omega) (by omega) (by omega)]; exact c2)]
        exact Or.inr (fin c2)
      · rw [if_neg (by rw [iN_lt (by omega) (by omega) (by omega) (by omega)]; exact c2)]
        have hb := fst_bd g x t n
        obtain ⟨t2, e2, g1, g2, g3⟩ := s6_nextTurn H x0 x1 (show 0 ≤ t by omega) (show t ≤ 16384 by omega)
        have hc : ∀ u, t ≤ u → u < t2 → fst g x u n = fst g x t n := fun u h1 h2 => fst_const h1 (fun w h3 h4 => g3 w h3 (by omega))
        have step : ∀ v' : Int, ((v' = exMX ∧ ∀ u, a ≤ u → u < t2 → fst g x u n = -1) ∨ ((∃ w, a ≤ w ∧ w ≤ b ∧ ¬ fst g x w n = -1 ∧ v' = Val g (fst g x w n).toNat x) ∧ ∀ u, a ≤ u → u < t2 → ¬ fst g x u n = -1 → s * v' ≤ s * Val g (fst g x u n).toNat x)) → ∃ s', jX6_extremeMinimum_87 (iN n) (fun i => iN (g i)) (iN x) (lI v') (iN t) (iN k) = some (.inl s') ∧ (∃ v t k : Int, s' = (lI v, iN t, iN k) ∧ a ≤ t ∧ t ≤ 16385 ∧ 0 ≤ k ∧ k ≤ t - a ∧ ((v = exMX ∧ ∀ u, a ≤ u → u < t → fst g x u n = -1) ∨ ((∃ w, a ≤ w ∧ w ≤ b ∧ ¬ fst g x w n = -1 ∧ v = Val g (fst g x w n).toNat x) ∧ ∀ u, a ≤ u → u < t → ¬ fst g x u n = -1 → s * v ≤ s * Val g (fst g x u n).toNat x))) ∧ (16386 - s'.2.1.toInt).toNat < (16386 - (iN t).toInt).toNat := by
          intro v' hv'
          unfold jX6_extremeMinimum_87
          rw [e2, Option.bind_some]
          simp only [nm, show iN k + (1 : Int32) = iN (k + 1) from iN_add k 1]
          refine ⟨_, rfl, ⟨v', t2, k + 1, rfl, by omega, by omega, by omega, by omega, hv'⟩, ?_⟩
          show (16386 - (iN t2).toInt).toNat < _
          rw [iN_toInt (by omega) (by omega), iN_toInt (by omega) (by omega)]; omega
        rw [s6_firstAt H x0 x1 (show 0 ≤ t by omega) (by omega), Option.bind_some]
        by_cases c3 : fst g x t n = -1
        · rw [if_pos (by rw [c3]; rfl)]
          refine Or.inl (step v ?_)
          cases hI with
          | inl h =>
            refine Or.inl ⟨h.1, fun u h1 h2 => ?_⟩
            by_cases d : u < t
            · exact h.2 u h1 d
            · rw [hc u (by omega) h2]; exact c3
          | inr h =>
            refine Or.inr ⟨h.1, fun u h1 h2 h3 => ?_⟩
            by_cases d : u < t
            · exact h.2 u h1 d h3
            · rw [hc u (by omega) h2] at h3; exact absurd c3 h3
        · rw [if_neg (by rw [show (-1 : Int32) = iN (-1) from rfl, iN_eq (by omega) (by omega) (by omega) (by omega)]; exact c3)]
          obtain ⟨m, hm⟩ : ∃ m : Nat, fst g x t n = m := ⟨(fst g x t n).toNat, by omega⟩
          have vm := Val_bd H (show m < n by omega) x0 x1
          have hvm : Val g m x = Val g (fst g x t n).toNat x := by rw [hm]; rfl
          have take : (v = exMX ∨ s * Val g m x ≤ s * v) → ∃ s', jX6_extremeMinimum_83 (iN n) (fun i => iN (g i)) (iN x) (iN t) (iN k) (lI (Val g m x)) = some (.inl s') ∧ (∃ v t k : Int, s' = (lI v, iN t, iN k) ∧ a ≤ t ∧ t ≤ 16385 ∧ 0 ≤ k ∧ k ≤ t - a ∧ ((v = exMX ∧ ∀ u, a ≤ u → u < t → fst g x u n = -1) ∨ ((∃ w, a ≤ w ∧ w ≤ b ∧ ¬ fst g x w n = -1 ∧ v = Val g (fst g x w n).toNat x) ∧ ∀ u, a ≤ u → u < t → ¬ fst g x u n = -1 → s * v ≤ s * Val g (fst g x u n).toNat x))) ∧ (16386 - s'.2.1.toInt).toNat < (16386 - (iN t).toInt).toNat := by
            intro ht
            unfold jX6_extremeMinimum_83
            refine step _ (Or.inr ⟨⟨t, t0, by omega, c3, hvm⟩, fun u h1 h2 h3 => ?_⟩)
            by_cases d : u < t
            · cases hI with
              | inl h => exact absurd (h.2 u h1 d) h3
              | inr h =>
                have h5 := h.2 u h1 d h3
                cases ht with
                | inl q =>
                  obtain ⟨⟨w, w1, w2, w3, w4⟩, -⟩ := h
                  have hbw := fst_bd g x w n
                  have vw := Val_bd H (show (fst g x w n).toNat < n by omega) x0 x1
                  unfold exMX at q
                  omega
                | inr q => exact Int.le_trans q h5
            · rw [hc u (by omega) h2, ← hvm]; exact Int.le_refl _
          have keep : ¬ v = exMX → s * v ≤ s * Val g m x → _ := fun h1 h2 => step v (Or.inr (by
            cases hI with
            | inl h => exact absurd h.1 h1
            | inr h =>
              refine ⟨h.1, fun u k1 k2 k3 => ?_⟩
              by_cases d : u < t
              · exact h.2 u k1 d k3
              · rw [hc u (by omega) k2, ← hvm]; exact h2))
          have vb : ¬ v = exMX → -1255000 ≤ v ∧ v ≤ 1255000 := by
            intro h1
            cases hI with
            | inl h => exact absurd h.1 h1
            | inr h =>
              obtain ⟨⟨w, w1, w2, w3, w4⟩, -⟩ := h
              have hbw := fst_bd g x w n
              have vw := Val_bd H (show (fst g x w n).toNat < n by omega) x0 x1
              rw [w4]; exact vw
          have vb2 : v = exMX ∨ (-1255000 ≤ v ∧ v ≤ 1255000) := by
            by_cases q : v = exMX
            · exact Or.inl q
            · exact Or.inr (vb q)
          rw [hm, s6_height g m (by omega), Option.bind_some]
          simp only [nm, iN_l (show -2147483648 ≤ Val g m x by omega) (by omega), cmp_eq, cmp_ge, cmp_le]
          have eM : (lI v = (9223372036854775807 : Int64)) = (v = exMX) := by
            rw [show (9223372036854775807 : Int64) = lI exMX from rfl]
            unfold exMX at *
            exact propext (lI_eq (by omega) (by omega) (by omega) (by omega))
          simp only [eM]
          by_cases c4 : v = exMX
          · rw [if_pos c4]
            exact Or.inl (take (Or.inl c4))
          · rw [if_neg c4]
            have vb' := vb c4
            by_cases c5 : x4 = 0
            · rw [if_pos c5]
              rw [if_pos c5] at hs
              by_cases c6 : v ≤ Val g m x
              · rw [if_pos (by rw [lI_le (by omega) (by omega) (by omega) (by omega)]; exact c6)]
                exact Or.inl (keep c4 (by rw [sgn_le hs1]; omega))
              · rw [if_neg (by rw [lI_le (by omega) (by omega) (by omega) (by omega)]; exact c6)]
                exact Or.inl (take (Or.inr (by rw [sgn_le hs1]; omega)))
            · rw [if_neg c5]
              rw [if_neg c5] at hs
              by_cases c6 : Val g m x ≤ v
              · rw [if_pos (by rw [lI_le (by omega) (by omega) (by omega) (by omega)]; exact c6)]
                exact Or.inl (keep c4 (by rw [sgn_le hs1]; omega))
              · rw [if_neg (by rw [lI_le (by omega) (by omega) (by omega) (by omega)]; exact c6)]
                exact Or.inl (take (Or.inr (by rw [sgn_le hs1]; omega)))
/-- u is looked at before the k-th step -/
def seen (e : Nat → Int) (a b : Int) (k : Nat) (u : Int) : Prop := (0 < k ∧ u = a) ∨ ∃ i, i + 1 < k ∧ e i = u ∧ a ≤ u ∧ u ≤ b
theorem iN_f01 {f : Int} (h : f = 0 ∨ f = 1) : iN f = (0 : Int32) ↔ f = 0 := by
  rw [show (0 : Int32) = iN 0 from rfl]
  exact iN_eq (by omega) (by omega) (by omega) (by omega)
theorem m8_overTimeLoop {g : Nat → Int} {n : Nat} (hg : g 0 = n) (H : SegOK (sh g) n) {x a b : Int} (x0 : 0 ≤ x) (x1 : x ≤ 255) (a0 : 0 ≤ a) (ab : a ≤ b) (b1 : b ≤ 16384) (x4 w : Int32) {s : Int} (hs : s = if x4 = 0 then 1 else -1) : ∃ v, lp (fun q => bX8_overTime_30 (fun i => iN (g i)) (iN x) (iN a) (iN b) x4 w q.1 q.2.1 q.2.2) fuel ((0 : Int32), (0 : Int32), (-1 : Int32)) = some (lI v, w) ∧ ExV (fun t => fst (sh g) x t n) (fun L => Val (sh g) L.toNat x) s a b v := by
  have hn := H.1
  have hs1 : s = 1 ∨ s = -1 := by rw [hs]; split <;> omega
  have fa : ∀ {t : Int}, 0 ≤ t → t ≤ 16384 → fX8_firstAt (fun i => iN (g i)) (iN x) (iN t) = some (iN ((fun t => fst (sh g) x t n) t)) := fun h1 h2 => m8_firstAt hg H x0 x1 h1 h2
  have hTb : ∀ t, -1 ≤ (fun t => fst (sh g) x t n) t ∧ (fun t => fst (sh g) x t n) t < n := fun t => fst_bd (sh g) x t n
  have hTc : ∀ u, ¬ (∃ i, i < 2 * n ∧ ev (sh g) i = u) → (fun t => fst (sh g) x t n) u = (fun t => fst (sh g) x t n) (u - 1) := by
    intro u hu
    exact fst_const (by omega) (fun w h1 h2 ht => hu (by rw [show u = w by omega]; exact turn_ev ht))
  generalize (fun t => fst (sh g) x t n) = T at fa hTb hTc ⊢
  have hVb : ∀ {t}, ¬ T t = -1 → -1255000 ≤ Val (sh g) (T t).toNat x ∧ Val (sh g) (T t).toNat x ≤ 1255000 := fun {t} h => by
    have := hTb t
    exact Val_bd H (by omega) x0 x1
  have key := lp_iv (body := fun q : Int32 × Int32 × Int32 => bX8_overTime_30 (fun i => iN (g i)) (iN x) (iN a) (iN b) x4 w q.1 q.2.1 q.2.2) (s0 := ((0 : Int32), (0 : Int32), (-1 : Int32))) (fun k q => ∃ f v : Int, q = (iN f, iN v, iN ((k : Int) - 1)) ∧ ((f = 0 ∧ ∀ u, seen (ev (sh g)) a b k u → T u = -1) ∨ (f = 1 ∧ (∃ w, a ≤ w ∧ w ≤ b ∧ ¬ T w = -1 ∧ v = Val (sh g) (T w).toNat x) ∧ ∀ u, seen (ev (sh g)) a b k u → ¬ T u = -1 → s * v ≤ s * Val (sh g) (T u).toNat x)) ∧ -1255000 ≤ v ∧ v ≤ 1255000) (fun q => ∃ v, q = (lI v, w) ∧ ExV T (fun L => Val (sh g) L.toNat x) s a b v) (2 * n + 1) ?_ ?_ ?_ (fuel_ge (by omega))
  · obtain ⟨q, e, v, rfl, h⟩ := key
    exact ⟨v, e, h⟩
  · refine ⟨0, 0, rfl, Or.inl ⟨rfl, fun u hu => ?_⟩, by omega, by omega⟩
    unfold seen at hu
    rcases hu with h | ⟨i, h, -⟩ <;> omega
  · rintro k q hk ⟨f, v, rfl, hI, v0, v1⟩
    have f01 : f = 0 ∨ f = 1 := by omega
    show ∃ s', bX8_overTime_30 _ _ _ _ _ _ (iN f) (iN v) (iN ((k : Int) - 1)) = some (.inl s') ∧ _
    unfold bX8_overTime_30
    rw [show (0 : Int32) = iN 0 from rfl, rd_iN (by omega) (by omega) (by omega)]
    simp only [show (0 : Int).toNat = 0 from rfl, hg]
    rw [show (2 : Int32) = iN 2 from rfl, iN_mul, if_neg (by rw [iN_le (by omega) (by omega) (by omega) (by omega)]; omega)]
    have ek : iN ((k : Int) - 1) + (1 : Int32) = iN (((k + 1 : Nat) : Int) - 1) := by
      rw [show (1 : Int32) = iN 1 from rfl, iN_add]; congr 1; omega
    -- one tick looked at
    have look : ∀ c : Int, 0 ≤ c → c ≤ 16384 → (∀ u, seen (ev (sh g)) a b (k + 1) u → seen (ev (sh g)) a b k u ∨ (u = c ∧ a ≤ c ∧ c ≤ b)) → ∃ s', jX8_overTime_58 (fun i => iN (g i)) (iN x) (iN a) (iN b) x4 (iN f) (iN v) (iN ((k : Int) - 1)) (iN c) = some (.inl s') ∧ ∃ f v : Int, s' = (iN f, iN v, iN (((k + 1 : Nat) : Int) - 1)) ∧ ((f = 0 ∧ ∀ u, seen (ev (sh g)) a b (k + 1) u → T u = -1) ∨ (f = 1 ∧ (∃ w, a ≤ w ∧ w ≤ b ∧ ¬ T w = -1 ∧ v = Val (sh g) (T w).toNat x) ∧ ∀ u, seen (ev (sh g)) a b (k + 1) u → ¬ T u = -1 → s * v ≤ s * Val (sh g) (T u).toNat x)) ∧ -1255000 ≤ v ∧ v ≤ 1255000 := by
      intro c hc0 hc1 hseen
      have skip : (a ≤ c → c ≤ b → T c = -1) → ∃ f' v' : Int, (iN f, iN v, iN (((k + 1 : Nat) : Int) - 1)) = (iN f', iN v', iN (((k + 1 : Nat) : Int) - 1)) ∧ ((f' = 0 ∧ ∀ u, seen (ev (sh g)) a b (k + 1) u → T u = -1) ∨ (f' = 1 ∧ (∃ w, a ≤ w ∧ w ≤ b ∧ ¬ T w = -1 ∧ v' = Val (sh g) (T w).toNat x) ∧ ∀ u, seen (ev (sh g)) a b (k + 1) u → ¬ T u = -1 → s * v' ≤ s * Val (sh g) (T u).toNat x)) ∧ -1255000 ≤ v' ∧ v' ≤ 1255000 := by
        intro hz
        refine ⟨f, v, rfl, ?_, v0, v1⟩
        cases hI with
        | inl h =>
          refine Or.inl ⟨h.1, fun u hu => ?_⟩
          cases hseen u hu with
          | inl q => exact h.2 u q
          | inr q => rw [q.1]; exact hz q.2.1 q.2.2
        | inr h =>
          refine Or.inr ⟨h.1, h.2.1, fun u hu hT => ?_⟩
          cases hseen u hu with
          | inl q => exact h.2.2 u q hT
          | inr q => rw [q.1] at hT; exact absurd (hz q.2.1 q.2.2) hT
      unfold jX8_overTime_58 jX8_overTime_84
      rw [iN_l (by omega) (by omega), iN_l (by omega) (by omega), iN_l (by omega) (by omega), m8_in (by omega) (by omega) (by omega) (by omega) (by omega) (by omega), Option.bind_some]
      unfold jX8_overTime_103 jX8_overTime_138
      simp only [nm, ek, b01_0]
      by_cases d1 : a ≤ c ∧ c ≤ b
      · have hTc := hTb c
        rw [if_neg (not_not_intro d1), fa hc0 hc1, Option.bind_some]
        by_cases d2 : T c = -1
        · rw [if_pos (show iN (T c) = (-1 : Int32) by rw [d2]; rfl), if_pos (show iN (T c) = (-1 : Int32) by rw [d2]; rfl)]
          exact ⟨_, rfl, skip (fun _ _ => d2)⟩
        · have d2' : ¬ iN (T c) = (-1 : Int32) := by rw [show (-1 : Int32) = iN (-1) from rfl, iN_eq (by omega) (by omega) (by omega) (by omega)]; exact d2
          obtain ⟨m, hm⟩ : ∃ m : Nat, T c = m := ⟨(T c).toNat, by omega⟩
          have hvm : Val (sh g) m x = Val (sh g) (T c).toNat x := by rw [hm]; rfl
          have vm := Val_bd H (show m < n by omega) x0 x1
          rw [if_neg d2', hm, m8_valueAt g m (by omega), Option.bind_some]
          rw [hm] at d2'
          rw [if_neg d2']
          have take : (f = 0 ∨ s * Val (sh g) m x ≤ s * v) → ∃ f' v' : Int, ((1 : Int32), iN (Val (sh g) m x), iN (((k + 1 : Nat) : Int) - 1)) = (iN f', iN v', iN (((k + 1 : Nat) : Int) - 1)) ∧ ((f' = 0 ∧ ∀ u, seen (ev (sh g)) a b (k + 1) u → T u = -1) ∨ (f' = 1 ∧ (∃ w, a ≤ w ∧ w ≤ b ∧ ¬ T w = -1 ∧ v' = Val (sh g) (T w).toNat x) ∧ ∀ u, seen (ev (sh g)) a b (k + 1) u → ¬ T u = -1 → s * v' ≤ s * Val (sh g) (T u).toNat x)) ∧ -1255000 ≤ v' ∧ v' ≤ 1255000 := by
            intro ht
            refine ⟨1, _, rfl, Or.inr ⟨rfl, ⟨c, d1.1, d1.2, d2, hvm⟩, fun u hu hT => ?_⟩, vm.1, vm.2⟩
            cases hseen u hu with
            | inl q =>
              cases hI with
              | inl h => exact absurd (h.2 u q) hT
              | inr h =>
                cases ht with
                | inl z => omega
                | inr z => exact Int.le_trans z (h.2.2 u q hT)
            | inr q => rw [q.1, ← hvm]; exact Int.le_refl _
          have keep : ¬ f = 0 → s * v ≤ s * Val (sh g) m x → ∃ f' v' : Int, (iN f, iN v, iN (((k + 1 : Nat) : Int) - 1)) = (iN f', iN v', iN (((k + 1 : Nat) : Int) - 1)) ∧ ((f' = 0 ∧ ∀ u, seen (ev (sh g)) a b (k + 1) u → T u = -1) ∨ (f' = 1 ∧ (∃ w, a ≤ w ∧ w ≤ b ∧ ¬ T w = -1 ∧ v' = Val (sh g) (T w).toNat x) ∧ ∀ u, seen (ev (sh g)) a b (k + 1) u → ¬ T u = -1 → s * v' ≤ s * Val (sh g) (T u).toNat x)) ∧ -1255000 ≤ v' ∧ v' ≤ 1255000 := by
            intro hf hk
            refine ⟨f, v, rfl, ?_, v0, v1⟩
            cases hI with
            | inl h => exact absurd h.1 hf
            | inr h =>
              refine Or.inr ⟨h.1, h.2.1, fun u hu hT => ?_⟩
              cases hseen u hu with
              | inl q => exact h.2.2 u q hT
              | inr q => rw [q.1, ← hvm]; exact hk
          by_cases d3 : f = 0
          · rw [if_pos (by rw [d3]; rfl)]
            exact ⟨_, rfl, take (Or.inl d3)⟩
          · rw [if_neg (fun q => d3 ((iN_f01 f01).mp q))]
            by_cases d4 : x4 = 0
            · rw [if_pos (by exact d4)]
              rw [if_pos d4] at hs
              by_cases d5 : v ≤ Val (sh g) m x
              · rw [if_pos (by rw [iN_le (by omega) (by omega) (by omega) (by omega)]; exact d5)]
                exact ⟨_, rfl, keep d3 (by rw [sgn_le hs1]; omega)⟩
              · rw [if_neg (by rw [iN_le (by omega) (by omega) (by omega) (by omega)]; exact d5)]
                exact ⟨_, rfl, take (Or.inr (by rw [sgn_le hs1]; omega))⟩
            · rw [if_neg (by exact d4)]
              rw [if_neg d4] at hs
              by_cases d5 : Val (sh g) m x ≤ v
              · rw [if_pos (by rw [iN_le (by omega) (by omega) (by omega) (by omega)]; exact d5)]
                exact ⟨_, rfl, keep d3 (by rw [sgn_le hs1]; omega)⟩
              · rw [if_neg (by rw [iN_le (by omega) (by omega) (by omega) (by omega)]; exact d5)]
                exact ⟨_, rfl, take (Or.inr (by rw [sgn_le hs1]; omega))⟩
      · rw [if_pos d1, if_pos trivial, if_pos trivial]
        exact ⟨_, rfl, skip (fun h1 h2 => absurd ⟨h1, h2⟩ d1)⟩
    by_cases c1 : k = 0
    · rw [if_neg (by rw [iN_le (by omega) (by omega) (by omega) (by omega)]; omega)]
      refine look a a0 (by omega) (fun u hu => ?_)
      unfold seen at hu ⊢
      rcases hu with h | ⟨i, h, -⟩
      · exact Or.inr ⟨h.2, by omega, ab⟩
      · omega
    · obtain ⟨j, rfl⟩ : ∃ j, k = j + 1 := ⟨k - 1, by omega⟩
      have hv := ev_bd H (i := j) (by omega)
      rw [if_pos (by rw [iN_le (by omega) (by omega) (by omega) (by omega)]; omega), show (((j + 1 : Nat) : Int) - 1) = (j : Int) by omega, m8_event g j (by omega), Option.bind_some]
      have h := look (ev (sh g) j) hv.1 hv.2 (fun u hu => by
        unfold seen at hu ⊢
        rcases hu with h | ⟨i, h1, h2, h3, h4⟩
        · exact Or.inl (Or.inl ⟨by omega, h.2⟩)
        · by_cases e : i = j
          · subst e; exact Or.inr ⟨h2.symm, by omega, by omega⟩
          · exact Or.inl (Or.inr ⟨i, by omega, h2, h3, h4⟩))
      rw [show (((j + 1 : Nat) : Int) - 1) = (j : Int) by omega] at h
      exact h
  · rintro q ⟨f, v, rfl, hI, v0, v1⟩
    show ∃ s', bX8_overTime_30 _ _ _ _ _ _ (iN f) (iN v) (iN (((2 * n + 1 : Nat) : Int) - 1)) = some (.inr s') ∧ _
    unfold bX8_overTime_30
    rw [show (0 : Int32) = iN 0 from rfl, rd_iN (by omega) (by omega) (by omega)]
    simp only [show (0 : Int).toNat = 0 from rfl, hg]
    rw [show (2 : Int32) = iN 2 from rfl, iN_mul, if_pos (by rw [iN_le (by omega) (by omega) (by omega) (by omega)]; omega)]
    have all : ∀ P : Int → Prop, P a → (∀ u, seen (ev (sh g)) a b (2 * n + 1) u → P u) → (∀ u, a ≤ u - 1 → u ≤ b → P (u - 1) → T u = T (u - 1) → P u) → ∀ u, a ≤ u → u ≤ b → P u := by
      intro P h0 h1 h2
      have ind : ∀ m : Nat, a + m ≤ b → P (a + m) := by
        intro m
        induction m with
        | zero => intro _; rw [show a + ((0 : Nat) : Int) = a by omega]; exact h0
        | succ m ih =>
          intro hm
          by_cases c : ∃ i, i < 2 * n ∧ ev (sh g) i = a + ((m + 1 : Nat) : Int)
          · obtain ⟨i, hi, he⟩ := c
            exact h1 _ (Or.inr ⟨i, by omega, he, by omega, hm⟩)
          · have e : a + ((m + 1 : Nat) : Int) - 1 = a + m := by omega
            have := hTc _ c
            exact h2 _ (by omega) hm (by rw [e]; exact ih (by omega)) this
      intro u hu hub
      have := ind (u - a).toNat (by omega)
      rw [show a + ((u - a).toNat : Int) = u by omega] at this
      exact this
    have sa : seen (ev (sh g)) a b (2 * n + 1) a := Or.inl ⟨by omega, rfl⟩
    cases hI with
    | inl h =>
      rw [if_pos (by rw [h.1])]
      refine ⟨_, rfl, exMX, rfl, Or.inl ⟨rfl, ?_⟩⟩
      exact all (fun u => T u = -1) (h.2 a sa) h.2 (fun u _ _ h1 h2 => by rw [h2]; exact h1)
    | inr h =>
      rw [if_neg (by rw [h.1]; decide), iN_l (by omega) (by omega)]
      refine ⟨_, rfl, v, rfl, Or.inr ⟨h.2.1, ?_⟩⟩
      exact all (fun u => ¬ T u = -1 → s * v ≤ s * Val (sh g) (T u).toNat x) (h.2.2 a sa) h.2.2 (fun u _ _ h1 h2 => by rw [h2]; exact h1)
/-- promise 20: the extreme over time -/
theorem r_overTime {g g8 : Nat → Int} {n : Nat} (hg : g8 0 = n) (H : SegOK g n) (hE : EqOn n g (sh g8)) (c0 : Int32) (x1 x2 x3 x4 : Int32) : ∃ r b c, fX7_overTime (iN n) (fun i => iN (g i)) x1 x2 x3 x4 = some r ∧ fX8_overTime c0 (fun i => iN (g8 i)) x1 x2 x3 x4 = some (b, c) ∧ agrL (fun e => if e = 1 then 1 else 0) r b c := by
  have hn := H.1
  have H8 := H.eqOn hE
  unfold fX7_overTime fX8_overTime
  rw [m8_isRange, qb]
  by_cases c1 : (0 ≤ x1.toInt ∧ x1.toInt ≤ 255) ∧ (0 ≤ x3.toInt ∧ x3.toInt ≤ 16384) ∧ (0 ≤ x2.toInt ∧ x2.toInt ≤ x3.toInt)
  · rw [s7_rsp_t c1, if_neg (fun q => b01_0.mp q c1), qb, qt]
    obtain ⟨⟨a1, a2⟩, ⟨a3, a4⟩, a5, a6⟩ := c1
    rw [iN_of x1, iN_of x2, iN_of x3]
    generalize x1.toInt = x at *
    generalize x2.toInt = a at *
    generalize x3.toInt = b at *
    have hs1 : (if x4 = 0 then (1 : Int) else -1) = 1 ∨ (if x4 = 0 then (1 : Int) else -1) = -1 := by split <;> omega
    obtain ⟨v, e, hv⟩ := s6_extremeMinimum H a1 a2 a5 a6 a4 x4 rfl
    obtain ⟨v8, e8, hv8⟩ := m8_overTimeLoop hg H8 a1 a2 a5 a6 a4 x4 (0 : Int32) rfl
    rw [e, qb, e8]
    have hT : (fun t => fst g x t n) = fun t => fst (sh g8) x t n := funext fun t => EqOn_fst hE x t n (Nat.le_refl n)
    have hv' : ExV (fun t => fst (sh g8) x t n) (fun L => Val (sh g8) L.toNat x) (if x4 = 0 then (1 : Int) else -1) a b v := by
      rw [← hT]
      have hV : ∀ t, ¬ fst g x t n = -1 → Val g (fst g x t n).toNat x = Val (sh g8) (fst g x t n).toNat x := by
        intro t ht
        have := fst_bd g x t n
        exact hE.val (by omega) x
      cases hv with
      | inl h => exact Or.inl h
      | inr h =>
        obtain ⟨⟨w, w1, w2, w3, w4⟩, h2⟩ := h
        refine Or.inr ⟨⟨w, w1, w2, w3, w4.trans (hV w w3)⟩, fun u u1 u2 u3 => ?_⟩
        have := h2 u u1 u2 u3
        have e := hV u u3
        show _ ≤ _ * Val (sh g8) (fst g x u n).toNat x
        rw [← e]
        exact this
    rw [hv'.uniq hs1 hv8]
    exact ⟨_, _, _, rfl, rfl, rfl, rfl⟩
  · rw [s7_rsp_f c1, if_pos (b01_0.mpr c1)]
    exact ⟨_, _, _, rfl, rfl, rfl, by decide, by decide⟩
