/-! ===== loops with an invariant; who is first; the runs of the first one ===== -/
theorem lp_m {σ ρ : Type} (body : σ → Option (σ ⊕ ρ)) (Inv : σ → Prop) (μ : σ → Nat) (Q : ρ → Prop) (hs : ∀ s, Inv s → (∃ s', body s = some (.inl s') ∧ Inv s' ∧ μ s' < μ s) ∨ ∃ r, body s = some (.inr r) ∧ Q r) : ∀ (N : Nat) (s : σ), Inv s → μ s < N → ∃ r, lp body N s = some r ∧ Q r := by
  intro N
  induction N with
  | zero => intro s _ h; exact absurd h (Nat.not_lt_zero _)
  | succ N ih =>
    intro s hI hm
    cases hs s hI with
    | inl h =>
      obtain ⟨s', e, hI', hlt⟩ := h
      obtain ⟨r, er, hq⟩ := ih s' hI' (by omega)
      refine ⟨r, ?_, hq⟩
      simp only [lp, e, Option.bind_some, er]
    | inr h =>
      obtain ⟨r, e, hq⟩ := h
      refine ⟨r, ?_, hq⟩
      simp only [lp, e, Option.bind_some]
theorem lp_iv {σ ρ : Type} {body : σ → Option (σ ⊕ ρ)} (Inv : Nat → σ → Prop) (Q : ρ → Prop) (K : Nat) {s0 : σ} (h0 : Inv 0 s0) (hs : ∀ k s, k < K → Inv k s → ∃ s', body s = some (.inl s') ∧ Inv (k + 1) s') (he : ∀ s, Inv K s → ∃ r, body s = some (.inr r) ∧ Q r) (hK : K < fuel) : ∃ r, lp body fuel s0 = some r ∧ Q r := by
  have key : ∀ (m k : Nat) (s : σ) (N : Nat), k + m = K → Inv k s → m < N → ∃ r, lp body N s = some r ∧ Q r := by
    intro m
    induction m with
    | zero =>
      intro k s N hk hI hN
      obtain ⟨N', rfl⟩ : ∃ N', N = N' + 1 := ⟨N - 1, by omega⟩
      have hk' : k = K := by omega
      subst hk'
      obtain ⟨r, e, hq⟩ := he s hI
      exact ⟨r, by simp only [lp, e, Option.bind_some], hq⟩
    | succ m ih =>
      intro k s N hk hI hN
      obtain ⟨N', rfl⟩ : ∃ N', N = N' + 1 := ⟨N - 1, by omega⟩
      obtain ⟨s', e, hI'⟩ := hs k s (by omega) hI
      obtain ⟨r, er, hq⟩ := ih (k + 1) s' N' (by omega) hI' (by omega)
      exact ⟨r, by simp only [lp, e, Option.bind_some, er], hq⟩
  exact key K 0 s0 fuel (by omega) h0 hK
/-- j stands before m at x -/
def Bef (g : Nat → Int) (x : Int) (j m : Nat) : Prop := Val g j x < Val g m x ∨ (Val g j x = Val g m x ∧ j < m)
theorem Bef.irr {g : Nat → Int} {x : Int} {m : Nat} : ¬ Bef g x m m := by unfold Bef; omega
theorem fst_spec (g : Nat → Int) (x t : Int) : ∀ k : Nat, (fst g x t k = -1 ∧ ∀ j, j < k → ¬ The g j x t) ∨ ∃ m : Nat, m < k ∧ fst g x t k = m ∧ The g m x t ∧ ∀ j, j < k → The g j x t → ¬ Bef g x j m := by
  intro k
  induction k with
  | zero => exact Or.inl ⟨rfl, fun j hj => absurd hj (Nat.not_lt_zero j)⟩
  | succ k ih =>
    simp only [fst]
    cases ih with
    | inl h =>
      obtain ⟨h1, h2⟩ := h
      by_cases c : The g k x t
      · rw [if_pos ⟨c, Or.inl h1⟩]
        refine Or.inr ⟨k, by omega, rfl, c, fun j hj hT => ?_⟩
        by_cases e : j = k
        · subst e; exact Bef.irr
        · exact absurd hT (h2 j (by omega))
      · rw [if_neg (fun q => c q.1)]
        refine Or.inl ⟨h1, fun j hj => ?_⟩
        by_cases e : j = k
        · subst e; exact c
        · exact h2 j (by omega)
    | inr h =>
      obtain ⟨m, hm, h1, h2, h3⟩ := h
      rw [h1, show ((m : Int)).toNat = m from rfl]
      by_cases c : The g k x t ∧ ((m : Int) = -1 ∨ Val g k x < Val g m x)
      · rw [if_pos c]
        have hv : Val g k x < Val g m x := by omega
        refine Or.inr ⟨k, by omega, rfl, c.1, fun j hj hT => ?_⟩
        by_cases e : j = k
        · subst e; exact Bef.irr
        · have := h3 j (by omega) hT
          unfold Bef at this ⊢
          omega
      · rw [if_neg c]
        refine Or.inr ⟨m, by omega, rfl, h2, fun j hj hT => ?_⟩
        by_cases e : j = k
        · subst e
          unfold Bef
          intro q
          exact c ⟨hT, Or.inr (by omega)⟩
        · exact h3 j (by omega) hT
theorem fst_eq {g : Nat → Int} {x t : Int} {k m : Nat} (hm : m < k) (hT : The g m x t) (hB : ∀ j, j < k → The g j x t → ¬ Bef g x j m) : fst g x t k = m := by
  cases fst_spec g x t k with
  | inl h => exact absurd hT (h.2 m hm)
  | inr h =>
    obtain ⟨m', hm', h1, h2, h3⟩ := h
    have a := hB m' hm' h2
    have b := h3 m hm hT
    unfold Bef at a b
    have : m = m' := by omega
    rw [h1, this]
theorem fst_none {g : Nat → Int} {x t : Int} {k : Nat} (h : ∀ j, j < k → ¬ The g j x t) : fst g x t k = -1 := by
  cases fst_spec g x t k with
  | inl h => exact h.1
  | inr q => obtain ⟨m, hm, -, hT, -⟩ := q; exact absurd hT (h m hm)
theorem fst_there {g : Nat → Int} {x t : Int} {k m : Nat} (h : fst g x t k = m) : m < k ∧ The g m x t ∧ ∀ j, j < k → The g j x t → ¬ Bef g x j m := by
  cases fst_spec g x t k with
  | inl q => have := q.1; omega
  | inr q =>
    obtain ⟨m', hm', h1, h2, h3⟩ := q
    have : m = m' := by omega
    subst this
    exact ⟨hm', h2, h3⟩
theorem fst_empty {g : Nat → Int} {x t : Int} {k : Nat} (h : fst g x t k = -1) : ∀ j, j < k → ¬ The g j x t := by
  cases fst_spec g x t k with
  | inl q => exact q.2
  | inr q => obtain ⟨m', -, h1, -⟩ := q; omega
/-- what a turn says: r is the first position behind x at which p holds, or lies not behind x when there is none -/
def TurnIn (x : Int) (p : Int → Prop) (r : Int) : Prop := (r ≤ x ∧ ∀ z, x < z → ¬ p z) ∨ (x < r ∧ p r ∧ ∀ z, x < z → z < r → ¬ p z)
theorem lastLed_loop {g : Nat → Int} {n : Nat} (H : SegOK g n) {x t L : Int} (x0 : 0 ≤ x) (x1 : x ≤ 255) (t0 : 0 ≤ t) (t1 : t ≤ 16384) (L0 : -1 ≤ L) (L1 : L < n) (P : Nat → Int → Prop) (hT : ∀ j : Nat, j < n → ¬ (j : Int) = L → Liv g j t → ∃ r, -1 ≤ r ∧ r ≤ 255 ∧ TurnIn x (P j) r ∧ ∀ l4 : Int, (if L = -1 then Option.bind (fX6_value (fun i => iN (g i)) (iN (j : Int)) (2 : Int32)) (fun r9 => jX6_lastLed_83 (iN x) (iN l4) (iN (j : Int)) r9) else (if iN L ≤ iN (j : Int) then (jX6_lastLed_80 (fun i => iN (g i)) (iN x) (iN l4) (iN (j : Int)) (iN L) (iN (j : Int)) (iN x + (1 : Int32)) (0 : Int32)) else (jX6_lastLed_80 (fun i => iN (g i)) (iN x) (iN l4) (iN (j : Int)) (iN L) (iN (j : Int)) (iN x + (1 : Int32)) (1 : Int32)))) = jX6_lastLed_83 (iN x) (iN l4) (iN (j : Int)) (iN r)) {e : Int} (e0 : x ≤ e) (e1 : e ≤ 255) : ∃ q, lp (fun q => bX6_lastLed_22 (iN n) (fun i => iN (g i)) (iN L) (iN x) (iN t) q.1 q.2) fuel (iN e, (0 : Int32)) = some q ∧ ∃ y, q = iN y ∧ x ≤ y ∧ y ≤ e ∧ (∀ j, j < n → ¬ (j : Int) = L → Liv g j t → ∀ z, x < z → z ≤ y → ¬ P j z) ∧ (y = e ∨ ∃ j, j < n ∧ ¬ (j : Int) = L ∧ Liv g j t ∧ P j (y + 1)) := by
  have hn := H.1
  refine lp_iv (fun i s => s.2 = iN (i : Int) ∧ ∃ y, s.1 = iN y ∧ x ≤ y ∧ y ≤ e ∧ (∀ j, j < i → ¬ (j : Int) = L → Liv g j t → ∀ z, x < z → z ≤ y → ¬ P j z) ∧ (y = e ∨ ∃ j, j < i ∧ ¬ (j : Int) = L ∧ Liv g j t ∧ P j (y + 1))) _ n ?_ ?_ ?_ (fuel_ge (by omega))
  · exact ⟨rfl, e, rfl, e0, Int.le_refl _, fun j hj => absurd hj (Nat.not_lt_zero j), Or.inl rfl⟩
  · rintro k ⟨a, b⟩ hk ⟨hb, y, ha, h1, h2, h3, h4⟩
    change b = _ at hb
    change a = _ at ha
    subst hb ha
    show ∃ s', bX6_lastLed_22 _ _ _ _ _ (iN y) (iN (k : Int)) = some (.inl s') ∧ _
    unfold bX6_lastLed_22
    rw [if_neg (by rw [iN_le (by omega) (by omega) (by omega) (by omega)]; omega)]
    simp only [nm, iN_succ]
    have skip : (¬ ((k : Int) = L) → Liv g k t → ∀ z, x < z → z ≤ y → ¬ P k z) → ((iN ((k + 1 : Nat) : Int) = iN ((k + 1 : Nat) : Int)) ∧ ∃ y', iN y = iN y' ∧ x ≤ y' ∧ y' ≤ e ∧ (∀ j, j < k + 1 → ¬ (j : Int) = L → Liv g j t → ∀ z, x < z → z ≤ y' → ¬ P j z) ∧ (y' = e ∨ ∃ j, j < k + 1 ∧ ¬ (j : Int) = L ∧ Liv g j t ∧ P j (y' + 1))) := by
      intro hs
      refine ⟨rfl, y, rfl, h1, h2, fun j hj hjL hjl z hz hzy => ?_, ?_⟩
      · by_cases c : j = k
        · subst c; exact hs hjL hjl z hz hzy
        · exact h3 j (by omega) hjL hjl z hz hzy
      · cases h4 with
        | inl q => exact Or.inl q
        | inr q => obtain ⟨j, hj, q⟩ := q; exact Or.inr ⟨j, by omega, q⟩
    by_cases c1 : (k : Int) = L
    · rw [if_pos (by rw [c1])]
      exact ⟨_, rfl, skip (fun q => absurd c1 q)⟩
    · rw [if_neg (by rw [iN_eq (by omega) (by omega) (by omega) (by omega)]; exact c1), s6_isLive H hk t0 t1, Option.bind_some]
      by_cases c2 : Liv g k t
      · rw [if_neg (fun q => b01_0.mp q c2)]
        obtain ⟨r, r0, r1, hr, he⟩ := hT k hk c1 c2
        have he' := he y
        have eL : (iN L = (-1 : Int32)) = (L = -1) := by
          rw [show (-1 : Int32) = iN (-1) from rfl]; exact propext (iN_eq (by omega) (by omega) (by omega) (by omega))
        simp only [eL]
        rw [he']
        unfold jX6_lastLed_83
        simp only [nm, iN_succ]
        by_cases c3 : r ≤ x
        · rw [if_pos (by rw [iN_le (by omega) (by omega) (by omega) (by omega)]; exact c3)]
          refine ⟨_, rfl, skip (fun _ _ z hz hzy => ?_)⟩
          cases hr with
          | inl q => exact q.2 z hz
          | inr q => omega
        · rw [if_neg (by rw [iN_le (by omega) (by omega) (by omega) (by omega)]; exact c3)]
          have hr2 : P k r ∧ ∀ z, x < z → z < r → ¬ P k z := by
            cases hr with
            | inl q => omega
            | inr q => exact q.2
          by_cases c4 : y < r
          · rw [if_pos (by rw [iN_lt (by omega) (by omega) (by omega) (by omega)]; exact c4)]
            exact ⟨_, rfl, skip (fun _ _ z hz hzy => hr2.2 z hz (by omega))⟩
          · rw [if_neg (by rw [iN_lt (by omega) (by omega) (by omega) (by omega)]; exact c4)]
            refine ⟨_, rfl, rfl, r - 1, ?_, by omega, by omega, fun j hj hjL hjl z hz hzy => ?_, Or.inr ⟨k, by omega, c1, c2, ?_⟩⟩
            · show iN r - (1 : Int32) = _
              rw [show (1 : Int32) = iN 1 from rfl, iN_sub]
            · by_cases c : j = k
              · subst c; exact hr2.2 z hz (by omega)
              · exact h3 j (by omega) hjL hjl z hz (by omega)
            · rw [Int.sub_add_cancel]; exact hr2.1
      · rw [if_pos (b01_0.mpr c2)]
        exact ⟨_, rfl, skip (fun _ q => absurd q c2)⟩
  · rintro ⟨a, b⟩ ⟨hb, y, ha, h1, h2, h3, h4⟩
    change b = _ at hb
    change a = _ at ha
    subst hb ha
    refine ⟨iN y, ?_, y, rfl, h1, h2, h3, h4⟩
    show bX6_lastLed_22 _ _ _ _ _ (iN y) (iN (n : Int)) = _
    unfold bX6_lastLed_22
    rw [if_pos (by rw [iN_le (by omega) (by omega) (by omega) (by omega)]; omega)]
    rfl
theorem s6_lastLed {g : Nat → Int} {n : Nat} (H : SegOK g n) {x t : Int} (x0 : 0 ≤ x) (x1 : x ≤ 255) (t0 : 0 ≤ t) (t1 : t ≤ 16384) : ∃ y, fX6_lastLed (iN n) (fun i => iN (g i)) (iN (fst g x t n)) (iN x) (iN t) = some (iN y) ∧ x ≤ y ∧ y ≤ 255 ∧ (∀ z, x ≤ z → z ≤ y → fst g z t n = fst g x t n) ∧ (y < 255 → ¬ fst g (y + 1) t n = fst g x t n) := by
  have hn := H.1
  have hb := fst_bd g x t n
  unfold fX6_lastLed
  by_cases c : fst g x t n = -1
  · have hE := fst_empty c
    rw [c, if_pos (show iN (-1) = (-1 : Int32) from rfl)]
    refine Exists.elim (lastLed_loop H x0 x1 t0 t1 (L := -1) (by omega) (by omega) (fun j z => Cov g j z) ?_ (e := 255) (by omega) (by omega)) ?_
    rotate_left
    · rintro q ⟨eq, y, hq, h1, h2, h3, h4⟩
      refine ⟨y, by rw [← hq]; exact eq, h1, h2, fun z hz hzy => ?_, fun hy => ?_⟩
      · by_cases e : z = x
        · rw [e]; exact c
        · exact fst_none (fun j hj hT => h3 j hj (by omega) hT.2 z (by omega) hzy hT.1)
      · cases h4 with
        | inl q => omega
        | inr q =>
          obtain ⟨j, hj, -, hl, hc⟩ := q
          intro hf
          exact fst_empty hf j hj ⟨hc, hl⟩
    · intro j hj hjL hl
      obtain ⟨-, -, ⟨b5, b6, b7⟩, -⟩ := H.2 j hj
      refine ⟨g (6 * j + 2), by omega, by omega, ?_, fun l4 => ?_⟩
      · have hx : ¬ Cov g j x := fun q => hE j hj ⟨q, hl⟩
        unfold TurnIn
        by_cases c1 : g (6 * j + 2) ≤ x
        · refine Or.inl ⟨c1, fun z hz q => hx ⟨c1, ?_⟩⟩
          have := q.2; omega
        · refine Or.inr ⟨by omega, ⟨Int.le_refl _, b6⟩, fun z hz hzr q => ?_⟩
          have := q.1; omega
      · rw [if_pos rfl, s6_v2 g j (by omega), Option.bind_some]
  · obtain ⟨m, hm⟩ : ∃ m : Nat, fst g x t n = m := ⟨(fst g x t n).toNat, by omega⟩
    obtain ⟨hmn, hmT, hmB⟩ := fst_there hm
    rw [hm]
    obtain ⟨-, -, ⟨a5, a6, a7⟩, -⟩ := H.2 m hmn
    have e2 : ¬ iN (m : Int) = (-1 : Int32) := by
      rw [show (-1 : Int32) = iN (-1) from rfl, iN_eq (by omega) (by omega) (by omega) (by omega)]; omega
    rw [if_neg e2, s6_v3 g m (by omega), Option.bind_some]
    have hmx := hmT.1
    refine Exists.elim (lastLed_loop H x0 x1 t0 t1 (L := (m : Int)) (by omega) (by omega) (fun j z => Cov g m z ∧ Cov g j z ∧ Bef g z j m) ?_ (e := g (6 * m + 3)) hmx.2 a7) ?_
    rotate_left
    · rintro q ⟨eq, y, hq, h1, h2, h3, h4⟩
      refine ⟨y, by rw [← hq]; exact eq, h1, by omega, fun z hz hzy => ?_, fun hy => ?_⟩
      · by_cases e : z = x
        · rw [e]; exact hm
        · have hcz : Cov g m z := ⟨by have := hmx.1; omega, by omega⟩
          refine fst_eq hmn ⟨hcz, hmT.2⟩ (fun j hj hT hB => ?_)
          by_cases ej : j = m
          · subst ej; exact Bef.irr hB
          · exact h3 j hj (by omega) hT.2 z (by omega) hzy ⟨hcz, hT.1, hB⟩
      · intro hf
        obtain ⟨-, hT, hB⟩ := fst_there hf
        cases h4 with
        | inl q => have := hT.1.2; omega
        | inr q =>
          obtain ⟨j, hj, -, hl, -, hc, hb⟩ := q
          exact hB j hj ⟨hc, hl⟩ hb
    · intro j hj hjL hl
      have hjm : ¬ j = m := by omega
      have em : ((m : Int) = -1) = False := eq_false (by omega)
      simp only [em, if_false, show iN x + (1 : Int32) = iN (x + 1) from iN_add x 1]
      have fin : ∀ h : Int, (0 ≤ h ∧ h ≤ 1) → (∀ z, Val g j z - h < Val g m z ↔ Bef g z j m) → ∀ r, FirstIn (Und g m j (x + 1) h) r → TurnIn x (fun z => Cov g m z ∧ Cov g j z ∧ Bef g z j m) r := by
        intro h _ hv r hr
        unfold TurnIn
        cases hr with
        | inl q => exact Or.inl ⟨by omega, fun z hz hp => q.2 z (by omega) ⟨by omega, hp.1, hp.2.1, (hv z).mpr hp.2.2⟩⟩
        | inr q =>
          obtain ⟨q1, ⟨q2, q3, q4, q5⟩, q6⟩ := q
          exact Or.inr ⟨by omega, ⟨q3, q4, (hv r).mp q5⟩, fun z hz hzr hp => q6 z (by omega) hzr ⟨by omega, hp.1, hp.2.1, (hv z).mpr hp.2.2⟩⟩
      by_cases c4 : m ≤ j
      · obtain ⟨r, er, hr, hr5⟩ := s6_crossing H hmn hj (f := x + 1) (h := 0) (by omega) (by omega) (by omega) (by omega)
        refine ⟨r, ?_, hr5, fin 0 (by omega) (fun z => by unfold Bef; omega) r hr, fun l4 => ?_⟩
        · cases hr with
          | inl q => omega
          | inr q => omega
        · rw [if_pos (by rw [iN_le (by omega) (by omega) (by omega) (by omega)]; omega)]
          unfold jX6_lastLed_80
          rw [show (0 : Int32) = iN 0 from rfl, er, Option.bind_some]
      · obtain ⟨r, er, hr, hr5⟩ := s6_crossing H hmn hj (f := x + 1) (h := 1) (by omega) (by omega) (by omega) (by omega)
        refine ⟨r, ?_, hr5, fin 1 (by omega) (fun z => by unfold Bef; omega) r hr, fun l4 => ?_⟩
        · cases hr with
          | inl q => omega
          | inr q => omega
        · rw [if_neg (by rw [iN_le (by omega) (by omega) (by omega) (by omega)]; omega)]
          unfold jX6_lastLed_80
          rw [show (1 : Int32) = iN 1 from rfl, er, Option.bind_some]
/-! ===== the runs of a function over the positions ===== -/
def fi (la : Nat → Int) (k : Nat) : Int := if k = 0 then 0 else la (k - 1) + 1
theorem fi_succ (la : Nat → Int) (k : Nat) : fi la (k + 1) = la k + 1 := rfl
def Runs (F : Int → Int) (x : Int) (c : Nat) (la le : Nat → Int) : Prop := (c = 0 → x = 0) ∧ (∀ k, k + 1 = c → la k = x - 1) ∧ (∀ k, k < c → fi la k ≤ la k ∧ ∀ z, fi la k ≤ z → z ≤ la k → F z = le k) ∧ ∀ k, k + 1 < c → ¬ le (k + 1) = le k
theorem Runs.fi0 {F : Int → Int} {x : Int} {c : Nat} {la le : Nat → Int} (h : Runs F x c la le) : ∀ k, k ≤ c → (k : Int) ≤ fi la k := by
  intro k
  induction k with
  | zero => intro _; exact Int.le_refl _
  | succ k ih =>
    intro hk
    have a := ih (by omega)
    have b := (h.2.2.1 k (by omega)).1
    rw [fi_succ]
    omega
theorem Runs.bd {F : Int → Int} {x : Int} {c : Nat} {la le : Nat → Int} (h : Runs F x c la le) : ∀ m k, k + m + 1 = c → la k ≤ x - 1 - m := by
  intro m
  induction m with
  | zero => intro k hk; have := h.2.1 k (by omega); omega
  | succ m ih =>
    intro k hk
    have a := ih (k + 1) (by omega)
    have b := (h.2.2.1 (k + 1) (by omega)).1
    rw [fi_succ] at b
    omega
theorem Runs.bds {F : Int → Int} {x : Int} {c : Nat} {la le : Nat → Int} (h : Runs F x c la le) {k : Nat} (hk : k < c) : (k : Int) ≤ fi la k ∧ fi la k ≤ la k ∧ la k ≤ x - 1 := by
  have a := h.fi0 k (by omega)
  have b := (h.2.2.1 k hk).1
  have d := h.bd (c - 1 - k) k (by omega)
  omega
theorem Runs.cle {F : Int → Int} {x : Int} {c : Nat} {la le : Nat → Int} (h : Runs F x c la le) : (c : Int) ≤ x := by
  cases c with
  | zero => have := h.1 rfl; omega
  | succ c => have := h.bds (k := c) (by omega); omega
theorem Runs.uniq1 {F : Int → Int} {x : Int} {c c' : Nat} {la le la' le' : Nat → Int} (h : Runs F x c la le) (h' : Runs F x c' la' le') : ∀ k, k < c → (k < c' ∧ la k = la' k ∧ le k = le' k) := by
  intro k
  induction k using Nat.strongRecOn with
  | _ k ih =>
    intro hk
    have hb := h.bds hk
    have efi : fi la k = fi la' k := by
      unfold fi
      by_cases c0 : k = 0
      · rw [if_pos c0, if_pos c0]
      · rw [if_neg c0, if_neg c0, (ih (k - 1) (by omega) (by omega)).2.1]
    have hk' : k < c' := by
      by_cases q : k < c'
      · exact q
      · exfalso
        by_cases c0 : k = 0
        · have := h'.1 (by omega)
          omega
        · have a := ih (k - 1) (by omega) (by omega)
          have b := h'.2.1 (k - 1) (by omega)
          have d : fi la k = la (k - 1) + 1 := if_neg c0
          omega
    have hb' := h'.bds hk'
    have r1 := (h.2.2.1 k hk).2
    have r2 := (h'.2.2.1 k hk').2
    have el : le k = le' k := by
      rw [← r1 (fi la k) (Int.le_refl _) hb.2.1, ← r2 (fi la k) (by omega) (by omega)]
    refine ⟨hk', ?_, el⟩
    by_cases c1 : la k < la' k
    · exfalso
      have hc : k + 1 < c := by
        by_cases q : k + 1 < c
        · exact q
        · have := h.2.1 k (by omega); omega
      have e1 := (h.2.2.1 (k + 1) hc).2 (la k + 1) (by rw [fi_succ]; exact Int.le_refl _) (by have := (h.2.2.1 (k + 1) hc).1; rw [fi_succ] at this; exact this)
      have e2 := r2 (la k + 1) (by omega) (by omega)
      exact h.2.2.2 k hc (by rw [← e1, e2, el])
    · by_cases c2 : la' k < la k
      · exfalso
        have hc : k + 1 < c' := by
          by_cases q : k + 1 < c'
          · exact q
          · have := h'.2.1 k (by omega); omega
        have e1 := (h'.2.2.1 (k + 1) hc).2 (la' k + 1) (by rw [fi_succ]; exact Int.le_refl _) (by have := (h'.2.2.1 (k + 1) hc).1; rw [fi_succ] at this; exact this)
        have e2 := r1 (la' k + 1) (by omega) (by omega)
        exact h'.2.2.2 k hc (by rw [← e1, e2, el])
      · omega
theorem Runs.uniq {F : Int → Int} {x : Int} {c c' : Nat} {la le la' le' : Nat → Int} (h : Runs F x c la le) (h' : Runs F x c' la' le') : c = c' ∧ ∀ k, k < c → la k = la' k ∧ le k = le' k := by
  have a := h.uniq1 h'
  have b := h'.uniq1 h
  refine ⟨?_, fun k hk => (a k hk).2⟩
  by_cases c1 : c < c'
  · have := (b c c1).1; omega
  · by_cases c2 : c' < c
    · have := (a c' c2).1; omega
    · omega
/-- one more run -/
theorem Runs.snoc {F : Int → Int} {x y L : Int} {c : Nat} {la le : Nat → Int} (h : Runs F x c la le) (hxy : x ≤ y) (hF : ∀ z, x ≤ z → z ≤ y → F z = L) (hL : ∀ k, k + 1 = c → ¬ L = le k) : Runs F (y + 1) (c + 1) (updI la c y) (updI le c L) := by
  have ol : ∀ {w : Nat → Int} {v : Int} {k : Nat}, k < c → updI w c v k = w k := fun hk => if_neg (by omega)
  have nl : ∀ {w : Nat → Int} {v : Int}, updI w c v c = v := if_pos rfl
  have efi : ∀ k, k ≤ c → fi (updI la c y) k = fi la k := by
    intro k hk
    unfold fi
    by_cases c0 : k = 0
    · rw [if_pos c0, if_pos c0]
    · rw [if_neg c0, if_neg c0, ol (by omega)]
  have efc : fi la c = x := by
    unfold fi
    by_cases c0 : c = 0
    · rw [if_pos c0]; exact (h.1 c0).symm
    · rw [if_neg c0]; have := h.2.1 (c - 1) (by omega); omega
  refine ⟨fun q => by omega, fun k hk => ?_, fun k hk => ?_, fun k hk => ?_⟩
  · have : k = c := by omega
    subst this
    rw [nl]; omega
  · by_cases e : k = c
    · subst e
      rw [efi k (Nat.le_refl _), efc, nl, nl]
      exact ⟨hxy, hF⟩
    · rw [efi k (by omega), ol (by omega), ol (by omega)]
      exact h.2.2.1 k (by omega)
  · by_cases e : k + 1 = c
    · rw [e, nl, ol (by omega)]; exact hL k e
    · rw [ol (by omega), ol (by omega)]; exact h.2.2.2 k (by omega)
/-- the last run grows -/
theorem Runs.grow {F : Int → Int} {x : Int} {c : Nat} {la le : Nat → Int} (h : Runs F x (c + 1) la le) (hF : F x = le c) : Runs F (x + 1) (c + 1) (updI la c x) le := by
  have ol : ∀ {k : Nat}, k < c → updI la c x k = la k := fun hk => if_neg (by omega)
  have nl : updI la c x c = x := if_pos rfl
  have efi : ∀ k, k ≤ c → fi (updI la c x) k = fi la k := by
    intro k hk
    unfold fi
    by_cases c0 : k = 0
    · rw [if_pos c0, if_pos c0]
    · rw [if_neg c0, if_neg c0, ol (by omega)]
  refine ⟨fun q => by omega, fun k hk => ?_, fun k hk => ?_, h.2.2.2⟩
  · have : k = c := by omega
    subst this
    rw [nl]; omega
  · have hb := h.2.2.1 k hk
    by_cases e : k = c
    · subst e
      have hl := h.2.1 k rfl
      rw [efi k (Nat.le_refl _), nl]
      refine ⟨by omega, fun z hz hzx => ?_⟩
      by_cases ez : z = x
      · rw [ez]; exact hF
      · exact hb.2 z hz (by omega)
    · rw [efi k (by omega), ol (by omega)]
      exact hb
/-- what the class's envelope and the reference's pieces hold -/
def EnvOK (F : Int → Int) (sz : Int32) (lasts leaders : Nat → Int32) : Prop := ∃ (c : Nat) (la le : Nat → Int), sz = iN c ∧ lasts = (fun i => iN (la i)) ∧ leaders = (fun i => iN (le i)) ∧ Runs F 256 c la le
def PcsOK (F : Int → Int) (ct : Int32) (cells : Nat → Int32) : Prop := ∃ (c : Nat) (p : Nat → Int), ct = iN c ∧ cells = (fun i => iN (p i)) ∧ Runs F 256 c (fun k => p (3 * k + 1)) (fun k => p (3 * k + 2)) ∧ ∀ k, k < c → p (3 * k) = fi (fun k => p (3 * k + 1)) k
theorem s1_build {g : Nat → Int} {n : Nat} (H : SegOK g n) {t : Int} (t0 : 0 ≤ t) (t1 : t ≤ 16384) (z : Int32) (l0 d0 : Nat → Int32) : ∃ q, fX1_build z l0 d0 (iN n) (fun i => iN (g i)) (iN t) = some q ∧ EnvOK (fun x => fst g x t n) q.1 q.2.1 q.2.2 := by
  have hn := H.1
  unfold fX1_build
  refine lp_m _ (fun s => ∃ (x : Int) (c : Nat) (la le : Nat → Int), s = (iN x, iN (c : Int), (fun i => iN (la i)), (fun i => iN (le i))) ∧ 0 ≤ x ∧ x ≤ 256 ∧ Runs (fun x => fst g x t n) x c la le ∧ ∀ k, k + 1 = c → x ≤ 255 → ¬ fst g x t n = le k) (fun s => (256 - s.1.toInt).toNat) _ ?_ fuel _ ?_ ?_
  · rintro s ⟨x, c, la, le, rfl, x0, x1, hR, hN⟩
    have hc := hR.cle
    show (∃ s', bX1_build_7 _ _ _ (iN x) (iN (c : Int)) (fun i => iN (la i)) (fun i => iN (le i)) = some (.inl s') ∧ _) ∨ (∃ r, bX1_build_7 _ _ _ (iN x) (iN (c : Int)) (fun i => iN (la i)) (fun i => iN (le i)) = some (.inr r) ∧ _)
    unfold bX1_build_7
    by_cases c1 : 256 ≤ (c : Int)
    · rw [if_pos (by rw [show (256 : Int32) = iN 256 from rfl, iN_le (by omega) (by omega) (by omega) (by omega)]; exact c1)]
      have ex : x = 256 := by omega
      subst ex
      exact Or.inr ⟨_, rfl, c, la, le, rfl, rfl, rfl, hR⟩
    · rw [if_neg (by rw [show (256 : Int32) = iN 256 from rfl, iN_le (by omega) (by omega) (by omega) (by omega)]; exact c1)]
      by_cases c2 : 255 < x
      · rw [if_pos (by rw [show (255 : Int32) = iN 255 from rfl, iN_lt (by omega) (by omega) (by omega) (by omega)]; exact c2)]
        have ex : x = 256 := by omega
        subst ex
        exact Or.inr ⟨_, rfl, c, la, le, rfl, rfl, rfl, hR⟩
      · rw [if_neg (by rw [show (255 : Int32) = iN 255 from rfl, iN_lt (by omega) (by omega) (by omega) (by omega)]; exact c2)]
        obtain ⟨y, ey, hxy, hy, hF, hnx⟩ := s6_lastLed H x0 (show x ≤ 255 by omega) t0 t1
        rw [s6_firstAt H x0 (by omega) t0 t1, Option.bind_some, wr_iN (by omega) (by omega) (by omega), upd_iN, rd_iN (by omega) (by omega) (by omega)]
        have e1 : (updI le (c : Int).toNat (fst g x t n)) (c : Int).toNat = fst g x t n := if_pos rfl
        rw [e1, ey, Option.bind_some, wr_iN (by omega) (by omega) (by omega), upd_iN, rd_iN (by omega) (by omega) (by omega)]
        have e2 : (updI la (c : Int).toNat y) (c : Int).toNat = y := if_pos rfl
        simp only [e2, nm, iN_succ]
        refine Or.inl ⟨_, rfl, ⟨y + 1, c + 1, updI la c y, updI le c (fst g x t n), ?_, by omega, by omega, hR.snoc hxy hF (fun k hk => hN k hk (by omega)), fun k hk hy2 => ?_⟩, ?_⟩
        · rw [show iN y + (1 : Int32) = iN (y + 1) from iN_add y 1]; rfl
        · have : k = c := by omega
          subst this
          rw [show updI le k (fst g x t n) k = fst g x t n from if_pos rfl]
          exact hnx (by omega)
        · show (256 - (iN y + (1 : Int32)).toInt).toNat < (256 - (iN x).toInt).toNat
          rw [show iN y + (1 : Int32) = iN (y + 1) from iN_add y 1, iN_toInt (by omega) (by omega), iN_toInt (by omega) (by omega)]
          omega
  · exact ⟨0, 0, fun i => (l0 i).toInt, fun i => (d0 i).toInt, by rw [← iN_fun l0, ← iN_fun d0]; rfl, by omega, by omega, ⟨fun _ => rfl, fun k hk => by omega, fun k hk => by omega, fun k hk => by omega⟩, fun k hk => by omega⟩
  · exact fuel_ge (by show (256 - (iN 0).toInt).toNat ≤ _; rw [iN_toInt (by omega) (by omega)]; omega)
