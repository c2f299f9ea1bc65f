/-! ===== what the law's entry gives ===== -/
theorem vk_Rof {own tx : String} {k : Nat} {args : Array Value} {s : State} (h : (Cond.stringRef own k tx).before args s = true) : ∃ a, vk_R own k tx a s := by
  have h0 := h
  simp only [Cond.before, Cond.holds, Cond.value] at h
  cases hc : s.vm.findClass own with
  | none => simp [hc] at h
  | some c =>
    cases hr : s.resolvedAt? own k with
    | none => simp [hc, hr] at h
    | some r =>
      cases r with
      | string a =>
        refine ⟨a, vk_R.of h0 ?_⟩
        simp only [State.resolvedAt?] at hr
        simp only [Term.eval]
        rw [hc] at hr ⊢
        simp only [Option.bind_eq_bind, Option.bind_some] at hr ⊢
        cases hk : s.vm.classes[c]? with
        | none => rw [hk] at hr; cases hr
        | some cl =>
          rw [hk] at hr
          simp only [Option.bind_some] at hr ⊢
          rw [hr]
          rfl
      | _ => simp [hc, hr] at h
theorem zT_of {args : Array Value} {s : State} {t : FieldType} (h : (Cond.arrayClass t).before args s = true) : ∃ cA : ClassId, s.vm.findClass ("[" ++ t.toString) = some cA ∧ ArrOfT s cA t := by
  obtain ⟨c, k, comp, h1, h2, h3⟩ := Cond.arrayClass_spec h
  exact ⟨c, h1, fun N z => ⟨fun k h => (by cases h), k, h2, comp, h3⟩⟩
theorem zT_ofO {args : Array Value} {s : State} {C : String} (h : (Cond.arrayOver (.object C)).before args s = true) : ∃ cA : ClassId, va_RA s cA (.object C) ∧ ArrOfT s cA (.object C) := by
  obtain ⟨comp, c, k, h1, -, h3, h4, h5⟩ := Cond.arrayOver_spec h
  exact ⟨c, ⟨k, comp, h3, h4, h1, h5⟩, fun N z => ⟨fun k h => (by cases h), k, h3, comp, h4⟩⟩
theorem zT_exists {args : Array Value} {s : State} (hts : ∀ w ∈ lw_tbl, w.before args s = true) : ∃ ca : Nat → ClassId, ∀ (k : Nat) (q : ClassId × FieldType), (zT ca)[k]? = some q → ArrOfT s q.1 q.2 ∧ va_RA s q.1 q.2 := by
  obtain ⟨c0, a1, a2⟩ := zT_of (t := .int) (hts (.arrayClass .int) (by decide +kernel))
  obtain ⟨c1, b1, b2⟩ := zT_of (t := .long) (hts (.arrayClass .long) (by decide +kernel))
  obtain ⟨c2, d1, d2⟩ := zT_ofO (hts (.arrayOver (.object "SegmentTimes$State")) (by decide +kernel))
  obtain ⟨c3, e1, e2⟩ := zT_ofO (hts (.arrayOver (.object "SegmentTimes$Store")) (by decide +kernel))
  refine ⟨fun k => match k with | 0 => c0 | 1 => c1 | 2 => c2 | _ => c3, fun k q hk => ?_⟩
  match k, hk with
  | 0, hk => cases hk; exact ⟨a2, a1⟩
  | 1, hk => cases hk; exact ⟨b2, b1⟩
  | 2, hk => cases hk; exact ⟨d2, d1⟩
  | 3, hk => cases hk; exact ⟨e2, e1⟩
  | k + 4, hk => cases hk
theorem zD_exists {args : Array Value} {s : State} (hts : ∀ w ∈ lw_tbl, w.before args s = true) : ∃ D : va_G, ∀ (c : Nat) (q : vw_C), vwCl[c]? = some q → u_Kn s q.1 q.2.1 q.2.2 (D.1 c) (D.2 c) := by
  obtain ⟨c1, i1, h1⟩ := u_known (C := RX1) (T := TX1) (N := 3) (n := 3) hts inX1 (hts (.instantiable RX1 3) (by decide +kernel))
  obtain ⟨c2, i2, h2⟩ := u_known (C := RX2) (T := TX2) (N := 3) (n := 3) hts inX2 (hts (.instantiable RX2 3) (by decide +kernel))
  obtain ⟨c3, i3, h3⟩ := u_known (C := RX3) (T := TX3) (N := 2) (n := 2) hts inX3 (hts (.instantiable RX3 2) (by decide +kernel))
  obtain ⟨c4, i4, h4⟩ := u_known (C := RX4) (T := TX4) (N := 5) (n := 5) hts inX4 (hts (.instantiable RX4 5) (by decide +kernel))
  obtain ⟨c5, i5, h5⟩ := u_known (C := RX5) (T := TX5) (N := 4) (n := 4) hts inX5 (hts (.instantiable RX5 4) (by decide +kernel))
  obtain ⟨c6, i6, h6⟩ := u_known (C := RX6) (T := TX6) (N := 3) (n := 3) hts inX6 (hts (.instantiable RX6 3) (by decide +kernel))
  obtain ⟨c7, i7, h7⟩ := u_known (C := RX7) (T := TX7) (N := 4) (n := 4) hts inX7 (hts (.instantiable RX7 4) (by decide +kernel))
  obtain ⟨c8, i8, h8⟩ := u_known (C := RX8) (T := TX8) (N := 14) (n := 14) hts inX8 (hts (.instantiable RX8 14) (by decide +kernel))
  refine ⟨(fun k => match k with | 0 => c1 | 1 => c2 | 2 => c3 | 3 => c4 | 4 => c5 | 5 => c6 | 6 => c7 | _ => c8, fun k => match k with | 0 => i1 | 1 => i2 | 2 => i3 | 3 => i4 | 4 => i5 | 5 => i6 | 6 => i7 | _ => i8), fun c q hq => ?_⟩
  match c, hq with
  | 0, hq => cases hq; exact h1
  | 1, hq => cases hq; exact h2
  | 2, hq => cases hq; exact h3
  | 3, hq => cases hq; exact h4
  | 4, hq => cases hq; exact h5
  | 5, hq => cases hq; exact h6
  | 6, hq => cases hq; exact h7
  | 7, hq => cases hq; exact h8
  | c + 8, hq => cases hq
theorem zN_of {args : Array Value} {s : State} (hts : ∀ w ∈ lw_tbl, w.before args s = true) : zN s :=
  ⟨va_Nw.of rfl (hts _ (by decide +kernel)), va_Nw.of rfl (hts _ (by decide +kernel)), va_Nw.of rfl (hts _ (by decide +kernel)), va_Nw.of rfl (hts _ (by decide +kernel)), va_Nw.of rfl (hts _ (by decide +kernel)), va_Nw.of rfl (hts _ (by decide +kernel))⟩
theorem zK_exists {args : Array Value} {s : State} (hts : ∀ w ∈ lw_tbl, w.before args s = true) : ∃ (D : va_G) (ca : Nat → ClassId), zK D ca s := by
  obtain ⟨ca, h1⟩ := zT_exists hts
  obtain ⟨D, h2⟩ := zD_exists hts
  exact ⟨D, ca, ⟨h2, h1⟩, zN_of hts⟩
theorem zC_of {args : Array Value} {s : State} (hts : ∀ w ∈ lw_tbl, w.before args s = true) (hgv : (Jvm.Cond.and given_1 narrow_1).before args s = true) : zC s := by
  have hs := flat_of_before _ hgv
  refine ⟨fun n hn => ?_, fun n k hn hk hne => ?_⟩
  · rcases hn with rfl | rfl | rfl
    · exact va_Nw.of rfl (hts (.castable (zE 1) (zE 1)) (by decide +kernel))
    · exact va_Nw.of rfl (hts (.castable (zE 2) (zE 2)) (by decide +kernel))
    · exact va_Nw.of rfl (hts (.castable (zE 3) (zE 3)) (by decide +kernel))
  · rcases hn with rfl | rfl | rfl <;> rcases hk with rfl | rfl | rfl
    · exact absurd rfl hne
    · exact va_Nc.of (hs (.not (.castable (zE 1) (zE 2))) (by decide +kernel))
    · exact va_Nc.of (hs (.not (.castable (zE 1) (zE 3))) (by decide +kernel))
    · exact va_Nc.of (hs (.not (.castable (zE 2) (zE 1))) (by decide +kernel))
    · exact absurd rfl hne
    · exact va_Nc.of (hs (.not (.castable (zE 2) (zE 3))) (by decide +kernel))
    · exact va_Nc.of (hs (.not (.castable (zE 3) (zE 1))) (by decide +kernel))
    · exact va_Nc.of (hs (.not (.castable (zE 3) (zE 2))) (by decide +kernel))
    · exact absurd rfl hne
theorem zXw_in : zXw.all (fun w => lw_tbl.contains w) = true := by decide +kernel
theorem zP_of {args : Array Value} {s : State} (hts : ∀ w ∈ lw_tbl, w.before args s = true) (hgv : (Jvm.Cond.and given_1 narrow_1).before args s = true) : zP (fun q => s.heap.size ≤ q) s := by
  have hs := flat_of_before _ hgv
  refine ⟨fun w hw => ?_, fun q hq => ?_, ?_, ?_⟩
  · have hf := List.all_eq_true.mp zXw_face w hw
    simp only [Bool.and_eq_true] at hf
    exact va_Nw.of hf.1 (hts w (List.contains_iff_mem.mp (List.all_eq_true.mp zXw_in w hw)))
  · have hin : ∀ q ∈ zStr, Cond.stringRef RX7 q.1 q.2 ∈ lw_tbl := by decide +kernel
    exact vk_Rof (hts _ (hin q hq))
  · exact vx_Zqof (hts _ (by decide +kernel)) (hts _ (by decide +kernel)) (hs (.isRef (.static Bundle.tN "UNASSIGNED_STACK" Bundle.steD)) (by decide +kernel)) (fun a h1 h2 => by omega)
  · exact vx_Zqof (hts _ (by decide +kernel)) (hts _ (by decide +kernel)) (hs (.isRef (.static Bundle.tN "SUPPRESSED_SENTINEL" Bundle.listD)) (by decide +kernel)) (fun a h1 h2 => by omega)
theorem st_of {l : Launch} (h : l.flags = flags0) : l.stackTraces = false := by
  unfold Launch.stackTraces
  rw [h]
  decide +kernel
