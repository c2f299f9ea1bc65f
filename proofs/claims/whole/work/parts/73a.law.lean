/-! ===== the law's body: its common steps ===== -/
/-- the j-th number of the command at i -/
def ag (xs : Nat → Int32) (i : Nat) (v : Int32) : Int32 := xs (iN (i : Int) + v).toNatClampNeg
/-- a flag out of a number -/
def bo (x : Int32) : Int32 := if x = 0 then 0 else 1
/-- a long out of two numbers -/
def lo2 (x y : Int32) : Int64 := (x.toInt64 <<< ((32 : Int32).toInt64 &&& 63)) ||| (y.toInt64 &&& 4294967295)
/-- what holds throughout the law's body -/
def lwK (p : Program) (s : State) (m : MethodId) (args : Array Value) (c : Code) (D : va_G) (ca : Nat → ClassId) (A : Nat → Prop) (b L : Nat) (xs : Nat → Int32) : Prop :=
  p.tables.exec = Jvm.exec ∧ c.code = cL_law ∧ c.maxLocals = 8 ∧ s.vm.findClass RL = some m.cls ∧ (∀ w ∈ wsL_law, w.before args s = true) ∧ zK D ca s ∧ (∀ q : Nat, s.heap.size ≤ q → A q) ∧ zP A s ∧ zC s ∧ va_X b L xs s s.heap ∧ b < s.heap.size ∧ ¬ A b ∧ L ≤ 3584
theorem lw_in {i L : Nat} {v : Int32} (hi : i + 7 ≤ L) (hL : L ≤ 3584) (hv : v = 1 ∨ v = 2 ∨ v = 3 ∨ v = 4 ∨ v = 5 ∨ v = 6) : vp_in (iN (i : Int) + v) L := by
  have key : ∀ j : Nat, j ≤ 6 → vp_in (iN (i : Int) + iN (j : Int)) L := by
    intro j hj
    rw [iN_add, vp_in_iff, iN_toInt (by omega) (by omega)]
    omega
  rcases hv with rfl | rfl | rfl | rfl | rfl | rfl
  · exact key 1 (by omega)
  · exact key 2 (by omega)
  · exact key 3 (by omega)
  · exact key 4 (by omega)
  · exact key 5 (by omega)
  · exact key 6 (by omega)
theorem rotP {D : va_G} {X W V : va_W} {H : Heap} (h : va_P D vwCl ((X ++ W) ++ V) H) : va_P D vwCl (W ++ (V ++ X)) H := by
  have h := h.flip
  rw [← List.append_assoc] at h
  exact h.flip
theorem rotD {A : Nat → Prop} {X W V : va_W} (h : va_D A ((X ++ W) ++ V)) : va_D A (W ++ (V ++ X)) := by
  have h := h.flip
  rw [← List.append_assoc] at h
  exact h.flip
theorem torP {D : va_G} {X W V : va_W} {H : Heap} (h : va_P D vwCl (W ++ (V ++ X)) H) : va_P D vwCl ((X ++ W) ++ V) H := by
  have h := h.flip
  rw [List.append_assoc] at h
  exact h.flip
theorem torD {A : Nat → Prop} {X W V : va_W} (h : va_D A (W ++ (V ++ X))) : va_D A ((X ++ W) ++ V) := by
  have h := h.flip
  rw [List.append_assoc] at h
  exact h.flip
/-! what the law compares -/
theorem agI_code {km : Nat → Int} {r : Int32 ⊕ Nat} {bb cc : Int32} (h : agrI km r bb cc) : cc = kcI km r := by
  cases r with
  | inl v => exact h.1
  | inr n => exact h.1
theorem agL_code {km : Nat → Int} {r : Int64 ⊕ Nat} {bb : Int64} {cc : Int32} (h : agrL km r bb cc) : cc = kcL km r := by
  cases r with
  | inl v => exact h.1
  | inr n => exact h.1
theorem kc_ne {k : Int} (h1 : 1 ≤ k) (h3 : k ≤ 3) : ¬ iN k = (0 : Int32) := by
  intro h
  have h : iN k = iN 0 := h
  rw [iN_eq (by omega) (by omega) (by omega) (by omega)] at h
  omega
theorem agI_out {km : Nat → Int} {r : Int32 ⊕ Nat} {bb cc : Int32} (g : Nat → Int64) (h : agrI km r bb cc) (h0 : kcI km r = 0) : ouI g r 0 = bb.toInt64 := by
  cases r with
  | inl v => rw [h.2]; rfl
  | inr n => exact absurd h0 (kc_ne h.2.1 h.2.2)
theorem agL_out {km : Nat → Int} {r : Int64 ⊕ Nat} {bb : Int64} {cc : Int32} (g : Nat → Int64) (h : agrL km r bb cc) (h0 : kcL km r = 0) : ouL g r 0 = bb := by
  cases r with
  | inl v => rw [h.2]; rfl
  | inr n => exact absurd h0 (kc_ne h.2.1 h.2.2)
theorem agI_n {km : Nat → Int} {r : Int32 ⊕ Nat} {bb cc : Int32} {n : Nat} (h : agrI km r bb cc) (hn : r = .inr n) : 1 ≤ km n := by
  rw [hn] at h
  exact h.2.1
theorem agL_n {km : Nat → Int} {r : Int64 ⊕ Nat} {bb : Int64} {cc : Int32} {n : Nat} (h : agrL km r bb cc) (hn : r = .inr n) : 1 ≤ km n := by
  rw [hn] at h
  exact h.2.1
theorem agI_0 {r : Int32 ⊕ Nat} {bb cc : Int32} (h : agrI (fun _ => 0) r bb cc) : r = .inl bb := by
  cases r with
  | inl v => rw [h.2]
  | inr n => exact absurd (show (1 : Int) ≤ 0 from h.2.1) (by decide)
theorem kn1 {x n : Nat} (h : 1 ≤ (if n = x then 1 else 0 : Int)) : n = x := by
  by_cases h1 : n = x
  · exact h1
  · rw [if_neg h1] at h
    omega
theorem kn2 {x y n : Nat} (h : 1 ≤ (if n = x then 1 else if n = y then 2 else 0 : Int)) : n = x ∨ n = y := by
  by_cases h1 : n = x
  · exact Or.inl h1
  · by_cases h2 : n = y
    · exact Or.inr h2
    · rw [if_neg h1, if_neg h2] at h
      omega
theorem kn3 {x y z n : Nat} (h : 1 ≤ (if n = x then 1 else if n = y then 2 else if n = z then 3 else 0 : Int)) : n = x ∨ n = y ∨ n = z := by
  by_cases h1 : n = x
  · exact Or.inl h1
  · by_cases h2 : n = y
    · exact Or.inr (Or.inl h2)
    · by_cases h3 : n = z
      · exact Or.inr (Or.inr h3)
      · rw [if_neg h1, if_neg h2, if_neg h3] at h
        omega
section LA
variable {p : Program} {l : Launch} {e : Env} {s : State} {m : MethodId} {args : Array Value} {below : List Frame} {meth : Method} {c : Code} {H : Heap} {locs : List Loc} {cells slots i b L : Nat} {Q : State → Prop} {pc : Nat} {ls : Array Slot} {A : Nat → Prop} {D : va_G} {ca : Nat → ClassId} {a b0 z : Nat → Nat} {d : Nat → Nat → Nat} {W7 W8 : va_W} {code0 : Int32} {g : Nat → Int64} {o1 o2 out : Nat} {xs : Nat → Int32} {v : Int32} {lv : List (Nat × Value)} {rest : List Value}
/-- a number of the command onto the stack -/
theorem lw_ld {n : Int} (C : lwK p s m args c D ca A b L xs) (hi : i + 7 ≤ L) (hv : v = 1 ∨ v = 2 ∨ v = 3 ∨ v = 4 ∨ v = 5 ∨ v = 6) (hS : va_S A s.heap H locs) (h0 : ls[0]? = some (.val (.ref b))) (h4 : ls[4]? = some (.val (.int (iN (i : Int)))))
    (d0 : decode cL_law pc = .ok (.aload_n 0, 1)) (d1 : decode cL_law (pc + 1) = .ok (.iload 4, 2)) (d2 : decode cL_law (pc + 3) = .ok (.iconst n, 1)) (hn : Int32.ofInt n = v) (d3 : decode cL_law (pc + 4) = .ok (.iadd, 1)) (d4 : decode cL_law (pc + 5) = .ok (.iaload, 1))
    (kk : W p l e room_1 s m args below meth c H locs cells slots Q (F0 m (pc + 6) ls (.int (ag xs i v) :: rest))) : W p l e room_1 s m args below meth c H locs cells slots Q (F0 m pc ls rest) := by
  obtain ⟨hx, hb, -, -, -, -, -, -, -, hX, hbl, hbA, hL⟩ := C
  refine lv_aload_n hx hb d0 rfl h0 ?_
  refine lv_iload hx hb d1 h4 ?_
  refine lv_iconst (v := v) hx hb d2 hn ?_
  refine lv_iadd hx hb d3 ?_
  exact va_sld hx hb hX hbl hbA hS (lw_in hi hL hv) d4 kk
theorem lw_ld6 (C : lwK p s m args c D ca A b L xs) (hi : i + 7 ≤ L) (hS : va_S A s.heap H locs) (h0 : ls[0]? = some (.val (.ref b))) (h4 : ls[4]? = some (.val (.int (iN (i : Int)))))
    (d0 : decode cL_law pc = .ok (.aload_n 0, 1)) (d1 : decode cL_law (pc + 1) = .ok (.iload 4, 2)) (d2 : decode cL_law (pc + 3) = .ok (.bipush 6, 2)) (d3 : decode cL_law (pc + 5) = .ok (.iadd, 1)) (d4 : decode cL_law (pc + 6) = .ok (.iaload, 1))
    (kk : W p l e room_1 s m args below meth c H locs cells slots Q (F0 m (pc + 7) ls (.int (ag xs i 6) :: rest))) : W p l e room_1 s m args below meth c H locs cells slots Q (F0 m pc ls rest) := by
  obtain ⟨hx, hb, -, -, -, -, -, -, -, hX, hbl, hbA, hL⟩ := C
  refine lv_aload_n hx hb d0 rfl h0 ?_
  refine lv_iload hx hb d1 h4 ?_
  refine lv_bipush (v := 6) hx hb d2 (by decide) ?_
  refine lv_iadd hx hb d3 ?_
  exact va_sld hx hb hX hbl hbA hS (lw_in hi hL (by simp)) d4 kk
/-- a flag -/
theorem lw_bo {x : Int32} (hx : p.tables.exec = Jvm.exec) (hb : c.code = cL_law) (d0 : decode cL_law pc = .ok (.ifCond .eq 7, 3)) (d1 : decode cL_law (pc + 3) = .ok (.iconst 1, 1)) (d2 : decode cL_law (pc + 4) = .ok (.goto 4, 3)) (d3 : decode cL_law (pc + 7) = .ok (.iconst 0, 1))
    (kk : W p l e room_1 s m args below meth c H locs cells slots Q (F0 m (pc + 8) ls (.int (bo x) :: rest))) : W p l e room_1 s m args below meth c H locs cells slots Q (F0 m pc ls (.int x :: rest)) := by
  refine lv_if_eq (tgt := pc + 7) hx hb d0 (by omega) (fun h => ?_) (fun h => ?_)
  · refine lv_iconst (v := (0 : Int32)) hx hb d3 (by decide) ?_
    unfold bo at kk
    rw [if_pos h] at kk
    exact kk
  · refine lv_iconst (v := (1 : Int32)) hx hb d1 (by decide) ?_
    refine lv_goto (tgt := pc + 8) hx hb d2 (by omega) ?_
    unfold bo at kk
    rw [if_neg h] at kk
    exact kk
/-- the tail's code: is the code the same, and the answer -/
def tlI (q : Nat) (off : Int) : Prop := decode cL_law q = .ok (.aload_n 2, 1) ∧ decode cL_law (q + 1) = .ok (.invokevirtual 124, 3) ∧ decode cL_law (q + 4) = .ok (.iload 5, 2) ∧ decode cL_law (q + 6) = .ok (.if_icmp .eq 5, 3) ∧ decode cL_law (q + 11) = .ok (.iload 5, 2) ∧ decode cL_law (q + 13) = .ok (.ifCond .ne 15, 3) ∧ decode cL_law (q + 16) = .ok (.aload_n 3, 1) ∧ decode cL_law (q + 17) = .ok (.iconst 0, 1) ∧ decode cL_law (q + 18) = .ok (.laload, 1) ∧ decode cL_law (q + 19) = .ok (.iload 6, 2) ∧ decode cL_law (q + 21) = .ok (.i2l, 1) ∧ decode cL_law (q + 22) = .ok (.lcmp, 1) ∧ decode cL_law (q + 23) = .ok (.ifCond .eq 5, 3) ∧ decode cL_law (q + 28) = .ok (.goto off, 3) ∧ ((q + 28 : Nat) : Int) + off = ((2366 : Nat) : Int)
def tlL (q : Nat) (off : Int) : Prop := decode cL_law q = .ok (.aload_n 2, 1) ∧ decode cL_law (q + 1) = .ok (.invokevirtual 124, 3) ∧ decode cL_law (q + 4) = .ok (.iload 5, 2) ∧ decode cL_law (q + 6) = .ok (.if_icmp .eq 5, 3) ∧ decode cL_law (q + 11) = .ok (.iload 5, 2) ∧ decode cL_law (q + 13) = .ok (.ifCond .ne 14, 3) ∧ decode cL_law (q + 16) = .ok (.aload_n 3, 1) ∧ decode cL_law (q + 17) = .ok (.iconst 0, 1) ∧ decode cL_law (q + 18) = .ok (.laload, 1) ∧ decode cL_law (q + 19) = .ok (.lload 6, 2) ∧ decode cL_law (q + 21) = .ok (.lcmp, 1) ∧ decode cL_law (q + 22) = .ok (.ifCond .eq 5, 3) ∧ decode cL_law (q + 27) = .ok (.goto off, 3) ∧ ((q + 27 : Nat) : Int) + off = ((2366 : Nat) : Int)
/-- the reference's code onto the stack -/
theorem lw_th {q : Nat} {ou : Nat → Int64} (C : lwK p s m args c D ca A b L xs) (hI : Inv ca a b0 d z W7 W8 code0) (h2 : ls[2]? = some (.val (.ref (z 0)))) (hlz : ls.size = 8) (hcs : cells ≤ room_1.cells ∧ slots ≤ room_1.slots)
    (hP : va_P D vwCl (([(out, .inl (ca 1, 1, .inr (.inl ou)))] ++ W7) ++ W8) H) (hD : va_D A (([(out, .inl (ca 1, 1, .inr (.inl ou)))] ++ W7) ++ W8)) (hS : va_S A s.heap H locs)
    (d0 : decode cL_law q = .ok (.aload_n 2, 1)) (d1 : decode cL_law (q + 1) = .ok (.invokevirtual 124, 3))
    (kk : ∀ (H1 : Heap) (locs1 : List Loc), va_P D vwCl (([(out, .inl (ca 1, 1, .inr (.inl ou)))] ++ W7) ++ W8) H1 → va_D A (([(out, .inl (ca 1, 1, .inr (.inl ou)))] ++ W7) ++ W8) → va_S A s.heap H1 locs1 → W p l e room_1 s m args below meth c H1 locs1 cells slots Q (F0 m (q + 4) ls [.int code0])) : W p l e room_1 s m args below meth c H locs cells slots Q (F0 m q ls []) := by
  obtain ⟨hx, hb, hml, hown, hts, hK, hA, hZ, hC, hX, hbl, hbA, hL⟩ := C
  obtain ⟨fs, he⟩ := inv_m hI
  refine lv_aload_n hx hb d0 rfl h2 ?_
  exact clVWb (As := []) (rest := []) hx hb hml hown hts gL_law_X8_thrown rfl 0 (by decide +kernel) ⟨Nat.le_of_ble_eq_true rfl, Nat.le_of_ble_eq_true rfl⟩ (st_thrown l D hI H.size) hP.flip hD.flip hS hA hK 0 7 he rfl rfl rfl hlz rfl (Nat.le_of_ble_eq_true rfl) hcs d1 rfl (fun H1 locs1 k1 k2 k3 => kk H1 locs1 k1.flip k2.flip k3)
/-- the tail -/
theorem lw_tlI {q : Nat} {off : Int} {kc bb : Int32} {ou : Nat → Int64} (C : lwK p s m args c D ca A b L xs) (hq : tlI q off) (hI : Inv ca a b0 d z W7 W8 code0) (e1 : code0 = kc) (e2 : kc = 0 → ou 0 = bb.toInt64) (hcs : cells ≤ room_1.cells ∧ slots ≤ room_1.slots)
    (hP : va_P D vwCl (([(out, .inl (ca 1, 1, .inr (.inl ou)))] ++ W7) ++ W8) H) (hD : va_D A (([(out, .inl (ca 1, 1, .inr (.inl ou)))] ++ W7) ++ W8)) (hS : va_S A s.heap H locs)
    (hl : lv_has ls 8 [(6, .int bb), (5, .int kc), (4, .int (iN (i : Int))), (3, .ref out), (2, .ref (z 0)), (1, .ref o1), (0, .ref b)])
    (kk : ∀ (H1 : Heap) (locs1 : List Loc), va_P D vwCl (([(out, .inl (ca 1, 1, .inr (.inl ou)))] ++ W7) ++ W8) H1 → va_D A (([(out, .inl (ca 1, 1, .inr (.inl ou)))] ++ W7) ++ W8) → va_S A s.heap H1 locs1 → W p l e room_1 s m args below meth c H1 locs1 cells slots Q (F0 m 2366 ls [])) : W p l e room_1 s m args below meth c H locs cells slots Q (F0 m q ls []) := by
  obtain ⟨d0, d1, d2, d3, d4, d5, d6, d7, d8, d9, d10, d11, d12, d13, d14⟩ := hq
  refine lw_th C hI (lv_at hl 4 rfl) hl.1 hcs hP hD hS d0 d1 (fun H locs hP hD hS => ?_)
  obtain ⟨hx, hb, hml, hown, hts, hK, hA, hZ, hC, hX, hbl, hbA, hL⟩ := C
  refine lv_iload hx hb d2 (lv_at hl 1 rfl) ?_
  refine lv_icmp_eq (tgt := q + 11) hx hb d3 (by omega) (fun _ => ?_) (fun h => absurd e1 h)
  refine lv_iload hx hb d4 (lv_at hl 1 rfl) ?_
  refine lv_if_ne (tgt := q + 28) hx hb d5 (by omega) (fun _ => ?_) (fun h0 => ?_)
  · exact lv_goto (tgt := 2366) hx hb d13 d14 (kk H locs hP hD hS)
  · refine lv_aload_n hx hb d6 rfl (lv_at hl 3 rfl) ?_
    refine lv_iconst (v := (0 : Int32)) hx hb d7 (by decide) ?_
    refine va_lald hx hb hK.1 hP 0 1 rfl rfl (by unfold vp_in; decide) d8 ?_
    refine lv_iload hx hb d9 (lv_at hl 0 rfl) ?_
    refine lv_i2l (v := bb.toInt64) hx hb d10 rfl ?_
    refine W.lcmp hx hb d11 ?_
    refine lv_if_eq (tgt := q + 28) hx hb d12 (by omega) (fun _ => ?_) (fun h => absurd ((lg_cmp_eq _ _).mpr (e2 h0)) h)
    exact lv_goto (tgt := 2366) hx hb d13 d14 (kk H locs hP hD hS)
theorem lw_tlL {q : Nat} {off : Int} {kc : Int32} {bb : Int64} {ou : Nat → Int64} (C : lwK p s m args c D ca A b L xs) (hq : tlL q off) (hI : Inv ca a b0 d z W7 W8 code0) (e1 : code0 = kc) (e2 : kc = 0 → ou 0 = bb) (hcs : cells ≤ room_1.cells ∧ slots ≤ room_1.slots)
    (hP : va_P D vwCl (([(out, .inl (ca 1, 1, .inr (.inl ou)))] ++ W7) ++ W8) H) (hD : va_D A (([(out, .inl (ca 1, 1, .inr (.inl ou)))] ++ W7) ++ W8)) (hS : va_S A s.heap H locs)
    (hl : lv_has ls 8 [(6, .long bb), (5, .int kc), (4, .int (iN (i : Int))), (3, .ref out), (2, .ref (z 0)), (1, .ref o1), (0, .ref b)])
    (kk : ∀ (H1 : Heap) (locs1 : List Loc), va_P D vwCl (([(out, .inl (ca 1, 1, .inr (.inl ou)))] ++ W7) ++ W8) H1 → va_D A (([(out, .inl (ca 1, 1, .inr (.inl ou)))] ++ W7) ++ W8) → va_S A s.heap H1 locs1 → W p l e room_1 s m args below meth c H1 locs1 cells slots Q (F0 m 2366 ls [])) : W p l e room_1 s m args below meth c H locs cells slots Q (F0 m q ls []) := by
  obtain ⟨d0, d1, d2, d3, d4, d5, d6, d7, d8, d9, d11, d12, d13, d14⟩ := hq
  refine lw_th C hI (lv_at hl 4 rfl) hl.1 hcs hP hD hS d0 d1 (fun H locs hP hD hS => ?_)
  obtain ⟨hx, hb, hml, hown, hts, hK, hA, hZ, hC, hX, hbl, hbA, hL⟩ := C
  refine lv_iload hx hb d2 (lv_at hl 1 rfl) ?_
  refine lv_icmp_eq (tgt := q + 11) hx hb d3 (by omega) (fun _ => ?_) (fun h => absurd e1 h)
  refine lv_iload hx hb d4 (lv_at hl 1 rfl) ?_
  refine lv_if_ne (tgt := q + 27) hx hb d5 (by omega) (fun _ => ?_) (fun h0 => ?_)
  · exact lv_goto (tgt := 2366) hx hb d13 d14 (kk H locs hP hD hS)
  · refine lv_aload_n hx hb d6 rfl (lv_at hl 3 rfl) ?_
    refine lv_iconst (v := (0 : Int32)) hx hb d7 (by decide) ?_
    refine va_lald hx hb hK.1 hP 0 1 rfl rfl (by unfold vp_in; decide) d8 ?_
    refine lv_lload hx hb d9 (lv_at hl 0 rfl) ?_
    refine W.lcmp hx hb d11 ?_
    refine lv_if_eq (tgt := q + 27) hx hb d12 (by omega) (fun _ => ?_) (fun h => absurd ((lg_cmp_eq _ _).mpr (e2 h0)) h)
    exact lv_goto (tgt := 2366) hx hb d13 d14 (kk H locs hP hD hS)
end LA
