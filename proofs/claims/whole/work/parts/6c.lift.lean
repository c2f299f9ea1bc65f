/-! ===== a contract over a part of the cells is one over all of them ===== -/
section YA
variable {l : Launch} {y : MethodName} {ws : List Cond} {fr lo mc sz : Nat} {D : va_G} {ca : Nat → ClassId} {av : List Value} {W W' w0 w1 wr : va_W} {vv : Option Value} {x : Option Value ⊕ Nat}
theorem va_A_up (is : List Nat) (h0 : is.map (fun i => W[i]?) = w0.map some) {q : Nat} (h : va_A w0 sz q) : va_A W sz q := by
  rcases h with ⟨k, e, h⟩ | h
  · have h1 : (is.map (fun i => W[i]?))[k]? = some (some (q, e)) := by rw [h0, List.getElem?_map, h]; rfl
    rw [List.getElem?_map] at h1
    cases hi : is[k]? with
    | none => rw [hi] at h1; cases h1
    | some i => rw [hi] at h1; exact Or.inl ⟨i, e, Option.some.inj h1⟩
  · exact Or.inr h
theorem va_P_at {H : Heap} (hP : va_P D vwCl W H) (is : List Nat) (h0 : is.map (fun i => W[i]?) = w0.map some) : va_P D vwCl w0 H := by
  intro k q hk
  have h1 : (is.map (fun i => W[i]?))[k]? = some (some q) := by rw [h0, List.getElem?_map, hk]; rfl
  rw [List.getElem?_map] at h1
  cases hi : is[k]? with
  | none => rw [hi] at h1; cases h1
  | some i => rw [hi] at h1; exact hP i q (Option.some.inj h1)
theorem zM_part {U : State} (h : zM D ca sz W U) (is : List Nat) (h0 : is.map (fun i => W[i]?) = w0.map some) (hn : va_nd is = true) : zM D ca sz w0 U :=
  ⟨h.1, va_P_at h.2.1 is h0, h.2.2.1, h.2.2.2.sub is hn h0⟩
theorem zP_narrow {A1 A : Nat → Prop} {U : State} (h : zP A U) (hF : ∀ q, A1 q → A q) : zP A1 U :=
  ⟨h.1, h.2.1, h.2.2.1.narrow hF, h.2.2.2.narrow hF⟩
/-- behind the part's end: the whole's cells -/
theorem lift_end {st t : State} (hU : zM D ca sz W st) (hP1 : va_P D vwCl w1 t.heap) (hD1 : va_D (va_A w0 sz) w1) (hF : va_F (va_A w0 sz) st t) (is ir i2 : List Nat) (h0 : is.map (fun i => W[i]?) = w0.map some) (hr : ir.map (fun i => W[i]?) = wr.map some) (h2 : i2.map (fun i => (wr ++ w1)[i]?) = W'.map some) (hnr : va_nd ir = true) (hdis : ∀ i ∈ ir, i ∉ is) (hn2 : va_nd i2 = true) : va_P D vwCl W' t.heap ∧ va_D (va_A W sz) W' ∧ va_F (va_A W sz) st t := by
  obtain ⟨hsz, hP, -, hD⟩ := hU
  have hup : ∀ q, va_A w0 st.heap.size q → va_A W sz q := fun q h => va_A_up is h0 (by rw [hsz] at h; exact h)
  obtain ⟨j1, j2⟩ := va_join (A0 := va_A W sz) hP hD.self is ir h0 hr hnr hdis (H1 := t.heap) (fun q h1 h3 => hF.2 q h1 (by rw [hsz] at h3; exact h3)) hup hP1 (by rw [hsz]; exact hD1)
  exact ⟨va_P_at j1 i2 h2, j2.sub i2 hn2 h2, hF.1, fun q h1 h3 => hF.2 q h1 (fun z => h3 (va_A_up is h0 z))⟩
theorem MX.lift (hM : MX l y ws fr lo mc D ca av sz w0 x w1) (is ir i2 : List Nat) (h0 : is.map (fun i => W[i]?) = w0.map some) (hr : ir.map (fun i => W[i]?) = wr.map some) (h2 : i2.map (fun i => (wr ++ w1)[i]?) = W'.map some) (hn : va_nd is = true) (hnr : va_nd ir = true) (hdis : ∀ i ∈ ir, i ∉ is) (hn2 : va_nd i2 = true) : MX l y ws fr lo mc D ca av sz W x W' := by
  refine MetFree.mono hM ?_ (fun _ _ _ _ _ h => h) ?_
  · rintro a U ⟨h1, h3, h4⟩
    exact ⟨h1, zM_part h3 is h0 hn, zP_narrow h4 (fun q h => va_A_up is h0 h)⟩
  · rintro a st o t ⟨-, hU, -⟩ hQ
    rcases hQ with ⟨⟨vv, e1, e2, hP1, hD1, hF⟩, L, hL, hf⟩ | ⟨q, e1, E, ce, L, ⟨n, e2, e3, hP1, hD1, hF⟩, k1, k2, k3, k4, k5, k6⟩
    · obtain ⟨j1, j2, j3⟩ := lift_end hU hP1 hD1 hF is ir i2 h0 hr h2 hnr hdis hn2
      exact Or.inl ⟨⟨vv, e1, e2, j1, j2, j3⟩, L, hL, fun z hz => va_A_up is h0 (hf z hz)⟩
    · obtain ⟨j1, j2, j3⟩ := lift_end hU hP1 hD1 hF is ir i2 h0 hr h2 hnr hdis hn2
      exact Or.inr ⟨q, e1, E, ce, L, ⟨n, e2, e3, j1, j2, j3⟩, k1, k2, k3, k4, k5, fun z hz => va_A_up is h0 (k6 z hz)⟩
theorem MW.lift (hM : MW l y ws fr lo D ca av sz w0 vv w1) (is ir i2 : List Nat) (h0 : is.map (fun i => W[i]?) = w0.map some) (hr : ir.map (fun i => W[i]?) = wr.map some) (h2 : i2.map (fun i => (wr ++ w1)[i]?) = W'.map some) (hn : va_nd is = true) (hnr : va_nd ir = true) (hdis : ∀ i ∈ ir, i ∉ is) (hn2 : va_nd i2 = true) : MW l y ws fr lo D ca av sz W vv W' := by
  refine MetFree.mono hM ?_ (fun _ _ _ _ _ h => h) ?_
  · rintro a U ⟨h1, h3⟩
    exact ⟨h1, zM_part h3 is h0 hn⟩
  · rintro a st o t ⟨-, hU⟩ ⟨⟨e2, hP1, hD1, hF⟩, L, hL, hf⟩
    obtain ⟨j1, j2, j3⟩ := lift_end hU hP1 hD1 hF is ir i2 h0 hr h2 hnr hdis hn2
    exact ⟨⟨e2, j1, j2, j3⟩, L, hL, fun z hz => va_A_up is h0 (hf z hz)⟩
theorem MR.lift (hM : MR l y ws fr lo D ca av w0 vv) (is : List Nat) (h0 : is.map (fun i => W[i]?) = w0.map some) : MW l y ws fr lo D ca av sz W vv W := by
  refine MetFree.mono hM ?_ (fun _ _ _ _ _ h => h) ?_
  · rintro a U ⟨h1, h3⟩
    exact ⟨h1, va_P_at h3.2.1 is h0, h3.2.2.1⟩
  · rintro a st o t ⟨-, hU⟩ ⟨⟨e2, hh⟩, L, hL, hf⟩
    refine ⟨⟨e2, by rw [hh]; exact hU.2.1, hU.2.2.2.self, by rw [hh]; exact Nat.le_refl _, fun q _ _ => by rw [hh]⟩, L, hL, fun z hz => (hf z hz).elim⟩
end YA
/-! ===== blocks: a world in two pieces ===== -/
theorem nd_range' : ∀ (n s : Nat), va_nd (List.range' s n) = true := by
  intro n
  induction n with
  | zero => intro s; rfl
  | succ n ih =>
    intro s
    rw [List.range'_succ]
    simp only [va_nd, Bool.and_eq_true, decide_eq_true_eq]
    exact ⟨fun h => by have := (List.mem_range'_1.mp h).1; omega, ih (s + 1)⟩
theorem blk_l (a b : va_W) : (List.range' 0 a.length).map (fun i => (a ++ b)[i]?) = a.map some := by
  apply List.ext_getElem?
  intro k
  rw [List.getElem?_map, List.getElem?_map]
  by_cases h : k < a.length
  · rw [List.getElem?_range' h, Option.map_some, Nat.zero_add, Nat.one_mul, List.getElem?_append_left h, List.getElem?_eq_getElem h]
    rfl
  · rw [List.getElem?_eq_none (by rw [List.length_range']; omega), List.getElem?_eq_none (by omega)]
    rfl
theorem blk_r (a b : va_W) : (List.range' a.length b.length).map (fun i => (a ++ b)[i]?) = b.map some := by
  apply List.ext_getElem?
  intro k
  rw [List.getElem?_map, List.getElem?_map]
  by_cases h : k < b.length
  · rw [List.getElem?_range' h, Option.map_some, Nat.one_mul, List.getElem?_append_right (by omega), show a.length + k - a.length = k by omega, List.getElem?_eq_getElem h]
    rfl
  · rw [List.getElem?_eq_none (by rw [List.length_range']; omega), List.getElem?_eq_none (by omega)]
    rfl
theorem blk_dis (a b : va_W) : ∀ i ∈ List.range' a.length b.length, i ∉ List.range' 0 a.length := by
  intro i h1 h2
  have e1 := (List.mem_range'_1.mp h1).1
  have e2 := (List.mem_range'_1.mp h2).2
  omega
theorem va_P.flip {D : va_G} {b c : va_W} {H : Heap} (h : va_P D vwCl (b ++ c) H) : va_P D vwCl (c ++ b) H := va_P.swap (a := []) h
theorem va_D.flip {A : Nat → Prop} {b c : va_W} (h : va_D A (b ++ c)) : va_D A (c ++ b) := va_D.swap (a := []) h
section YB
variable {p : Program} {l : Launch} {e : Env} {R : Room} {s : State} {m : MethodId} {args : Array Value} {below : List Frame} {meth : Method} {c : Code} {H : Heap} {locs : List Loc} {cells slots mc2 : Nat} {Q : State → Prop} {cc : ByteArray} {pc : Nat} {ls : Array Slot} {A : Nat → Prop} {D : va_G} {ca : Nat → ClassId} {w1 wd wr : va_W} {vv : Option Value} {own C : String} {y : MethodName} {ws ws' Ts : List Cond} {bytes : ByteArray} {maxL nL fr lo index b : Nat} {ret : Option FieldType} {As rest st st' : List Value} {r : vw_C} {fs : List Value} {x : Option Value ⊕ Nat}
/-- a virtual call of a method that changes the first piece -/
theorem clVWb (hx : p.tables.exec = Jvm.exec) (hb : c.code = cc) (hml : c.maxLocals = nL) (hown : s.vm.findClass own = some m.cls) (hts : ∀ w ∈ Ts, w.before args s = true) (hT : GoodIn Ts (wsV own index C y ws)) (hw : ws = Cond.code y bytes maxL ret :: ws') (n : Nat)
    (hd : y.cls = C ∧ y.cls ≠ "java/lang/invoke/MethodHandle" ∧ y.cls ≠ "java/lang/invoke/VarHandle" ∧ (parseMethodDescriptor y.desc).map (fun d => d.parameters.length) = some n) (hR : fr + 1 ≤ R.frames ∧ 8 + (maxL + 11) + lo ≤ R.locals)
    (hM : MW l y ws fr lo D ca (.ref b :: As) H.size wd vv w1) (hP : va_P D vwCl (wd ++ wr) H) (hD : va_D A (wd ++ wr)) (hS : va_S A s.heap H locs) (hA : ∀ q : Nat, s.heap.size ≤ q → A q) (hK : zK D ca s)
    (q0 ci : Nat) (he : wd[q0]? = some (b, .inr (ci, fs))) (hci : vwCl[ci]? = some r) (hC : r.1 = C) (hn : As.length = n) (hsz : ls.size = nL) (hstk : st = As.reverse ++ .ref b :: rest) (hroom : (rest.map fun v => v.category).sum ≤ 8) (hcs : cells + 0 ≤ R.cells ∧ slots + 0 ≤ R.slots)
    (hdg : decode cc pc = .ok (.invokevirtual index, 3)) (hst : vv.toList ++ rest = st') (kk : ∀ (H1 : Heap) (locs1 : List Loc), va_P D vwCl (w1 ++ wr) H1 → va_D A (w1 ++ wr) → va_S A s.heap H1 locs1 → W p l e R s m args below meth c H1 locs1 cells slots Q (F0 m (pc + 3) ls st')) : W p l e R s m args below meth c H locs cells slots Q (F0 m pc ls st) :=
  clVW hx hb hml hown hts hT hw n hd hR hM hP hD hS hA hK _ _ (blk_l wd wr) (nd_range' _ _) (blk_r wd wr) (nd_range' _ _) (blk_dis wd wr) q0 ci he hci hC hn hsz hstk hroom hcs hdg hst rfl (fun H1 locs1 k1 k2 k3 => kk H1 locs1 k1.flip k2.flip k3)
/-- .. of a method that may throw (here it doesn't) -/
theorem clVXb (hx : p.tables.exec = Jvm.exec) (hb : c.code = cc) (hml : c.maxLocals = nL) (hown : s.vm.findClass own = some m.cls) (hts : ∀ w ∈ Ts, w.before args s = true) (hT : GoodIn Ts (wsV own index C y ws)) (hw : ws = Cond.code y bytes maxL ret :: ws') (n : Nat)
    (hd : y.cls = C ∧ y.cls ≠ "java/lang/invoke/MethodHandle" ∧ y.cls ≠ "java/lang/invoke/VarHandle" ∧ (parseMethodDescriptor y.desc).map (fun d => d.parameters.length) = some n) (hR : fr + 1 ≤ R.frames ∧ 8 + (maxL + 11) + lo ≤ R.locals)
    (hM : MX l y ws fr lo mc2 D ca (.ref b :: As) H.size wd (.inl vv) w1) (hP : va_P D vwCl (wd ++ wr) H) (hD : va_D A (wd ++ wr)) (hS : va_S A s.heap H locs) (hA : ∀ q : Nat, s.heap.size ≤ q → A q) (hK : zK D ca s) (hZ : zP A s)
    (q0 ci : Nat) (he : wd[q0]? = some (b, .inr (ci, fs))) (hci : vwCl[ci]? = some r) (hC : r.1 = C) (hn : As.length = n) (hsz : ls.size = nL) (hstk : st = As.reverse ++ .ref b :: rest) (hroom : (rest.map fun v => v.category).sum ≤ 8) (hcs : cells + mc2 ≤ R.cells ∧ slots + 6 * mc2 ≤ R.slots)
    (hdg : decode cc pc = .ok (.invokevirtual index, 3)) (hst : vv.toList ++ rest = st') (kk : ∀ (H1 : Heap) (locs1 : List Loc), va_P D vwCl (w1 ++ wr) H1 → va_D A (w1 ++ wr) → va_S A s.heap H1 locs1 → W p l e R s m args below meth c H1 locs1 (cells + mc2) (slots + 6 * mc2) Q (F0 m (pc + 3) ls st')) : W p l e R s m args below meth c H locs cells slots Q (F0 m pc ls st) :=
  runX_v (clVX hx hb hml hown hts hT hw n hd hR hM hP hD hS hA hK hZ _ (blk_l wd wr) (nd_range' _ _) q0 ci he hci hC hn hsz hstk hroom hcs hdg) rfl hP hD hS hA _ _ (blk_l wd wr) (blk_r wd wr) (nd_range' _ _) (blk_dis wd wr) hst (fun H1 locs1 k1 k2 k3 => kk H1 locs1 k1.flip k2.flip k3)
end YB
