/-! ===== methods that may throw ===== -/
def zE : Nat → String := fun n => match n with
  | 1 => "java/lang/IllegalArgumentException"
  | 2 => "java/lang/IllegalStateException"
  | _ => "java/lang/IndexOutOfBoundsException"
def zI : Nat → Nat := fun n => match n with
  | 1 => 105
  | 2 => 206
  | _ => 127
def zXw : List Cond := vx_atS RX7 105 "java/lang/IllegalArgumentException" ["java/lang/RuntimeException", "java/lang/Exception"] ++ (vx_atS RX7 206 "java/lang/IllegalStateException" ["java/lang/RuntimeException", "java/lang/Exception"] ++ vx_atS RX7 127 "java/lang/IndexOutOfBoundsException" ["java/lang/RuntimeException", "java/lang/Exception"])
theorem zXw_face : zXw.all (fun w => w.onTables && w.keepsFace) = true := by decide +kernel
theorem zXw_ot : zXw.all (fun w => vx_ot w) = true := by decide +kernel
def zStr : List (Nat × String) := [(103, "the place is negative"), (125, "no such piece"), (168, "no such interval"), (176, "this is no dyadic interval"), (196, "no such query"), (204, "the query has no answer"), (224, "the text is full"), (254, "no saved state"), (279, "no such segment"), (281, "an argument is out of range"), (283, "the store does not allow this now")]
/-- what a throw needs of the state: words, texts, the two statics -/
def zP (A : Nat → Prop) (U : State) : Prop := (∀ w ∈ zXw, w.before #[] U = true) ∧ (∀ q ∈ zStr, ∃ a, vk_R RX7 q.1 q.2 a U) ∧ vx_Zq Bundle.tN "UNASSIGNED_STACK" Bundle.steD A U U.heap ∧ vx_Zq Bundle.tN "SUPPRESSED_SENTINEL" Bundle.listD A U U.heap
theorem zface_warm {w : Cond} (h1 : w.onTables = true) (h2 : w.keepsFace = true) {s U : State} (hW : s.WarmedH U.vm) (h : w.before #[] s = true) : w.before #[] U = true := va_tabs h1 (rfl : (s.setVm U.vm).vm = U.vm) (Cond.before_shiftedFace (State.Shifted.of_warmed hW) w h2 h)
theorem zP_at {A A1 : Nat → Prop} {s U : State} {H : Heap} {locs : List Loc} (h : zP A s) (hS : va_S A s.heap H locs) (hU : U.heap = H) (hW : s.WarmedH U.vm) (hF : ∀ q, A1 q → A q) : zP A1 U := by
  refine ⟨fun w hw => ?_, fun q hq => ?_, ?_, ?_⟩
  · have hf := List.all_eq_true.mp zXw_face w hw
    simp only [Bool.and_eq_true] at hf
    exact zface_warm hf.1 hf.2 hW (h.1 w hw)
  · obtain ⟨a, ha⟩ := h.2.1 q hq
    exact ⟨a, ha.warm hW⟩
  · have h1 := ((h.2.2.1.kept (H1 := H) (fun a h1 h2 => hS.2.1 a h1 h2)).narrow hF).moved hW.alike
    rw [hU]; exact h1
  · have h1 := ((h.2.2.2.kept (H1 := H) (fun a h1 h2 => hS.2.1 a h1 h2)).narrow hF).moved hW.alike
    rw [hU]; exact h1
theorem zP_calling {A : Nat → Prop} {U : State} {g : JFrame} {mk : MethodId} {a : Array Value} (h : zP A U) : zP A (U.calling g mk a) := by
  refine ⟨fun w hw => ?_, fun q hq => ?_, ?_, ?_⟩
  · have hf := List.all_eq_true.mp zXw_face w hw
    simp only [Bool.and_eq_true] at hf
    exact va_tabs hf.1 (rfl : U.vm = (U.calling g mk a).vm) (h.1 w hw)
  · obtain ⟨b, hb⟩ := h.2.1 q hq
    exact ⟨b, hb.same (rfl : (U.calling g mk a).vm = U.vm)⟩
  · exact vx_Zq.moved (u := U) (U := U.calling g mk a) (Vm.Alike.refl U.vm) h.2.2.1
  · exact vx_Zq.moved (u := U) (U := U.calling g mk a) (Vm.Alike.refl U.vm) h.2.2.2
def zX (D : va_G) (ca : Nat → ClassId) (sz : Nat) (ws : va_W) : State → Prop := fun U => zM D ca sz ws U ∧ zP (va_A ws sz) U
theorem zX_blind {D : va_G} {ca : Nat → ClassId} {ws : va_W} {sz : Nat} {av : List Value} : FrameBlind (va_Pc av (zX D ca sz ws)) := fun _ _ _ _ h => ⟨h.1, ⟨h.2.1.1, h.2.1.2.1, zK_calling h.2.1.2.2.1, h.2.1.2.2.2⟩, zP_calling h.2.2⟩
/-- its end: x tells what comes: a value (or none), or the number of what it throws -/
def zXQ (D : va_G) (x : Option Value ⊕ Nat) (w1 : va_W) (A : Nat → Prop) : Array Value → State → Outcome → State → Prop := fun _ st o t => ∃ vv, x = .inl vv ∧ o = .returned vv ∧ va_P D vwCl w1 t.heap ∧ va_D A w1 ∧ va_F A st t
def zXC (D : va_G) (x : Option Value ⊕ Nat) (w1 : va_W) (A : Nat → Prop) : String → State → State → Prop := fun E st t => ∃ n, x = .inr n ∧ E = zE n ∧ va_P D vwCl w1 t.heap ∧ va_D A w1 ∧ va_F A st t
abbrev MX (l : Launch) (y : MethodName) (ws : List Cond) (fr lo mc : Nat) (D : va_G) (ca : Nat → ClassId) (av : List Value) (sz : Nat) (wd : va_W) (x : Option Value ⊕ Nat) (w1 : va_W) : Prop := vx_Met l y ws ({ frames := fr, cells := mc, slots := 6 * mc, locals := lo }) (va_Pc av (zX D ca sz wd)) (zXQ D x w1 (va_A wd sz)) (zXC D x w1 (va_A wd sz)) mc (6 * mc) (va_A wd sz)
section ZXA
variable {p : Program} {l : Launch} {e : Env} {R : Room} {s : State} {m : MethodId} {args : Array Value} {below : List Frame} {meth : Method} {c : Code} {H : Heap} {locs : List Loc} {cells slots mc : Nat} {Q : State → Prop} {cc : ByteArray} {pc : Nat} {ls : Array Slot} {A : Nat → Prop} {D : va_G} {ca : Nat → ClassId} {w1 : va_W} {x : Option Value ⊕ Nat}
theorem rtXi {v : Int32} (hx : p.tables.exec = Jvm.exec) (hb : c.code = cc) (hr : meth.sig.returnType = some .int) (hlk : meth.locks = false) (h1 : cells ≤ mc) (h2 : slots ≤ 6 * mc) (hP : va_P D vwCl w1 H) (hD : va_D A w1) (hS : va_S A s.heap H locs) (hv : x = .inl (some (Value.int v))) (hdg : decode cc pc = .ok (.ireturn, 1)) : W p l e R s m args below meth c H locs cells slots (vx_MQ below (zXQ D x w1 A) (zXC D x w1 A) args s mc (6 * mc) A) (F0 m pc ls [.int v]) :=
  W.widen h1 h2 (vx_ret (W.iret hx hb hr (fun t ht _ => ⟨_, hv, rfl, by rw [ht]; exact hP, hD, hS.F ht⟩) hS.2.2 hdg hlk))
theorem rtXl {v : Int64} (hx : p.tables.exec = Jvm.exec) (hb : c.code = cc) (hr : meth.sig.returnType = some .long) (hlk : meth.locks = false) (h1 : cells ≤ mc) (h2 : slots ≤ 6 * mc) (hP : va_P D vwCl w1 H) (hD : va_D A w1) (hS : va_S A s.heap H locs) (hv : x = .inl (some (Value.long v))) (hdg : decode cc pc = .ok (.lreturn, 1)) : W p l e R s m args below meth c H locs cells slots (vx_MQ below (zXQ D x w1 A) (zXC D x w1 A) args s mc (6 * mc) A) (F0 m pc ls [.long v]) :=
  W.widen h1 h2 (vx_ret (W.lret hx hb hr (fun t ht _ => ⟨_, hv, rfl, by rw [ht]; exact hP, hD, hS.F ht⟩) hS.2.2 hdg hlk))
theorem rtXv (hx : p.tables.exec = Jvm.exec) (hb : c.code = cc) (hr : meth.sig.returnType = none) (hlk : meth.locks = false) (h1 : cells ≤ mc) (h2 : slots ≤ 6 * mc) (hP : va_P D vwCl w1 H) (hD : va_D A w1) (hS : va_S A s.heap H locs) (hv : x = .inl none) (hdg : decode cc pc = .ok (.return_, 1)) : W p l e R s m args below meth c H locs cells slots (vx_MQ below (zXQ D x w1 A) (zXC D x w1 A) args s mc (6 * mc) A) (F0 m pc ls []) :=
  W.widen h1 h2 (vx_ret (W.vret hx hb hr (fun t ht _ => ⟨_, hv, rfl, by rw [ht]; exact hP, hD, hS.F ht⟩) hS.2.2 hdg hlk))
/-- a throw that leaves the method: what its end says -/
theorem zXC_of {n : Nat} (hP : va_P D vwCl w1 H) (hD : va_D A w1) (hS : va_S A s.heap H locs) (hv : x = .inr n) (t : State) (h1 : H.size ≤ t.heap.size) (h2 : ∀ q : Nat, q < H.size → t.heap[q]? = H[q]?) : zXC D x w1 A (zE n) s t :=
  ⟨n, hv, rfl, hP.kept (fun k q hk => h2 q.1 (hP k q hk).lt), hD, ⟨Nat.le_trans hS.1 h1, fun q h3 h4 => by rw [h2 q (Nat.lt_of_lt_of_le h3 hS.1)]; exact hS.2.1 q h3 h4⟩⟩
theorem zat {n : Nat} (hn : n = 1 ∨ n = 2 ∨ n = 3) (hZ : zP A s) : ∀ w ∈ vx_atS RX7 (zI n) (zE n) ["java/lang/RuntimeException", "java/lang/Exception"], w.before args s = true := by
  have key : ∀ w ∈ zXw, w.before args s = true := fun w hw => by
    have hf := List.all_eq_true.mp zXw_face w hw
    simp only [Bool.and_eq_true] at hf
    exact va_tabs hf.1 rfl (hZ.1 w hw)
  intro w hw
  rcases hn with rfl | rfl | rfl
  · exact key w (List.mem_append_left _ hw)
  · exact key w (List.mem_append_right _ (List.mem_append_left _ hw))
  · exact key w (List.mem_append_right _ (List.mem_append_right _ hw))
theorem zgood {n ik : Nat} (hn : n = 1 ∨ n = 2 ∨ n = 3) : ∀ w ∈ Cond.classLink RX7 ik (zE n) :: Cond.initialized (zE n) :: vx_atS RX7 (zI n) (zE n) ["java/lang/RuntimeException", "java/lang/Exception"], vx_ot w = true := by
  intro w hw
  rcases List.mem_cons.mp hw with rfl | hw
  · rfl
  rcases List.mem_cons.mp hw with rfl | hw
  · rfl
  have key := List.all_eq_true.mp zXw_ot
  rcases hn with rfl | rfl | rfl
  · exact key w (List.mem_append_left _ hw)
  · exact key w (List.mem_append_right _ (List.mem_append_left _ hw))
  · exact key w (List.mem_append_right _ (List.mem_append_right _ hw))
theorem zfit {n : Nat} (hn : n = 1 ∨ n = 2 ∨ n = 3) : Bundle.fit (zE n) = true := by
  rcases hn with rfl | rfl | rfl <;> decide +kernel
theorem znames : ∀ n ∈ ["java/lang/RuntimeException", "java/lang/Exception"], Bundle.fit n = true := by decide +kernel
/-- 'throw new E("text")' -/
theorem thX {n is ik : Nat} {text : String} {rest : List Value} (hn : n = 1 ∨ n = 2 ∨ n = 3) (hx : p.tables.exec = Jvm.exec) (hb : c.code = cc) (hl : l.stackTraces = false) (hown : s.vm.findClass RX7 = some m.cls) (hk : (Cond.classLink RX7 ik (zE n)).before args s = true) (hini : (Cond.initialized (zE n)).before args s = true) (hstr : (is, text) ∈ zStr) (hZ : zP A s) (hP : va_P D vwCl w1 H) (hD : va_D A w1) (hS : va_S A s.heap H locs) (hsize : ls.size = c.maxLocals) (hv : x = .inr n)
    (d0 : decode cc pc = .ok (.new ik, 3)) (d3 : decode cc (pc + 3) = .ok (.dup, 1)) (d4 : decode cc (pc + 4) = .ok (.ldc is, 2)) (d6 : decode cc (pc + 6) = .ok (.invokespecial (zI n), 3)) (d9 : decode cc (pc + 9) = .ok (.athrow, 1)) (hex : ∀ x ∈ c.exceptionTable.toList, False) (hlk : meth.locks = false) (hRf : 5 < R.frames) (hRl : (rest.map fun v => v.category).sum + 82 ≤ R.locals) (hRc : cells + 1 ≤ R.cells) (hRs : slots + 6 ≤ R.slots) (hc : cells + 1 ≤ mc) (hs : slots + 6 ≤ 6 * mc) :
    W p l e R s m args below meth c H locs cells slots (vx_MQ below (zXQ D x w1 A) (zXC D x w1 A) args s mc (6 * mc) A) (F0 m pc ls rest) := by
  obtain ⟨sa, hsa⟩ := hZ.2.1 _ hstr
  exact vx_throwS (names := ["java/lang/RuntimeException", "java/lang/Exception"]) (A := A) hx hb hl hown (zfit hn) znames hk hini hsa (zat hn hZ) (zgood hn) hZ.2.2.1 hZ.2.2.2 hS hsize d0 d3 d4 d6 d9 (fun z hz => (hex z hz).elim) hRf hRl hRc hRs hlk (fun t _ h1 h2 => zXC_of hP hD hS hv t h1 h2) hS.2.2 hc hs
theorem thXW {n is ik : Nat} {text : String} {rest : List Value} (hn : n = 1 ∨ n = 2 ∨ n = 3) (hx : p.tables.exec = Jvm.exec) (hb : c.code = cc) (hl : l.stackTraces = false) (hown : s.vm.findClass RX7 = some m.cls) (hk : (Cond.classLink RX7 ik (zE n)).before args s = true) (hini : (Cond.initialized (zE n)).before args s = true) (hstr : (is, text) ∈ zStr) (hZ : zP A s) (hP : va_P D vwCl w1 H) (hD : va_D A w1) (hS : va_S A s.heap H locs) (hsize : ls.size = c.maxLocals) (hv : x = .inr n)
    (d0 : decode cc pc = .ok (.new ik, 3)) (d3 : decode cc (pc + 3) = .ok (.dup, 1)) (d4 : decode cc (pc + 4) = .ok (.ldc_w is, 3)) (d7 : decode cc (pc + 7) = .ok (.invokespecial (zI n), 3)) (d10 : decode cc (pc + 10) = .ok (.athrow, 1)) (hex : ∀ x ∈ c.exceptionTable.toList, False) (hlk : meth.locks = false) (hRf : 5 < R.frames) (hRl : (rest.map fun v => v.category).sum + 82 ≤ R.locals) (hRc : cells + 1 ≤ R.cells) (hRs : slots + 6 ≤ R.slots) (hc : cells + 1 ≤ mc) (hs : slots + 6 ≤ 6 * mc) :
    W p l e R s m args below meth c H locs cells slots (vx_MQ below (zXQ D x w1 A) (zXC D x w1 A) args s mc (6 * mc) A) (F0 m pc ls rest) := by
  obtain ⟨sa, hsa⟩ := hZ.2.1 _ hstr
  exact vx_throwSW (names := ["java/lang/RuntimeException", "java/lang/Exception"]) (A := A) hx hb hl hown (zfit hn) znames hk hini hsa (zat hn hZ) (zgood hn) hZ.2.2.1 hZ.2.2.2 hS hsize d0 d3 d4 d7 d10 (fun z hz => (hex z hz).elim) hRf hRl hRc hRs hlk (fun t _ h1 h2 => zXC_of hP hD hS hv t h1 h2) hS.2.2 hc hs
/-- behind a call that may throw: it has returned -/
theorem runX_v {a : Array Value} {st rest st' : List Value} {mc2 : Nat} {ws wc wr : va_W} {vv : Option Value} (hr : vx_Run p l e R s m args below meth c H locs cells slots mc2 (6 * mc2) (F0 m pc ls st) rest (zXQ D x w1 (va_A wc H.size) a) (zXC D x w1 (va_A wc H.size)) (va_A wc H.size)) (hv : x = .inl vv) (hP : va_P D vwCl ws H) (hD : va_D A ws) (hS : va_S A s.heap H locs) (hA : ∀ q : Nat, s.heap.size ≤ q → A q) (isC isR : List Nat) (hC : isC.map (fun i => ws[i]?) = wc.map some) (hR : isR.map (fun i => ws[i]?) = wr.map some) (hn : va_nd isR = true) (hdis : ∀ i ∈ isR, i ∉ isC) (hst : vv.toList ++ rest = st')
    (kk : ∀ (H1 : Heap) (locs1 : List Loc), va_P D vwCl (wr ++ w1) H1 → va_D A (wr ++ w1) → va_S A s.heap H1 locs1 → W p l e R s m args below meth c H1 locs1 (cells + mc2) (slots + 6 * mc2) Q (F0 m (pc + 3) ls st')) : W p l e R s m args below meth c H locs cells slots Q (F0 m pc ls st) := by
  have hF := va_free (wc := wc) hD hS hA isC hC
  intro T hT X
  rcases hr T hT X with ⟨v, st₀, t, T', L, h0, X', hL, e1, e2, ⟨vv', hx1, hx2, hP1, hD1, hz, hk⟩, stp⟩ | ⟨q, st₀, t, T', L, E, ce, h0, X', hL, e1, e2, ⟨n, hx1, -⟩, -⟩
  · rw [hv] at hx1
    cases hx1; cases hx2
    subst hst
    rw [h0] at hz hk
    have hjoin := va_join hP hD isC isR hC hR hn hdis (H1 := t.heap) (fun q h1 h2 => hk q h1 h2) hF hP1 hD1
    have hS' : va_S A s.heap t.heap (locs ++ L) := ⟨Nat.le_trans hS.1 hz, fun q h1 h2 => by rw [hk q (Nat.lt_of_lt_of_le h1 hS.1) (fun z => h2 (hF q z))]; exact hS.2.1 q h1 h2, fun q hq => by
      rcases List.mem_append.mp hq with h | h
      · exact hS.2.2 q h
      · exact hF _ (hL q h)⟩
    rw [← e1] at hjoin hS'
    obtain ⟨t2, a1, b1⟩ := kk T'.heap (locs ++ L) hjoin.1 hjoin.2 hS' T' rfl X'
    exact ⟨t2, stp t2 a1, b1⟩
  · rw [hv] at hx1; cases hx1
/-- .. it has thrown: it goes on to the caller -/
theorem runX_x {a : Array Value} {st rest : List Value} {mc2 n : Nat} {ws wc wr wn : va_W} {xo : Option Value ⊕ Nat} (hr : vx_Run p l e R s m args below meth c H locs cells slots mc2 (6 * mc2) (F0 m pc ls st) rest (zXQ D x w1 (va_A wc H.size) a) (zXC D x w1 (va_A wc H.size)) (va_A wc H.size)) (hv : x = .inr n) (hP : va_P D vwCl ws H) (hD : va_D A ws) (hS : va_S A s.heap H locs) (hA : ∀ q : Nat, s.heap.size ≤ q → A q) (isC isR isN : List Nat) (hC : isC.map (fun i => ws[i]?) = wc.map some) (hR : isR.map (fun i => ws[i]?) = wr.map some) (hn : va_nd isR = true) (hdis : ∀ i ∈ isR, i ∉ isC) (hN : isN.map (fun i => (wr ++ w1)[i]?) = wn.map some) (hndN : va_nd isN = true) (hxo : xo = .inr n)
    (hex : ∀ x ∈ c.exceptionTable.toList, False) (hlk : meth.locks = false) (hc : cells + mc2 ≤ mc) (hs : slots + 6 * mc2 ≤ 6 * mc) : W p l e R s m args below meth c H locs cells slots (vx_MQ below (zXQ D xo wn A) (zXC D xo wn A) args s mc (6 * mc) A) (F0 m pc ls st) := by
  have hF := va_free (wc := wc) hD hS hA isC hC
  intro T hT X
  rcases hr T hT X with ⟨v, st₀, t, T', L, h0, X', hL, e1, e2, ⟨vv', hx1, -⟩, stp⟩ | ⟨q, st₀, t, T', L, E, ce, h0, X', hL, e1, e2, ⟨n', hx1, hE, hP1, hD1, hz, hk⟩, hce, hcv, hcl, stp⟩
  · rw [hv] at hx1; cases hx1
  · rw [hv] at hx1
    cases hx1
    rw [h0] at hz hk
    have hjoin := va_join hP hD isC isR hC hR hn hdis (H1 := t.heap) (fun q h1 h2 => hk q h1 h2) hF hP1 hD1
    have hS' : va_S A s.heap t.heap (locs ++ L) := ⟨Nat.le_trans hS.1 hz, fun q h1 h2 => by rw [hk q (Nat.lt_of_lt_of_le h1 hS.1) (fun z => h2 (hF q z))]; exact hS.2.1 q h1 h2, fun q hq => by
      rcases List.mem_append.mp hq with h | h
      · exact hS.2.2 q h
      · exact hF _ (hL q h)⟩
    have hPn : va_P D vwCl wn t.heap := by
      intro k q hk
      have h1 : (isN.map (fun i => (wr ++ w1)[i]?))[k]? = some (some q) := by rw [hN, List.getElem?_map, hk]; rfl
      rw [List.getElem?_map] at h1
      cases hi : isN[k]? with
      | none => rw [hi] at h1; cases h1
      | some i => rw [hi] at h1; exact hjoin.1 i q (Option.some.inj h1)
    have hDn := hjoin.2.sub isN hndN hN
    subst hE
    obtain ⟨t2, a1, b1⟩ := vx_out (Qc := zXQ D xo wn A) (XC := zXC D xo wn A) (l := l) (p := p) (e := e) (R := R) (args := args) (below := below) (pc := pc) (ls := ls) (rest := rest) (fun z hz => (hex z hz).elim) hlk (H := t.heap) (locs := locs ++ L) (cells := cells + mc2) (slots := slots + 6 * mc2) (q := q) hce hcv hcl (fun t' ht' _ => by
      rw [← ht'] at hPn hS'
      exact zXC_of (H := t'.heap) (locs := locs ++ L) hPn hDn hS' hxo t' (Nat.le_refl _) (fun _ _ => rfl)) hS'.2.2 hc hs T' e1 X'
    exact ⟨t2, stp.trans a1, b1⟩
end ZXA
def zoi (r : Int32 ⊕ Nat) : Option Value ⊕ Nat := match r with
  | .inl v => .inl (some (.int v))
  | .inr n => .inr n
def zol (r : Int64 ⊕ Nat) : Option Value ⊕ Nat := match r with
  | .inl v => .inl (some (.long v))
  | .inr n => .inr n
def zov (r : Unit ⊕ Nat) : Option Value ⊕ Nat := match r with
  | .inl _ => .inl none
  | .inr n => .inr n
def tx {α β : Type} (x : β ⊕ Nat) (k : β → Option α) (e : Nat → Option α) : Option α := match x with
  | .inl v => k v
  | .inr n => e n
theorem tx_l {α β : Type} {v : β} {k : β → Option α} {e : Nat → Option α} {r : α} (h : tx (Sum.inl v) k e = some r) : k v = some r := h
theorem tx_r {α β : Type} {n : Nat} {k : β → Option α} {e : Nat → Option α} {r : α} (h : tx (Sum.inr n : β ⊕ Nat) k e = some r) : e n = some r := h
theorem hdX {l : Launch} {y : MethodName} {ws ws' : List Cond} {fr lo mc maxL sz : Nat} {cc : ByteArray} {ret : Option FieldType} {D : va_G} {ca : Nat → ClassId} {av : List Value} {wd w1 : va_W} {x : Option Value ⊕ Nat} (hy : plainName y.cls = true) (hw : ws = Cond.code y cc maxL ret :: ws') (hlen : (lg_sl av).length ≤ maxL)
    (body : ∀ p e s m args below meth c A (Q : State → Prop), Q = vx_MQ below (zXQ D x w1 A) (zXC D x w1 A) args s mc (6 * mc) A → p.tables.exec = Jvm.exec → c.code = cc → meth.sig.returnType = ret → c.maxLocals = maxL → s.vm.findClass y.cls = some m.cls → (∀ w ∈ ws, w.before args s = true) → meth.locks = false → (∀ x ∈ c.exceptionTable.toList, False) → va_P D vwCl wd s.heap → va_D A wd → zK D ca s → (∀ q : Nat, s.heap.size ≤ q → A q) → va_S A s.heap s.heap [] → zP A s → ∀ ls, lv_has ls maxL (lv_args 0 av) → W p l e ({ frames := fr, cells := mc, slots := 6 * mc, locals := lo }) s m args below meth c s.heap [] 0 0 Q (F0 m 0 ls [])) : MX l y ws fr lo mc D ca av sz wd x w1 := by
  refine vx_ofW (cc := cc) (maxL := maxL) (ret := ret) hy hw ?_
  intro p e s m args below meth c s₁ B hml hex hv
  obtain ⟨rfl, ⟨hsz, hP, hK, hD⟩, hZ⟩ := hv
  subst hsz
  have hts := atoms_spec (ws := ws) B.pre
  have hl := lv_entry av (n := maxL) hlen
  rw [lg_entry_eq]
  exact body p e s m _ below meth c _ _ rfl B.exec B.bytes B.returns hml (findClass_of_methodNamed B.named) hts B.notSynchronized hex hP hD.self hK (fun q h => Or.inr h) va_S.rf hZ _ hl
section ZXB
variable {p : Program} {l : Launch} {e : Env} {R : Room} {s : State} {m : MethodId} {args : Array Value} {below : List Frame} {meth : Method} {c : Code} {H : Heap} {locs : List Loc} {cells slots mc2 mc : Nat} {Q : State → Prop} {cc : ByteArray} {pc : Nat} {ls : Array Slot} {A : Nat → Prop} {D : va_G} {ca : Nat → ClassId} {w1 wd wsC wr wn : va_W} {vv : Option Value} {own C host : String} {y : MethodName} {ws ws' Ts : List Cond} {bytes : ByteArray} {maxL nL fr lo index b : Nat} {ret : Option FieldType} {As rest st st' : List Value} {r : vw_C} {fs : List Value} {x xo : Option Value ⊕ Nat}
theorem clVX (hx : p.tables.exec = Jvm.exec) (hb : c.code = cc) (hml : c.maxLocals = nL) (hown : s.vm.findClass own = some m.cls) (hts : ∀ w ∈ Ts, w.before args s = true) (hT : GoodIn Ts (wsV own index C y ws)) (hw : ws = Cond.code y bytes maxL ret :: ws') (n : Nat)
    (hd : y.cls = C ∧ y.cls ≠ "java/lang/invoke/MethodHandle" ∧ y.cls ≠ "java/lang/invoke/VarHandle" ∧ (parseMethodDescriptor y.desc).map (fun d => d.parameters.length) = some n) (hR : fr + 1 ≤ R.frames ∧ 8 + (maxL + 11) + lo ≤ R.locals)
    (hM : MX l y ws fr lo mc2 D ca (.ref b :: As) H.size wd x w1) (hP : va_P D vwCl wsC H) (hD : va_D A wsC) (hS : va_S A s.heap H locs) (hA : ∀ q : Nat, s.heap.size ≤ q → A q) (hK : zK D ca s) (hZ : zP A s) (is : List Nat) (his : is.map (fun i => wsC[i]?) = wd.map some) (hnd : va_nd is = true)
    (q0 ci : Nat) (he : wd[q0]? = some (b, .inr (ci, fs))) (hci : vwCl[ci]? = some r) (hC : r.1 = C) (hn : As.length = n) (hsz : ls.size = nL) (hstk : st = As.reverse ++ .ref b :: rest) (hroom : (rest.map fun v => v.category).sum ≤ 8) (hcs : cells + mc2 ≤ R.cells ∧ slots + 6 * mc2 ≤ R.slots)
    (hdg : decode cc pc = .ok (.invokevirtual index, 3)) : vx_Run p l e R s m args below meth c H locs cells slots mc2 (6 * mc2) (F0 m pc ls st) rest (zXQ D x w1 (va_A wd H.size) (Value.ref b :: As).toArray) (zXC D x w1 (va_A wd H.size)) (va_A wd H.size) := by
  have hPc : va_P D vwCl wd H := by
    intro k q hk
    have h1 : (is.map (fun i => wsC[i]?))[k]? = some (some q) := by rw [his, List.getElem?_map, hk]; rfl
    rw [List.getElem?_map] at h1
    cases hi : is[k]? with
    | none => rw [hi] at h1; cases h1
    | some i => rw [hi] at h1; exact hP i q (Option.some.inj h1)
  have hDc := hD.sub is hnd his
  have hF := va_free (wc := wd) hD hS hA is his
  refine vx_runV (b := b) (As := As) (C := C) ⟨hx, hb, hml, hown, hts⟩ hM (cwV n hts hT hw rfl rfl hd hR) ⟨zX_blind, ?_, fun U hU hW => ⟨rfl, ⟨by rw [hU], by rw [hU]; exact hPc, zK_warm hK hW, hDc.weaken (fun _ _ _ _ => trivial)⟩, zP_at hZ hS hU hW hF⟩⟩ rfl hn hsz hstk (lv_room hroom) hdg hcs
  rw [← hC]
  exact va_recv hK.1 hPc hci he
theorem clSX (hx : p.tables.exec = Jvm.exec) (hb : c.code = cc) (hml : c.maxLocals = nL) (hown : s.vm.findClass own = some m.cls) (hts : ∀ w ∈ Ts, w.before args s = true) (hT : GoodIn Ts (va_wsS own index y ws)) (hw : ws = Cond.code y bytes maxL ret :: ws') (n : Nat)
    (hd : y.cls ≠ "java/lang/invoke/MethodHandle" ∧ y.cls ≠ "java/lang/invoke/VarHandle" ∧ (parseMethodDescriptor y.desc).map (fun d => d.parameters.length) = some n) (hR : fr + 1 ≤ R.frames ∧ 8 + (maxL + 11) + lo ≤ R.locals)
    (hM : MX l y ws fr lo mc2 D ca As H.size wd x w1) (hP : va_P D vwCl wsC H) (hD : va_D A wsC) (hS : va_S A s.heap H locs) (hA : ∀ q : Nat, s.heap.size ≤ q → A q) (hK : zK D ca s) (hZ : zP A s) (is : List Nat) (his : is.map (fun i => wsC[i]?) = wd.map some) (hnd : va_nd is = true)
    (hn : As.length = n) (hsz : ls.size = nL) (hstk : st = As.reverse ++ rest) (hroom : (rest.map fun v => v.category).sum ≤ 8) (hcs : cells + mc2 ≤ R.cells ∧ slots + 6 * mc2 ≤ R.slots)
    (hdg : decode cc pc = .ok (.invokestatic index, 3)) : vx_Run p l e R s m args below meth c H locs cells slots mc2 (6 * mc2) (F0 m pc ls st) rest (zXQ D x w1 (va_A wd H.size) As.toArray) (zXC D x w1 (va_A wd H.size)) (va_A wd H.size) := by
  have hPc : va_P D vwCl wd H := by
    intro k q hk
    have h1 : (is.map (fun i => wsC[i]?))[k]? = some (some q) := by rw [his, List.getElem?_map, hk]; rfl
    rw [List.getElem?_map] at h1
    cases hi : is[k]? with
    | none => rw [hi] at h1; cases h1
    | some i => rw [hi] at h1; exact hP i q (Option.some.inj h1)
  have hDc := hD.sub is hnd his
  have hF := va_free (wc := wd) hD hS hA is his
  exact vx_runS (As := As) ⟨hx, hb, hml, hown, hts⟩ hM (va_cwS n hts hT hw rfl rfl hd hR) ⟨zX_blind, fun U hU hW => ⟨rfl, ⟨by rw [hU], by rw [hU]; exact hPc, zK_warm hK hW, hDc.weaken (fun _ _ _ _ => trivial)⟩, zP_at hZ hS hU hW hF⟩⟩ rfl hn hsz hstk (lv_room hroom) hdg hcs
theorem bkX {wc ws : va_W} {a : Array Value} (hr : vx_Run p l e R s m args below meth c H locs cells slots mc2 (6 * mc2) (F0 m pc ls st) rest (zXQ D x w1 (va_A wc H.size) a) (zXC D x w1 (va_A wc H.size)) (va_A wc H.size)) (hv : x = .inl vv) (hP : va_P D vwCl ws H) (hD : va_D A ws) (hS : va_S A s.heap H locs) (hA : ∀ q : Nat, s.heap.size ≤ q → A q) (isC isR : List Nat) (hC : isC.map (fun i => ws[i]?) = wc.map some) (hR : isR.map (fun i => ws[i]?) = wr.map some) (hn : va_nd isR = true) (hdis : ∀ i ∈ isR, i ∉ isC) (hst : vv.toList ++ rest = st') (hwn : wr ++ w1 = wn) {k9 n9 : Nat} (hk9 : cells + mc2 = k9) (hn9 : slots + 6 * mc2 = n9)
    (kk : ∀ (H1 : Heap) (locs1 : List Loc), va_P D vwCl wn H1 → va_D A wn → va_S A s.heap H1 locs1 → W p l e R s m args below meth c H1 locs1 k9 n9 Q (F0 m (pc + 3) ls st')) : W p l e R s m args below meth c H locs cells slots Q (F0 m pc ls st) := by
  subst hwn; subst hk9; subst hn9
  exact runX_v hr hv hP hD hS hA isC isR hC hR hn hdis hst kk
end ZXB
