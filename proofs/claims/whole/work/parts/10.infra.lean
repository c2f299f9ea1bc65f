/-! ===== what the method walks stand on: worlds, contracts, rows that end or call ===== -/
section ZF
variable {α β σ ρ : Type}
/-- reading, writing, naming, looping: what the code is turned into -/
def rd (n : Nat) (f : Nat → Int32) (i : Int32) (k : Int32 → Option α) : Option α := if i < 0 ∨ n ≤ i.toNatClampNeg then none else k (f i.toNatClampNeg)
def wr (n : Nat) (f : Nat → Int32) (i x : Int32) (k : (Nat → Int32) → Option α) : Option α := if i < 0 ∨ n ≤ i.toNatClampNeg then none else k (upd f i.toNatClampNeg x)
def nm (e : β) (k : β → Option α) : Option α := k e
def dv (y : Int32) (k : Option α) : Option α := if y = 0 then none else k
def dvl (y : Int64) (k : Option α) : Option α := if y = 0 then none else k
def ck (c : Bool) (k : Option α) : Option α := if c = true then k else none
def zr (v : Int32) (k : Option α) : Option α := if v = 0 ∨ v = 1 then k else none
def lp (body : σ → Option (σ ⊕ ρ)) : Nat → σ → Option ρ
  | 0, _ => none
  | n + 1, s => (body s).bind (fun x => match x with
    | .inl s' => lp body n s'
    | .inr r => some r)
def fuel : Nat := 1048576
theorem rd_s {n : Nat} {f : Nat → Int32} {i : Int32} {k : Int32 → Option α} {r : α} (h : rd n f i k = some r) : vp_in i n ∧ ∃ v, v = f i.toNatClampNeg ∧ k v = some r := by
  unfold rd at h
  by_cases c : i < 0 ∨ n ≤ i.toNatClampNeg
  · rw [if_pos c] at h; cases h
  · rw [if_neg c] at h; exact ⟨c, _, rfl, h⟩
theorem wr_s {n : Nat} {f : Nat → Int32} {i x : Int32} {k : (Nat → Int32) → Option α} {r : α} (h : wr n f i x k = some r) : vp_in i n ∧ ∃ g, g = upd f i.toNatClampNeg x ∧ k g = some r := by
  unfold wr at h
  by_cases c : i < 0 ∨ n ≤ i.toNatClampNeg
  · rw [if_pos c] at h; cases h
  · rw [if_neg c] at h; exact ⟨c, _, rfl, h⟩
theorem nm_s {e : β} {k : β → Option α} {r : α} (h : nm e k = some r) : ∃ x, x = e ∧ k x = some r := ⟨e, rfl, h⟩
theorem dv_s {y : Int32} {k : Option α} {r : α} (h : dv y k = some r) : ¬ y = 0 ∧ k = some r := by
  unfold dv at h
  by_cases c : y = 0
  · rw [if_pos c] at h; cases h
  · rw [if_neg c] at h; exact ⟨c, h⟩
theorem dvl_s {y : Int64} {k : Option α} {r : α} (h : dvl y k = some r) : ¬ y = 0 ∧ k = some r := by
  unfold dvl at h
  by_cases c : y = 0
  · rw [if_pos c] at h; cases h
  · rw [if_neg c] at h; exact ⟨c, h⟩
theorem ck_s {c : Bool} {k : Option α} {r : α} (h : ck c k = some r) : c = true ∧ k = some r := by
  unfold ck at h
  by_cases q : c = true
  · rw [if_pos q] at h; exact ⟨q, h⟩
  · rw [if_neg q] at h; cases h
theorem zr_s {v : Int32} {k : Option α} {r : α} (h : zr v k = some r) : narrow .boolean (.int v) = .int v ∧ k = some r := by
  unfold zr at h
  by_cases c : v = 0 ∨ v = 1
  · rw [if_pos c] at h
    exact ⟨by rcases c with rfl | rfl <;> rfl, h⟩
  · rw [if_neg c] at h; cases h
theorem ip_s {c : Prop} {i : Decidable c} {a b : Option α} {r : α} (h : @ite _ c i a b = some r) (hc : c) : a = some r := by rwa [if_pos hc] at h
theorem in_s {c : Prop} {i : Decidable c} {a b : Option α} {r : α} (h : @ite _ c i a b = some r) (hc : ¬ c) : b = some r := by rwa [if_neg hc] at h
theorem bd_s {o : Option β} {k : β → Option α} {r : α} (h : o.bind k = some r) : ∃ x, o = some x ∧ k x = some r := by
  cases o with
  | none => cases h
  | some x => exact ⟨x, rfl, h⟩
theorem lp_0 {body : σ → Option (σ ⊕ ρ)} {s : σ} {r : ρ} (h : lp body 0 s = some r) : False := nomatch h
theorem lp_s {body : σ → Option (σ ⊕ ρ)} {n : Nat} {s : σ} {r : ρ} (h : lp body (n + 1) s = some r) : ∃ q, body s = some q ∧ ((∃ s', q = .inl s' ∧ lp body n s' = some r) ∨ q = .inr r) := by
  obtain ⟨q, h1, h2⟩ := bd_s h
  refine ⟨q, h1, ?_⟩
  cases q with
  | inl s' => exact Or.inl ⟨s', rfl, h2⟩
  | inr x => cases h2; exact Or.inr rfl
theorem lp_l {body : σ → Option (σ ⊕ ρ)} {n : Nat} {x : σ} {r : ρ} {q : σ ⊕ ρ} (hq : (∃ s', q = .inl s' ∧ lp body n s' = some r) ∨ q = .inr r) (h : some (Sum.inl x : σ ⊕ ρ) = some q) : lp body n x = some r := by
  cases h
  rcases hq with ⟨s', h1, h2⟩ | h1
  · cases h1; exact h2
  · cases h1
theorem lp_r {body : σ → Option (σ ⊕ ρ)} {n : Nat} {r y : ρ} {q : σ ⊕ ρ} (hq : (∃ s', q = .inl s' ∧ lp body n s' = some r) ∨ q = .inr r) (h : some (Sum.inr y : σ ⊕ ρ) = some q) : some y = some r := by
  cases h
  rcases hq with ⟨s', h1, h2⟩ | h1
  · cases h1
  · cases h1; rfl
/-- a loop's end: an invariant, a measure -/
theorem lp_inv (body : σ → Option (σ ⊕ ρ)) (I : σ → Prop) (P : ρ → Prop) (μ : σ → Nat) (hs : ∀ s, I s → (∃ s', body s = some (.inl s') ∧ I s' ∧ μ s' < μ s) ∨ (∃ r, body s = some (.inr r) ∧ P r)) : ∀ (n : Nat) (s : σ), I s → μ s < n → ∃ r, lp body n s = some r ∧ P r := by
  intro n
  induction n with
  | zero => intro s _ h; exact absurd h (Nat.not_lt_zero _)
  | succ n ih =>
    intro s hi hm
    rcases hs s hi with ⟨s', h1, h2, h3⟩ | ⟨r, h1, h2⟩
    · obtain ⟨r, h4, h5⟩ := ih s' h2 (by omega)
      exact ⟨r, by simp only [lp, h1, Option.bind_some]; exact h4, h5⟩
    · exact ⟨r, by simp only [lp, h1, Option.bind_some], h2⟩
end ZF
/-- the launch's arrays' classes; the six links to the nest's host -/
def zT (ca : Nat → ClassId) : List (ClassId × FieldType) := [(ca 0, .int), (ca 1, .long), (ca 2, .object "SegmentTimes$State"), (ca 3, .object "SegmentTimes$Store")]
def zN (U : State) : Prop := va_Nw (.methodLinkNest RX6 79 yX7_mixed "SegmentTimes") U ∧ va_Nw (.methodLinkNest RX3 57 yX7_mixed "SegmentTimes") U ∧ va_Nw (.methodLinkNest RX1 58 yX7_mixed "SegmentTimes") U ∧ va_Nw (.methodLinkNest RX5 44 yX7_isBetween "SegmentTimes") U ∧ va_Nw (.methodLinkNest RX4 50 yX7_isBetween "SegmentTimes") U ∧ va_Nw (.methodLinkNest RX0 9 yX7_isBetween "SegmentTimes") U
def zK (D : va_G) (ca : Nat → ClassId) (U : State) : Prop := va_K D vwCl (zT ca) U ∧ zN U
theorem zK_warm {D : va_G} {ca : Nat → ClassId} {s U : State} (h : zK D ca s) (hW : s.WarmedH U.vm) : zK D ca U := ⟨va_K.moved hW.alike h.1, va_Nw.warmM hW h.2.1, va_Nw.warmM hW h.2.2.1, va_Nw.warmM hW h.2.2.2.1, va_Nw.warmM hW h.2.2.2.2.1, va_Nw.warmM hW h.2.2.2.2.2.1, va_Nw.warmM hW h.2.2.2.2.2.2⟩
theorem zK_calling {D : va_G} {ca : Nat → ClassId} {U : State} {g : JFrame} {mk : MethodId} {a : Array Value} (h : zK D ca U) : zK D ca (U.calling g mk a) := ⟨va_K.moved (u := U) (U := U.calling g mk a) (Vm.Alike.refl U.vm) h.1, va_Nw.same rfl rfl h.2.1, va_Nw.same rfl rfl h.2.2.1, va_Nw.same rfl rfl h.2.2.2.1, va_Nw.same rfl rfl h.2.2.2.2.1, va_Nw.same rfl rfl h.2.2.2.2.2.1, va_Nw.same rfl rfl h.2.2.2.2.2.2⟩
/-- a reader's start: its cells; what it leaves: the heap as it was -/
def zR (D : va_G) (ca : Nat → ClassId) (ws : va_W) : State → Prop := fun U => va_P D vwCl ws U.heap ∧ zK D ca U
def zQ (vv : Option Value) : Array Value → State → Outcome → State → Prop := fun _ st o t => o = .returned vv ∧ t.heap = st.heap
/-- a writer's start and end -/
def zM (D : va_G) (ca : Nat → ClassId) (sz : Nat) (ws : va_W) : State → Prop := fun U => U.heap.size = sz ∧ va_P D vwCl ws U.heap ∧ zK D ca U ∧ va_D (fun _ => True) ws
def zW (D : va_G) (vv : Option Value) (w1 : va_W) (A : Nat → Prop) : Array Value → State → Outcome → State → Prop := fun _ st o t => o = .returned vv ∧ va_P D vwCl w1 t.heap ∧ va_D A w1 ∧ va_F A st t
theorem zR_blind {D : va_G} {ca : Nat → ClassId} {ws : va_W} {av : List Value} : FrameBlind (va_Pc av (zR D ca ws)) := fun _ _ _ _ h => ⟨h.1, h.2.1, zK_calling h.2.2⟩
theorem zM_blind {D : va_G} {ca : Nat → ClassId} {ws : va_W} {sz : Nat} {av : List Value} : FrameBlind (va_Pc av (zM D ca sz ws)) := fun _ _ _ _ h => ⟨h.1, h.2.1, h.2.2.1, zK_calling h.2.2.2.1, h.2.2.2.2⟩
abbrev zF : Addr → Prop := fun _ => False
/-- a reader's contract -/
abbrev MR (l : Launch) (y : MethodName) (ws : List Cond) (fr lo : Nat) (D : va_G) (ca : Nat → ClassId) (av : List Value) (wd : va_W) (vv : Option Value) : Prop := Met l y ws ({ frames := fr, cells := 0, slots := 0, locals := lo }) (va_Pc av (zR D ca wd)) (zQ vv) 0 0 zF
/-- a writer's contract -/
abbrev MW (l : Launch) (y : MethodName) (ws : List Cond) (fr lo : Nat) (D : va_G) (ca : Nat → ClassId) (av : List Value) (sz : Nat) (wd : va_W) (vv : Option Value) (w1 : va_W) : Prop := Met l y ws ({ frames := fr, cells := 0, slots := 0, locals := lo }) (va_Pc av (zM D ca sz wd)) (zW D vv w1 (va_A wd sz)) 0 0 (va_A wd sz)
theorem metF {l : Launch} {y : MethodName} {ws ws' : List Cond} {rm : Room} {Pc : Array Value → State → Prop} {Qc : Array Value → State → Outcome → State → Prop} {mc ms : Nat} {free : Addr → Prop} {cc : ByteArray} {maxL : Nat} {ret : Option FieldType}
    (hy : plainFor y = true) (hw : ws = Cond.code y cc maxL ret :: ws')
    (body : ∀ p e s m args below meth c s₁, BodyLoose p l y (headSpec ws rm) cc maxL ret e s m args below meth c s₁ → c.maxLocals = maxL → Pc args s →
      W p l e (headSpec ws rm).room s m args below meth c s.heap [] 0 0 (MQ below Qc args s mc ms free) (entryFrame m args maxL)) : Met l y ws rm Pc Qc mc ms free := by
  refine MetFree.of_bodySF (code := cc) (maxLocals := maxL) (ret := ret) hy ?_ ?_
  · intro args s m h hn
    obtain ⟨meth, c, h1, h2, h3, h4, h5, h6, -, -⟩ := Cond.code_spec hn (atoms_spec (ws := ws) h _ (by rw [hw]; exact List.mem_cons_self))
    exact ⟨meth, c, h1, h2, h3, h4, h5, h6⟩
  · intro p e s m args below meth c s₁ B hml hP _
    have hh0 : s₁.heap = s.heap := by rw [B.state]; rfl
    obtain ⟨t, a1, o, b1, b2, b3⟩ := body p e s m args below meth c s₁ B hml hP s₁ hh0 (Stand.of_body B)
    exact ⟨t, o, a1, b1, b2, ⟨b3.1, b3.2⟩⟩
theorem hdR {l : Launch} {y : MethodName} {ws ws' : List Cond} {fr lo maxL : Nat} {cc : ByteArray} {ret : Option FieldType} {D : va_G} {ca : Nat → ClassId} {av : List Value} {wd : va_W} {vv : Option Value} (hy : plainFor y = true) (hw : ws = Cond.code y cc maxL ret :: ws') (hlen : (lg_sl av).length ≤ maxL)
    (body : ∀ p e s m args below meth c, p.tables.exec = Jvm.exec → c.code = cc → meth.sig.returnType = ret → c.maxLocals = maxL → s.vm.findClass y.cls = some m.cls → (∀ w ∈ ws, w.before args s = true) → meth.locks = false → va_P D vwCl wd s.heap → zK D ca s → ∀ ls, lv_has ls maxL (lv_args 0 av) → W p l e ({ frames := fr, cells := 0, slots := 0, locals := lo }) s m args below meth c s.heap [] 0 0 (MQ below (zQ vv) args s 0 0 zF) (F0 m 0 ls [])) : MR l y ws fr lo D ca av wd vv := by
  refine metF (cc := cc) (maxL := maxL) (ret := ret) hy hw ?_
  intro p e s m args below meth c s₁ B hml hv
  obtain ⟨rfl, hP, hK⟩ := hv
  have hts := atoms_spec (ws := ws) B.pre
  have hl := lv_entry av (n := maxL) hlen
  rw [lg_entry_eq]
  exact body p e s m _ below meth c B.exec B.bytes B.returns hml (findClass_of_methodNamed B.named) hts B.notSynchronized hP hK _ hl
theorem hdW {l : Launch} {y : MethodName} {ws ws' : List Cond} {fr lo maxL sz : Nat} {cc : ByteArray} {ret : Option FieldType} {D : va_G} {ca : Nat → ClassId} {av : List Value} {wd w1 : va_W} {vv : Option Value} (hy : plainName y.cls = true) (hw : ws = Cond.code y cc maxL ret :: ws') (hlen : (lg_sl av).length ≤ maxL)
    (body : ∀ p e s m args below meth c A, p.tables.exec = Jvm.exec → c.code = cc → meth.sig.returnType = ret → c.maxLocals = maxL → s.vm.findClass y.cls = some m.cls → (∀ w ∈ ws, w.before args s = true) → meth.locks = false → va_P D vwCl wd s.heap → va_D A wd → zK D ca s → (∀ q : Nat, s.heap.size ≤ q → A q) → va_S A s.heap s.heap [] → ∀ ls, lv_has ls maxL (lv_args 0 av) → W p l e ({ frames := fr, cells := 0, slots := 0, locals := lo }) s m args below meth c s.heap [] 0 0 (MQ below (zW D vv w1 A) args s 0 0 A) (F0 m 0 ls [])) : MW l y ws fr lo D ca av sz wd vv w1 := by
  refine Met.ofW (cc := cc) (maxL := maxL) (ret := ret) hy hw ?_
  intro p e s m args below meth c s₁ B hml hv
  obtain ⟨rfl, hsz, hP, hK, hD⟩ := hv
  subst hsz
  have hts := atoms_spec (ws := ws) B.pre
  have hl := lv_entry av (n := maxL) hlen
  rw [lg_entry_eq]
  exact body p e s m _ below meth c _ B.exec B.bytes B.returns hml (findClass_of_methodNamed B.named) hts B.notSynchronized hP hD.self hK (fun q h => Or.inr h) va_S.rf _ hl
section ZW
variable {p : Program} {l : Launch} {e : Env} {R : Room} {s : State} {m : MethodId} {args : Array Value} {below : List Frame} {meth : Method} {c : Code} {H : Heap} {locs : List Loc} {cells slots : Nat} {Q : State → Prop} {cc : ByteArray} {pc : Nat} {ls : Array Slot} {A : Nat → Prop} {D : va_G} {ca : Nat → ClassId} {w1 : va_W} {vv : Option Value}
theorem top_i {x y : Int32} {rest : List Value} (h : y = x) (k : W p l e R s m args below meth c H locs cells slots Q (F0 m pc ls (.int y :: rest))) : W p l e R s m args below meth c H locs cells slots Q (F0 m pc ls (.int x :: rest)) := h ▸ k
theorem top_l {x y : Int64} {rest : List Value} (h : y = x) (k : W p l e R s m args below meth c H locs cells slots Q (F0 m pc ls (.long y :: rest))) : W p l e R s m args below meth c H locs cells slots Q (F0 m pc ls (.long x :: rest)) := h ▸ k
theorem rtRi {v : Int32} (hx : p.tables.exec = Jvm.exec) (hb : c.code = cc) (hr : meth.sig.returnType = some .int) (hlk : meth.locks = false) (hv : some (Value.int v) = vv) (hdg : decode cc pc = .ok (.ireturn, 1)) : W p l e R s m args below meth c s.heap [] cells slots (MQ below (zQ vv) args s cells slots zF) (F0 m pc ls [.int v]) :=
  W.iret hx hb hr (fun t ht _ => ⟨by rw [hv], ht⟩) (fun q hq => nomatch hq) hdg hlk
theorem rtRz {v : Int32} (hx : p.tables.exec = Jvm.exec) (hb : c.code = cc) (hr : meth.sig.returnType = some .boolean) (hlk : meth.locks = false) (hn : narrow .boolean (.int v) = .int v) (hv : some (Value.int v) = vv) (hdg : decode cc pc = .ok (.ireturn, 1)) : W p l e R s m args below meth c s.heap [] cells slots (MQ below (zQ vv) args s cells slots zF) (F0 m pc ls [.int v]) :=
  W.zret hx hb hr hn (fun t ht _ => ⟨by rw [hv], ht⟩) (fun q hq => nomatch hq) hdg hlk
theorem rtRl {v : Int64} (hx : p.tables.exec = Jvm.exec) (hb : c.code = cc) (hr : meth.sig.returnType = some .long) (hlk : meth.locks = false) (hv : some (Value.long v) = vv) (hdg : decode cc pc = .ok (.lreturn, 1)) : W p l e R s m args below meth c s.heap [] cells slots (MQ below (zQ vv) args s cells slots zF) (F0 m pc ls [.long v]) :=
  W.lret hx hb hr (fun t ht _ => ⟨by rw [hv], ht⟩) (fun q hq => nomatch hq) hdg hlk
theorem rtWi {v : Int32} (hx : p.tables.exec = Jvm.exec) (hb : c.code = cc) (hr : meth.sig.returnType = some .int) (hlk : meth.locks = false) (hP : va_P D vwCl w1 H) (hD : va_D A w1) (hS : va_S A s.heap H locs) (hv : some (Value.int v) = vv) (hdg : decode cc pc = .ok (.ireturn, 1)) : W p l e R s m args below meth c H locs cells slots (MQ below (zW D vv w1 A) args s cells slots A) (F0 m pc ls [.int v]) :=
  W.iret hx hb hr (fun t ht _ => ⟨by rw [hv], by rw [ht]; exact hP, hD, hS.F ht⟩) hS.2.2 hdg hlk
theorem rtWz {v : Int32} (hx : p.tables.exec = Jvm.exec) (hb : c.code = cc) (hr : meth.sig.returnType = some .boolean) (hlk : meth.locks = false) (hn : narrow .boolean (.int v) = .int v) (hP : va_P D vwCl w1 H) (hD : va_D A w1) (hS : va_S A s.heap H locs) (hv : some (Value.int v) = vv) (hdg : decode cc pc = .ok (.ireturn, 1)) : W p l e R s m args below meth c H locs cells slots (MQ below (zW D vv w1 A) args s cells slots A) (F0 m pc ls [.int v]) :=
  W.zret hx hb hr hn (fun t ht _ => ⟨by rw [hv], by rw [ht]; exact hP, hD, hS.F ht⟩) hS.2.2 hdg hlk
theorem rtWl {v : Int64} (hx : p.tables.exec = Jvm.exec) (hb : c.code = cc) (hr : meth.sig.returnType = some .long) (hlk : meth.locks = false) (hP : va_P D vwCl w1 H) (hD : va_D A w1) (hS : va_S A s.heap H locs) (hv : some (Value.long v) = vv) (hdg : decode cc pc = .ok (.lreturn, 1)) : W p l e R s m args below meth c H locs cells slots (MQ below (zW D vv w1 A) args s cells slots A) (F0 m pc ls [.long v]) :=
  W.lret hx hb hr (fun t ht _ => ⟨by rw [hv], by rw [ht]; exact hP, hD, hS.F ht⟩) hS.2.2 hdg hlk
theorem rtWv (hx : p.tables.exec = Jvm.exec) (hb : c.code = cc) (hr : meth.sig.returnType = none) (hlk : meth.locks = false) (hP : va_P D vwCl w1 H) (hD : va_D A w1) (hS : va_S A s.heap H locs) (hv : none = vv) (hdg : decode cc pc = .ok (.return_, 1)) : W p l e R s m args below meth c H locs cells slots (MQ below (zW D vv w1 A) args s cells slots A) (F0 m pc ls []) :=
  W.vret hx hb hr (fun t ht _ => ⟨by rw [← hv], by rw [ht]; exact hP, hD, hS.F ht⟩) hS.2.2 hdg hlk
/-- a reader is called -/
theorem runR {a : Array Value} {st rest st' : List Value} (hr : va_Run p l e R s m args below meth c H locs cells slots 0 0 (F0 m pc ls st) rest (zQ vv a) zF) (hst : vv.toList ++ rest = st') (kk : W p l e R s m args below meth c H locs cells slots Q (F0 m (pc + 3) ls st')) : W p l e R s m args below meth c H locs cells slots Q (F0 m pc ls st) := by
  intro T hT X
  obtain ⟨v, st₀, t, T', L, h0, X', hL, e1, e2, ⟨hv, hh⟩, stp⟩ := hr T hT X
  cases hv
  subst hst
  obtain ⟨t2, a1, b1⟩ := kk T' (by rw [e1, hh, h0]) (Stand.forget X' (fun q h => (hL q h).elim))
  exact ⟨t2, stp t2 a1, b1⟩
/-- a writer is called -/
theorem runW {a : Array Value} {st rest st' : List Value} {mc ms : Nat} {ws wc wr : va_W} (hr : va_Run p l e R s m args below meth c H locs cells slots mc ms (F0 m pc ls st) rest (zW D vv w1 (va_A wc H.size) a) (va_A wc H.size)) (hP : va_P D vwCl ws H) (hD : va_D A ws) (hS : va_S A s.heap H locs) (hA : ∀ q : Nat, s.heap.size ≤ q → A q) (isC isR : List Nat) (hC : isC.map (fun i => ws[i]?) = wc.map some) (hR : isR.map (fun i => ws[i]?) = wr.map some) (hn : va_nd isR = true) (hdis : ∀ i ∈ isR, i ∉ isC) (hst : vv.toList ++ rest = st')
    (kk : ∀ (H1 : Heap) (locs1 : List Loc), va_P D vwCl (wr ++ w1) H1 → va_D A (wr ++ w1) → va_S A s.heap H1 locs1 → W p l e R s m args below meth c H1 locs1 (cells + mc) (slots + ms) Q (F0 m (pc + 3) ls st')) : W p l e R s m args below meth c H locs cells slots Q (F0 m pc ls st) := by
  have hF := va_free (wc := wc) hD hS hA isC hC
  intro T hT X
  obtain ⟨v, st₀, t, T', L, h0, X', hL, e1, e2, ⟨hv, hP1, hD1, hz, hk⟩, stp⟩ := hr T hT X
  cases hv
  subst hst
  rw [h0] at hz hk
  have hjoin := va_join hP hD isC isR hC hR hn hdis (H1 := t.heap) (fun q h1 h2 => hk q h1 h2) hF hP1 hD1
  have hS' : va_S A s.heap t.heap (locs ++ L) := ⟨Nat.le_trans hS.1 hz, fun q h1 h2 => by rw [hk q (Nat.lt_of_lt_of_le h1 hS.1) (fun z => h2 (hF q z))]; exact hS.2.1 q h1 h2, fun q hq => by
    rcases List.mem_append.mp hq with h | h
    · exact hS.2.2 q h
    · exact hF _ (hL q h)⟩
  rw [← e1] at hjoin hS'
  obtain ⟨t2, a1, b1⟩ := kk T'.heap (locs ++ L) hjoin.1 hjoin.2 hS' T' rfl X'
  exact ⟨t2, stp t2 a1, b1⟩
end ZW
section ZC
variable {p : Program} {l : Launch} {e : Env} {R : Room} {s : State} {m : MethodId} {args : Array Value} {below : List Frame} {meth : Method} {c : Code} {H : Heap} {locs : List Loc} {cells slots : Nat} {Q : State → Prop} {cc : ByteArray} {pc : Nat} {ls : Array Slot} {A : Nat → Prop} {D : va_G} {ca : Nat → ClassId} {w1 wd wsC wr wn : va_W} {vv : Option Value} {own C host : String} {y : MethodName} {ws ws' Ts : List Cond} {bytes : ByteArray} {maxL nL fr lo index b : Nat} {ret : Option FieldType} {As rest st st' : List Value} {r : vw_C} {fs : List Value}
/-- a virtual call of a reader -/
theorem clVR (hx : p.tables.exec = Jvm.exec) (hb : c.code = cc) (hml : c.maxLocals = nL) (hown : s.vm.findClass own = some m.cls) (hts : ∀ w ∈ Ts, w.before args s = true) (hT : GoodIn Ts (wsV own index C y ws)) (hw : ws = Cond.code y bytes maxL ret :: ws') (n : Nat)
    (hd : y.cls = C ∧ y.cls ≠ "java/lang/invoke/MethodHandle" ∧ y.cls ≠ "java/lang/invoke/VarHandle" ∧ (parseMethodDescriptor y.desc).map (fun d => d.parameters.length) = some n) (hR : fr + 1 ≤ R.frames ∧ 8 + (maxL + 11) + lo ≤ R.locals)
    (hM : MR l y ws fr lo D ca (.ref b :: As) wd vv) (hP : va_P D vwCl wsC H) (hK : zK D ca s) (is : List Nat) (his : is.filterMap (fun i => wsC[i]?) = wd) (q0 ci : Nat) (he : wd[q0]? = some (b, .inr (ci, fs))) (hci : vwCl[ci]? = some r) (hC : r.1 = C) (hn : As.length = n) (hsz : ls.size = nL) (hstk : st = As.reverse ++ .ref b :: rest) (hroom : (rest.map fun v => v.category).sum ≤ 8) (hcs : cells + 0 ≤ R.cells ∧ slots + 0 ≤ R.slots)
    (hdg : decode cc pc = .ok (.invokevirtual index, 3)) (hst : vv.toList ++ rest = st') (kk : W p l e R s m args below meth c H locs cells slots Q (F0 m (pc + 3) ls st')) : W p l e R s m args below meth c H locs cells slots Q (F0 m pc ls st) := by
  have hPc := hP.sub is his
  refine runR (va_runV (b := b) (As := As) (C := C) ⟨hx, hb, hml, hown, hts⟩ hM (cwV n hts hT hw rfl rfl hd hR) ⟨zR_blind, ?_, fun U hU hW => ⟨rfl, by rw [hU]; exact hPc, zK_warm hK hW⟩⟩ rfl hn hsz hstk (lv_room hroom) hdg hcs) hst kk
  rw [← hC]
  exact va_recv hK.1 hPc hci he
/-- a static call of a reader -/
theorem clSR (hx : p.tables.exec = Jvm.exec) (hb : c.code = cc) (hml : c.maxLocals = nL) (hown : s.vm.findClass own = some m.cls) (hts : ∀ w ∈ Ts, w.before args s = true) (hT : GoodIn Ts (va_wsS own index y ws)) (hw : ws = Cond.code y bytes maxL ret :: ws') (n : Nat)
    (hd : y.cls ≠ "java/lang/invoke/MethodHandle" ∧ y.cls ≠ "java/lang/invoke/VarHandle" ∧ (parseMethodDescriptor y.desc).map (fun d => d.parameters.length) = some n) (hR : fr + 1 ≤ R.frames ∧ 8 + (maxL + 11) + lo ≤ R.locals)
    (hM : MR l y ws fr lo D ca As wd vv) (hP : va_P D vwCl wsC H) (hK : zK D ca s) (is : List Nat) (his : is.filterMap (fun i => wsC[i]?) = wd) (hn : As.length = n) (hsz : ls.size = nL) (hstk : st = As.reverse ++ rest) (hroom : (rest.map fun v => v.category).sum ≤ 8) (hcs : cells + 0 ≤ R.cells ∧ slots + 0 ≤ R.slots)
    (hdg : decode cc pc = .ok (.invokestatic index, 3)) (hst : vv.toList ++ rest = st') (kk : W p l e R s m args below meth c H locs cells slots Q (F0 m (pc + 3) ls st')) : W p l e R s m args below meth c H locs cells slots Q (F0 m pc ls st) := by
  have hPc := hP.sub is his
  exact runR (va_runS (As := As) ⟨hx, hb, hml, hown, hts⟩ hM (va_cwS n hts hT hw rfl rfl hd hR) ⟨zR_blind, fun U hU hW => ⟨rfl, by rw [hU]; exact hPc, zK_warm hK hW⟩⟩ rfl hn hsz hstk (lv_room hroom) hdg hcs) hst kk
/-- a static call of a private reader of the nest's host -/
theorem clNR (hx : p.tables.exec = Jvm.exec) (hb : c.code = cc) (hml : c.maxLocals = nL) (hown : s.vm.findClass own = some m.cls) (hts : ∀ w ∈ Ts, w.before args s = true) (hT : GoodIn Ts ws) (hw : ws = Cond.code y bytes maxL ret :: ws') (n : Nat)
    (hd : y.cls ≠ "java/lang/invoke/MethodHandle" ∧ y.cls ≠ "java/lang/invoke/VarHandle" ∧ (parseMethodDescriptor y.desc).map (fun d => d.parameters.length) = some n) (hR : fr + 1 ≤ R.frames ∧ 8 + (maxL + 11) + lo ≤ R.locals) (hl : va_Nw (.methodLinkNest own index y host) s) (hini : Cond.initialized y.cls ∈ Ts) (hstt : Cond.static y ∈ Ts)
    (hM : MR l y ws fr lo D ca As wd vv) (hP : va_P D vwCl wsC H) (hK : zK D ca s) (is : List Nat) (his : is.filterMap (fun i => wsC[i]?) = wd) (hn : As.length = n) (hsz : ls.size = nL) (hstk : st = As.reverse ++ rest) (hroom : (rest.map fun v => v.category).sum ≤ 8) (hcs : cells + 0 ≤ R.cells ∧ slots + 0 ≤ R.slots)
    (hdg : decode cc pc = .ok (.invokestatic index, 3)) (hst : vv.toList ++ rest = st') (kk : W p l e R s m args below meth c H locs cells slots Q (F0 m (pc + 3) ls st')) : W p l e R s m args below meth c H locs cells slots Q (F0 m pc ls st) := by
  have hPc := hP.sub is his
  exact runR (va_runSN (As := As) (host := host) ⟨hx, hb, hml, hown, hts⟩ hM ⟨va_cnB n hts hT hw rfl rfl hl (hts _ hini) hd hR, hts _ hstt, trivial⟩ ⟨zR_blind, fun U hU hW => ⟨rfl, by rw [hU]; exact hPc, zK_warm hK hW⟩⟩ rfl hn hsz hstk (lv_room hroom) hdg hcs) hst kk
/-- a virtual call of a writer -/
theorem clVW (hx : p.tables.exec = Jvm.exec) (hb : c.code = cc) (hml : c.maxLocals = nL) (hown : s.vm.findClass own = some m.cls) (hts : ∀ w ∈ Ts, w.before args s = true) (hT : GoodIn Ts (wsV own index C y ws)) (hw : ws = Cond.code y bytes maxL ret :: ws') (n : Nat)
    (hd : y.cls = C ∧ y.cls ≠ "java/lang/invoke/MethodHandle" ∧ y.cls ≠ "java/lang/invoke/VarHandle" ∧ (parseMethodDescriptor y.desc).map (fun d => d.parameters.length) = some n) (hR : fr + 1 ≤ R.frames ∧ 8 + (maxL + 11) + lo ≤ R.locals)
    (hM : MW l y ws fr lo D ca (.ref b :: As) H.size wd vv w1) (hP : va_P D vwCl wsC H) (hD : va_D A wsC) (hS : va_S A s.heap H locs) (hA : ∀ q : Nat, s.heap.size ≤ q → A q) (hK : zK D ca s) (is isR : List Nat) (his : is.map (fun i => wsC[i]?) = wd.map some) (hnd : va_nd is = true) (hisR : isR.map (fun i => wsC[i]?) = wr.map some) (hndR : va_nd isR = true) (hdis : ∀ i ∈ isR, i ∉ is)
    (q0 ci : Nat) (he : wd[q0]? = some (b, .inr (ci, fs))) (hci : vwCl[ci]? = some r) (hC : r.1 = C) (hn : As.length = n) (hsz : ls.size = nL) (hstk : st = As.reverse ++ .ref b :: rest) (hroom : (rest.map fun v => v.category).sum ≤ 8) (hcs : cells + 0 ≤ R.cells ∧ slots + 0 ≤ R.slots)
    (hdg : decode cc pc = .ok (.invokevirtual index, 3)) (hst : vv.toList ++ rest = st') (hwn : wr ++ w1 = wn) (kk : ∀ (H1 : Heap) (locs1 : List Loc), va_P D vwCl wn H1 → va_D A wn → va_S A s.heap H1 locs1 → W p l e R s m args below meth c H1 locs1 cells slots Q (F0 m (pc + 3) ls st')) : W p l e R s m args below meth c H locs cells slots Q (F0 m pc ls st) := by
  have hPc : va_P D vwCl wd H := by
    intro k q hk
    have h1 : (is.map (fun i => wsC[i]?))[k]? = some (some q) := by rw [his, List.getElem?_map, hk]; rfl
    rw [List.getElem?_map] at h1
    cases hi : is[k]? with
    | none => rw [hi] at h1; cases h1
    | some i => rw [hi] at h1; exact hP i q (Option.some.inj h1)
  have hDc := hD.sub is hnd his
  subst hwn
  refine runW (va_runV (b := b) (As := As) (C := C) ⟨hx, hb, hml, hown, hts⟩ hM (cwV n hts hT hw rfl rfl hd hR) ⟨zM_blind, ?_, fun U hU hW => ⟨rfl, by rw [hU], by rw [hU]; exact hPc, zK_warm hK hW, hDc.weaken (fun _ _ _ _ => trivial)⟩⟩ rfl hn hsz hstk (lv_room hroom) hdg hcs) hP hD hS hA is isR his hisR hndR hdis hst kk
  rw [← hC]
  exact va_recv hK.1 hPc hci he
variable {tys : List (ClassId × FieldType)} {wsA : va_W} {a : Nat}
/-- storing, with the new world as it is to read -/
theorem ptI (hx : p.tables.exec = Jvm.exec) (hb : c.code = cc) {own ref C : String} {T : u_T} {N ci index : Nat} {Ts : List Cond} (hts : ∀ w ∈ Ts, w.before args s = true) (hin : ∀ w ∈ u_ws C T N, w ∈ Ts) (ty0 : Nat → FieldType) (hty : ∀ k, k < N → parseFieldDescriptor (T k).2.2.1 = some (ty0 k)) (hnm : ∀ a, a < N → ∀ b, b < N → a ≠ b → (T a).2.1 ≠ (T b).2.1) (hown : s.vm.findClass own = some m.cls) (hK : zK D ca s) (hP : va_P D vwCl wsC H) (hD : va_D A wsC) (hS0 : va_S A s.heap H locs) (q0 : Nat) {fs : List Value} (he : wsC[q0]? = some (a, .inr (ci, fs))) (hc : vwCl[ci]? = some (C, T, N)) (k : Nat) (hk : k < N) (hlink : Cond.fieldLink own index ref (T k).2.1 (T k).2.2.1 ∈ Ts) (href : (T k).1 = ref) (hfin : (T k).2.2.2 = false) {ty : FieldType} {v : Value} (hd : parseFieldDescriptor (T k).2.2.1 = some ty) (hn : narrow ty v = v) (hfit : fits ty v = true) (hl : k < fs.length) (hwn : wsC.set q0 (a, .inr (ci, fs.set k v)) = wn)
    (hdg : decode cc pc = .ok (.putfield index, 3)) (kk : ∀ (H1 : Heap) (locs1 : List Loc), va_P D vwCl wn H1 → va_D A wn → va_S A s.heap H1 locs1 → W p l e R s m args below meth c H1 locs1 cells slots Q (F0 m (pc + 3) ls rest)) : W p l e R s m args below meth c H locs cells slots Q (F0 m pc ls (v :: .ref a :: rest)) := by
  subst hwn; subst href
  exact va_put hx hb hts hin ty0 hty hnm hown hK.1 hP hD hS0 q0 he hc k hk (hts _ hlink) (fun _ h => h) hfin hd hn hfit hl hdg kk
theorem gtF (hx : p.tables.exec = Jvm.exec) (hb : c.code = cc) {own ref C : String} {T : u_T} {N ci index : Nat} {Ts : List Cond} (hts : ∀ w ∈ Ts, w.before args s = true) (hin : ∀ w ∈ u_ws C T N, w ∈ Ts) (hown : s.vm.findClass own = some m.cls) (hK : zK D ca s) (hP : va_P D vwCl wsC H) (q0 : Nat) {fs : List Value} (he : wsC[q0]? = some (a, .inr (ci, fs))) (hc : vwCl[ci]? = some (C, T, N)) (k : Nat) (hk : k < N) (hlink : Cond.fieldLink own index ref (T k).2.1 (T k).2.2.1 ∈ Ts) (href : (T k).1 = ref) {v : Value} (hv : fs[k]? = some v) (hdg : decode cc pc = .ok (.getfield index, 3))
    (kk : W p l e R s m args below meth c H locs cells slots Q (F0 m (pc + 3) ls (v :: rest))) : W p l e R s m args below meth c H locs cells slots Q (F0 m pc ls (.ref a :: rest)) := by
  subst href
  exact va_get hx hb hts hin hown hK.1 hP q0 he hc k hk (hts _ hlink) (fun _ h => h) hv hdg kk
theorem ldI (hx : p.tables.exec = Jvm.exec) (hb : c.code = cc) (hK : zK D ca s) (hP : va_P D vwCl wsC H) (q0 : Nat) {n : Nat} {f : Nat → Int32} (ha : wsC[q0]? = some (a, .inl (ca 0, n, .inl f))) {i : Int32} (hin : vp_in i n) (hdg : decode cc pc = .ok (.iaload, 1))
    (kk : W p l e R s m args below meth c H locs cells slots Q (F0 m (pc + 1) ls (.int (f i.toNatClampNeg) :: rest))) : W p l e R s m args below meth c H locs cells slots Q (F0 m pc ls (.int i :: .ref a :: rest)) :=
  va_iald hx hb hK.1 hP q0 0 ha rfl hin hdg kk
theorem stI (hx : p.tables.exec = Jvm.exec) (hb : c.code = cc) (hK : zK D ca s) (hP : va_P D vwCl wsC H) (hD : va_D A wsC) (hS : va_S A s.heap H locs) (q0 : Nat) {n : Nat} {f g : Nat → Int32} (ha : wsC[q0]? = some (a, .inl (ca 0, n, .inl f))) {i x : Int32} (hin : vp_in i n) (hg : g = upd f i.toNatClampNeg x) (hwn : wsC.set q0 (a, .inl (ca 0, n, .inl g)) = wn) (hdg : decode cc pc = .ok (.iastore, 1))
    (kk : ∀ (H1 : Heap) (locs1 : List Loc), va_P D vwCl wn H1 → va_D A wn → va_S A s.heap H1 locs1 → W p l e R s m args below meth c H1 locs1 cells slots Q (F0 m (pc + 1) ls rest)) : W p l e R s m args below meth c H locs cells slots Q (F0 m pc ls (.int x :: .int i :: .ref a :: rest)) := by
  subst hwn; subst hg
  exact va_iast hx hb hK.1 hP hD hS q0 0 ha rfl hin hdg kk
theorem alI (hx : p.tables.exec = Jvm.exec) (hb : c.code = cc) (hK : zK D ca s) (hP : va_P D vwCl wsC H) (q0 t0 : Nat) {cA : ClassId} {xa : vp_A} (ha : wsC[q0]? = some (a, .inl (cA, xa))) {ty : FieldType} (ht : (zT ca)[t0]? = some (cA, ty)) {v : Int32} (hv : Int32.ofNat xa.1 = v) (hdg : decode cc pc = .ok (.arraylength, 1))
    (kk : W p l e R s m args below meth c H locs cells slots Q (F0 m (pc + 1) ls (.int v :: rest))) : W p l e R s m args below meth c H locs cells slots Q (F0 m pc ls (.ref a :: rest)) :=
  va_alen hx hb hK.1 hP q0 t0 ha ht hv hdg kk
end ZC
section ZH
variable {σ ρ α : Type}
def xt (o : Option ρ) : Option (σ ⊕ ρ) := o.bind (fun r => some (.inr r))
theorem xt_s {body : σ → Option (σ ⊕ ρ)} {n : Nat} {r : ρ} {q : σ ⊕ ρ} {o : Option ρ} (hq : (∃ s', q = .inl s' ∧ lp body n s' = some r) ∨ q = .inr r) (h : xt o = some q) : o = some r := by
  cases o with
  | none => cases h
  | some x => exact lp_r hq h
def ac (n0 n1 : Nat) (f g : Nat → Int32) (sp dp n : Int32) (k : (Nat → Int32) → Option α) : Option α := if sp < 0 ∨ dp < 0 ∨ n < 0 ∨ n0 < sp.toNatClampNeg + n.toNatClampNeg ∨ n1 < dp.toNatClampNeg + n.toNatClampNeg then none else k (va_cpy f g sp.toNatClampNeg dp.toNatClampNeg n.toNatClampNeg)
theorem ac_s {n0 n1 : Nat} {f g : Nat → Int32} {sp dp n : Int32} {k : (Nat → Int32) → Option α} {r : α} (h : ac n0 n1 f g sp dp n k = some r) : (¬ sp < 0 ∧ ¬ dp < 0 ∧ ¬ n < 0 ∧ sp.toNatClampNeg + n.toNatClampNeg ≤ n0 ∧ dp.toNatClampNeg + n.toNatClampNeg ≤ n1) ∧ ∃ g', g' = va_cpy f g sp.toNatClampNeg dp.toNatClampNeg n.toNatClampNeg ∧ k g' = some r := by
  unfold ac at h
  by_cases c : sp < 0 ∨ dp < 0 ∨ n < 0 ∨ n0 < sp.toNatClampNeg + n.toNatClampNeg ∨ n1 < dp.toNatClampNeg + n.toNatClampNeg
  · rw [if_pos c] at h; cases h
  · rw [if_neg c] at h
    simp only [not_or, Nat.not_lt] at c
    exact ⟨c, _, rfl, h⟩
theorem sw_in {offs : Array Int} {lo hi : Int} {d : Int} {x : Int32} (h : ¬ (x.toInt < lo ∨ hi < x.toInt)) (ks : List Int32) (hk : ∀ k ∈ ks, ¬ x = k) (hall : ∀ j : Nat, j < (hi - lo + 1).toNat → (ks.any (fun k => decide (k.toInt - lo = (j : Int)))) = true ∨ offs[j]? = some d) : offs[(x.toInt - lo).toNat]? = some d := by
  have h1 : lo ≤ x.toInt := by omega
  have h2 : x.toInt ≤ hi := by omega
  rcases hall (x.toInt - lo).toNat (by omega) with h3 | h3
  · obtain ⟨k, hk1, hk2⟩ := List.any_eq_true.mp h3
    have hk3 : k.toInt - lo = (((x.toInt - lo).toNat : Nat) : Int) := of_decide_eq_true hk2
    have : x.toInt = k.toInt := by omega
    exact absurd (Int32.toInt_inj.mp this) (hk k hk1)
  · exact h3
theorem sw_key (d k : Int) : ∀ (ps : List (Int × Int)), (∀ q ∈ ps, ¬ q.1 = k) → Op.lookupswitch.offset ps d k = d
  | [], _ => rfl
  | (a, o) :: r, h => by
    rw [Op.lookupswitch.offset_cons, if_neg (h (a, o) List.mem_cons_self)]
    exact sw_key d k r (fun q hq => h q (List.mem_cons_of_mem _ hq))
theorem sw_out {dflt : Int} {x : Int32} (ps : List (Int × Int)) (ks : List Int32) (hk : ∀ k ∈ ks, ¬ x = k) (hall : ps.all (fun q => ks.any (fun k => decide (k.toInt = q.1))) = true) : Op.lookupswitch.offset ps dflt x.toInt = dflt := by
  refine sw_key dflt x.toInt ps ?_
  intro q hq he
  obtain ⟨k, hk1, hk2⟩ := List.any_eq_true.mp (List.all_eq_true.mp hall q hq)
  have hk3 : k.toInt = q.1 := of_decide_eq_true hk2
  exact hk k hk1 (Int32.toInt_inj.mp (by omega))
end ZH
section ZJ
variable {l : Launch} {y : MethodName} {ws ws' : List Cond} {fr lo maxL sz : Nat} {cc : ByteArray} {D : va_G} {ca : Nat → ClassId} {av : List Value} {wd w1 : va_W} {vv : Option Value}
theorem hdRi (hy : plainFor y = true) (hw : ws = Cond.code y cc maxL (some .int) :: ws') (hlen : (lg_sl av).length ≤ maxL)
    (body : ∀ p e s m args below meth c (Q : State → Prop), p.tables.exec = Jvm.exec → c.code = cc → c.maxLocals = maxL → s.vm.findClass y.cls = some m.cls → (∀ w ∈ ws, w.before args s = true) → va_P D vwCl wd s.heap → zK D ca s → (∀ (pc : Nat) (ls : Array Slot) (v : Int32), some (Value.int v) = vv → decode cc pc = .ok (.ireturn, 1) → W p l e ({ frames := fr, cells := 0, slots := 0, locals := lo }) s m args below meth c s.heap [] 0 0 Q (F0 m pc ls [.int v])) → ∀ ls, lv_has ls maxL (lv_args 0 av) → W p l e ({ frames := fr, cells := 0, slots := 0, locals := lo }) s m args below meth c s.heap [] 0 0 Q (F0 m 0 ls [])) : MR l y ws fr lo D ca av wd vv :=
  hdR hy hw hlen (fun p e s m args below meth c hx hb hr hml hown hts hlk hP hK ls hl => body p e s m args below meth c _ hx hb hml hown hts hP hK (fun _ _ _ hv hd => rtRi hx hb hr hlk hv hd) ls hl)
theorem hdRz (hy : plainFor y = true) (hw : ws = Cond.code y cc maxL (some .boolean) :: ws') (hlen : (lg_sl av).length ≤ maxL)
    (body : ∀ p e s m args below meth c (Q : State → Prop), p.tables.exec = Jvm.exec → c.code = cc → c.maxLocals = maxL → s.vm.findClass y.cls = some m.cls → (∀ w ∈ ws, w.before args s = true) → va_P D vwCl wd s.heap → zK D ca s → (∀ (pc : Nat) (ls : Array Slot) (v : Int32), narrow .boolean (.int v) = .int v → some (Value.int v) = vv → decode cc pc = .ok (.ireturn, 1) → W p l e ({ frames := fr, cells := 0, slots := 0, locals := lo }) s m args below meth c s.heap [] 0 0 Q (F0 m pc ls [.int v])) → ∀ ls, lv_has ls maxL (lv_args 0 av) → W p l e ({ frames := fr, cells := 0, slots := 0, locals := lo }) s m args below meth c s.heap [] 0 0 Q (F0 m 0 ls [])) : MR l y ws fr lo D ca av wd vv :=
  hdR hy hw hlen (fun p e s m args below meth c hx hb hr hml hown hts hlk hP hK ls hl => body p e s m args below meth c _ hx hb hml hown hts hP hK (fun _ _ _ hz hv hd => rtRz hx hb hr hlk hz hv hd) ls hl)
theorem hdRl (hy : plainFor y = true) (hw : ws = Cond.code y cc maxL (some .long) :: ws') (hlen : (lg_sl av).length ≤ maxL)
    (body : ∀ p e s m args below meth c (Q : State → Prop), p.tables.exec = Jvm.exec → c.code = cc → c.maxLocals = maxL → s.vm.findClass y.cls = some m.cls → (∀ w ∈ ws, w.before args s = true) → va_P D vwCl wd s.heap → zK D ca s → (∀ (pc : Nat) (ls : Array Slot) (v : Int64), some (Value.long v) = vv → decode cc pc = .ok (.lreturn, 1) → W p l e ({ frames := fr, cells := 0, slots := 0, locals := lo }) s m args below meth c s.heap [] 0 0 Q (F0 m pc ls [.long v])) → ∀ ls, lv_has ls maxL (lv_args 0 av) → W p l e ({ frames := fr, cells := 0, slots := 0, locals := lo }) s m args below meth c s.heap [] 0 0 Q (F0 m 0 ls [])) : MR l y ws fr lo D ca av wd vv :=
  hdR hy hw hlen (fun p e s m args below meth c hx hb hr hml hown hts hlk hP hK ls hl => body p e s m args below meth c _ hx hb hml hown hts hP hK (fun _ _ _ hv hd => rtRl hx hb hr hlk hv hd) ls hl)
theorem hdWi (hy : plainName y.cls = true) (hw : ws = Cond.code y cc maxL (some .int) :: ws') (hlen : (lg_sl av).length ≤ maxL)
    (body : ∀ p e s m args below meth c A (Q : State → Prop), p.tables.exec = Jvm.exec → c.code = cc → c.maxLocals = maxL → s.vm.findClass y.cls = some m.cls → (∀ w ∈ ws, w.before args s = true) → va_P D vwCl wd s.heap → va_D A wd → zK D ca s → (∀ q : Nat, s.heap.size ≤ q → A q) → va_S A s.heap s.heap [] → (∀ (pc : Nat) (ls : Array Slot) (v : Int32) (H : Heap) (locs : List Loc), va_P D vwCl w1 H → va_D A w1 → va_S A s.heap H locs → some (Value.int v) = vv → decode cc pc = .ok (.ireturn, 1) → W p l e ({ frames := fr, cells := 0, slots := 0, locals := lo }) s m args below meth c H locs 0 0 Q (F0 m pc ls [.int v])) → ∀ ls, lv_has ls maxL (lv_args 0 av) → W p l e ({ frames := fr, cells := 0, slots := 0, locals := lo }) s m args below meth c s.heap [] 0 0 Q (F0 m 0 ls [])) : MW l y ws fr lo D ca av sz wd vv w1 :=
  hdW hy hw hlen (fun p e s m args below meth c A hx hb hr hml hown hts hlk hP hD hK hA hS ls hl => body p e s m args below meth c A _ hx hb hml hown hts hP hD hK hA hS (fun _ _ _ _ _ hP hD hS hv hd => rtWi hx hb hr hlk hP hD hS hv hd) ls hl)
theorem hdWz (hy : plainName y.cls = true) (hw : ws = Cond.code y cc maxL (some .boolean) :: ws') (hlen : (lg_sl av).length ≤ maxL)
    (body : ∀ p e s m args below meth c A (Q : State → Prop), p.tables.exec = Jvm.exec → c.code = cc → c.maxLocals = maxL → s.vm.findClass y.cls = some m.cls → (∀ w ∈ ws, w.before args s = true) → va_P D vwCl wd s.heap → va_D A wd → zK D ca s → (∀ q : Nat, s.heap.size ≤ q → A q) → va_S A s.heap s.heap [] → (∀ (pc : Nat) (ls : Array Slot) (v : Int32), narrow .boolean (.int v) = .int v → ∀ (H : Heap) (locs : List Loc), va_P D vwCl w1 H → va_D A w1 → va_S A s.heap H locs → some (Value.int v) = vv → decode cc pc = .ok (.ireturn, 1) → W p l e ({ frames := fr, cells := 0, slots := 0, locals := lo }) s m args below meth c H locs 0 0 Q (F0 m pc ls [.int v])) → ∀ ls, lv_has ls maxL (lv_args 0 av) → W p l e ({ frames := fr, cells := 0, slots := 0, locals := lo }) s m args below meth c s.heap [] 0 0 Q (F0 m 0 ls [])) : MW l y ws fr lo D ca av sz wd vv w1 :=
  hdW hy hw hlen (fun p e s m args below meth c A hx hb hr hml hown hts hlk hP hD hK hA hS ls hl => body p e s m args below meth c A _ hx hb hml hown hts hP hD hK hA hS (fun _ _ _ hz _ _ hP hD hS hv hd => rtWz hx hb hr hlk hz hP hD hS hv hd) ls hl)
theorem hdWl (hy : plainName y.cls = true) (hw : ws = Cond.code y cc maxL (some .long) :: ws') (hlen : (lg_sl av).length ≤ maxL)
    (body : ∀ p e s m args below meth c A (Q : State → Prop), p.tables.exec = Jvm.exec → c.code = cc → c.maxLocals = maxL → s.vm.findClass y.cls = some m.cls → (∀ w ∈ ws, w.before args s = true) → va_P D vwCl wd s.heap → va_D A wd → zK D ca s → (∀ q : Nat, s.heap.size ≤ q → A q) → va_S A s.heap s.heap [] → (∀ (pc : Nat) (ls : Array Slot) (v : Int64) (H : Heap) (locs : List Loc), va_P D vwCl w1 H → va_D A w1 → va_S A s.heap H locs → some (Value.long v) = vv → decode cc pc = .ok (.lreturn, 1) → W p l e ({ frames := fr, cells := 0, slots := 0, locals := lo }) s m args below meth c H locs 0 0 Q (F0 m pc ls [.long v])) → ∀ ls, lv_has ls maxL (lv_args 0 av) → W p l e ({ frames := fr, cells := 0, slots := 0, locals := lo }) s m args below meth c s.heap [] 0 0 Q (F0 m 0 ls [])) : MW l y ws fr lo D ca av sz wd vv w1 :=
  hdW hy hw hlen (fun p e s m args below meth c A hx hb hr hml hown hts hlk hP hD hK hA hS ls hl => body p e s m args below meth c A _ hx hb hml hown hts hP hD hK hA hS (fun _ _ _ _ _ hP hD hS hv hd => rtWl hx hb hr hlk hP hD hS hv hd) ls hl)
theorem hdWv (hy : plainName y.cls = true) (hw : ws = Cond.code y cc maxL none :: ws') (hlen : (lg_sl av).length ≤ maxL) (hvv : none = vv)
    (body : ∀ p e s m args below meth c A (Q : State → Prop), p.tables.exec = Jvm.exec → c.code = cc → c.maxLocals = maxL → s.vm.findClass y.cls = some m.cls → (∀ w ∈ ws, w.before args s = true) → va_P D vwCl wd s.heap → va_D A wd → zK D ca s → (∀ q : Nat, s.heap.size ≤ q → A q) → va_S A s.heap s.heap [] → (∀ (pc : Nat) (ls : Array Slot) (H : Heap) (locs : List Loc), va_P D vwCl w1 H → va_D A w1 → va_S A s.heap H locs → none = vv → decode cc pc = .ok (.return_, 1) → W p l e ({ frames := fr, cells := 0, slots := 0, locals := lo }) s m args below meth c H locs 0 0 Q (F0 m pc ls [])) → ∀ ls, lv_has ls maxL (lv_args 0 av) → W p l e ({ frames := fr, cells := 0, slots := 0, locals := lo }) s m args below meth c s.heap [] 0 0 Q (F0 m 0 ls [])) : MW l y ws fr lo D ca av sz wd vv w1 :=
  hdW hy hw hlen (fun p e s m args below meth c A hx hb hr hml hown hts hlk hP hD hK hA hS ls hl => body p e s m args below meth c A _ hx hb hml hown hts hP hD hK hA hS (fun _ _ _ _ hP hD hS hv hd => rtWv hx hb hr hlk hP hD hS hv hd) ls hl)
end ZJ
section ZA
variable {p : Program} {l : Launch} {e : Env} {R : Room} {s : State} {m : MethodId} {args : Array Value} {below : List Frame} {meth : Method} {c : Code} {H : Heap} {locs : List Loc} {cells slots : Nat} {Q : State → Prop} {cc : ByteArray} {pc : Nat} {ls : Array Slot} {A : Nat → Prop} {D : va_G} {ca : Nat → ClassId} {wsC wn : va_W} {own : String} {index a0 a : Nat} {rest : List Value}
theorem acI (hx : p.tables.exec = Jvm.exec) (hb : c.code = cc) (hml : c.maxLocals = ls.size) (hown : s.vm.findClass own = some m.cls) (hlink : (Cond.methodLink own index arraycopyName).before args s = true) (hnat : (Cond.native arraycopyName).before args s = true) (hstat : (Cond.static arraycopyName).before args s = true) (hini : (Cond.initialized "java/lang/System").before args s = true)
    (hK : zK D ca s) (hP : va_P D vwCl wsC H) (hD : va_D A wsC) (hS : va_S A s.heap H locs) (q0 q1 : Nat) {n0 n1 : Nat} {f g g' : Nat → Int32} (ha0 : wsC[q0]? = some (a0, .inl (ca 0, n0, .inl f))) (ha1 : wsC[q1]? = some (a, .inl (ca 0, n1, .inl g)))
    {sp dp n : Int32} (hac : ¬ sp < 0 ∧ ¬ dp < 0 ∧ ¬ n < 0 ∧ sp.toNatClampNeg + n.toNatClampNeg ≤ n0 ∧ dp.toNatClampNeg + n.toNatClampNeg ≤ n1) (hg : g' = va_cpy f g sp.toNatClampNeg dp.toNatClampNeg n.toNatClampNeg) (hwn : wsC.set q1 (a, .inl (ca 0, n1, .inl g')) = wn)
    (hframes : 1 ≤ R.frames) (hlocals : (rest.map fun v => v.category).sum + (nativeFrameWords "java/lang/System" "arraycopy" 5 + 11) ≤ R.locals) (hdg : decode cc pc = .ok (.invokestatic index, 3))
    (kk : ∀ (H1 : Heap) (locs1 : List Loc), va_P D vwCl wn H1 → va_D A wn → va_S A s.heap H1 locs1 → W p l e R s m args below meth c H1 locs1 cells slots Q (F0 m (pc + 3) ls rest)) : W p l e R s m args below meth c H locs cells slots Q (F0 m pc ls (.int n :: .int dp :: .ref a :: .int sp :: .ref a0 :: rest)) := by
  subst hwn; subst hg
  exact va_copyi hx hb hml hown hlink hnat hstat hini hK.1 hP hD hS q0 q1 0 0 ha0 ha1 rfl rfl rfl hac.1 hac.2.1 hac.2.2.1 hac.2.2.2.1 hac.2.2.2.2 (fun _ _ => rfl) hframes hlocals hdg kk
end ZA
section ZG
variable {α : Type}
def rf (n : Nat) (i : Int32) (k : Nat → Option α) : Option α := if i < 0 ∨ n ≤ i.toNatClampNeg then none else k i.toNatClampNeg
theorem rf_s {n : Nat} {i : Int32} {k : Nat → Option α} {r : α} (h : rf n i k = some r) : vp_in i n ∧ ∃ j, j = i.toNatClampNeg ∧ j < n ∧ k j = some r := by
  unfold rf at h
  by_cases c : i < 0 ∨ n ≤ i.toNatClampNeg
  · rw [if_pos c] at h; cases h
  · rw [if_neg c] at h; exact ⟨c, _, rfl, Nat.lt_of_not_le (fun z => c (Or.inr z)), h⟩
def gk (o : Option Nat) (k : Nat) (c : Option α) : Option α := if o = some k then c else none
theorem gk_s {o : Option Nat} {k : Nat} {c : Option α} {r : α} (h : gk o k c = some r) : o = some k ∧ c = some r := by
  unfold gk at h
  by_cases q : o = some k
  · rw [if_pos q] at h; exact ⟨q, h⟩
  · rw [if_neg q] at h; cases h
theorem zk5 {k : Nat} (h : k < 5) : k = 0 ∨ k = 1 ∨ k = 2 ∨ k = 3 ∨ k = 4 := by omega
variable {p : Program} {l : Launch} {e : Env} {R : Room} {s : State} {m : MethodId} {args : Array Value} {below : List Frame} {meth : Method} {c : Code} {H : Heap} {locs : List Loc} {cells slots : Nat} {Q : State → Prop} {cc : ByteArray} {pc : Nat} {ls : Array Slot} {D : va_G} {ca : Nat → ClassId} {wsC : va_W} {a : Nat} {rest : List Value}
theorem ldQ (hx : p.tables.exec = Jvm.exec) (hb : c.code = cc) (hK : zK D ca s) (hP : va_P D vwCl wsC H) (q0 : Nat) {t0 : Nat} {cA : ClassId} {C : String} {n j b : Nat} {f : Nat → Option Nat} (ha : wsC[q0]? = some (a, .inl (cA, n, .inr (.inr (.inr (.inr f)))))) (ht : (zT ca)[t0]? = some (cA, .object C)) {i : Int32} (hin : vp_in i n) (hj : j = i.toNatClampNeg) (hv : va_rf (f j) = .ref b) (hdg : decode cc pc = .ok (.aaload, 1))
    (kk : W p l e R s m args below meth c H locs cells slots Q (F0 m (pc + 1) ls (.ref b :: rest))) : W p l e R s m args below meth c H locs cells slots Q (F0 m pc ls (.int i :: .ref a :: rest)) := by
  refine va_aldq hx hb hK.1 hP q0 t0 ha ht hin hdg ?_
  rw [← hj, hv]
  exact kk
theorem rtRa {v : Nat} {C : String} (hx : p.tables.exec = Jvm.exec) (hb : c.code = cc) (hr : meth.sig.returnType = some (.object C)) (hlk : meth.locks = false) {vv : Option Value} (hv : some (Value.ref v) = vv) (hdg : decode cc pc = .ok (.areturn, 1)) : W p l e R s m args below meth c s.heap [] cells slots (MQ below (zQ vv) args s cells slots zF) (F0 m pc ls [.ref v]) :=
  W.aret hx hb hr (Or.inl ⟨C, rfl⟩) (Or.inr ⟨v, rfl⟩) (fun t ht _ => ⟨by rw [hv], ht⟩) (fun q hq => nomatch hq) hdg hlk
end ZG
theorem hdRa {l : Launch} {y : MethodName} {ws ws' : List Cond} {fr lo maxL : Nat} {cc : ByteArray} {D : va_G} {ca : Nat → ClassId} {av : List Value} {wd : va_W} {vv : Option Value} {C : String} (hy : plainFor y = true) (hw : ws = Cond.code y cc maxL (some (.object C)) :: ws') (hlen : (lg_sl av).length ≤ maxL)
    (body : ∀ p e s m args below meth c (Q : State → Prop), p.tables.exec = Jvm.exec → c.code = cc → c.maxLocals = maxL → s.vm.findClass y.cls = some m.cls → (∀ w ∈ ws, w.before args s = true) → va_P D vwCl wd s.heap → zK D ca s → (∀ (pc : Nat) (ls : Array Slot) (v : Nat), some (Value.ref v) = vv → decode cc pc = .ok (.areturn, 1) → W p l e ({ frames := fr, cells := 0, slots := 0, locals := lo }) s m args below meth c s.heap [] 0 0 Q (F0 m pc ls [.ref v])) → ∀ ls, lv_has ls maxL (lv_args 0 av) → W p l e ({ frames := fr, cells := 0, slots := 0, locals := lo }) s m args below meth c s.heap [] 0 0 Q (F0 m 0 ls [])) : MR l y ws fr lo D ca av wd vv :=
  hdR hy hw hlen (fun p e s m args below meth c hx hb hr hml hown hts hlk hP hK ls hl => body p e s m args below meth c _ hx hb hml hown hts hP hK (fun _ _ _ hv hd => rtRa hx hb hr hlk hv hd) ls hl)
