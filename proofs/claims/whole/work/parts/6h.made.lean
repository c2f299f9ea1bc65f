/-! ===== constructors: rows that make cells; contracts whose new addresses are found ===== -/
def zB (D : va_G) (ca : Nat → ClassId) (sz : Nat) (ws : va_W) : State → Prop := fun U => zM D ca sz ws U ∧ va_AO RX6 U ∧ va_AO RX5 U
theorem zB_blind {D : va_G} {ca : Nat → ClassId} {ws : va_W} {sz : Nat} {av : List Value} : FrameBlind (va_Pc av (zB D ca sz ws)) := fun _ _ _ _ h => ⟨h.1, ⟨h.2.1.1, h.2.1.2.1, zK_calling h.2.1.2.2.1, h.2.1.2.2.2⟩, va_AO.moved (Vm.Alike.refl _) h.2.2.1, va_AO.moved (Vm.Alike.refl _) h.2.2.2⟩
def zV (D : va_G) (w : (Nat → Nat) → va_W) (A : Nat → Prop) : Array Value → State → Outcome → State → Prop := fun _ st o t => o = .returned none ∧ ∃ u : Nat → Nat, va_P D vwCl (w u) t.heap ∧ va_D A (w u) ∧ va_F A st t
abbrev MN (l : Launch) (y : MethodName) (ws : List Cond) (fr lo mc ms : Nat) (D : va_G) (ca : Nat → ClassId) (av : List Value) (sz : Nat) (wd : va_W) (w : (Nat → Nat) → va_W) : Prop := Met l y ws ({ frames := fr, cells := mc, slots := ms, locals := lo }) (va_Pc av (zB D ca sz wd)) (zV D w (va_A wd sz)) mc ms (va_A wd sz)
theorem hdN {l : Launch} {y : MethodName} {ws ws' : List Cond} {fr lo mc ms maxL sz : Nat} {cc : ByteArray} {D : va_G} {ca : Nat → ClassId} {av : List Value} {wd : va_W} {w : (Nat → Nat) → va_W} (hy : plainName y.cls = true) (hyn : y.name = "<init>") (hw : ws = Cond.code y cc maxL none :: ws') (hlen : (lg_sl av).length ≤ maxL)
    (body : ∀ p e s m args below meth c A, p.tables.exec = Jvm.exec → c.code = cc → meth.sig.returnType = none → c.maxLocals = maxL → s.vm.findClass y.cls = some m.cls → (∀ w ∈ ws, w.before args s = true) → meth.locks = false → meth.name = "<init>" → va_P D vwCl wd s.heap → va_D A wd → zK D ca s → (va_AO RX6 s ∧ va_AO RX5 s) → (∀ q : Nat, s.heap.size ≤ q → A q) → va_S A s.heap s.heap [] → ∀ ls, lv_has ls maxL (lv_args 0 av) → W p l e ({ frames := fr, cells := mc, slots := ms, locals := lo }) s m args below meth c s.heap [] 0 0 (MQ below (zV D w A) args s mc ms A) (F0 m 0 ls [])) : MN l y ws fr lo mc ms D ca av sz wd w := by
  refine Met.ofW (cc := cc) (maxL := maxL) (ret := none) hy hw ?_
  intro p e s m args below meth c s₁ B hml hv
  obtain ⟨rfl, ⟨hsz, hP, hK, hD⟩, hO⟩ := hv
  subst hsz
  have hts := atoms_spec (ws := ws) B.pre
  have hl := lv_entry av (n := maxL) hlen
  have hin : meth.name = y.name := (name_of_methodNamed B.named B.method).1
  rw [lg_entry_eq]
  exact body p e s m _ below meth c _ B.exec B.bytes B.returns hml (findClass_of_methodNamed B.named) hts B.notSynchronized (hin.trans hyn) hP hD.self hK hO (fun q h => Or.inr h) va_S.rf _ hl
section YN
variable {p : Program} {l : Launch} {e : Env} {R : Room} {s : State} {m : MethodId} {args : Array Value} {below : List Frame} {meth : Method} {c : Code} {H : Heap} {locs : List Loc} {cells slots mc ms : Nat} {Q : State → Prop} {cc : ByteArray} {pc : Nat} {ls : Array Slot} {A : Nat → Prop} {D : va_G} {ca : Nat → ClassId} {wd wsC wr wn : va_W} {w : (Nat → Nat) → va_W} {own C : String} {y : MethodName} {ws ws' Ts : List Cond} {bytes : ByteArray} {maxL nL fr lo index b : Nat} {rest : List Value}
theorem rtN (hx : p.tables.exec = Jvm.exec) (hb : c.code = cc) (hr : meth.sig.returnType = none) (hlk : meth.locks = false) (h1 : cells ≤ mc) (h2 : slots ≤ ms) (u : Nat → Nat) (hP : va_P D vwCl (w u) H) (hD : va_D A (w u)) (hS : va_S A s.heap H locs) (hdg : decode cc pc = .ok (.return_, 1)) : W p l e R s m args below meth c H locs cells slots (MQ below (zV D w A) args s mc ms A) (F0 m pc ls []) :=
  W.widen h1 h2 (W.vret hx hb hr (fun t ht _ => ⟨rfl, u, by rw [ht]; exact hP, hD, hS.F ht⟩) hS.2.2 hdg hlk)
theorem runN {a : Array Value} {st : List Value} {wc : va_W} (hr : va_Run p l e R s m args below meth c H locs cells slots mc ms (F0 m pc ls st) rest (zV D w (va_A wc H.size) a) (va_A wc H.size)) (hP : va_P D vwCl wsC H) (hD : va_D A wsC) (hS : va_S A s.heap H locs) (hA : ∀ q : Nat, s.heap.size ≤ q → A q) (isC isR : List Nat) (hC : isC.map (fun i => wsC[i]?) = wc.map some) (hR : isR.map (fun i => wsC[i]?) = wr.map some) (hn : va_nd isR = true) (hdis : ∀ i ∈ isR, i ∉ isC)
    (kk : ∀ (u : Nat → Nat) (H1 : Heap) (locs1 : List Loc), va_P D vwCl (wr ++ w u) H1 → va_D A (wr ++ w u) → va_S A s.heap H1 locs1 → W p l e R s m args below meth c H1 locs1 (cells + mc) (slots + ms) Q (F0 m (pc + 3) ls rest)) : W p l e R s m args below meth c H locs cells slots Q (F0 m pc ls st) := by
  have hF := va_free (wc := wc) hD hS hA isC hC
  intro T hT X
  obtain ⟨v, st₀, t, T', L, h0, X', hL, e1, e2, ⟨hv, u, hP1, hD1, hz, hk⟩, stp⟩ := hr T hT X
  cases hv
  rw [h0] at hz hk
  have hjoin := va_join hP hD isC isR hC hR hn hdis (H1 := t.heap) (fun q h1 h2 => hk q h1 h2) hF hP1 hD1
  have hS' : va_S A s.heap t.heap (locs ++ L) := ⟨Nat.le_trans hS.1 hz, fun q h1 h2 => by rw [hk q (Nat.lt_of_lt_of_le h1 hS.1) (fun z => h2 (hF q z))]; exact hS.2.1 q h1 h2, fun q hq => by
    rcases List.mem_append.mp hq with h | h
    · exact hS.2.2 q h
    · exact hF _ (hL q h)⟩
  rw [← e1] at hjoin hS'
  obtain ⟨t2, a1, b1⟩ := kk u T'.heap (locs ++ L) hjoin.1 hjoin.2 hS' T' rfl X'
  exact ⟨t2, stp t2 a1, b1⟩
/-- 'new C()': its constructor is called -/
theorem clI (hx : p.tables.exec = Jvm.exec) (hb : c.code = cc) (hml : c.maxLocals = nL) (hown : s.vm.findClass own = some m.cls) (hts : ∀ w ∈ Ts, w.before args s = true) (hT : GoodIn Ts ws) (hw : ws = Cond.code y bytes maxL none :: ws') (hini : Cond.initialized y.cls ∈ Ts) (hlk : Cond.methodLink own index y ∈ Ts) (hin : Cond.instanceMethod y ∈ Ts) (hyn : y.name = "<init>")
    (hd : y.cls ≠ "java/lang/invoke/MethodHandle" ∧ y.cls ≠ "java/lang/invoke/VarHandle" ∧ (parseMethodDescriptor y.desc).map (fun d => d.parameters.length) = some 0) (hR : fr + 1 ≤ R.frames ∧ 8 + (maxL + 11) + lo ≤ R.locals)
    (hM : MN l y ws fr lo mc ms D ca [.ref b] H.size wd w) (hP : va_P D vwCl wsC H) (hD : va_D A wsC) (hS : va_S A s.heap H locs) (hA : ∀ q : Nat, s.heap.size ≤ q → A q) (hK : zK D ca s) (hO : va_AO RX6 s ∧ va_AO RX5 s) (is isR : List Nat) (his : is.map (fun i => wsC[i]?) = wd.map some) (hnd : va_nd is = true) (hisR : isR.map (fun i => wsC[i]?) = wr.map some) (hndR : va_nd isR = true) (hdis : ∀ i ∈ isR, i ∉ is)
    (hsz : ls.size = nL) (hroom : (rest.map fun v => v.category).sum ≤ 8) (hcs : cells + mc ≤ R.cells ∧ slots + ms ≤ R.slots) (hdg : decode cc pc = .ok (.invokespecial index, 3))
    (kk : ∀ (u : Nat → Nat) (H1 : Heap) (locs1 : List Loc), va_P D vwCl (wr ++ w u) H1 → va_D A (wr ++ w u) → va_S A s.heap H1 locs1 → W p l e R s m args below meth c H1 locs1 (cells + mc) (slots + ms) Q (F0 m (pc + 3) ls rest)) : W p l e R s m args below meth c H locs cells slots Q (F0 m pc ls (.ref b :: rest)) := by
  have hPc := va_P_at hP is his
  have hDc := hD.sub is hnd his
  exact runN (va_runI (As := []) (rest := rest) ⟨hx, hb, hml, hown, hts⟩ hM (cwI 0 hts hT hw rfl rfl (hts _ hini) (hts _ hlk) (hts _ hin) hyn hd hR) ⟨zB_blind, fun U hU hW => ⟨rfl, ⟨by rw [hU], by rw [hU]; exact hPc, zK_warm hK hW, hDc.weaken (fun _ _ _ _ => trivial)⟩, hO.1.moved hW.alike, hO.2.moved hW.alike⟩⟩ rfl rfl hsz rfl (lv_room hroom) hdg hcs) hP hD hS hA is isR his hisR hndR hdis kk
theorem zT_is {i : Nat} {cA : ClassId} {ty : FieldType} (hK : zK D ca s) (hi : (zT ca)[i]? = some (ca i, ty)) (h : va_RA s cA ty) : cA = ca i := by
  have h2 := (hK.1.2 i _ hi).2
  cases ty with
  | object C =>
    obtain ⟨-, -, -, -, -, h3⟩ := h
    obtain ⟨-, -, -, -, -, h4⟩ := h2
    exact Option.some.inj (h3.symm.trans h4)
  | _ => exact Option.some.inj (Eq.trans (Eq.symm h) h2)
theorem nwI {N : Nat} {n : Int32} (hx : p.tables.exec = Jvm.exec) (hb : c.code = cc) (harr : (Cond.arrayClass .int).before args s = true) (hK : zK D ca s) (hP : va_P D vwCl wsC H) (hD : va_D A wsC) (hS : va_S A s.heap H locs) (hA : ∀ q : Nat, s.heap.size ≤ q → A q) (hn : ¬ n < 0) (hN : n.toNatClampNeg = N) (hby : N * 4 ≤ 536870912) (hc : cells + 1 ≤ R.cells) (hs : slots + N ≤ R.slots) (hdg : decode cc pc = .ok (.newarray .int, 2))
    (kk : ∀ (q : Nat) (H1 : Heap), va_P D vwCl (wsC ++ [(q, .inl (ca 0, N, .inl (fun _ => 0)))]) H1 → va_D A (wsC ++ [(q, .inl (ca 0, N, .inl (fun _ => 0)))]) → va_S A s.heap H1 locs → W p l e R s m args below meth c H1 locs (cells + 1) (slots + N) Q (F0 m (pc + 2) ls (.ref q :: rest))) : W p l e R s m args below meth c H locs cells slots Q (F0 m pc ls (.int n :: rest)) := by
  refine va_newa (atype := .int) (ty := .int) (a0 := (N, .inl (fun _ => 0))) hx hb harr rfl hK.1 hP hD hS hA (fun _ => rfl) hn hN hby hc hs hdg (fun q cA H1 hK1 hP1 hD1 hS1 => ?_)
  have h1 : va_RA s cA .int := (hK1.2 4 _ rfl).2
  have e := zT_is (i := 0) hK rfl h1
  subst e
  exact kk q H1 hP1 hD1 hS1
theorem nwL {N : Nat} {n : Int32} (hx : p.tables.exec = Jvm.exec) (hb : c.code = cc) (harr : (Cond.arrayClass .long).before args s = true) (hK : zK D ca s) (hP : va_P D vwCl wsC H) (hD : va_D A wsC) (hS : va_S A s.heap H locs) (hA : ∀ q : Nat, s.heap.size ≤ q → A q) (hn : ¬ n < 0) (hN : n.toNatClampNeg = N) (hby : N * 8 ≤ 536870912) (hc : cells + 1 ≤ R.cells) (hs : slots + N ≤ R.slots) (hdg : decode cc pc = .ok (.newarray .long, 2))
    (kk : ∀ (q : Nat) (H1 : Heap), va_P D vwCl (wsC ++ [(q, .inl (ca 1, N, .inr (.inl (fun _ => 0))))]) H1 → va_D A (wsC ++ [(q, .inl (ca 1, N, .inr (.inl (fun _ => 0))))]) → va_S A s.heap H1 locs → W p l e R s m args below meth c H1 locs (cells + 1) (slots + N) Q (F0 m (pc + 2) ls (.ref q :: rest))) : W p l e R s m args below meth c H locs cells slots Q (F0 m pc ls (.int n :: rest)) := by
  refine va_newa (atype := .long) (ty := .long) (a0 := (N, .inr (.inl (fun _ => 0)))) hx hb harr rfl hK.1 hP hD hS hA (fun _ => rfl) hn hN hby hc hs hdg (fun q cA H1 hK1 hP1 hD1 hS1 => ?_)
  have h1 : va_RA s cA .long := (hK1.2 4 _ rfl).2
  have e := zT_is (i := 1) hK rfl h1
  subst e
  exact kk q H1 hP1 hD1 hS1
theorem nwQ {N i : Nat} {n : Int32} (hx : p.tables.exec = Jvm.exec) (hb : c.code = cc) (hown : s.vm.findClass own = some m.cls) (hcl : (Cond.classLink own index C).before args s = true) (hov : va_AO C s) (hi : (zT ca)[i]? = some (ca i, .object C)) (hK : zK D ca s) (hP : va_P D vwCl wsC H) (hD : va_D A wsC) (hS : va_S A s.heap H locs) (hA : ∀ q : Nat, s.heap.size ≤ q → A q) (hn : ¬ n < 0) (hN : n.toNatClampNeg = N) (hby : N * 4 ≤ 536870912) (hc : cells + 1 ≤ R.cells) (hs : slots + N ≤ R.slots) (hdg : decode cc pc = .ok (.anewarray index, 3))
    (kk : ∀ (q : Nat) (H1 : Heap), va_P D vwCl (wsC ++ [(q, .inl (ca i, N, .inr (.inr (.inr (.inr (fun _ => none))))))]) H1 → va_D A (wsC ++ [(q, .inl (ca i, N, .inr (.inr (.inr (.inr (fun _ => none))))))]) → va_S A s.heap H1 locs → W p l e R s m args below meth c H1 locs (cells + 1) (slots + N) Q (F0 m (pc + 3) ls (.ref q :: rest))) : W p l e R s m args below meth c H locs cells slots Q (F0 m pc ls (.int n :: rest)) := by
  refine va_newq hx hb hown hcl hov hK.1 hP hD hS hA hn hN hby hc hs hdg (fun q cA H1 hK1 hP1 hD1 hS1 => ?_)
  have h1 : va_RA s cA (.object C) := (hK1.2 4 _ rfl).2
  have e := zT_is (i := i) hK hi h1
  subst e
  exact kk q H1 hP1 hD1 hS1
/-- an array's cell says no more than its elements -/
theorem arr_as {W1 : va_W} {i k a n : Nat} {f f' : Nat → Option Nat} (hP : va_P D vwCl W1 H) (hD : va_D A W1) (hk : W1[k]? = some (a, .inl (ca i, n, .inr (.inr (.inr (.inr f)))))) (h : ∀ j, j < n → f j = f' j) : va_P D vwCl (W1.set k (a, .inl (ca i, n, .inr (.inr (.inr (.inr f')))))) H ∧ va_D A (W1.set k (a, .inl (ca i, n, .inr (.inr (.inr (.inr f')))))) := by
  have e : vp_cell (ca i) (n, .inr (.inr (.inr (.inr f)))) = vp_cell (ca i) (n, .inr (.inr (.inr (.inr f')))) := by
    rw [vp_cell_q, vp_cell_q]
    unfold arrV
    congr 1
    apply Array.ext
    · simp
    · intro j h1 h2
      simp only [Array.size_ofFn] at h1
      simp only [Array.getElem_ofFn]
      rw [h j h1]
  have h1 : H[a]? = some (vp_cell (ca i) (n, .inr (.inr (.inr (.inr f))))) := hP k _ hk
  exact ⟨hP.set hD hk (show H[a]? = some (vp_cell (ca i) (n, .inr (.inr (.inr (.inr f'))))) by rw [← e]; exact h1) (fun _ _ => rfl), hD.set hk⟩
/-- a final field is set in the constructor -/
theorem ptF {T : u_T} {N ci a : Nat} (hx : p.tables.exec = Jvm.exec) (hb : c.code = cc) (hts : ∀ w ∈ Ts, w.before args s = true) (hin : ∀ w ∈ u_ws C T N, w ∈ Ts) (ty0 : Nat → FieldType) (hty : ∀ k, k < N → parseFieldDescriptor (T k).2.2.1 = some (ty0 k)) (hnm : ∀ a, a < N → ∀ b, b < N → a ≠ b → (T a).2.1 ≠ (T b).2.1) (hown : s.vm.findClass own = some m.cls) (hK : zK D ca s) (hP : va_P D vwCl wsC H) (hD : va_D A wsC) (hS0 : va_S A s.heap H locs) (q0 : Nat) {fs : List Value} (he : wsC[q0]? = some (a, .inr (ci, fs))) (hc : vwCl[ci]? = some (C, T, N)) (k : Nat) (hk : k < N) (hlink : Cond.fieldLink own index (T k).1 (T k).2.1 (T k).2.2.1 ∈ Ts) (hfin : (T k).2.2.2 = true) (hi2 : meth.name = "<init>") (hdecl : (T k).1 = own) {ty : FieldType} {v : Value} (hd : parseFieldDescriptor (T k).2.2.1 = some ty) (hn : narrow ty v = v) (hfit : fits ty v = true) (hl : k < fs.length) (hwn : wsC.set q0 (a, .inr (ci, fs.set k v)) = wn)
    (hdg : decode cc pc = .ok (.putfield index, 3)) (kk : ∀ (H1 : Heap) (locs1 : List Loc), va_P D vwCl wn H1 → va_D A wn → va_S A s.heap H1 locs1 → W p l e R s m args below meth c H1 locs1 cells slots Q (F0 m (pc + 3) ls rest)) : W p l e R s m args below meth c H locs cells slots Q (F0 m pc ls (v :: .ref a :: rest)) := by
  subst hwn
  exact va_putF hx hb hts hin ty0 hty hnm hown hK.1 hP hD hS0 q0 he hc k hk (hts _ hlink) (fun _ h => h) hfin hi2 hdecl hd hn hfit hl hdg kk
end YN
