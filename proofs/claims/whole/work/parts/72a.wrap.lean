/-! ===== the law's own methods: call, and say which exception came ===== -/
def zC (U : State) : Prop := (∀ n : Nat, n = 1 ∨ n = 2 ∨ n = 3 → va_Nw (.castable (zE n) (zE n)) U) ∧ ∀ n k : Nat, (n = 1 ∨ n = 2 ∨ n = 3) → (k = 1 ∨ k = 2 ∨ k = 3) → ¬ n = k → va_Nc (zE n) (zE k) U
theorem zC_warm {s U : State} (h : zC s) (hW : s.WarmedH U.vm) : zC U := ⟨fun n hn => va_Nw.warmC hW (h.1 n hn), fun n k hn hk hne => (h.2 n k hn hk hne).moved hW.alike⟩
theorem zC_calling {U : State} {g : JFrame} {mk : MethodId} {a : Array Value} (h : zC U) : zC (U.calling g mk a) := ⟨fun n hn => va_Nw.same rfl rfl (h.1 n hn), fun n k hn hk hne => (h.2 n k hn hk hne).moved (Vm.Alike.refl U.vm)⟩
def zY (D : va_G) (ca : Nat → ClassId) (sz : Nat) (ws : va_W) : State → Prop := fun U => zX D ca sz ws U ∧ zC U
theorem zY_blind {D : va_G} {ca : Nat → ClassId} {ws : va_W} {sz : Nat} {av : List Value} : FrameBlind (va_Pc av (zY D ca sz ws)) := fun a U g mk h => ⟨h.1, (zX_blind (av := av) a U g mk ⟨h.1, h.2.1⟩).2, zC_calling h.2.2⟩
abbrev MZ (l : Launch) (y : MethodName) (ws : List Cond) (fr lo mc : Nat) (D : va_G) (ca : Nat → ClassId) (av : List Value) (sz : Nat) (wd : va_W) (vv : Option Value) (w1 : va_W) : Prop := Met l y ws ({ frames := fr, cells := mc, slots := 6 * mc, locals := lo }) (va_Pc av (zY D ca sz wd)) (zW D vv w1 (va_A wd sz)) mc (6 * mc) (va_A wd sz)
theorem hdZ {l : Launch} {y : MethodName} {ws ws' : List Cond} {fr lo mc maxL sz : Nat} {cc : ByteArray} {D : va_G} {ca : Nat → ClassId} {av : List Value} {wd w1 : va_W} {vv : Option Value} {hh : List (Nat × Nat × Nat × Nat)} (hy : plainName y.cls = true) (hw : ws = Cond.codeWith y cc maxL (some .int) hh :: ws') (hlen : (lg_sl av).length ≤ maxL)
    (body : ∀ p e s m args below meth c A (Q : State → Prop), Q = MQ below (zW D vv w1 A) args s mc (6 * mc) A → p.tables.exec = Jvm.exec → c.code = cc → meth.sig.returnType = some .int → c.maxLocals = maxL → s.vm.findClass y.cls = some m.cls → (∀ w ∈ ws, w.before args s = true) → meth.locks = false → c.exceptionTable.toList = tableOf hh → va_P D vwCl wd s.heap → va_D A wd → zK D ca s → (∀ q : Nat, s.heap.size ≤ q → A q) → va_S A s.heap s.heap [] → zP A s → zC s → ∀ ls, lv_has ls maxL (lv_args 0 av) → W p l e ({ frames := fr, cells := mc, slots := 6 * mc, locals := lo }) s m args below meth c s.heap [] 0 0 Q (F0 m 0 ls [])) : MZ l y ws fr lo mc D ca av sz wd vv w1 := by
  refine MetFree.of_bodyS (code := cc) (maxLocals := maxL) (ret := some .int) hy ?_ ?_
  · intro args s m h hn
    obtain ⟨m9, meth, c, hn9, h1, h2, h3, h4, -, h5, h6, -⟩ := Cond.codeWith_spec (atoms_spec (ws := ws) h _ (by rw [hw]; exact List.mem_cons_self))
    cases hn.symm.trans hn9
    exact ⟨meth, c, h1, h2, h3, h4, h5, h6⟩
  · intro p e s m args below meth c s₁ B hml hv _
    have hh0 : s₁.heap = s.heap := by rw [B.state]; rfl
    obtain ⟨rfl, ⟨⟨hsz, hP, hK, hD⟩, hZ⟩, hC⟩ := hv
    subst hsz
    have hts := atoms_spec (ws := ws) B.pre
    have hl := lv_entry av (n := maxL) hlen
    have hex : c.exceptionTable.toList = tableOf hh := vx_table (x := y) B (hts (Cond.codeWith y cc maxL (some .int) hh) (by rw [hw]; exact List.mem_cons_self))
    have key := body p e s m _ below meth c _ _ rfl B.exec B.bytes B.returns hml (findClass_of_methodNamed B.named) hts B.notSynchronized hex hP hD.self hK (fun q h => Or.inr h) va_S.rf hZ hC _ hl
    rw [← lg_entry_eq] at key
    obtain ⟨t, a1, o, b1, b2, b3⟩ := key s₁ hh0 (Stand.of_body B)
    exact ⟨t, o, a1, b1, b2, ⟨b3.1, b3.2⟩⟩
section YZ
variable {p : Program} {l : Launch} {e : Env} {R : Room} {s : State} {m : MethodId} {args : Array Value} {below : List Frame} {meth : Method} {c : Code} {H : Heap} {locs : List Loc} {cells slots mc mc2 : Nat} {Q : State → Prop} {cc : ByteArray} {pc : Nat} {ls : Array Slot} {A : Nat → Prop} {D : va_G} {ca : Nat → ClassId} {w1 wd wr : va_W} {vv : Option Value} {own : String} {y : MethodName} {ws ws' Ts : List Cond} {bytes : ByteArray} {maxL nL fr lo index : Nat} {ret : Option FieldType} {As rest st st' : List Value} {x : Option Value ⊕ Nat} {hh : List (Nat × Nat × Nat × Nat)}
/-- behind a call that has thrown: the exception stands over this frame -/
theorem runX_c {a : Array Value} {n : Nat} {ws wc : va_W} (hr : vx_Run p l e R s m args below meth c H locs cells slots mc2 (6 * mc2) (F0 m pc ls st) rest (zXQ D x w1 (va_A wc H.size) a) (zXC D x w1 (va_A wc H.size)) (va_A wc H.size)) (hv : x = .inr n) (hP : va_P D vwCl ws H) (hD : va_D A ws) (hS : va_S A s.heap H locs) (hA : ∀ q : Nat, s.heap.size ≤ q → A q) (isC isR : List Nat) (hC : isC.map (fun i => ws[i]?) = wc.map some) (hR : isR.map (fun i => ws[i]?) = wr.map some) (hn : va_nd isR = true) (hdis : ∀ i ∈ isR, i ∉ isC)
    (kk : ∀ (q : Addr) (ce : Cell) (H1 : Heap) (locs1 : List Loc), va_P D vwCl (wr ++ w1) H1 → va_D A (wr ++ w1) → va_S A s.heap H1 locs1 → H1[q]? = some ce → ce.vm = .none → s.vm.findClass (zE n) = some ce.cls → vx_W p l e R s m args below meth c H1 locs1 (cells + mc2) (slots + 6 * mc2) Q (F0 m pc ls rest) q) : W p l e R s m args below meth c H locs cells slots Q (F0 m pc ls st) := by
  have hF := va_free (wc := wc) hD hS hA isC hC
  intro T hT X
  rcases hr T hT X with ⟨v, st₀, t, T', L, h0, X', hL, e1, e2, ⟨vv', hx1, -⟩, stp⟩ | ⟨q, st₀, t, T', L, E, ce, h0, X', hL, e1, e2, ⟨n', hx1, hE, hP1, hD1, hz, hk⟩, hce, hcv, hcl, stp⟩
  · rw [hv] at hx1; cases hx1
  · rw [hv] at hx1
    cases hx1
    rw [h0] at hz hk
    have hjoin := va_join hP hD isC isR hC hR hn hdis (H1 := t.heap) (fun q h1 h2 => hk q h1 h2) hF hP1 hD1
    have hS' : va_S A s.heap t.heap (locs ++ L) := ⟨Nat.le_trans hS.1 hz, fun q h1 h2 => by rw [hk q (Nat.lt_of_lt_of_le h1 hS.1) (fun z => h2 (hF q z))]; exact hS.2.1 q h1 h2, fun q hq => by
      rcases List.mem_append.mp hq with h | h
      · exact hS.2.2 q h
      · exact hF _ (hL q h)⟩
    subst hE
    rw [← e1] at hjoin hS' hce
    obtain ⟨t2, a1, b1⟩ := kk q ce T'.heap (locs ++ L) hjoin.1 hjoin.2 hS' hce hcv hcl T' rfl X'
    exact ⟨t2, stp.trans a1, b1⟩
/-- the wrapper's end -/
theorem rtZ {v : Int32} (hx : p.tables.exec = Jvm.exec) (hb : c.code = cc) (hr : meth.sig.returnType = some .int) (hlk : meth.locks = false) (h1 : cells ≤ mc) (h2 : slots ≤ 6 * mc) (hP : va_P D vwCl w1 H) (hD : va_D A w1) (hS : va_S A s.heap H locs) (hdg : decode cc pc = .ok (.ireturn, 1)) : W p l e R s m args below meth c H locs cells slots (MQ below (zW D (some (.int v)) w1 A) args s mc (6 * mc) A) (F0 m pc ls [.int v]) :=
  W.widen h1 h2 (W.iret hx hb hr (fun t ht _ => ⟨rfl, by rw [ht]; exact hP, hD, hS.F ht⟩) hS.2.2 hdg hlk)
/-- a call of a wrapper, which changes the first piece -/
theorem clSZ (hx : p.tables.exec = Jvm.exec) (hb : c.code = cc) (hml : c.maxLocals = nL) (hown : s.vm.findClass own = some m.cls) (hts : ∀ w ∈ Ts, w.before args s = true) (hT : GoodIn Ts (va_wsS own index y ws)) (hw : ws = Cond.codeWith y bytes maxL ret hh :: ws') (n : Nat)
    (hd : y.cls ≠ "java/lang/invoke/MethodHandle" ∧ y.cls ≠ "java/lang/invoke/VarHandle" ∧ (parseMethodDescriptor y.desc).map (fun d => d.parameters.length) = some n) (hR : fr + 1 ≤ R.frames ∧ 8 + (maxL + 11) + lo ≤ R.locals)
    (hM : MZ l y ws fr lo mc2 D ca As H.size wd vv w1) (hP : va_P D vwCl (wd ++ wr) H) (hD : va_D A (wd ++ wr)) (hS : va_S A s.heap H locs) (hA : ∀ q : Nat, s.heap.size ≤ q → A q) (hK : zK D ca s) (hZ : zP A s) (hC : zC s)
    (hn : As.length = n) (hsz : ls.size = nL) (hstk : st = As.reverse ++ rest) (hroom : (rest.map fun v => v.category).sum ≤ 8) (hcs : cells + mc2 ≤ R.cells ∧ slots + 6 * mc2 ≤ R.slots)
    (hdg : decode cc pc = .ok (.invokestatic index, 3)) (hst : vv.toList ++ rest = st') (kk : ∀ (H1 : Heap) (locs1 : List Loc), va_P D vwCl (w1 ++ wr) H1 → va_D A (w1 ++ wr) → va_S A s.heap H1 locs1 → W p l e R s m args below meth c H1 locs1 (cells + mc2) (slots + 6 * mc2) Q (F0 m (pc + 3) ls st')) : W p l e R s m args below meth c H locs cells slots Q (F0 m pc ls st) := by
  have hPc := va_P_at hP _ (blk_l wd wr)
  have hDc := hD.sub _ (nd_range' _ _) (blk_l wd wr)
  have hF := va_free (wc := wd) hD hS hA _ (blk_l wd wr)
  exact runW (vx_runSW (As := As) ⟨hx, hb, hml, hown, hts⟩ hM (vx_cwSW n hts hT hw rfl rfl hd hR) ⟨zY_blind, fun U hU hW => ⟨rfl, ⟨⟨by rw [hU], by rw [hU]; exact hPc, zK_warm hK hW, hDc.weaken (fun _ _ _ _ => trivial)⟩, zP_at hZ hS hU hW hF⟩, zC_warm hC hW⟩⟩ rfl hn hsz hstk (lv_room hroom) hdg hcs) hP hD hS hA _ _ (blk_l wd wr) (blk_r wd wr) (nd_range' _ _) (blk_dis wd wr) hst (fun H1 locs1 k1 k2 k3 => kk H1 locs1 k1.flip k2.flip k3)
end YZ
/-- the number that a wrapper answers, and what stands in out afterwards -/
def kcI (km : Nat → Int) (r : Int32 ⊕ Nat) : Int32 := match r with
  | .inl _ => 0
  | .inr n => iN (km n)
def kcL (km : Nat → Int) (r : Int64 ⊕ Nat) : Int32 := match r with
  | .inl _ => 0
  | .inr n => iN (km n)
def ouI (g : Nat → Int64) (r : Int32 ⊕ Nat) : Nat → Int64 := match r with
  | .inl v => vp_updL g 0 v.toInt64
  | .inr _ => g
def ouL (g : Nat → Int64) (r : Int64 ⊕ Nat) : Nat → Int64 := match r with
  | .inl v => vp_updL g 0 v
  | .inr _ => g
