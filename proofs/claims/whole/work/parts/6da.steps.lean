/-! ===== the law's two systems: their cells, and what holds of them between calls ===== -/
/-- a State's cells, in pieces -/
def wS0 (b : Nat → Nat) (C : CS) : Nat × va_E := (b 0, .inr (4, [.ref (b 1), .ref (b 2), .int C.1, .ref (b 3)]))
def wS1 (b : Nat → Nat) (C : CS) : Nat × va_E := (b 1, .inr (5, [.int C.2.1, .int C.2.2.1, .ref (b 4)]))
def wS2 (ca : Nat → ClassId) (b : Nat → Nat) (C : CS) : Nat × va_E := (b 4, .inl (ca 0, 240, .inl C.2.2.2.1))
def wS3 (b : Nat → Nat) (C : CS) : Nat × va_E := (b 2, .inr (2, [.int C.2.2.2.2.1, .ref (b 5)]))
def wS4 (ca : Nat → ClassId) (b : Nat → Nat) (C : CS) : Nat × va_E := (b 5, .inl (ca 0, 180, .inl C.2.2.2.2.2.1))
def wS5 (ca : Nat → ClassId) (b : Nat → Nat) (C : CS) : va_W := [(b 3, .inl (ca 3, 5, .inr (.inr (.inr (.inr (fun i => some (b (6 + i)))))))), (b (6 + 0), .inr (5, [.int (C.2.2.2.2.2.2.1 0), .int (C.2.2.2.2.2.2.2.1 0), .ref (b (11 + 0))])), (b (11 + 0), .inl (ca 0, 240, .inl (C.2.2.2.2.2.2.2.2 0))), (b (6 + 1), .inr (5, [.int (C.2.2.2.2.2.2.1 1), .int (C.2.2.2.2.2.2.2.1 1), .ref (b (11 + 1))])), (b (11 + 1), .inl (ca 0, 240, .inl (C.2.2.2.2.2.2.2.2 1))), (b (6 + 2), .inr (5, [.int (C.2.2.2.2.2.2.1 2), .int (C.2.2.2.2.2.2.2.1 2), .ref (b (11 + 2))])), (b (11 + 2), .inl (ca 0, 240, .inl (C.2.2.2.2.2.2.2.2 2))), (b (6 + 3), .inr (5, [.int (C.2.2.2.2.2.2.1 3), .int (C.2.2.2.2.2.2.2.1 3), .ref (b (11 + 3))])), (b (11 + 3), .inl (ca 0, 240, .inl (C.2.2.2.2.2.2.2.2 3))), (b (6 + 4), .inr (5, [.int (C.2.2.2.2.2.2.1 4), .int (C.2.2.2.2.2.2.2.1 4), .ref (b (11 + 4))])), (b (11 + 4), .inl (ca 0, 240, .inl (C.2.2.2.2.2.2.2.2 4)))]
def wSt (ca : Nat → ClassId) (b : Nat → Nat) (C : CS) : va_W := wS0 b C :: wS1 b C :: wS2 ca b C :: wS3 b C :: wS4 ca b C :: wS5 ca b C
/-- the class's cells, in blocks -/
def BX (ca : Nat → ClassId) (a b : Nat → Nat) (d : Nat → Nat → Nat) (C : CS) (S : Nat → CS) (hc ho sl cm pl : Int32) (by_ nums : Nat → Int32) (ez : Int32) (el ed : Nat → Int32) (i : Nat) : va_W := match i with
  | 0 => [(a 0, .inr (6, [.ref (b 0), .ref (a 1), .ref (a 3), .ref (a 6)]))]
  | 1 => [wS0 b C]
  | 2 => [wS1 b C]
  | 3 => [wS2 ca b C]
  | 4 => [wS3 b C]
  | 5 => [wS4 ca b C]
  | 6 => wS5 ca b C
  | 7 => [(a 1, .inr (1, [.int hc, .int ho, .ref (a 2)]))]
  | 8 => [(a 2, .inl (ca 2, 5, .inr (.inr (.inr (.inr (fun i => some (d i 0)))))))]
  | 9 => wSt ca (d 0) (S 0)
  | 10 => wSt ca (d 1) (S 1)
  | 11 => wSt ca (d 2) (S 2)
  | 12 => wSt ca (d 3) (S 3)
  | 13 => wSt ca (d 4) (S 4)
  | 14 => [(a 3, .inr (3, [.int sl, .int cm, .int pl, .ref (a 4), .ref (a 5)]))]
  | 15 => [(a 4, .inl (ca 0, 120, .inl by_))]
  | 16 => [(a 5, .inl (ca 0, 4, .inl nums))]
  | 17 => [(a 6, .inr (0, [.int ez, .ref (a 7), .ref (a 8)]))]
  | 18 => [(a 7, .inl (ca 0, 256, .inl el))]
  | 19 => [(a 8, .inl (ca 0, 256, .inl ed))]
  | _ => []
def WX (ca : Nat → ClassId) (a b : Nat → Nat) (d : Nat → Nat → Nat) (C : CS) (S : Nat → CS) (hc ho sl cm pl : Int32) (by_ nums : Nat → Int32) (ez : Int32) (el ed : Nat → Int32) : va_W := (List.range 20).flatMap (BX ca a b d C S hc ho sl cm pl by_ nums ez el ed)
/-- the reference's cells -/
def BM (ca : Nat → ClassId) (z : Nat → Nat) (s : Nat → Int32) (c : Int32) (sv : Nat → Int32) (len : Int32) (tx_ : Nat → Int32) (code pn : Int32) (pcl : Nat → Int32) (at_ cmds : Int32) (le nu be : Nat → Int32) (h : Int64) (i : Nat) : va_W := match i with
  | 0 => [(z 0, .inr (7, [.ref (z 1), .ref (z 2), .int c, .ref (z 3), .int len, .int code, .int pn, .ref (z 4), .int at_, .int cmds, .ref (z 5), .ref (z 6), .ref (z 7), .long h]))]
  | 1 => [(z 1, .inl (ca 0, 1634, .inl s))]
  | 2 => [(z 2, .inl (ca 0, 6536, .inl sv))]
  | 3 => [(z 3, .inl (ca 0, 120, .inl tx_))]
  | 4 => [(z 4, .inl (ca 0, 768, .inl pcl))]
  | 5 => [(z 5, .inl (ca 0, 60, .inl le))]
  | 6 => [(z 6, .inl (ca 0, 240, .inl nu))]
  | 7 => [(z 7, .inl (ca 0, 1634, .inl be))]
  | _ => []
def WM (ca : Nat → ClassId) (z : Nat → Nat) (s : Nat → Int32) (c : Int32) (sv : Nat → Int32) (len : Int32) (tx_ : Nat → Int32) (code pn : Int32) (pcl : Nat → Int32) (at_ cmds : Int32) (le nu be : Nat → Int32) (h : Int64) : va_W := (List.range 8).flatMap (BM ca z s c sv len tx_ code pn pcl at_ cmds le nu be h)
def Inv (ca : Nat → ClassId) (a b : Nat → Nat) (d : Nat → Nat → Nat) (z : Nat → Nat) (W7 W8 : va_W) (code : Int32) : Prop := ∃ (C : CS) (S : Nat → CS) (c o len : Nat) (cm pl : Int32) (by_ nums : Nat → Int32) (ez : Int32) (el ed s sv tx_ : Nat → Int32) (pn : Int32) (pcl : Nat → Int32) (at_ cmds : Int32) (le nu be : Nat → Int32) (h : Int64), W7 = WX ca a b d C S (iN (c : Int)) (iN (o : Int)) (iN (len : Int)) cm pl by_ nums ez el ed ∧ W8 = WM ca z s (iN (c : Int)) sv (iN (len : Int)) tx_ code pn pcl at_ cmds le nu be h ∧ RS C s ∧ HR S sv c o ∧ TxR len by_ tx_
section YC
variable {l : Launch} {y : MethodName} {ws : List Cond} {fr lo mc sz N : Nat} {D : va_G} {ca : Nat → ClassId} {av : List Value} {W W' V V' w0 w1 : va_W} {vv : Option Value} {x : Option Value ⊕ Nat} {f f' : Nat → va_W}
theorem va_P.perm {H : Heap} (h : W.Perm V) (hP : va_P D vwCl W H) : va_P D vwCl V H := by
  intro k q hk
  obtain ⟨k', hk'⟩ := List.getElem?_of_mem (h.mem_iff.mpr (List.mem_of_getElem? hk))
  exact hP k' q hk'
theorem va_D_nd {A : Nat → Prop} (h : va_D A W) : (W.map (fun q => q.1)).Nodup := by
  unfold List.Nodup
  rw [List.pairwise_map, List.pairwise_iff_getElem]
  intro i j hi hj hij e
  have := h.1 i j W[i] W[j] (List.getElem?_eq_getElem hi) (List.getElem?_eq_getElem hj) e
  omega
theorem va_D_of {A : Nat → Prop} (h : (W.map (fun q => q.1)).Nodup) (hA : ∀ q ∈ W, A q.1) : va_D A W := by
  unfold List.Nodup at h
  rw [List.pairwise_map, List.pairwise_iff_getElem] at h
  refine ⟨fun i j p q hi hj e => ?_, fun k q hk => hA q (List.mem_of_getElem? hk)⟩
  obtain ⟨hi', rfl⟩ := List.getElem?_eq_some_iff.mp hi
  obtain ⟨hj', rfl⟩ := List.getElem?_eq_some_iff.mp hj
  rcases Nat.lt_trichotomy i j with c | c | c
  · exact absurd e (h i j hi' hj' c)
  · exact c
  · exact absurd e.symm (h j i hj' hi' c)
theorem va_D.perm {A : Nat → Prop} (h : W.Perm V) (hD : va_D A W) : va_D A V := by
  refine va_D_of ((h.map (fun q => q.1)).nodup_iff.mp (va_D_nd hD)) (fun q hq => ?_)
  obtain ⟨k, hk⟩ := List.getElem?_of_mem (h.mem_iff.mpr hq)
  exact hD.2 k q hk
theorem va_A.perm {q : Nat} (h : W.Perm V) (hA : va_A W sz q) : va_A V sz q := by
  rcases hA with ⟨k, e, hk⟩ | hA
  · obtain ⟨k', hk'⟩ := List.getElem?_of_mem (h.mem_iff.mp (List.mem_of_getElem? hk))
    exact Or.inl ⟨k', e, hk'⟩
  · exact Or.inr hA
theorem zM_perm {U : State} (h : W.Perm V) (hU : zM D ca sz W U) : zM D ca sz V U := ⟨hU.1, hU.2.1.perm h, hU.2.2.1, hU.2.2.2.perm h⟩
theorem va_F_mono {A B : Nat → Prop} {st t : State} (h : va_F A st t) (hAB : ∀ q, A q → B q) : va_F B st t := ⟨h.1, fun q h1 h2 => h.2 q h1 (fun z => h2 (hAB q z))⟩
theorem MX.perm (hM : MX l y ws fr lo mc D ca av sz V x V') (h : W.Perm V) (h' : V'.Perm W') : MX l y ws fr lo mc D ca av sz W x W' := by
  refine MetFree.mono hM ?_ (fun _ _ _ _ _ h => h) ?_
  · rintro a U ⟨h1, h3, h4⟩
    exact ⟨h1, zM_perm h h3, zP_narrow h4 (fun q z => z.perm h.symm)⟩
  · rintro a st o t ⟨-, hU, -⟩ hQ
    rcases hQ with ⟨⟨vv, e1, e2, hP1, hD1, hF⟩, L, hL, hf⟩ | ⟨q, e1, E, ce, L, ⟨n, e2, e3, hP1, hD1, hF⟩, k1, k2, k3, k4, k5, k6⟩
    · exact Or.inl ⟨⟨vv, e1, e2, hP1.perm h', (hD1.perm h').weaken (fun _ _ _ z => z.perm h.symm), va_F_mono hF (fun q z => z.perm h.symm)⟩, L, hL, fun z hz => (hf z hz).perm h.symm⟩
    · exact Or.inr ⟨q, e1, E, ce, L, ⟨n, e2, e3, hP1.perm h', (hD1.perm h').weaken (fun _ _ _ z => z.perm h.symm), va_F_mono hF (fun q z => z.perm h.symm)⟩, k1, k2, k3, k4, k5, fun z hz => (k6 z hz).perm h.symm⟩
theorem MW.perm (hM : MW l y ws fr lo D ca av sz V vv V') (h : W.Perm V) (h' : V'.Perm W') : MW l y ws fr lo D ca av sz W vv W' := by
  refine MetFree.mono hM ?_ (fun _ _ _ _ _ h => h) ?_
  · rintro a U ⟨h1, h3⟩
    exact ⟨h1, zM_perm h h3⟩
  · rintro a st o t ⟨-, hU⟩ ⟨⟨e2, hP1, hD1, hF⟩, L, hL, hf⟩
    exact ⟨⟨e2, hP1.perm h', (hD1.perm h').weaken (fun _ _ _ z => z.perm h.symm), va_F_mono hF (fun q z => z.perm h.symm)⟩, L, hL, fun z hz => (hf z hz).perm h.symm⟩
theorem blk_id (a : va_W) : (List.range' 0 a.length).map (fun i => a[i]?) = a.map some := by
  have := blk_l a []
  rwa [List.append_nil] at this
theorem MX.frame (hM : MX l y ws fr lo mc D ca av sz w0 x w1) (r : va_W) : MX l y ws fr lo mc D ca av sz (w0 ++ r) x (r ++ w1) := hM.lift _ _ _ (blk_l w0 r) (blk_r w0 r) (blk_id (r ++ w1)) (nd_range' _ _) (nd_range' _ _) (blk_dis w0 r) (nd_range' _ _)
theorem MW.frame (hM : MW l y ws fr lo D ca av sz w0 vv w1) (r : va_W) : MW l y ws fr lo D ca av sz (w0 ++ r) vv (r ++ w1) := hM.lift _ _ _ (blk_l w0 r) (blk_r w0 r) (blk_id (r ++ w1)) (nd_range' _ _) (nd_range' _ _) (blk_dis w0 r) (nd_range' _ _)
theorem blk_perm (is ir : List Nat) (hp : (List.range N).Perm (is ++ ir)) : ((List.range N).flatMap f).Perm (is.flatMap f ++ ir.flatMap f) := by
  have h := hp.flatMap_right f
  rwa [List.flatMap_append] at h
theorem blk_map {ir : List Nat} (h : ir.map f = ir.map f') : ir.flatMap f = ir.flatMap f' := by
  rw [List.flatMap_def, List.flatMap_def, h]
theorem MX.lp (hM : MX l y ws fr lo mc D ca av sz w0 x w1) (is ir : List Nat) (hp : (List.range N).Perm (is ++ ir)) (h0 : is.flatMap f = w0) (h1 : is.flatMap f' = w1) (hr : ir.map f = ir.map f') : MX l y ws fr lo mc D ca av sz ((List.range N).flatMap f) x ((List.range N).flatMap f') := by
  subst h0 h1
  refine (hM.frame (ir.flatMap f)).perm (blk_perm is ir hp) ?_
  rw [blk_map hr]
  exact List.perm_append_comm.trans (blk_perm is ir hp).symm
theorem MW.lp (hM : MW l y ws fr lo D ca av sz w0 vv w1) (is ir : List Nat) (hp : (List.range N).Perm (is ++ ir)) (h0 : is.flatMap f = w0) (h1 : is.flatMap f' = w1) (hr : ir.map f = ir.map f') : MW l y ws fr lo D ca av sz ((List.range N).flatMap f) vv ((List.range N).flatMap f') := by
  subst h0 h1
  refine (hM.frame (ir.flatMap f)).perm (blk_perm is ir hp) ?_
  rw [blk_map hr]
  exact List.perm_append_comm.trans (blk_perm is ir hp).symm
theorem MR.lp (hM : MR l y ws fr lo D ca av w0 vv) (is ir : List Nat) (hp : (List.range N).Perm (is ++ ir)) (h0 : is.flatMap f = w0) : MW l y ws fr lo D ca av sz ((List.range N).flatMap f) vv ((List.range N).flatMap f) := by
  subst h0
  have h : MW l y ws fr lo D ca av sz (is.flatMap f ++ ir.flatMap f) vv (is.flatMap f ++ ir.flatMap f) := hM.lift _ (blk_l _ _)
  exact h.perm (blk_perm is ir hp) (blk_perm is ir hp).symm
end YC
theorem inv_x {ca : Nat → ClassId} {a b : Nat → Nat} {d : Nat → Nat → Nat} {z : Nat → Nat} {W7 W8 : va_W} {code : Int32} (h : Inv ca a b d z W7 W8 code) : W7[0]? = some (a 0, .inr (6, [.ref (b 0), .ref (a 1), .ref (a 3), .ref (a 6)])) := by
  obtain ⟨C, S, c, o, len, cm, pl, by_, nums, ez, el, ed, s, sv, tx_, pn, pcl, at_, cmds, le, nu, be, h, rfl, rfl, -⟩ := h
  rfl
theorem inv_m {ca : Nat → ClassId} {a b : Nat → Nat} {d : Nat → Nat → Nat} {z : Nat → Nat} {W7 W8 : va_W} {code : Int32} (h : Inv ca a b d z W7 W8 code) : ∃ fs, W8[0]? = some (z 0, .inr (7, fs)) := by
  obtain ⟨C, S, c, o, len, cm, pl, by_, nums, ez, el, ed, s, sv, tx_, pn, pcl, at_, cmds, le, nu, be, h, rfl, rfl, -⟩ := h
  exact ⟨_, rfl⟩
theorem st_thrown (l : Launch) (D : va_G) {ca : Nat → ClassId} {a b : Nat → Nat} {d : Nat → Nat → Nat} {z : Nat → Nat} {W7 W8 : va_W} {code : Int32} (h : Inv ca a b d z W7 W8 code) (sz : Nat) : MW l yX8_thrown wsX8_thrown 0 0 D ca [.ref (z 0)] sz W8 (some (.int code)) W8 := by
  obtain ⟨C, S, c, o, len, cm, pl, by_, nums, ez, el, ed, s, sv, tx_, pn, pcl, at_, cmds, le, nu, be, h, rfl, rfl, -⟩ := h
  exact (ctX8_thrown l D ca (z 0) (z 1) (z 2) (z 3) (z 4) (z 5) (z 6) (z 7) (iN (c : Int)) (iN (len : Int)) code pn at_ cmds h code rfl).lp [0] [1, 2, 3, 4, 5, 6, 7] (by decide +kernel) rfl
