/-! ===== the law's loop ===== -/
theorem sw_lt (x : Int32) : 0 ≤ (x &&& 63).toInt := by
  have h : (x &&& 63).toBitVec.toNat ≤ 63 := by
    rw [Int32.toBitVec_and, BitVec.toNat_and]
    exact Nat.le_trans Nat.and_le_right (by decide)
  have e : (x &&& 63).toInt = ((x &&& 63).toBitVec.toNat : Int) := BitVec.toInt_eq_toNat_of_lt (by omega)
  omega
section LB
variable {p : Program} {l : Launch} {e : Env} {s : State} {m : MethodId} {args : Array Value} {below : List Frame} {meth : Method} {c : Code} {H : Heap} {locs : List Loc} {cells slots i b L : Nat} {Q : State → Prop} {ls : Array Slot} {A : Nat → Prop} {D : va_G} {ca : Nat → ClassId} {a b0 z : Nat → Nat} {d : Nat → Nat → Nat} {W7 W8 : va_W} {code0 : Int32} {g : Nat → Int64} {out : Nat} {xs : Nat → Int32}
set_option maxHeartbeats 4000000 in
/-- one command -/
theorem lw_sw {v : Int32} (hv0 : 0 ≤ v.toInt) (hst : l.stackTraces = false) (C : lwK p s m args c D ca A b L xs) (hi : i + 7 ≤ L) (hI : Inv ca a b0 d z W7 W8 code0) (hP : va_P D vwCl (([(out, .inl (ca 1, 1, .inr (.inl g)))] ++ W7) ++ W8) H) (hD : va_D A (([(out, .inl (ca 1, 1, .inr (.inl g)))] ++ W7) ++ W8)) (hS : va_S A s.heap H locs) (hl : lv_has ls 8 [(4, .int (iN (i : Int))), (3, .ref out), (2, .ref (z 0)), (1, .ref (a 0)), (0, .ref b)]) (hc : cells + 4 ≤ room_1.cells ∧ slots + 24 ≤ room_1.slots) (kk : lwN p l e s m args below meth c D ca A b i a b0 d z out Q cells slots) : W p l e room_1 s m args below meth c H locs cells slots Q (F0 m 40 ls [.int v]) := by
  have C0 := C
  obtain ⟨hx, hb, hml, hown, hts, hK, hA, hZ, hC, hX, hbl, hbA, hL⟩ := C
  have hq : v.toInt = 0 ∨ v.toInt = 1 ∨ v.toInt = 2 ∨ v.toInt = 3 ∨ v.toInt = 4 ∨ v.toInt = 5 ∨ v.toInt = 6 ∨ v.toInt = 7 ∨ v.toInt = 8 ∨ v.toInt = 9 ∨ v.toInt = 10 ∨ v.toInt = 11 ∨ v.toInt = 12 ∨ v.toInt = 13 ∨ v.toInt = 14 ∨ v.toInt = 15 ∨ v.toInt = 16 ∨ v.toInt = 17 ∨ v.toInt = 18 ∨ v.toInt = 19 ∨ v.toInt = 20 ∨ v.toInt = 21 ∨ v.toInt = 22 ∨ v.toInt = 23 ∨ v.toInt = 24 ∨ v.toInt = 25 ∨ v.toInt = 26 ∨ v.toInt = 27 ∨ v.toInt = 28 ∨ v.toInt = 29 ∨ v.toInt = 30 ∨ v.toInt = 31 ∨ v.toInt = 32 ∨ v.toInt = 33 ∨ v.toInt = 34 ∨ v.toInt = 35 ∨ 35 < v.toInt := by omega
  rcases hq with h | h | h | h | h | h | h | h | h | h | h | h | h | h | h | h | h | h | h | h | h | h | h | h | h | h | h | h | h | h | h | h | h | h | h | h | h
  · exact lv_tableIn (off := 160) (tgt := 200) hx hb dL_law_40 (by omega) (by omega) (by rw [h]; rfl) (by decide) (lc_add hst C0 hi hI hP hD hS hl hc kk)
  · exact lv_tableIn (off := 252) (tgt := 292) hx hb dL_law_40 (by omega) (by omega) (by rw [h]; rfl) (by decide) (lc_addThrough hst C0 hi hI hP hD hS hl hc kk)
  · exact lv_tableIn (off := 370) (tgt := 410) hx hb dL_law_40 (by omega) (by omega) (by rw [h]; rfl) (by decide) (lc_end hst C0 hi hI hP hD hS hl hc kk)
  · exact lv_tableIn (off := 426) (tgt := 466) hx hb dL_law_40 (by omega) (by omega) (by rw [h]; rfl) (by decide) (lc_lift hst C0 hi hI hP hD hS hl hc kk)
  · exact lv_tableIn (off := 494) (tgt := 534) hx hb dL_law_40 (by omega) (by omega) (by rw [h]; rfl) (by decide) (lc_pass hst C0 hi hI hP hD hS hl hc kk)
  · exact lv_tableIn (off := 550) (tgt := 590) hx hb dL_law_40 (by omega) (by omega) (by rw [h]; rfl) (by decide) (lc_now hst C0 hi hI hP hD hS hl hc kk)
  · exact lv_tableIn (off := 563) (tgt := 603) hx hb dL_law_40 (by omega) (by omega) (by rw [h]; rfl) (by decide) (lc_segments hst C0 hi hI hP hD hS hl hc kk)
  · exact lv_tableIn (off := 576) (tgt := 616) hx hb dL_law_40 (by omega) (by omega) (by rw [h]; rfl) (by decide) (lc_segment hst C0 hi hI hP hD hS hl hc kk)
  · exact lv_tableIn (off := 644) (tgt := 684) hx hb dL_law_40 (by omega) (by omega) (by rw [h]; rfl) (by decide) (lc_minimum hst C0 hi hI hP hD hS hl hc kk)
  · exact lv_tableIn (off := 711) (tgt := 751) hx hb dL_law_40 (by omega) (by omega) (by rw [h]; rfl) (by decide) (lc_ranked hst C0 hi hI hP hD hS hl hc kk)
  · exact lv_tableIn (off := 791) (tgt := 831) hx hb dL_law_40 (by omega) (by omega) (by rw [h]; rfl) (by decide) (lc_below hst C0 hi hI hP hD hS hl hc kk)
  · exact lv_tableIn (off := 903) (tgt := 943) hx hb dL_law_40 (by omega) (by omega) (by rw [h]; rfl) (by decide) (lc_overtakes hst C0 hi hI hP hD hS hl hc kk)
  · exact lv_tableIn (off := 971) (tgt := 1011) hx hb dL_law_40 (by omega) (by omega) (by rw [h]; rfl) (by decide) (lc_pieces hst C0 hi hI hP hD hS hl hc kk)
  · exact lv_tableIn (off := 1027) (tgt := 1067) hx hb dL_law_40 (by omega) (by omega) (by rw [h]; rfl) (by decide) (lc_piece hst C0 hi hI hP hD hS hl hc kk)
  · exact lv_tableIn (off := 1107) (tgt := 1147) hx hb dL_law_40 (by omega) (by omega) (by rw [h]; rfl) (by decide) (lc_sum hst C0 hi hI hP hD hS hl hc kk)
  · exact lv_tableIn (off := 1186) (tgt := 1226) hx hb dL_law_40 (by omega) (by omega) (by rw [h]; rfl) (by decide) (lc_visible hst C0 hi hI hP hD hS hl hc kk)
  · exact lv_tableIn (off := 1254) (tgt := 1294) hx hb dL_law_40 (by omega) (by omega) (by rw [h]; rfl) (by decide) (lc_hidden hst C0 hi hI hP hD hS hl hc kk)
  · exact lv_tableIn (off := 1310) (tgt := 1350) hx hb dL_law_40 (by omega) (by omega) (by rw [h]; rfl) (by decide) (lc_extreme hst C0 hi hI hP hD hS hl hc kk)
  · exact lv_tableIn (off := 1394) (tgt := 1434) hx hb dL_law_40 (by omega) (by omega) (by rw [h]; rfl) (by decide) (lc_changes hst C0 hi hI hP hD hS hl hc kk)
  · exact lv_tableIn (off := 1474) (tgt := 1514) hx hb dL_law_40 (by omega) (by omega) (by rw [h]; rfl) (by decide) (lc_nextChange hst C0 hi hI hP hD hS hl hc kk)
  · exact lv_tableIn (off := 1542) (tgt := 1582) hx hb dL_law_40 (by omega) (by omega) (by rw [h]; rfl) (by decide) (lc_overTime hst C0 hi hI hP hD hS hl hc kk)
  · exact lv_tableIn (off := 1649) (tgt := 1689) hx hb dL_law_40 (by omega) (by omega) (by rw [h]; rfl) (by decide) (lc_leads hst C0 hi hI hP hD hS hl hc kk)
  · exact lv_tableIn (off := 1717) (tgt := 1757) hx hb dL_law_40 (by omega) (by omega) (by rw [h]; rfl) (by decide) (lc_intervals hst C0 hi hI hP hD hS hl hc kk)
  · exact lv_tableIn (off := 1773) (tgt := 1813) hx hb dL_law_40 (by omega) (by omega) (by rw [h]; rfl) (by decide) (lc_interval hst C0 hi hI hP hD hS hl hc kk)
  · exact lv_tableIn (off := 1869) (tgt := 1909) hx hb dL_law_40 (by omega) (by omega) (by rw [h]; rfl) (by decide) (lc_holders hst C0 hi hI hP hD hS hl hc kk)
  · exact lv_tableIn (off := 1937) (tgt := 1977) hx hb dL_law_40 (by omega) (by omega) (by rw [h]; rfl) (by decide) (lc_collect hst C0 hi hI hP hD hS hl hc kk)
  · exact lv_tableIn (off := 2005) (tgt := 2045) hx hb dL_law_40 (by omega) (by omega) (by rw [h]; rfl) (by decide) (lc_solve hst C0 hi hI hP hD hS hl hc kk)
  · exact lv_tableIn (off := 2018) (tgt := 2058) hx hb dL_law_40 (by omega) (by omega) (by rw [h]; rfl) (by decide) (lc_answer hst C0 hi hI hP hD hS hl hc kk)
  · exact lv_tableIn (off := 2085) (tgt := 2125) hx hb dL_law_40 (by omega) (by omega) (by rw [h]; rfl) (by decide) (lc_forget hst C0 hi hI hP hD hS hl hc kk)
  · exact lv_tableIn (off := 2098) (tgt := 2138) hx hb dL_law_40 (by omega) (by omega) (by rw [h]; rfl) (by decide) (lc_mark hst C0 hi hI hP hD hS hl hc kk)
  · exact lv_tableIn (off := 2142) (tgt := 2182) hx hb dL_law_40 (by omega) (by omega) (by rw [h]; rfl) (by decide) (lc_rollBack hst C0 hi hI hP hD hS hl hc kk)
  · exact lv_tableIn (off := 2186) (tgt := 2226) hx hb dL_law_40 (by omega) (by omega) (by rw [h]; rfl) (by decide) (lc_append hst C0 hi hI hP hD hS hl hc kk)
  · exact lv_tableIn (off := 2242) (tgt := 2282) hx hb dL_law_40 (by omega) (by omega) (by rw [h]; rfl) (by decide) (lc_clearText hst C0 hi hI hP hD hS hl hc kk)
  · exact lv_tableIn (off := 2255) (tgt := 2295) hx hb dL_law_40 (by omega) (by omega) (by rw [h]; rfl) (by decide) (lc_carryOut hst C0 hi hI hP hD hS hl hc kk)
  · exact lv_tableIn (off := 2268) (tgt := 2308) hx hb dL_law_40 (by omega) (by omega) (by rw [h]; rfl) (by decide) (lc_undo hst C0 hi hI hP hD hS hl hc kk)
  · exact lv_tableIn (off := 2312) (tgt := 2352) hx hb dL_law_40 (by omega) (by omega) (by rw [h]; rfl) (by decide) (lc_digest hst C0 hi hI hP hD hS hl hc kk)
  · exact lv_tableOut (tgt := 2366) hx hb dL_law_40 (Or.inr h) (by decide) (W.widen (k := cells + 4) (n := slots + 24) (by omega) (by omega) (kk H locs ls W7 W8 code0 g hI hP hD hS hl))
theorem lw_loop (hst : l.stackTraces = false) (C : lwK p s m #[.ref b] c D ca A b L xs) (hr : meth.sig.returnType = ret) (hlk : meth.locks = false) (hAs : ∀ q : Nat, A q → s.heap.size ≤ q) : ∀ (n k : Nat) (H : Heap) (locs : List Loc) (ls : Array Slot) (W7 W8 : va_W) (code0 : Int32) (g : Nat → Int64), L < 7 * k + n → 7 * k ≤ L → Inv ca a b0 d z W7 W8 code0 → va_P D vwCl (([(out, .inl (ca 1, 1, .inr (.inl g)))] ++ W7) ++ W8) H → va_D A (([(out, .inl (ca 1, 1, .inr (.inl g)))] ++ W7) ++ W8) → va_S A s.heap H locs → lv_has ls 8 [(4, .int (iN ((7 * k : Nat) : Int))), (3, .ref out), (2, .ref (z 0)), (1, .ref (a 0)), (0, .ref b)] → W p l e room_1 s m #[.ref b] below meth c H locs (114 + 4 * k) (21557 + 24 * k) (lw_Z below #[.ref b] s) (F0 m 23 ls []) := by
  intro n
  induction n with
  | zero => intro k H locs ls W7 W8 code0 g h1 h2; omega
  | succ n ih =>
    intro k H locs ls W7 W8 code0 g h1 h2 hI hP hD hS hl
    have C0 := C
    obtain ⟨hx, hb, hml, hown, hts, hK, hA, hZ, hC, hX, hbl, hbA, hL⟩ := C
    refine lv_iload hx hb dL_law_23 (lv_at hl 0 rfl) ?_
    refine lv_aload_n hx hb dL_law_25 rfl (lv_at hl 4 rfl) ?_
    refine va_slen hx hb hX hbl hbA hS dL_law_26 ?_
    refine lv_bipush (v := 7) hx hb dL_law_27 (by decide) ?_
    refine lv_isub hx hb dL_law_29 ?_
    have hcmp : (Int32.ofNat L - 7 < iN ((7 * k : Nat) : Int)) ↔ L < 7 * k + 7 := by
      rw [show Int32.ofNat L = iN (L : Int) from rfl, show (7 : Int32) = iN 7 from rfl, iN_sub, iN_lt (by omega) (by omega) (by omega) (by omega)]
      omega
    refine lv_icmp_gt (tgt := 2372) hx hb dL_law_30 (by decide) (fun _ => ?_) (fun hlt => ?_)
    · refine lv_iconst (v := (1 : Int32)) hx hb dL_law_2372 (by decide) ?_
      refine W.widen (k := 601024) (n := 7293034) (by omega) (by omega) ?_
      refine va_forget (fun q hq => hAs _ (hS.2.2 q hq)) ?_
      exact lw_ret hx hb hr hlk dL_law_2373
    · have hi : 7 * k + 7 ≤ L := by
        have := mt hcmp.mpr hlt
        omega
      refine lv_aload_n hx hb dL_law_33 rfl (lv_at hl 4 rfl) ?_
      refine lv_iload hx hb dL_law_34 (lv_at hl 0 rfl) ?_
      refine va_sld hx hb hX hbl hbA hS (by rw [vp_in_iff, iN_toInt (by omega) (by omega)]; omega) dL_law_36 ?_
      refine lv_bipush (v := 63) hx hb dL_law_37 (by decide) ?_
      refine lv_iand hx hb dL_law_39 ?_
      refine lw_sw (i := 7 * k) (sw_lt _) hst C0 hi hI hP hD hS hl ⟨show 114 + 4 * k + 4 ≤ 601024 by omega, show 21557 + 24 * k + 24 ≤ 7293034 by omega⟩ ?_
      intro H locs ls W7 W8 code0 g hI hP hD hS hl
      refine lv_iinc (k := 0) (v := iN ((7 * (k + 1) : Nat) : Int)) (lv' := [(4, .int (iN ((7 * (k + 1) : Nat) : Int))), (3, .ref out), (2, .ref (z 0)), (1, .ref (a 0)), (0, .ref b)]) hx hb dL_law_2366 hl rfl (by rw [show Int32.ofInt 7 = iN 7 from rfl, iN_add]; congr 1) (by decide) rfl (fun ls hl => ?_)
      refine lv_goto (tgt := 23) hx hb dL_law_2369 (by decide) ?_
      exact ih (k + 1) H locs ls W7 W8 code0 g (by omega) (by omega) hI hP hD hS hl
end LB
