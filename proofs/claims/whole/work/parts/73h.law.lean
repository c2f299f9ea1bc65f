section Lh
variable {p : Program} {l : Launch} {e : Env} {s : State} {m : MethodId} {args : Array Value} {below : List Frame} {meth : Method} {c : Code} {H : Heap} {locs : List Loc} {cells slots i b L : Nat} {Q : State → Prop} {ls : Array Slot} {A : Nat → Prop} {D : va_G} {ca : Nat → ClassId} {a b0 z : Nat → Nat} {d : Nat → Nat → Nat} {W7 W8 : va_W} {code0 : Int32} {g : Nat → Int64} {out : Nat} {xs : Nat → Int32}
set_option maxRecDepth 100000 in
theorem lc_clearText (hst : l.stackTraces = false) (C : lwK p s m args c D ca A b L xs) (hi : i + 7 ≤ L) (hI : Inv ca a b0 d z W7 W8 code0) (hP : va_P D vwCl (([(out, .inl (ca 1, 1, .inr (.inl g)))] ++ W7) ++ W8) H) (hD : va_D A (([(out, .inl (ca 1, 1, .inr (.inl g)))] ++ W7) ++ W8)) (hS : va_S A s.heap H locs) (hl : lv_has ls 8 [(4, .int (iN (i : Int))), (3, .ref out), (2, .ref (z 0)), (1, .ref (a 0)), (0, .ref b)]) (hc : cells + 4 ≤ room_1.cells ∧ slots + 24 ≤ room_1.slots) (kk : lwN p l e s m args below meth c D ca A b i a b0 d z out Q cells slots) : W p l e room_1 s m args below meth c H locs cells slots Q (F0 m 2282 ls []) := by
  obtain ⟨r, V7, V8, bb, cc, hI2, hM7, hM8, hag⟩ := st_clearText l hst D hI
  have he7 := inv_x hI
  obtain ⟨fs, he8⟩ := inv_m hI
  have C0 := C
  obtain ⟨hx, hb, hml, hown, hts, hK, hA, hZ, hC, hX, hbl, hbA, hL⟩ := C
  refine lv_aload_n hx hb dL_law_2282 rfl (lv_at hl 3 rfl) ?_
  refine clVWb (As := []) (rest := []) (st' := [.int r]) hx hb hml hown hts gL_law_X7_clearText rfl 0 (by decide +kernel) ⟨Nat.le_of_ble_eq_true rfl, Nat.le_of_ble_eq_true rfl⟩ (hM7 H.size) (rotP hP) (rotD hD) hS hA hK 0 6 he7 rfl rfl rfl hl.1 rfl (Nat.le_of_ble_eq_true rfl) ⟨by omega, by omega⟩ dL_law_2283 rfl (fun H locs hP hD hS => ?_)
  refine W.widen (k := cells + 4) (n := slots + 24) (by omega) (by omega) ?_
  have hP := torP hP
  have hD := torD hD
  refine lv_aload_n hx hb dL_law_2286 rfl (lv_at hl 2 rfl) ?_
  refine clVWb (As := []) (rest := [.int r]) (st' := [.int bb, .int r]) hx hb hml hown hts gL_law_X8_clearText rfl 0 (by decide +kernel) ⟨Nat.le_of_ble_eq_true rfl, Nat.le_of_ble_eq_true rfl⟩ (hM8 H.size) hP.flip hD.flip hS hA hK 0 7 he8 rfl rfl rfl hl.1 rfl (Nat.le_of_ble_eq_true rfl) hc dL_law_2287 rfl (fun H locs hP hD hS => ?_)
  refine lv_icmp_eq (tgt := 2366) hx hb dL_law_2290 (by decide) (fun _ => ?_) (fun h => absurd hag h)
  exact kk H locs ls V7 V8 cc g hI2 hP.flip hD.flip hS hl
set_option maxRecDepth 100000 in
theorem lc_carryOut (hst : l.stackTraces = false) (C : lwK p s m args c D ca A b L xs) (hi : i + 7 ≤ L) (hI : Inv ca a b0 d z W7 W8 code0) (hP : va_P D vwCl (([(out, .inl (ca 1, 1, .inr (.inl g)))] ++ W7) ++ W8) H) (hD : va_D A (([(out, .inl (ca 1, 1, .inr (.inl g)))] ++ W7) ++ W8)) (hS : va_S A s.heap H locs) (hl : lv_has ls 8 [(4, .int (iN (i : Int))), (3, .ref out), (2, .ref (z 0)), (1, .ref (a 0)), (0, .ref b)]) (hc : cells + 4 ≤ room_1.cells ∧ slots + 24 ≤ room_1.slots) (kk : lwN p l e s m args below meth c D ca A b i a b0 d z out Q cells slots) : W p l e room_1 s m args below meth c H locs cells slots Q (F0 m 2295 ls []) := by
  obtain ⟨r, V7, V8, bb, cc, hI2, hM7, hM8, hag⟩ := st_carryOut l hst D hI
  have he7 := inv_x hI
  obtain ⟨fs, he8⟩ := inv_m hI
  have C0 := C
  obtain ⟨hx, hb, hml, hown, hts, hK, hA, hZ, hC, hX, hbl, hbA, hL⟩ := C
  refine lv_aload_n hx hb dL_law_2295 rfl (lv_at hl 3 rfl) ?_
  refine clVWb (As := []) (rest := []) (st' := [.int r]) hx hb hml hown hts gL_law_X7_carryOut rfl 0 (by decide +kernel) ⟨Nat.le_of_ble_eq_true rfl, Nat.le_of_ble_eq_true rfl⟩ (hM7 H.size) (rotP hP) (rotD hD) hS hA hK 0 6 he7 rfl rfl rfl hl.1 rfl (Nat.le_of_ble_eq_true rfl) ⟨by omega, by omega⟩ dL_law_2296 rfl (fun H locs hP hD hS => ?_)
  refine W.widen (k := cells + 4) (n := slots + 24) (by omega) (by omega) ?_
  have hP := torP hP
  have hD := torD hD
  refine lv_aload_n hx hb dL_law_2299 rfl (lv_at hl 2 rfl) ?_
  refine clVWb (As := []) (rest := [.int r]) (st' := [.int bb, .int r]) hx hb hml hown hts gL_law_X8_carryOut rfl 0 (by decide +kernel) ⟨Nat.le_of_ble_eq_true rfl, Nat.le_of_ble_eq_true rfl⟩ (hM8 H.size) hP.flip hD.flip hS hA hK 0 7 he8 rfl rfl rfl hl.1 rfl (Nat.le_of_ble_eq_true rfl) hc dL_law_2300 rfl (fun H locs hP hD hS => ?_)
  refine lv_icmp_eq (tgt := 2366) hx hb dL_law_2303 (by decide) (fun _ => ?_) (fun h => absurd hag h)
  exact kk H locs ls V7 V8 cc g hI2 hP.flip hD.flip hS hl
set_option maxRecDepth 100000 in
theorem lc_undo (hst : l.stackTraces = false) (C : lwK p s m args c D ca A b L xs) (hi : i + 7 ≤ L) (hI : Inv ca a b0 d z W7 W8 code0) (hP : va_P D vwCl (([(out, .inl (ca 1, 1, .inr (.inl g)))] ++ W7) ++ W8) H) (hD : va_D A (([(out, .inl (ca 1, 1, .inr (.inl g)))] ++ W7) ++ W8)) (hS : va_S A s.heap H locs) (hl : lv_has ls 8 [(4, .int (iN (i : Int))), (3, .ref out), (2, .ref (z 0)), (1, .ref (a 0)), (0, .ref b)]) (hc : cells + 4 ≤ room_1.cells ∧ slots + 24 ≤ room_1.slots) (kk : lwN p l e s m args below meth c D ca A b i a b0 d z out Q cells slots) : W p l e room_1 s m args below meth c H locs cells slots Q (F0 m 2308 ls []) := by
  obtain ⟨r, V7, V8, bb, cc, hI2, hM7, hM8, hag⟩ := st_undo l hst D hI
  have he7 := inv_x hI
  obtain ⟨fs, he8⟩ := inv_m hI
  have C0 := C
  obtain ⟨hx, hb, hml, hown, hts, hK, hA, hZ, hC, hX, hbl, hbA, hL⟩ := C
  refine lv_aload_n hx hb dL_law_2308 rfl (lv_at hl 3 rfl) ?_
  refine lv_aload_n hx hb dL_law_2309 rfl (lv_at hl 1 rfl) ?_
  refine clSZ (As := [.ref (a 0), .ref out]) (rest := []) (st' := [.int (kcI (fun e => if e = 2 then 1 else 0) r)]) hx hb hml hown hts gL_law_L_undo rfl 2 (by decide +kernel) ⟨Nat.le_of_ble_eq_true rfl, Nat.le_of_ble_eq_true rfl⟩ (wr_undo l hst D ca g H.size he7 hM7 (fun n hn => kn1 (agI_n hag hn))) hP hD hS hA hK hZ hC rfl hl.1 rfl (Nat.le_of_ble_eq_true rfl) ⟨by omega, by omega⟩ dL_law_2310 rfl (fun H locs hP hD hS => ?_)
  refine W.widen (k := cells + 4) (n := slots + 24) (by omega) (by omega) ?_
  refine lv_istore (lv' := [(5, .int (kcI (fun e => if e = 2 then 1 else 0) r)), (4, .int (iN (i : Int))), (3, .ref out), (2, .ref (z 0)), (1, .ref (a 0)), (0, .ref b)]) hx hb dL_law_2313 hl (by decide) rfl (fun ls hl => ?_)
  refine lv_aload_n hx hb dL_law_2315 rfl (lv_at hl 3 rfl) ?_
  refine clVWb (As := []) (rest := []) (st' := [.int bb]) hx hb hml hown hts gL_law_X8_undo rfl 0 (by decide +kernel) ⟨Nat.le_of_ble_eq_true rfl, Nat.le_of_ble_eq_true rfl⟩ (hM8 H.size) hP.flip hD.flip hS hA hK 0 7 he8 rfl rfl rfl hl.1 rfl (Nat.le_of_ble_eq_true rfl) hc dL_law_2316 rfl (fun H locs hP hD hS => ?_)
  refine lv_istore (lv' := [(6, .int bb), (5, .int (kcI (fun e => if e = 2 then 1 else 0) r)), (4, .int (iN (i : Int))), (3, .ref out), (2, .ref (z 0)), (1, .ref (a 0)), (0, .ref b)]) hx hb dL_law_2319 hl (by decide) rfl (fun ls hl => ?_)
  exact lw_tlI C0 (show tlI 2321 17 from ⟨dL_law_2321, dL_law_2322, dL_law_2325, dL_law_2327, dL_law_2332, dL_law_2334, dL_law_2337, dL_law_2338, dL_law_2339, dL_law_2340, dL_law_2342, dL_law_2343, dL_law_2344, dL_law_2349, by decide⟩) hI2 (agI_code hag) (agI_out g hag) hc hP.flip hD.flip hS hl (fun H locs hP hD hS => kk H locs ls V7 V8 cc _ hI2 hP hD hS (lv_sub hl [2, 3, 4, 5, 6] rfl))
set_option maxRecDepth 100000 in
theorem lc_digest (hst : l.stackTraces = false) (C : lwK p s m args c D ca A b L xs) (hi : i + 7 ≤ L) (hI : Inv ca a b0 d z W7 W8 code0) (hP : va_P D vwCl (([(out, .inl (ca 1, 1, .inr (.inl g)))] ++ W7) ++ W8) H) (hD : va_D A (([(out, .inl (ca 1, 1, .inr (.inl g)))] ++ W7) ++ W8)) (hS : va_S A s.heap H locs) (hl : lv_has ls 8 [(4, .int (iN (i : Int))), (3, .ref out), (2, .ref (z 0)), (1, .ref (a 0)), (0, .ref b)]) (hc : cells + 4 ≤ room_1.cells ∧ slots + 24 ≤ room_1.slots) (kk : lwN p l e s m args below meth c D ca A b i a b0 d z out Q cells slots) : W p l e room_1 s m args below meth c H locs cells slots Q (F0 m 2352 ls []) := by
  obtain ⟨r, V7, V8, bb, cc, hI2, hM7, hM8, hag⟩ := st_digest l hst D hI
  have he7 := inv_x hI
  obtain ⟨fs, he8⟩ := inv_m hI
  have C0 := C
  obtain ⟨hx, hb, hml, hown, hts, hK, hA, hZ, hC, hX, hbl, hbA, hL⟩ := C
  refine lv_aload_n hx hb dL_law_2352 rfl (lv_at hl 3 rfl) ?_
  refine clVWb (As := []) (rest := []) (st' := [.long r]) hx hb hml hown hts gL_law_X7_digest rfl 0 (by decide +kernel) ⟨Nat.le_of_ble_eq_true rfl, Nat.le_of_ble_eq_true rfl⟩ (hM7 H.size) (rotP hP) (rotD hD) hS hA hK 0 6 he7 rfl rfl rfl hl.1 rfl (Nat.le_of_ble_eq_true rfl) ⟨by omega, by omega⟩ dL_law_2353 rfl (fun H locs hP hD hS => ?_)
  refine W.widen (k := cells + 4) (n := slots + 24) (by omega) (by omega) ?_
  have hP := torP hP
  have hD := torD hD
  refine lv_aload_n hx hb dL_law_2356 rfl (lv_at hl 2 rfl) ?_
  refine clVWb (As := []) (rest := [.long r]) (st' := [.long bb, .long r]) hx hb hml hown hts gL_law_X8_digest rfl 0 (by decide +kernel) ⟨Nat.le_of_ble_eq_true rfl, Nat.le_of_ble_eq_true rfl⟩ (hM8 H.size) hP.flip hD.flip hS hA hK 0 7 he8 rfl rfl rfl hl.1 rfl (Nat.le_of_ble_eq_true rfl) hc dL_law_2357 rfl (fun H locs hP hD hS => ?_)
  refine W.lcmp hx hb dL_law_2360 ?_
  refine lv_if_eq (tgt := 2366) hx hb dL_law_2361 (by decide) (fun _ => ?_) (fun h => absurd ((lg_cmp_eq _ _).mpr hag) h)
  exact kk H locs ls V7 V8 cc g hI2 hP.flip hD.flip hS hl
end Lh
