section Ld
variable {p : Program} {l : Launch} {e : Env} {s : State} {m : MethodId} {args : Array Value} {below : List Frame} {meth : Method} {c : Code} {H : Heap} {locs : List Loc} {cells slots i b L : Nat} {Q : State → Prop} {ls : Array Slot} {A : Nat → Prop} {D : va_G} {ca : Nat → ClassId} {a b0 z : Nat → Nat} {d : Nat → Nat → Nat} {W7 W8 : va_W} {code0 : Int32} {g : Nat → Int64} {out : Nat} {xs : Nat → Int32}
set_option maxRecDepth 100000 in
theorem lc_minimum (hst : l.stackTraces = false) (C : lwK p s m args c D ca A b L xs) (hi : i + 7 ≤ L) (hI : Inv ca a b0 d z W7 W8 code0) (hP : va_P D vwCl (([(out, .inl (ca 1, 1, .inr (.inl g)))] ++ W7) ++ W8) H) (hD : va_D A (([(out, .inl (ca 1, 1, .inr (.inl g)))] ++ W7) ++ W8)) (hS : va_S A s.heap H locs) (hl : lv_has ls 8 [(4, .int (iN (i : Int))), (3, .ref out), (2, .ref (z 0)), (1, .ref (a 0)), (0, .ref b)]) (hc : cells + 4 ≤ room_1.cells ∧ slots + 24 ≤ room_1.slots) (kk : lwN p l e s m args below meth c D ca A b i a b0 d z out Q cells slots) : W p l e room_1 s m args below meth c H locs cells slots Q (F0 m 684 ls []) := by
  obtain ⟨r, V7, V8, bb, cc, hI2, hM7, hM8, hag⟩ := st_minimum l hst D hI (ag xs i 1) (ag xs i 2)
  have he7 := inv_x hI
  obtain ⟨fs, he8⟩ := inv_m hI
  have C0 := C
  obtain ⟨hx, hb, hml, hown, hts, hK, hA, hZ, hC, hX, hbl, hbA, hL⟩ := C
  refine lv_aload_n hx hb dL_law_684 rfl (lv_at hl 3 rfl) ?_
  refine lw_ld (v := 1) C0 hi (by simp) hS (lv_at hl 4 rfl) (lv_at hl 0 rfl) dL_law_685 dL_law_686 dL_law_688 (by decide) dL_law_689 dL_law_690 ?_
  refine lw_ld (v := 2) C0 hi (by simp) hS (lv_at hl 4 rfl) (lv_at hl 0 rfl) dL_law_691 dL_law_692 dL_law_694 (by decide) dL_law_695 dL_law_696 ?_
  refine lv_aload_n hx hb dL_law_697 rfl (lv_at hl 1 rfl) ?_
  refine clSZ (As := [.ref (a 0), .int (ag xs i 1), .int (ag xs i 2), .ref out]) (rest := []) (st' := [.int (kcL (fun e => if e = 1 then 1 else 0) r)]) hx hb hml hown hts gL_law_L_minimum rfl 4 (by decide +kernel) ⟨Nat.le_of_ble_eq_true rfl, Nat.le_of_ble_eq_true rfl⟩ (wr_minimum l hst D ca _ _ g H.size he7 hM7 (fun n hn => kn1 (agL_n hag hn))) hP hD hS hA hK hZ hC rfl hl.1 rfl (Nat.le_of_ble_eq_true rfl) ⟨by omega, by omega⟩ dL_law_698 rfl (fun H locs hP hD hS => ?_)
  refine W.widen (k := cells + 4) (n := slots + 24) (by omega) (by omega) ?_
  refine lv_istore (lv' := [(5, .int (kcL (fun e => if e = 1 then 1 else 0) r)), (4, .int (iN (i : Int))), (3, .ref out), (2, .ref (z 0)), (1, .ref (a 0)), (0, .ref b)]) hx hb dL_law_701 hl (by decide) rfl (fun ls hl => ?_)
  refine lv_aload_n hx hb dL_law_703 rfl (lv_at hl 3 rfl) ?_
  refine lw_ld (v := 1) C0 hi (by simp) hS (lv_at hl 5 rfl) (lv_at hl 1 rfl) dL_law_704 dL_law_705 dL_law_707 (by decide) dL_law_708 dL_law_709 ?_
  refine lw_ld (v := 2) C0 hi (by simp) hS (lv_at hl 5 rfl) (lv_at hl 1 rfl) dL_law_710 dL_law_711 dL_law_713 (by decide) dL_law_714 dL_law_715 ?_
  refine clVWb (As := [.int (ag xs i 1), .int (ag xs i 2)]) (rest := []) (st' := [.long bb]) hx hb hml hown hts gL_law_X8_minimum rfl 2 (by decide +kernel) ⟨Nat.le_of_ble_eq_true rfl, Nat.le_of_ble_eq_true rfl⟩ (hM8 H.size) hP.flip hD.flip hS hA hK 0 7 he8 rfl rfl rfl hl.1 rfl (Nat.le_of_ble_eq_true rfl) hc dL_law_716 rfl (fun H locs hP hD hS => ?_)
  refine lv_lstore (lv' := [(6, .long bb), (5, .int (kcL (fun e => if e = 1 then 1 else 0) r)), (4, .int (iN (i : Int))), (3, .ref out), (2, .ref (z 0)), (1, .ref (a 0)), (0, .ref b)]) hx hb dL_law_719 hl (by decide) rfl (fun ls hl => ?_)
  exact lw_tlL C0 (show tlL 721 1618 from ⟨dL_law_721, dL_law_722, dL_law_725, dL_law_727, dL_law_732, dL_law_734, dL_law_737, dL_law_738, dL_law_739, dL_law_740, dL_law_742, dL_law_743, dL_law_748, by decide⟩) hI2 (agL_code hag) (agL_out g hag) hc hP.flip hD.flip hS hl (fun H locs hP hD hS => kk H locs ls V7 V8 cc _ hI2 hP hD hS (lv_sub hl [2, 3, 4, 5, 6] rfl))
set_option maxRecDepth 100000 in
theorem lc_ranked (hst : l.stackTraces = false) (C : lwK p s m args c D ca A b L xs) (hi : i + 7 ≤ L) (hI : Inv ca a b0 d z W7 W8 code0) (hP : va_P D vwCl (([(out, .inl (ca 1, 1, .inr (.inl g)))] ++ W7) ++ W8) H) (hD : va_D A (([(out, .inl (ca 1, 1, .inr (.inl g)))] ++ W7) ++ W8)) (hS : va_S A s.heap H locs) (hl : lv_has ls 8 [(4, .int (iN (i : Int))), (3, .ref out), (2, .ref (z 0)), (1, .ref (a 0)), (0, .ref b)]) (hc : cells + 4 ≤ room_1.cells ∧ slots + 24 ≤ room_1.slots) (kk : lwN p l e s m args below meth c D ca A b i a b0 d z out Q cells slots) : W p l e room_1 s m args below meth c H locs cells slots Q (F0 m 751 ls []) := by
  obtain ⟨r, V7, V8, bb, cc, hI2, hM7, hM8, hag⟩ := st_ranked l hst D hI (ag xs i 1) (ag xs i 2) (ag xs i 3)
  have he7 := inv_x hI
  obtain ⟨fs, he8⟩ := inv_m hI
  have C0 := C
  obtain ⟨hx, hb, hml, hown, hts, hK, hA, hZ, hC, hX, hbl, hbA, hL⟩ := C
  refine lv_aload_n hx hb dL_law_751 rfl (lv_at hl 3 rfl) ?_
  refine lw_ld (v := 1) C0 hi (by simp) hS (lv_at hl 4 rfl) (lv_at hl 0 rfl) dL_law_752 dL_law_753 dL_law_755 (by decide) dL_law_756 dL_law_757 ?_
  refine lw_ld (v := 2) C0 hi (by simp) hS (lv_at hl 4 rfl) (lv_at hl 0 rfl) dL_law_758 dL_law_759 dL_law_761 (by decide) dL_law_762 dL_law_763 ?_
  refine lw_ld (v := 3) C0 hi (by simp) hS (lv_at hl 4 rfl) (lv_at hl 0 rfl) dL_law_764 dL_law_765 dL_law_767 (by decide) dL_law_768 dL_law_769 ?_
  refine lv_aload_n hx hb dL_law_770 rfl (lv_at hl 1 rfl) ?_
  refine clSZ (As := [.ref (a 0), .int (ag xs i 1), .int (ag xs i 2), .int (ag xs i 3), .ref out]) (rest := []) (st' := [.int (kcI (fun e => if e = 1 then 1 else 0) r)]) hx hb hml hown hts gL_law_L_ranked rfl 5 (by decide +kernel) ⟨Nat.le_of_ble_eq_true rfl, Nat.le_of_ble_eq_true rfl⟩ (wr_ranked l hst D ca _ _ _ g H.size he7 hM7 (fun n hn => kn1 (agI_n hag hn))) hP hD hS hA hK hZ hC rfl hl.1 rfl (Nat.le_of_ble_eq_true rfl) ⟨by omega, by omega⟩ dL_law_771 rfl (fun H locs hP hD hS => ?_)
  refine W.widen (k := cells + 4) (n := slots + 24) (by omega) (by omega) ?_
  refine lv_istore (lv' := [(5, .int (kcI (fun e => if e = 1 then 1 else 0) r)), (4, .int (iN (i : Int))), (3, .ref out), (2, .ref (z 0)), (1, .ref (a 0)), (0, .ref b)]) hx hb dL_law_774 hl (by decide) rfl (fun ls hl => ?_)
  refine lv_aload_n hx hb dL_law_776 rfl (lv_at hl 3 rfl) ?_
  refine lw_ld (v := 1) C0 hi (by simp) hS (lv_at hl 5 rfl) (lv_at hl 1 rfl) dL_law_777 dL_law_778 dL_law_780 (by decide) dL_law_781 dL_law_782 ?_
  refine lw_ld (v := 2) C0 hi (by simp) hS (lv_at hl 5 rfl) (lv_at hl 1 rfl) dL_law_783 dL_law_784 dL_law_786 (by decide) dL_law_787 dL_law_788 ?_
  refine lw_ld (v := 3) C0 hi (by simp) hS (lv_at hl 5 rfl) (lv_at hl 1 rfl) dL_law_789 dL_law_790 dL_law_792 (by decide) dL_law_793 dL_law_794 ?_
  refine clVWb (As := [.int (ag xs i 1), .int (ag xs i 2), .int (ag xs i 3)]) (rest := []) (st' := [.int bb]) hx hb hml hown hts gL_law_X8_ranked rfl 3 (by decide +kernel) ⟨Nat.le_of_ble_eq_true rfl, Nat.le_of_ble_eq_true rfl⟩ (hM8 H.size) hP.flip hD.flip hS hA hK 0 7 he8 rfl rfl rfl hl.1 rfl (Nat.le_of_ble_eq_true rfl) hc dL_law_795 rfl (fun H locs hP hD hS => ?_)
  refine lv_istore (lv' := [(6, .int bb), (5, .int (kcI (fun e => if e = 1 then 1 else 0) r)), (4, .int (iN (i : Int))), (3, .ref out), (2, .ref (z 0)), (1, .ref (a 0)), (0, .ref b)]) hx hb dL_law_798 hl (by decide) rfl (fun ls hl => ?_)
  exact lw_tlI C0 (show tlI 800 1538 from ⟨dL_law_800, dL_law_801, dL_law_804, dL_law_806, dL_law_811, dL_law_813, dL_law_816, dL_law_817, dL_law_818, dL_law_819, dL_law_821, dL_law_822, dL_law_823, dL_law_828, by decide⟩) hI2 (agI_code hag) (agI_out g hag) hc hP.flip hD.flip hS hl (fun H locs hP hD hS => kk H locs ls V7 V8 cc _ hI2 hP hD hS (lv_sub hl [2, 3, 4, 5, 6] rfl))
set_option maxRecDepth 100000 in
theorem lc_below (hst : l.stackTraces = false) (C : lwK p s m args c D ca A b L xs) (hi : i + 7 ≤ L) (hI : Inv ca a b0 d z W7 W8 code0) (hP : va_P D vwCl (([(out, .inl (ca 1, 1, .inr (.inl g)))] ++ W7) ++ W8) H) (hD : va_D A (([(out, .inl (ca 1, 1, .inr (.inl g)))] ++ W7) ++ W8)) (hS : va_S A s.heap H locs) (hl : lv_has ls 8 [(4, .int (iN (i : Int))), (3, .ref out), (2, .ref (z 0)), (1, .ref (a 0)), (0, .ref b)]) (hc : cells + 4 ≤ room_1.cells ∧ slots + 24 ≤ room_1.slots) (kk : lwN p l e s m args below meth c D ca A b i a b0 d z out Q cells slots) : W p l e room_1 s m args below meth c H locs cells slots Q (F0 m 831 ls []) := by
  obtain ⟨r, V7, V8, bb, cc, hI2, hM7, hM8, hag⟩ := st_below l hst D hI (ag xs i 1) (ag xs i 2) (((Int32.toInt64 (ag xs i 3)) <<< ((32 : Int32).toInt64 &&& 63)) ||| ((Int32.toInt64 (ag xs i 4)) &&& 4294967295))
  have he7 := inv_x hI
  obtain ⟨fs, he8⟩ := inv_m hI
  have C0 := C
  obtain ⟨hx, hb, hml, hown, hts, hK, hA, hZ, hC, hX, hbl, hbA, hL⟩ := C
  refine lv_aload_n hx hb dL_law_831 rfl (lv_at hl 3 rfl) ?_
  refine lw_ld (v := 1) C0 hi (by simp) hS (lv_at hl 4 rfl) (lv_at hl 0 rfl) dL_law_832 dL_law_833 dL_law_835 (by decide) dL_law_836 dL_law_837 ?_
  refine lw_ld (v := 2) C0 hi (by simp) hS (lv_at hl 4 rfl) (lv_at hl 0 rfl) dL_law_838 dL_law_839 dL_law_841 (by decide) dL_law_842 dL_law_843 ?_
  refine lw_ld (v := 3) C0 hi (by simp) hS (lv_at hl 4 rfl) (lv_at hl 0 rfl) dL_law_844 dL_law_845 dL_law_847 (by decide) dL_law_848 dL_law_849 ?_
  refine lv_i2l (v := Int32.toInt64 (ag xs i 3)) hx hb dL_law_850 rfl ?_
  refine lv_bipush (v := 32) hx hb dL_law_851 (by decide) ?_
  refine lv_lshl (v := (Int32.toInt64 (ag xs i 3)) <<< ((32 : Int32).toInt64 &&& 63)) hx hb dL_law_853 rfl ?_
  refine lw_ld (v := 4) C0 hi (by simp) hS (lv_at hl 4 rfl) (lv_at hl 0 rfl) dL_law_854 dL_law_855 dL_law_857 (by decide) dL_law_858 dL_law_859 ?_
  refine lv_i2l (v := Int32.toInt64 (ag xs i 4)) hx hb dL_law_860 rfl ?_
  refine lv_ldc2 (own := RL) (v := 4294967295) hx hb hown (hts _ (by decide +kernel)) dL_law_861 ?_
  refine lv_land hx hb dL_law_864 ?_
  refine lv_lor hx hb dL_law_865 ?_
  refine lv_aload_n hx hb dL_law_866 rfl (lv_at hl 1 rfl) ?_
  refine clSZ (As := [.ref (a 0), .int (ag xs i 1), .int (ag xs i 2), .long (((Int32.toInt64 (ag xs i 3)) <<< ((32 : Int32).toInt64 &&& 63)) ||| ((Int32.toInt64 (ag xs i 4)) &&& 4294967295)), .ref out]) (rest := []) (st' := [.int (kcI (fun e => if e = 1 then 1 else 0) r)]) hx hb hml hown hts gL_law_L_below rfl 5 (by decide +kernel) ⟨Nat.le_of_ble_eq_true rfl, Nat.le_of_ble_eq_true rfl⟩ (wr_below l hst D ca _ _ _ g H.size he7 hM7 (fun n hn => kn1 (agI_n hag hn))) hP hD hS hA hK hZ hC rfl hl.1 rfl (Nat.le_of_ble_eq_true rfl) ⟨by omega, by omega⟩ dL_law_867 rfl (fun H locs hP hD hS => ?_)
  refine W.widen (k := cells + 4) (n := slots + 24) (by omega) (by omega) ?_
  refine lv_istore (lv' := [(5, .int (kcI (fun e => if e = 1 then 1 else 0) r)), (4, .int (iN (i : Int))), (3, .ref out), (2, .ref (z 0)), (1, .ref (a 0)), (0, .ref b)]) hx hb dL_law_870 hl (by decide) rfl (fun ls hl => ?_)
  refine lv_aload_n hx hb dL_law_872 rfl (lv_at hl 3 rfl) ?_
  refine lw_ld (v := 1) C0 hi (by simp) hS (lv_at hl 5 rfl) (lv_at hl 1 rfl) dL_law_873 dL_law_874 dL_law_876 (by decide) dL_law_877 dL_law_878 ?_
  refine lw_ld (v := 2) C0 hi (by simp) hS (lv_at hl 5 rfl) (lv_at hl 1 rfl) dL_law_879 dL_law_880 dL_law_882 (by decide) dL_law_883 dL_law_884 ?_
  refine lw_ld (v := 3) C0 hi (by simp) hS (lv_at hl 5 rfl) (lv_at hl 1 rfl) dL_law_885 dL_law_886 dL_law_888 (by decide) dL_law_889 dL_law_890 ?_
  refine lv_i2l (v := Int32.toInt64 (ag xs i 3)) hx hb dL_law_891 rfl ?_
  refine lv_bipush (v := 32) hx hb dL_law_892 (by decide) ?_
  refine lv_lshl (v := (Int32.toInt64 (ag xs i 3)) <<< ((32 : Int32).toInt64 &&& 63)) hx hb dL_law_894 rfl ?_
  refine lw_ld (v := 4) C0 hi (by simp) hS (lv_at hl 5 rfl) (lv_at hl 1 rfl) dL_law_895 dL_law_896 dL_law_898 (by decide) dL_law_899 dL_law_900 ?_
  refine lv_i2l (v := Int32.toInt64 (ag xs i 4)) hx hb dL_law_901 rfl ?_
  refine lv_ldc2 (own := RL) (v := 4294967295) hx hb hown (hts _ (by decide +kernel)) dL_law_902 ?_
  refine lv_land hx hb dL_law_905 ?_
  refine lv_lor hx hb dL_law_906 ?_
  refine clVWb (As := [.int (ag xs i 1), .int (ag xs i 2), .long (((Int32.toInt64 (ag xs i 3)) <<< ((32 : Int32).toInt64 &&& 63)) ||| ((Int32.toInt64 (ag xs i 4)) &&& 4294967295))]) (rest := []) (st' := [.int bb]) hx hb hml hown hts gL_law_X8_below rfl 3 (by decide +kernel) ⟨Nat.le_of_ble_eq_true rfl, Nat.le_of_ble_eq_true rfl⟩ (hM8 H.size) hP.flip hD.flip hS hA hK 0 7 he8 rfl rfl rfl hl.1 rfl (Nat.le_of_ble_eq_true rfl) hc dL_law_907 rfl (fun H locs hP hD hS => ?_)
  refine lv_istore (lv' := [(6, .int bb), (5, .int (kcI (fun e => if e = 1 then 1 else 0) r)), (4, .int (iN (i : Int))), (3, .ref out), (2, .ref (z 0)), (1, .ref (a 0)), (0, .ref b)]) hx hb dL_law_910 hl (by decide) rfl (fun ls hl => ?_)
  exact lw_tlI C0 (show tlI 912 1426 from ⟨dL_law_912, dL_law_913, dL_law_916, dL_law_918, dL_law_923, dL_law_925, dL_law_928, dL_law_929, dL_law_930, dL_law_931, dL_law_933, dL_law_934, dL_law_935, dL_law_940, by decide⟩) hI2 (agI_code hag) (agI_out g hag) hc hP.flip hD.flip hS hl (fun H locs hP hD hS => kk H locs ls V7 V8 cc _ hI2 hP hD hS (lv_sub hl [2, 3, 4, 5, 6] rfl))
set_option maxRecDepth 100000 in
theorem lc_overtakes (hst : l.stackTraces = false) (C : lwK p s m args c D ca A b L xs) (hi : i + 7 ≤ L) (hI : Inv ca a b0 d z W7 W8 code0) (hP : va_P D vwCl (([(out, .inl (ca 1, 1, .inr (.inl g)))] ++ W7) ++ W8) H) (hD : va_D A (([(out, .inl (ca 1, 1, .inr (.inl g)))] ++ W7) ++ W8)) (hS : va_S A s.heap H locs) (hl : lv_has ls 8 [(4, .int (iN (i : Int))), (3, .ref out), (2, .ref (z 0)), (1, .ref (a 0)), (0, .ref b)]) (hc : cells + 4 ≤ room_1.cells ∧ slots + 24 ≤ room_1.slots) (kk : lwN p l e s m args below meth c D ca A b i a b0 d z out Q cells slots) : W p l e room_1 s m args below meth c H locs cells slots Q (F0 m 943 ls []) := by
  obtain ⟨r, V7, V8, bb, cc, hI2, hM7, hM8, hag⟩ := st_overtakes l hst D hI (ag xs i 1) (ag xs i 2)
  have he7 := inv_x hI
  obtain ⟨fs, he8⟩ := inv_m hI
  have C0 := C
  obtain ⟨hx, hb, hml, hown, hts, hK, hA, hZ, hC, hX, hbl, hbA, hL⟩ := C
  refine lv_aload_n hx hb dL_law_943 rfl (lv_at hl 3 rfl) ?_
  refine lw_ld (v := 1) C0 hi (by simp) hS (lv_at hl 4 rfl) (lv_at hl 0 rfl) dL_law_944 dL_law_945 dL_law_947 (by decide) dL_law_948 dL_law_949 ?_
  refine lw_ld (v := 2) C0 hi (by simp) hS (lv_at hl 4 rfl) (lv_at hl 0 rfl) dL_law_950 dL_law_951 dL_law_953 (by decide) dL_law_954 dL_law_955 ?_
  refine lv_aload_n hx hb dL_law_956 rfl (lv_at hl 1 rfl) ?_
  refine clSZ (As := [.ref (a 0), .int (ag xs i 1), .int (ag xs i 2), .ref out]) (rest := []) (st' := [.int (kcI (fun e => if e = 3 then 1 else 0) r)]) hx hb hml hown hts gL_law_L_overtakes rfl 4 (by decide +kernel) ⟨Nat.le_of_ble_eq_true rfl, Nat.le_of_ble_eq_true rfl⟩ (wr_overtakes l hst D ca _ _ g H.size he7 hM7 (fun n hn => kn1 (agI_n hag hn))) hP hD hS hA hK hZ hC rfl hl.1 rfl (Nat.le_of_ble_eq_true rfl) ⟨by omega, by omega⟩ dL_law_957 rfl (fun H locs hP hD hS => ?_)
  refine W.widen (k := cells + 4) (n := slots + 24) (by omega) (by omega) ?_
  refine lv_istore (lv' := [(5, .int (kcI (fun e => if e = 3 then 1 else 0) r)), (4, .int (iN (i : Int))), (3, .ref out), (2, .ref (z 0)), (1, .ref (a 0)), (0, .ref b)]) hx hb dL_law_960 hl (by decide) rfl (fun ls hl => ?_)
  refine lv_aload_n hx hb dL_law_962 rfl (lv_at hl 3 rfl) ?_
  refine lw_ld (v := 1) C0 hi (by simp) hS (lv_at hl 5 rfl) (lv_at hl 1 rfl) dL_law_963 dL_law_964 dL_law_966 (by decide) dL_law_967 dL_law_968 ?_
  refine lw_ld (v := 2) C0 hi (by simp) hS (lv_at hl 5 rfl) (lv_at hl 1 rfl) dL_law_969 dL_law_970 dL_law_972 (by decide) dL_law_973 dL_law_974 ?_
  refine clVWb (As := [.int (ag xs i 1), .int (ag xs i 2)]) (rest := []) (st' := [.int bb]) hx hb hml hown hts gL_law_X8_overtakes rfl 2 (by decide +kernel) ⟨Nat.le_of_ble_eq_true rfl, Nat.le_of_ble_eq_true rfl⟩ (hM8 H.size) hP.flip hD.flip hS hA hK 0 7 he8 rfl rfl rfl hl.1 rfl (Nat.le_of_ble_eq_true rfl) hc dL_law_975 rfl (fun H locs hP hD hS => ?_)
  refine lv_istore (lv' := [(6, .int bb), (5, .int (kcI (fun e => if e = 3 then 1 else 0) r)), (4, .int (iN (i : Int))), (3, .ref out), (2, .ref (z 0)), (1, .ref (a 0)), (0, .ref b)]) hx hb dL_law_978 hl (by decide) rfl (fun ls hl => ?_)
  exact lw_tlI C0 (show tlI 980 1358 from ⟨dL_law_980, dL_law_981, dL_law_984, dL_law_986, dL_law_991, dL_law_993, dL_law_996, dL_law_997, dL_law_998, dL_law_999, dL_law_1001, dL_law_1002, dL_law_1003, dL_law_1008, by decide⟩) hI2 (agI_code hag) (agI_out g hag) hc hP.flip hD.flip hS hl (fun H locs hP hD hS => kk H locs ls V7 V8 cc _ hI2 hP hD hS (lv_sub hl [2, 3, 4, 5, 6] rfl))
set_option maxRecDepth 100000 in
theorem lc_pieces (hst : l.stackTraces = false) (C : lwK p s m args c D ca A b L xs) (hi : i + 7 ≤ L) (hI : Inv ca a b0 d z W7 W8 code0) (hP : va_P D vwCl (([(out, .inl (ca 1, 1, .inr (.inl g)))] ++ W7) ++ W8) H) (hD : va_D A (([(out, .inl (ca 1, 1, .inr (.inl g)))] ++ W7) ++ W8)) (hS : va_S A s.heap H locs) (hl : lv_has ls 8 [(4, .int (iN (i : Int))), (3, .ref out), (2, .ref (z 0)), (1, .ref (a 0)), (0, .ref b)]) (hc : cells + 4 ≤ room_1.cells ∧ slots + 24 ≤ room_1.slots) (kk : lwN p l e s m args below meth c D ca A b i a b0 d z out Q cells slots) : W p l e room_1 s m args below meth c H locs cells slots Q (F0 m 1011 ls []) := by
  obtain ⟨r, V7, V8, bb, cc, hI2, hM7, hM8, hag⟩ := st_pieces l hst D hI (ag xs i 1)
  have he7 := inv_x hI
  obtain ⟨fs, he8⟩ := inv_m hI
  have C0 := C
  obtain ⟨hx, hb, hml, hown, hts, hK, hA, hZ, hC, hX, hbl, hbA, hL⟩ := C
  refine lv_aload_n hx hb dL_law_1011 rfl (lv_at hl 3 rfl) ?_
  refine lw_ld (v := 1) C0 hi (by simp) hS (lv_at hl 4 rfl) (lv_at hl 0 rfl) dL_law_1012 dL_law_1013 dL_law_1015 (by decide) dL_law_1016 dL_law_1017 ?_
  refine lv_aload_n hx hb dL_law_1018 rfl (lv_at hl 1 rfl) ?_
  refine clSZ (As := [.ref (a 0), .int (ag xs i 1), .ref out]) (rest := []) (st' := [.int (kcI (fun e => if e = 1 then 1 else 0) r)]) hx hb hml hown hts gL_law_L_pieces rfl 3 (by decide +kernel) ⟨Nat.le_of_ble_eq_true rfl, Nat.le_of_ble_eq_true rfl⟩ (wr_pieces l hst D ca _ g H.size he7 hM7 (fun n hn => kn1 (agI_n hag hn))) hP hD hS hA hK hZ hC rfl hl.1 rfl (Nat.le_of_ble_eq_true rfl) ⟨by omega, by omega⟩ dL_law_1019 rfl (fun H locs hP hD hS => ?_)
  refine W.widen (k := cells + 4) (n := slots + 24) (by omega) (by omega) ?_
  refine lv_istore (lv' := [(5, .int (kcI (fun e => if e = 1 then 1 else 0) r)), (4, .int (iN (i : Int))), (3, .ref out), (2, .ref (z 0)), (1, .ref (a 0)), (0, .ref b)]) hx hb dL_law_1022 hl (by decide) rfl (fun ls hl => ?_)
  refine lv_aload_n hx hb dL_law_1024 rfl (lv_at hl 3 rfl) ?_
  refine lw_ld (v := 1) C0 hi (by simp) hS (lv_at hl 5 rfl) (lv_at hl 1 rfl) dL_law_1025 dL_law_1026 dL_law_1028 (by decide) dL_law_1029 dL_law_1030 ?_
  refine clVWb (As := [.int (ag xs i 1)]) (rest := []) (st' := [.int bb]) hx hb hml hown hts gL_law_X8_pieces rfl 1 (by decide +kernel) ⟨Nat.le_of_ble_eq_true rfl, Nat.le_of_ble_eq_true rfl⟩ (hM8 H.size) hP.flip hD.flip hS hA hK 0 7 he8 rfl rfl rfl hl.1 rfl (Nat.le_of_ble_eq_true rfl) hc dL_law_1031 rfl (fun H locs hP hD hS => ?_)
  refine lv_istore (lv' := [(6, .int bb), (5, .int (kcI (fun e => if e = 1 then 1 else 0) r)), (4, .int (iN (i : Int))), (3, .ref out), (2, .ref (z 0)), (1, .ref (a 0)), (0, .ref b)]) hx hb dL_law_1034 hl (by decide) rfl (fun ls hl => ?_)
  exact lw_tlI C0 (show tlI 1036 1302 from ⟨dL_law_1036, dL_law_1037, dL_law_1040, dL_law_1042, dL_law_1047, dL_law_1049, dL_law_1052, dL_law_1053, dL_law_1054, dL_law_1055, dL_law_1057, dL_law_1058, dL_law_1059, dL_law_1064, by decide⟩) hI2 (agI_code hag) (agI_out g hag) hc hP.flip hD.flip hS hl (fun H locs hP hD hS => kk H locs ls V7 V8 cc _ hI2 hP hD hS (lv_sub hl [2, 3, 4, 5, 6] rfl))
set_option maxRecDepth 100000 in
theorem lc_piece (hst : l.stackTraces = false) (C : lwK p s m args c D ca A b L xs) (hi : i + 7 ≤ L) (hI : Inv ca a b0 d z W7 W8 code0) (hP : va_P D vwCl (([(out, .inl (ca 1, 1, .inr (.inl g)))] ++ W7) ++ W8) H) (hD : va_D A (([(out, .inl (ca 1, 1, .inr (.inl g)))] ++ W7) ++ W8)) (hS : va_S A s.heap H locs) (hl : lv_has ls 8 [(4, .int (iN (i : Int))), (3, .ref out), (2, .ref (z 0)), (1, .ref (a 0)), (0, .ref b)]) (hc : cells + 4 ≤ room_1.cells ∧ slots + 24 ≤ room_1.slots) (kk : lwN p l e s m args below meth c D ca A b i a b0 d z out Q cells slots) : W p l e room_1 s m args below meth c H locs cells slots Q (F0 m 1067 ls []) := by
  obtain ⟨r, V7, V8, bb, cc, hI2, hM7, hM8, hag⟩ := st_piece l hst D hI (ag xs i 1) (ag xs i 2) (ag xs i 3)
  have he7 := inv_x hI
  obtain ⟨fs, he8⟩ := inv_m hI
  have C0 := C
  obtain ⟨hx, hb, hml, hown, hts, hK, hA, hZ, hC, hX, hbl, hbA, hL⟩ := C
  refine lv_aload_n hx hb dL_law_1067 rfl (lv_at hl 3 rfl) ?_
  refine lw_ld (v := 1) C0 hi (by simp) hS (lv_at hl 4 rfl) (lv_at hl 0 rfl) dL_law_1068 dL_law_1069 dL_law_1071 (by decide) dL_law_1072 dL_law_1073 ?_
  refine lw_ld (v := 2) C0 hi (by simp) hS (lv_at hl 4 rfl) (lv_at hl 0 rfl) dL_law_1074 dL_law_1075 dL_law_1077 (by decide) dL_law_1078 dL_law_1079 ?_
  refine lw_ld (v := 3) C0 hi (by simp) hS (lv_at hl 4 rfl) (lv_at hl 0 rfl) dL_law_1080 dL_law_1081 dL_law_1083 (by decide) dL_law_1084 dL_law_1085 ?_
  refine lv_aload_n hx hb dL_law_1086 rfl (lv_at hl 1 rfl) ?_
  refine clSZ (As := [.ref (a 0), .int (ag xs i 1), .int (ag xs i 2), .int (ag xs i 3), .ref out]) (rest := []) (st' := [.int (kcI (fun e => if e = 1 then 1 else if e = 3 then 2 else 0) r)]) hx hb hml hown hts gL_law_L_piece rfl 5 (by decide +kernel) ⟨Nat.le_of_ble_eq_true rfl, Nat.le_of_ble_eq_true rfl⟩ (wr_piece l hst D ca _ _ _ g H.size he7 hM7 (fun n hn => kn2 (agI_n hag hn))) hP hD hS hA hK hZ hC rfl hl.1 rfl (Nat.le_of_ble_eq_true rfl) ⟨by omega, by omega⟩ dL_law_1087 rfl (fun H locs hP hD hS => ?_)
  refine W.widen (k := cells + 4) (n := slots + 24) (by omega) (by omega) ?_
  refine lv_istore (lv' := [(5, .int (kcI (fun e => if e = 1 then 1 else if e = 3 then 2 else 0) r)), (4, .int (iN (i : Int))), (3, .ref out), (2, .ref (z 0)), (1, .ref (a 0)), (0, .ref b)]) hx hb dL_law_1090 hl (by decide) rfl (fun ls hl => ?_)
  refine lv_aload_n hx hb dL_law_1092 rfl (lv_at hl 3 rfl) ?_
  refine lw_ld (v := 1) C0 hi (by simp) hS (lv_at hl 5 rfl) (lv_at hl 1 rfl) dL_law_1093 dL_law_1094 dL_law_1096 (by decide) dL_law_1097 dL_law_1098 ?_
  refine lw_ld (v := 2) C0 hi (by simp) hS (lv_at hl 5 rfl) (lv_at hl 1 rfl) dL_law_1099 dL_law_1100 dL_law_1102 (by decide) dL_law_1103 dL_law_1104 ?_
  refine lw_ld (v := 3) C0 hi (by simp) hS (lv_at hl 5 rfl) (lv_at hl 1 rfl) dL_law_1105 dL_law_1106 dL_law_1108 (by decide) dL_law_1109 dL_law_1110 ?_
  refine clVWb (As := [.int (ag xs i 1), .int (ag xs i 2), .int (ag xs i 3)]) (rest := []) (st' := [.int bb]) hx hb hml hown hts gL_law_X8_piece rfl 3 (by decide +kernel) ⟨Nat.le_of_ble_eq_true rfl, Nat.le_of_ble_eq_true rfl⟩ (hM8 H.size) hP.flip hD.flip hS hA hK 0 7 he8 rfl rfl rfl hl.1 rfl (Nat.le_of_ble_eq_true rfl) hc dL_law_1111 rfl (fun H locs hP hD hS => ?_)
  refine lv_istore (lv' := [(6, .int bb), (5, .int (kcI (fun e => if e = 1 then 1 else if e = 3 then 2 else 0) r)), (4, .int (iN (i : Int))), (3, .ref out), (2, .ref (z 0)), (1, .ref (a 0)), (0, .ref b)]) hx hb dL_law_1114 hl (by decide) rfl (fun ls hl => ?_)
  exact lw_tlI C0 (show tlI 1116 1222 from ⟨dL_law_1116, dL_law_1117, dL_law_1120, dL_law_1122, dL_law_1127, dL_law_1129, dL_law_1132, dL_law_1133, dL_law_1134, dL_law_1135, dL_law_1137, dL_law_1138, dL_law_1139, dL_law_1144, by decide⟩) hI2 (agI_code hag) (agI_out g hag) hc hP.flip hD.flip hS hl (fun H locs hP hD hS => kk H locs ls V7 V8 cc _ hI2 hP hD hS (lv_sub hl [2, 3, 4, 5, 6] rfl))
end Ld
