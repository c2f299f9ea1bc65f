theorem mwX8_endNow_0 : Cond.fieldLink RX8 7 "SegmentTimesModel" "s" "[I" ∈ wsX8_endNow := List.mem_of_getElem? (i := 1) rfl
theorem inX8_endNow_X8 : ∀ w ∈ u_ws RX8 TX8 14, w ∈ wsX8_endNow := fun w h => List.mem_cons_of_mem _ (List.mem_append_right _ (h))
theorem kX8_endNow : yX8_endNow.cls = RX8 ∧ yX8_endNow.cls ≠ "java/lang/invoke/MethodHandle" ∧ yX8_endNow.cls ≠ "java/lang/invoke/VarHandle" ∧ (parseMethodDescriptor yX8_endNow.desc).map (fun d => d.parameters.length) = some 1 := by decide +kernel
set_option maxHeartbeats 4000000 in
set_option maxRecDepth 100000 in
theorem ctX8_endNow (l : Launch) (D : va_G) (ca : Nat → ClassId) (o : Nat) (o_s : Nat) (o_saved : Nat) (o_text : Nat) (o_pieceCell : Nat) (o_letter : Nat) (o_number : Nat) (o_before : Nat) (o_savedCount : Int32) (o_textLength : Int32) (o_code : Int32) (o_pieceCount : Int32) (o_at : Int32) (o_commands : Int32) (o_hash : Int64) (o_s_d : Nat → Int32) (x1 : Int32) (sz : Nat) (u0 : Int32) (u1 : Nat → Int32) (hf : fX8_endNow o_s_d x1 = some (u0, u1)) : MW l yX8_endNow wsX8_endNow 2 43 D ca [.ref o, .int x1] sz [(o, .inr (7, [.ref o_s, .ref o_saved, .int o_savedCount, .ref o_text, .int o_textLength, .int o_code, .int o_pieceCount, .ref o_pieceCell, .int o_at, .int o_commands, .ref o_letter, .ref o_number, .ref o_before, .long o_hash])), (o_s, .inl (ca 0, 1634, .inl o_s_d))] (some (.int u0)) [(o, .inr (7, [.ref o_s, .ref o_saved, .int o_savedCount, .ref o_text, .int o_textLength, .int o_code, .int o_pieceCount, .ref o_pieceCell, .int o_at, .int o_commands, .ref o_letter, .ref o_number, .ref o_before, .long o_hash])), (o_s, .inl (ca 0, 1634, .inl u1))] := by
  refine hdWi (by decide +kernel) rfl (Nat.le_of_ble_eq_true rfl) ?_
  intro p e s m args below meth c A Q hx hb hml hown hts hP hD hK hA hS hret ls hl
  have hown : s.vm.findClass RX8 = some m.cls := hown
  have hl : lv_has ls 2 [(0, .ref o), (1, .int x1)] := hl
  have h := hf
  unfold fX8_endNow at h
  clear hf
  refine lv_aload_n hx hb dX8_endNow_0 rfl (lv_at hl 0 rfl) ?_
  refine gtF (ci := 7) (v := .ref o_s) (C := RX8) (T := TX8) (N := 14) hx hb hts inX8_endNow_X8 hown hK hP 0 rfl rfl 0 (by decide) mwX8_endNow_0 rfl rfl dX8_endNow_1 ?_
  refine lv_iload_n hx hb dX8_endNow_4 rfl (lv_at hl 1 rfl) ?_
  refine lv_iconst (v := (5 : Int32)) hx hb dX8_endNow_5 (by decide) ?_
  obtain ⟨r1, h_r1, h⟩ := bd_s h
  refine clSR (As := [.int x1, .int (5 : Int32)]) (rest := [.ref o_s]) hx hb hml hown hts gX8_endNow_X8_cell rfl 2 kX8_cell.2 ⟨Nat.le_of_ble_eq_true rfl, Nat.le_of_ble_eq_true rfl⟩ (ctX8_cell l D ca   x1 (5 : Int32) r1 h_r1) hP hK [] rfl rfl hl.1 rfl (Nat.le_of_ble_eq_true rfl) ⟨Nat.le_of_ble_eq_true rfl, Nat.le_of_ble_eq_true rfl⟩ dX8_endNow_6 rfl ?_
  refine lv_aload_n hx hb dX8_endNow_9 rfl (lv_at hl 0 rfl) ?_
  refine gtF (ci := 7) (v := .ref o_s) (C := RX8) (T := TX8) (N := 14) hx hb hts inX8_endNow_X8 hown hK hP 0 rfl rfl 0 (by decide) mwX8_endNow_0 rfl rfl dX8_endNow_10 ?_
  refine lv_iconst (v := (1 : Int32)) hx hb dX8_endNow_13 (by decide) ?_
  obtain ⟨hin, y2, e_y2, h⟩ := rd_s h
  refine ldI hx hb hK hP 1 rfl hin dX8_endNow_14 ?_
  refine top_i e_y2 ?_
  obtain ⟨hin, g3, e_g3, h⟩ := wr_s h
  refine stI (wn := [(o, .inr (7, [.ref o_s, .ref o_saved, .int o_savedCount, .ref o_text, .int o_textLength, .int o_code, .int o_pieceCount, .ref o_pieceCell, .int o_at, .int o_commands, .ref o_letter, .ref o_number, .ref o_before, .long o_hash])), (o_s, .inl (ca 0, 1634, .inl g3))]) hx hb hK hP hD hS 1 rfl hin e_g3 rfl dX8_endNow_15 (fun H locs hP hD hS => ?_)
  refine lv_aload_n hx hb dX8_endNow_16 rfl (lv_at hl 0 rfl) ?_
  refine gtF (ci := 7) (v := .ref o_s) (C := RX8) (T := TX8) (N := 14) hx hb hts inX8_endNow_X8 hown hK hP 0 rfl rfl 0 (by decide) mwX8_endNow_0 rfl rfl dX8_endNow_17 ?_
  refine lv_iconst (v := (1 : Int32)) hx hb dX8_endNow_20 (by decide) ?_
  obtain ⟨hin, y4, e_y4, h⟩ := rd_s h
  refine ldI hx hb hK hP 1 rfl hin dX8_endNow_21 ?_
  refine top_i e_y4 ?_
  refine lv_aload_n hx hb dX8_endNow_22 rfl (lv_at hl 0 rfl) ?_
  refine lv_iload_n hx hb dX8_endNow_23 rfl (lv_at hl 1 rfl) ?_
  refine lv_iconst (v := (4 : Int32)) hx hb dX8_endNow_24 (by decide) ?_
  obtain ⟨r5, h_r5, h⟩ := bd_s h
  refine clVR (As := [.int x1, .int (4 : Int32)]) (rest := [.int y4]) hx hb hml hown hts gX8_endNow_X8_of rfl 2 kX8_of ⟨Nat.le_of_ble_eq_true rfl, Nat.le_of_ble_eq_true rfl⟩ (ctX8_of l D ca o o_s o_saved o_text o_pieceCell o_letter o_number o_before o_savedCount o_textLength o_code o_pieceCount o_at o_commands o_hash g3 x1 (4 : Int32) r5 h_r5) hP hK [0, 1] rfl 0 7 rfl rfl rfl rfl hl.1 rfl (Nat.le_of_ble_eq_true rfl) ⟨Nat.le_of_ble_eq_true rfl, Nat.le_of_ble_eq_true rfl⟩ dX8_endNow_25 rfl ?_
  refine lv_isub hx hb dX8_endNow_28 ?_
  cases h
  exact hret 29 ls _ _ _ hP hD hS rfl dX8_endNow_29
theorem mwX8_end_0 : Cond.fieldLink RX8 31 "SegmentTimesModel" "code" "I" ∈ wsX8_end := List.mem_of_getElem? (i := 1) rfl
theorem inX8_end_X8 : ∀ w ∈ u_ws RX8 TX8 14, w ∈ wsX8_end := fun w h => List.mem_cons_of_mem _ (List.mem_append_right _ (h))
theorem kX8_end : yX8_end.cls = RX8 ∧ yX8_end.cls ≠ "java/lang/invoke/MethodHandle" ∧ yX8_end.cls ≠ "java/lang/invoke/VarHandle" ∧ (parseMethodDescriptor yX8_end.desc).map (fun d => d.parameters.length) = some 1 := by decide +kernel
set_option maxHeartbeats 4000000 in
set_option maxRecDepth 100000 in
theorem ctX8_end (l : Launch) (D : va_G) (ca : Nat → ClassId) (o : Nat) (o_s : Nat) (o_saved : Nat) (o_text : Nat) (o_pieceCell : Nat) (o_letter : Nat) (o_number : Nat) (o_before : Nat) (o_savedCount : Int32) (o_textLength : Int32) (o_code : Int32) (o_pieceCount : Int32) (o_at : Int32) (o_commands : Int32) (o_hash : Int64) (o_s_d : Nat → Int32) (o_saved_d : Nat → Int32) (x1 : Int32) (sz : Nat) (u0 : Int32) (u1 : Int32) (u2 : Int32) (u3 : Nat → Int32) (u4 : Nat → Int32) (hf : fX8_end o_savedCount o_code o_s_d o_saved_d x1 = some (u0, u1, u2, u3, u4)) : MW l yX8_end wsX8_end 4 86 D ca [.ref o, .int x1] sz [(o, .inr (7, [.ref o_s, .ref o_saved, .int o_savedCount, .ref o_text, .int o_textLength, .int o_code, .int o_pieceCount, .ref o_pieceCell, .int o_at, .int o_commands, .ref o_letter, .ref o_number, .ref o_before, .long o_hash])), (o_s, .inl (ca 0, 1634, .inl o_s_d)), (o_saved, .inl (ca 0, 6536, .inl o_saved_d))] (some (.int u0)) [(o, .inr (7, [.ref o_s, .ref o_saved, .int u1, .ref o_text, .int o_textLength, .int u2, .int o_pieceCount, .ref o_pieceCell, .int o_at, .int o_commands, .ref o_letter, .ref o_number, .ref o_before, .long o_hash])), (o_s, .inl (ca 0, 1634, .inl u3)), (o_saved, .inl (ca 0, 6536, .inl u4))] := by
  refine hdWi (by decide +kernel) rfl (Nat.le_of_ble_eq_true rfl) ?_
  intro p e s m args below meth c A Q hx hb hml hown hts hP hD hK hA hS hret ls hl
  have hown : s.vm.findClass RX8 = some m.cls := hown
  have hl : lv_has ls 2 [(0, .ref o), (1, .int x1)] := hl
  have h := hf
  unfold fX8_end at h
  clear hf
  refine lv_aload_n hx hb dX8_end_0 rfl (lv_at hl 0 rfl) ?_
  refine lv_aload_n hx hb dX8_end_1 rfl (lv_at hl 0 rfl) ?_
  refine lv_iload_n hx hb dX8_end_2 rfl (lv_at hl 1 rfl) ?_
  obtain ⟨r1, h_r1, h⟩ := bd_s h
  refine clVR (As := [.int x1]) (rest := [.ref o]) hx hb hml hown hts gX8_end_X8_whyNotEnd rfl 1 kX8_whyNotEnd ⟨Nat.le_of_ble_eq_true rfl, Nat.le_of_ble_eq_true rfl⟩ (ctX8_whyNotEnd l D ca o o_s o_saved o_text o_pieceCell o_letter o_number o_before o_savedCount o_textLength o_code o_pieceCount o_at o_commands o_hash o_s_d x1 r1 h_r1) hP hK [0, 1] rfl 0 7 rfl rfl rfl rfl hl.1 rfl (Nat.le_of_ble_eq_true rfl) ⟨Nat.le_of_ble_eq_true rfl, Nat.le_of_ble_eq_true rfl⟩ dX8_end_3 rfl ?_
  refine ptI (ci := 7) (v := .int r1) (ty := .int) (C := RX8) (T := TX8) (N := 14) (wn := [(o, .inr (7, [.ref o_s, .ref o_saved, .int o_savedCount, .ref o_text, .int o_textLength, .int r1, .int o_pieceCount, .ref o_pieceCell, .int o_at, .int o_commands, .ref o_letter, .ref o_number, .ref o_before, .long o_hash])), (o_s, .inl (ca 0, 1634, .inl o_s_d)), (o_saved, .inl (ca 0, 6536, .inl o_saved_d))]) hx hb hts inX8_end_X8 tyX8 tyX8_ok nmX8 hown hK hP hD hS 0 rfl rfl 5 (by decide) mwX8_end_0 rfl rfl (by decide +kernel) rfl rfl (Nat.le_of_ble_eq_true rfl) rfl dX8_end_6 (fun H locs hP hD hS => ?_)
  refine lv_aload_n hx hb dX8_end_9 rfl (lv_at hl 0 rfl) ?_
  refine gtF (ci := 7) (v := .int r1) (C := RX8) (T := TX8) (N := 14) hx hb hts inX8_end_X8 hown hK hP 0 rfl rfl 5 (by decide) mwX8_end_0 rfl rfl dX8_end_10 ?_
  refine lv_if_eq (tgt := 18) hx hb dX8_end_13 (by decide) (fun c2 => ?_) (fun c2 => ?_)
  · have h := ip_s h c2
    refine lv_aload_n hx hb dX8_end_18 rfl (lv_at hl 0 rfl) ?_
    obtain ⟨⟨r3_0, r3_1⟩, h_r3, h⟩ := bd_s h
    have h := up2_s h
    refine clVW (As := []) (rest := []) (wr := []) (wn := [(o, .inr (7, [.ref o_s, .ref o_saved, .int r3_0, .ref o_text, .int o_textLength, .int r1, .int o_pieceCount, .ref o_pieceCell, .int o_at, .int o_commands, .ref o_letter, .ref o_number, .ref o_before, .long o_hash])), (o_s, .inl (ca 0, 1634, .inl o_s_d)), (o_saved, .inl (ca 0, 6536, .inl r3_1))]) hx hb hml hown hts gX8_end_X8_keep rfl 0 kX8_keep ⟨Nat.le_of_ble_eq_true rfl, Nat.le_of_ble_eq_true rfl⟩ (ctX8_keep l D ca o o_s o_saved o_text o_pieceCell o_letter o_number o_before o_savedCount o_textLength r1 o_pieceCount o_at o_commands o_hash o_s_d o_saved_d  _ r3_0 r3_1 h_r3) hP hD hS hA hK [0, 1, 2] [] rfl (by decide) rfl (by decide) (by decide) 0 7 rfl rfl rfl rfl hl.1 rfl (Nat.le_of_ble_eq_true rfl) ⟨Nat.le_of_ble_eq_true rfl, Nat.le_of_ble_eq_true rfl⟩ dX8_end_19 rfl rfl (fun H locs hP hD hS => ?_)
    refine lv_aload_n hx hb dX8_end_22 rfl (lv_at hl 0 rfl) ?_
    refine lv_iload_n hx hb dX8_end_23 rfl (lv_at hl 1 rfl) ?_
    obtain ⟨⟨r4_0, r4_1⟩, h_r4, h⟩ := bd_s h
    have h := up2_s h
    refine clVW (As := [.int x1]) (rest := []) (wr := [(o_saved, .inl (ca 0, 6536, .inl r3_1))]) (wn := [(o_saved, .inl (ca 0, 6536, .inl r3_1)), (o, .inr (7, [.ref o_s, .ref o_saved, .int r3_0, .ref o_text, .int o_textLength, .int r1, .int o_pieceCount, .ref o_pieceCell, .int o_at, .int o_commands, .ref o_letter, .ref o_number, .ref o_before, .long o_hash])), (o_s, .inl (ca 0, 1634, .inl r4_1))]) hx hb hml hown hts gX8_end_X8_endNow rfl 1 kX8_endNow ⟨Nat.le_of_ble_eq_true rfl, Nat.le_of_ble_eq_true rfl⟩ (ctX8_endNow l D ca o o_s o_saved o_text o_pieceCell o_letter o_number o_before r3_0 o_textLength r1 o_pieceCount o_at o_commands o_hash o_s_d x1 _ r4_0 r4_1 h_r4) hP hD hS hA hK [0, 1] [2] rfl (by decide) rfl (by decide) (by decide) 0 7 rfl rfl rfl rfl hl.1 rfl (Nat.le_of_ble_eq_true rfl) ⟨Nat.le_of_ble_eq_true rfl, Nat.le_of_ble_eq_true rfl⟩ dX8_end_24 rfl rfl (fun H locs hP hD hS => ?_)
    have hP := hP.sub (ws' := [(o, .inr (7, [.ref o_s, .ref o_saved, .int r3_0, .ref o_text, .int o_textLength, .int r1, .int o_pieceCount, .ref o_pieceCell, .int o_at, .int o_commands, .ref o_letter, .ref o_number, .ref o_before, .long o_hash])), (o_s, .inl (ca 0, 1634, .inl r4_1)), (o_saved, .inl (ca 0, 6536, .inl r3_1))]) [1, 2, 0] rfl
    have hD := hD.sub (ws' := [(o, .inr (7, [.ref o_s, .ref o_saved, .int r3_0, .ref o_text, .int o_textLength, .int r1, .int o_pieceCount, .ref o_pieceCell, .int o_at, .int o_commands, .ref o_letter, .ref o_number, .ref o_before, .long o_hash])), (o_s, .inl (ca 0, 1634, .inl r4_1)), (o_saved, .inl (ca 0, 6536, .inl r3_1))]) [1, 2, 0] (by decide) rfl
    cases h
    exact hret 27 ls _ _ _ hP hD hS rfl dX8_end_27
  · have h := in_s h c2
    refine lv_iconst (v := (0 : Int32)) hx hb dX8_end_16 (by decide) ?_
    cases h
    exact hret 17 ls _ _ _ hP hD hS rfl dX8_end_17
theorem mwX8_whyNotLift_0 : Cond.fieldLink RX8 7 "SegmentTimesModel" "s" "[I" ∈ wsX8_whyNotLift := List.mem_of_getElem? (i := 1) rfl
theorem inX8_whyNotLift_X8 : ∀ w ∈ u_ws RX8 TX8 14, w ∈ wsX8_whyNotLift := fun w h => List.mem_cons_of_mem _ (List.mem_append_right _ (h))
theorem kX8_whyNotLift : yX8_whyNotLift.cls = RX8 ∧ yX8_whyNotLift.cls ≠ "java/lang/invoke/MethodHandle" ∧ yX8_whyNotLift.cls ≠ "java/lang/invoke/VarHandle" ∧ (parseMethodDescriptor yX8_whyNotLift.desc).map (fun d => d.parameters.length) = some 2 := by decide +kernel
set_option maxHeartbeats 4000000 in
set_option maxRecDepth 100000 in
theorem ctX8_whyNotLift (l : Launch) (D : va_G) (ca : Nat → ClassId) (o : Nat) (o_s : Nat) (o_saved : Nat) (o_text : Nat) (o_pieceCell : Nat) (o_letter : Nat) (o_number : Nat) (o_before : Nat) (o_savedCount : Int32) (o_textLength : Int32) (o_code : Int32) (o_pieceCount : Int32) (o_at : Int32) (o_commands : Int32) (o_hash : Int64) (o_s_d : Nat → Int32) (x1 : Int32) (x2 : Int32) (u0 : Int32) (hf : fX8_whyNotLift o_s_d x1 x2 = some u0) : MR l yX8_whyNotLift wsX8_whyNotLift 3 65 D ca [.ref o, .int x1, .int x2] [(o, .inr (7, [.ref o_s, .ref o_saved, .int o_savedCount, .ref o_text, .int o_textLength, .int o_code, .int o_pieceCount, .ref o_pieceCell, .int o_at, .int o_commands, .ref o_letter, .ref o_number, .ref o_before, .long o_hash])), (o_s, .inl (ca 0, 1634, .inl o_s_d))] (some (.int u0)) := by
  refine hdRi (plainFor_of_name (by decide +kernel)) rfl (Nat.le_of_ble_eq_true rfl) ?_
  intro p e s m args below meth c Q hx hb hml hown hts hP hK hret ls hl
  have hown : s.vm.findClass RX8 = some m.cls := hown
  have hl : lv_has ls 3 [(0, .ref o), (1, .int x1), (2, .int x2)] := hl
  have h := hf
  unfold fX8_whyNotLift at h
  clear hf
  refine lv_aload_n hx hb dX8_whyNotLift_0 rfl (lv_at hl 0 rfl) ?_
  refine lv_iload_n hx hb dX8_whyNotLift_1 rfl (lv_at hl 1 rfl) ?_
  obtain ⟨r1, h_r1, h⟩ := bd_s h
  refine clVR (As := [.int x1]) (rest := []) hx hb hml hown hts gX8_whyNotLift_X8_isSegment rfl 1 kX8_isSegment ⟨Nat.le_of_ble_eq_true rfl, Nat.le_of_ble_eq_true rfl⟩ (ctX8_isSegment l D ca o o_s o_saved o_text o_pieceCell o_letter o_number o_before o_savedCount o_textLength o_code o_pieceCount o_at o_commands o_hash o_s_d x1 r1 h_r1) hP hK [0, 1] rfl 0 7 rfl rfl rfl rfl hl.1 rfl (Nat.le_of_ble_eq_true rfl) ⟨Nat.le_of_ble_eq_true rfl, Nat.le_of_ble_eq_true rfl⟩ dX8_whyNotLift_2 rfl ?_
  refine lv_if_ne (tgt := 10) hx hb dX8_whyNotLift_5 (by decide) (fun c2 => ?_) (fun c2 => ?_)
  · have h := in_s h c2
    refine lv_iload_n hx hb dX8_whyNotLift_10 rfl (lv_at hl 2 rfl) ?_
    obtain ⟨r3, h_r3, h⟩ := bd_s h
    refine clSR (As := [.int x2]) (rest := []) hx hb hml hown hts gX8_whyNotLift_X8_isValue rfl 1 kX8_isValue.2 ⟨Nat.le_of_ble_eq_true rfl, Nat.le_of_ble_eq_true rfl⟩ (ctX8_isValue l D ca   x2 r3 h_r3) hP hK [] rfl rfl hl.1 rfl (Nat.le_of_ble_eq_true rfl) ⟨Nat.le_of_ble_eq_true rfl, Nat.le_of_ble_eq_true rfl⟩ dX8_whyNotLift_11 rfl ?_
    refine lv_if_eq (tgt := 31) hx hb dX8_whyNotLift_14 (by decide) (fun c4 => ?_) (fun c4 => ?_)
    · have h := ip_s h c4
      refine lv_iconst (v := (2 : Int32)) hx hb dX8_whyNotLift_31 (by decide) ?_
      cases h
      exact hret 32 ls _ rfl dX8_whyNotLift_32
    · have h := in_s h c4
      refine lv_aload_n hx hb dX8_whyNotLift_17 rfl (lv_at hl 0 rfl) ?_
      refine lv_iload_n hx hb dX8_whyNotLift_18 rfl (lv_at hl 1 rfl) ?_
      refine lv_iconst (v := (1 : Int32)) hx hb dX8_whyNotLift_19 (by decide) ?_
      obtain ⟨r5, h_r5, h⟩ := bd_s h
      refine clVR (As := [.int x1, .int (1 : Int32)]) (rest := []) hx hb hml hown hts gX8_whyNotLift_X8_of rfl 2 kX8_of ⟨Nat.le_of_ble_eq_true rfl, Nat.le_of_ble_eq_true rfl⟩ (ctX8_of l D ca o o_s o_saved o_text o_pieceCell o_letter o_number o_before o_savedCount o_textLength o_code o_pieceCount o_at o_commands o_hash o_s_d x1 (1 : Int32) r5 h_r5) hP hK [0, 1] rfl 0 7 rfl rfl rfl rfl hl.1 rfl (Nat.le_of_ble_eq_true rfl) ⟨Nat.le_of_ble_eq_true rfl, Nat.le_of_ble_eq_true rfl⟩ dX8_whyNotLift_20 rfl ?_
      refine lv_iload_n hx hb dX8_whyNotLift_23 rfl (lv_at hl 2 rfl) ?_
      refine lv_iadd hx hb dX8_whyNotLift_24 ?_
      obtain ⟨r6, h_r6, h⟩ := bd_s h
      refine clSR (As := [.int (r5 + x2)]) (rest := []) hx hb hml hown hts gX8_whyNotLift_X8_isValue rfl 1 kX8_isValue.2 ⟨Nat.le_of_ble_eq_true rfl, Nat.le_of_ble_eq_true rfl⟩ (ctX8_isValue l D ca   (r5 + x2) r6 h_r6) hP hK [] rfl rfl hl.1 rfl (Nat.le_of_ble_eq_true rfl) ⟨Nat.le_of_ble_eq_true rfl, Nat.le_of_ble_eq_true rfl⟩ dX8_whyNotLift_25 rfl ?_
      refine lv_if_ne (tgt := 33) hx hb dX8_whyNotLift_28 (by decide) (fun c7 => ?_) (fun c7 => ?_)
      · have h := in_s h c7
        refine lv_aload_n hx hb dX8_whyNotLift_33 rfl (lv_at hl 0 rfl) ?_
        refine lv_iload_n hx hb dX8_whyNotLift_34 rfl (lv_at hl 1 rfl) ?_
        refine lv_aload_n hx hb dX8_whyNotLift_35 rfl (lv_at hl 0 rfl) ?_
        refine gtF (ci := 7) (v := .ref o_s) (C := RX8) (T := TX8) (N := 14) hx hb hts inX8_whyNotLift_X8 hown hK hP 0 rfl rfl 0 (by decide) mwX8_whyNotLift_0 rfl rfl dX8_whyNotLift_36 ?_
        refine lv_iconst (v := (1 : Int32)) hx hb dX8_whyNotLift_39 (by decide) ?_
        obtain ⟨hin, y8, e_y8, h⟩ := rd_s h
        refine ldI hx hb hK hP 1 rfl hin dX8_whyNotLift_40 ?_
        refine top_i e_y8 ?_
        obtain ⟨r9, h_r9, h⟩ := bd_s h
        refine clVR (As := [.int x1, .int y8]) (rest := []) hx hb hml hown hts gX8_whyNotLift_X8_isLive rfl 2 kX8_isLive ⟨Nat.le_of_ble_eq_true rfl, Nat.le_of_ble_eq_true rfl⟩ (ctX8_isLive l D ca o o_s o_saved o_text o_pieceCell o_letter o_number o_before o_savedCount o_textLength o_code o_pieceCount o_at o_commands o_hash o_s_d x1 y8 r9 h_r9) hP hK [0, 1] rfl 0 7 rfl rfl rfl rfl hl.1 rfl (Nat.le_of_ble_eq_true rfl) ⟨Nat.le_of_ble_eq_true rfl, Nat.le_of_ble_eq_true rfl⟩ dX8_whyNotLift_41 rfl ?_
        refine lv_if_eq (tgt := 58) hx hb dX8_whyNotLift_44 (by decide) (fun c10 => ?_) (fun c10 => ?_)
        · have h := ip_s h c10
          refine lv_iconst (v := (3 : Int32)) hx hb dX8_whyNotLift_58 (by decide) ?_
          cases h
          exact hret 59 ls _ rfl dX8_whyNotLift_59
        · have h := in_s h c10
          refine lv_aload_n hx hb dX8_whyNotLift_47 rfl (lv_at hl 0 rfl) ?_
          obtain ⟨r11, h_r11, h⟩ := bd_s h
          refine clVR (As := []) (rest := []) hx hb hml hown hts gX8_whyNotLift_X8_isFull rfl 0 kX8_isFull ⟨Nat.le_of_ble_eq_true rfl, Nat.le_of_ble_eq_true rfl⟩ (ctX8_isFull l D ca o o_s o_saved o_text o_pieceCell o_letter o_number o_before o_savedCount o_textLength o_code o_pieceCount o_at o_commands o_hash o_s_d  r11 h_r11) hP hK [0, 1] rfl 0 7 rfl rfl rfl rfl hl.1 rfl (Nat.le_of_ble_eq_true rfl) ⟨Nat.le_of_ble_eq_true rfl, Nat.le_of_ble_eq_true rfl⟩ dX8_whyNotLift_48 rfl ?_
          refine lv_if_ne (tgt := 58) hx hb dX8_whyNotLift_51 (by decide) (fun c12 => ?_) (fun c12 => ?_)
          · have h := in_s h c12
            refine lv_iconst (v := (3 : Int32)) hx hb dX8_whyNotLift_58 (by decide) ?_
            cases h
            exact hret 59 ls _ rfl dX8_whyNotLift_59
          · have h := ip_s h c12
            refine lv_iconst (v := (0 : Int32)) hx hb dX8_whyNotLift_54 (by decide) ?_
            refine lv_goto (tgt := 59) hx hb dX8_whyNotLift_55 (by decide) ?_
            cases h
            exact hret 59 ls _ rfl dX8_whyNotLift_59
      · have h := ip_s h c7
        refine lv_iconst (v := (2 : Int32)) hx hb dX8_whyNotLift_31 (by decide) ?_
        cases h
        exact hret 32 ls _ rfl dX8_whyNotLift_32
  · have h := ip_s h c2
    refine lv_iconst (v := (1 : Int32)) hx hb dX8_whyNotLift_8 (by decide) ?_
    cases h
    exact hret 9 ls _ rfl dX8_whyNotLift_9
theorem mwX8_liftNow_0 : Cond.fieldLink RX8 7 "SegmentTimesModel" "s" "[I" ∈ wsX8_liftNow := List.mem_of_getElem? (i := 1) rfl
theorem inX8_liftNow_X8 : ∀ w ∈ u_ws RX8 TX8 14, w ∈ wsX8_liftNow := fun w h => List.mem_cons_of_mem _ (List.mem_append_right _ (h))
theorem kX8_liftNow : yX8_liftNow.cls = RX8 ∧ yX8_liftNow.cls ≠ "java/lang/invoke/MethodHandle" ∧ yX8_liftNow.cls ≠ "java/lang/invoke/VarHandle" ∧ (parseMethodDescriptor yX8_liftNow.desc).map (fun d => d.parameters.length) = some 2 := by decide +kernel
set_option maxHeartbeats 4000000 in
set_option maxRecDepth 100000 in
theorem ctX8_liftNow (l : Launch) (D : va_G) (ca : Nat → ClassId) (o : Nat) (o_s : Nat) (o_saved : Nat) (o_text : Nat) (o_pieceCell : Nat) (o_letter : Nat) (o_number : Nat) (o_before : Nat) (o_savedCount : Int32) (o_textLength : Int32) (o_code : Int32) (o_pieceCount : Int32) (o_at : Int32) (o_commands : Int32) (o_hash : Int64) (o_s_d : Nat → Int32) (x1 : Int32) (x2 : Int32) (sz : Nat) (u0 : Int32) (u1 : Nat → Int32) (hf : fX8_liftNow o_s_d x1 x2 = some (u0, u1)) : MW l yX8_liftNow wsX8_liftNow 2 48 D ca [.ref o, .int x1, .int x2] sz [(o, .inr (7, [.ref o_s, .ref o_saved, .int o_savedCount, .ref o_text, .int o_textLength, .int o_code, .int o_pieceCount, .ref o_pieceCell, .int o_at, .int o_commands, .ref o_letter, .ref o_number, .ref o_before, .long o_hash])), (o_s, .inl (ca 0, 1634, .inl o_s_d))] (some (.int u0)) [(o, .inr (7, [.ref o_s, .ref o_saved, .int o_savedCount, .ref o_text, .int o_textLength, .int o_code, .int o_pieceCount, .ref o_pieceCell, .int o_at, .int o_commands, .ref o_letter, .ref o_number, .ref o_before, .long o_hash])), (o_s, .inl (ca 0, 1634, .inl u1))] := by
  refine hdWi (by decide +kernel) rfl (Nat.le_of_ble_eq_true rfl) ?_
  intro p e s m args below meth c A Q hx hb hml hown hts hP hD hK hA hS hret ls hl
  have hown : s.vm.findClass RX8 = some m.cls := hown
  have hl : lv_has ls 4 [(0, .ref o), (1, .int x1), (2, .int x2)] := hl
  have h := hf
  unfold fX8_liftNow at h
  clear hf
  refine lv_aload_n hx hb dX8_liftNow_0 rfl (lv_at hl 0 rfl) ?_
  refine lv_iload_n hx hb dX8_liftNow_1 rfl (lv_at hl 1 rfl) ?_
  refine lv_iconst (v := (5 : Int32)) hx hb dX8_liftNow_2 (by decide) ?_
  obtain ⟨r1, h_r1, h⟩ := bd_s h
  refine clVR (As := [.int x1, .int (5 : Int32)]) (rest := []) hx hb hml hown hts gX8_liftNow_X8_of rfl 2 kX8_of ⟨Nat.le_of_ble_eq_true rfl, Nat.le_of_ble_eq_true rfl⟩ (ctX8_of l D ca o o_s o_saved o_text o_pieceCell o_letter o_number o_before o_savedCount o_textLength o_code o_pieceCount o_at o_commands o_hash o_s_d x1 (5 : Int32) r1 h_r1) hP hK [0, 1] rfl 0 7 rfl rfl rfl rfl hl.1 rfl (Nat.le_of_ble_eq_true rfl) ⟨Nat.le_of_ble_eq_true rfl, Nat.le_of_ble_eq_true rfl⟩ dX8_liftNow_3 rfl ?_
  refine lv_istore_n (lv' := [(3, .int r1), (0, .ref o), (1, .int x1), (2, .int x2)]) hx hb dX8_liftNow_6 rfl hl (by decide) rfl (fun ls hl => ?_)
  refine lv_aload_n hx hb dX8_liftNow_7 rfl (lv_at hl 1 rfl) ?_
  refine gtF (ci := 7) (v := .ref o_s) (C := RX8) (T := TX8) (N := 14) hx hb hts inX8_liftNow_X8 hown hK hP 0 rfl rfl 0 (by decide) mwX8_liftNow_0 rfl rfl dX8_liftNow_8 ?_
  refine lv_iload_n hx hb dX8_liftNow_11 rfl (lv_at hl 2 rfl) ?_
  refine lv_iconst (v := (5 : Int32)) hx hb dX8_liftNow_12 (by decide) ?_
  obtain ⟨r2, h_r2, h⟩ := bd_s h
  refine clSR (As := [.int x1, .int (5 : Int32)]) (rest := [.ref o_s]) hx hb hml hown hts gX8_liftNow_X8_cell rfl 2 kX8_cell.2 ⟨Nat.le_of_ble_eq_true rfl, Nat.le_of_ble_eq_true rfl⟩ (ctX8_cell l D ca   x1 (5 : Int32) r2 h_r2) hP hK [] rfl rfl hl.1 rfl (Nat.le_of_ble_eq_true rfl) ⟨Nat.le_of_ble_eq_true rfl, Nat.le_of_ble_eq_true rfl⟩ dX8_liftNow_13 rfl ?_
  refine lv_aload_n hx hb dX8_liftNow_16 rfl (lv_at hl 1 rfl) ?_
  refine gtF (ci := 7) (v := .ref o_s) (C := RX8) (T := TX8) (N := 14) hx hb hts inX8_liftNow_X8 hown hK hP 0 rfl rfl 0 (by decide) mwX8_liftNow_0 rfl rfl dX8_liftNow_17 ?_
  refine lv_iconst (v := (1 : Int32)) hx hb dX8_liftNow_20 (by decide) ?_
  obtain ⟨hin, y3, e_y3, h⟩ := rd_s h
  refine ldI hx hb hK hP 1 rfl hin dX8_liftNow_21 ?_
  refine top_i e_y3 ?_
  obtain ⟨hin, g4, e_g4, h⟩ := wr_s h
  refine stI (wn := [(o, .inr (7, [.ref o_s, .ref o_saved, .int o_savedCount, .ref o_text, .int o_textLength, .int o_code, .int o_pieceCount, .ref o_pieceCell, .int o_at, .int o_commands, .ref o_letter, .ref o_number, .ref o_before, .long o_hash])), (o_s, .inl (ca 0, 1634, .inl g4))]) hx hb hK hP hD hS 1 rfl hin e_g4 rfl dX8_liftNow_22 (fun H locs hP hD hS => ?_)
  refine lv_aload_n hx hb dX8_liftNow_23 rfl (lv_at hl 1 rfl) ?_
  refine lv_aload_n hx hb dX8_liftNow_24 rfl (lv_at hl 1 rfl) ?_
  refine lv_iload_n hx hb dX8_liftNow_25 rfl (lv_at hl 2 rfl) ?_
  refine lv_iconst (v := (0 : Int32)) hx hb dX8_liftNow_26 (by decide) ?_
  obtain ⟨r5, h_r5, h⟩ := bd_s h
  refine clVR (As := [.int x1, .int (0 : Int32)]) (rest := [.ref o]) hx hb hml hown hts gX8_liftNow_X8_of rfl 2 kX8_of ⟨Nat.le_of_ble_eq_true rfl, Nat.le_of_ble_eq_true rfl⟩ (ctX8_of l D ca o o_s o_saved o_text o_pieceCell o_letter o_number o_before o_savedCount o_textLength o_code o_pieceCount o_at o_commands o_hash g4 x1 (0 : Int32) r5 h_r5) hP hK [0, 1] rfl 0 7 rfl rfl rfl rfl hl.1 rfl (Nat.le_of_ble_eq_true rfl) ⟨Nat.le_of_ble_eq_true rfl, Nat.le_of_ble_eq_true rfl⟩ dX8_liftNow_27 rfl ?_
  refine lv_aload_n hx hb dX8_liftNow_30 rfl (lv_at hl 1 rfl) ?_
  refine lv_iload_n hx hb dX8_liftNow_31 rfl (lv_at hl 2 rfl) ?_
  refine lv_iconst (v := (1 : Int32)) hx hb dX8_liftNow_32 (by decide) ?_
  obtain ⟨r6, h_r6, h⟩ := bd_s h
  refine clVR (As := [.int x1, .int (1 : Int32)]) (rest := [.int r5, .ref o]) hx hb hml hown hts gX8_liftNow_X8_of rfl 2 kX8_of ⟨Nat.le_of_ble_eq_true rfl, Nat.le_of_ble_eq_true rfl⟩ (ctX8_of l D ca o o_s o_saved o_text o_pieceCell o_letter o_number o_before o_savedCount o_textLength o_code o_pieceCount o_at o_commands o_hash g4 x1 (1 : Int32) r6 h_r6) hP hK [0, 1] rfl 0 7 rfl rfl rfl rfl hl.1 rfl (Nat.le_of_ble_eq_true rfl) ⟨Nat.le_of_ble_eq_true rfl, Nat.le_of_ble_eq_true rfl⟩ dX8_liftNow_33 rfl ?_
  refine lv_iload_n hx hb dX8_liftNow_36 rfl (lv_at hl 3 rfl) ?_
  refine lv_iadd hx hb dX8_liftNow_37 ?_
  refine lv_aload_n hx hb dX8_liftNow_38 rfl (lv_at hl 1 rfl) ?_
  refine lv_iload_n hx hb dX8_liftNow_39 rfl (lv_at hl 2 rfl) ?_
  refine lv_iconst (v := (2 : Int32)) hx hb dX8_liftNow_40 (by decide) ?_
  obtain ⟨r7, h_r7, h⟩ := bd_s h
  refine clVR (As := [.int x1, .int (2 : Int32)]) (rest := [.int (r6 + x2), .int r5, .ref o]) hx hb hml hown hts gX8_liftNow_X8_of rfl 2 kX8_of ⟨Nat.le_of_ble_eq_true rfl, Nat.le_of_ble_eq_true rfl⟩ (ctX8_of l D ca o o_s o_saved o_text o_pieceCell o_letter o_number o_before o_savedCount o_textLength o_code o_pieceCount o_at o_commands o_hash g4 x1 (2 : Int32) r7 h_r7) hP hK [0, 1] rfl 0 7 rfl rfl rfl rfl hl.1 rfl (Nat.le_of_ble_eq_true rfl) ⟨Nat.le_of_ble_eq_true rfl, Nat.le_of_ble_eq_true rfl⟩ dX8_liftNow_41 rfl ?_
  refine lv_aload_n hx hb dX8_liftNow_44 rfl (lv_at hl 1 rfl) ?_
  refine lv_iload_n hx hb dX8_liftNow_45 rfl (lv_at hl 2 rfl) ?_
  refine lv_iconst (v := (3 : Int32)) hx hb dX8_liftNow_46 (by decide) ?_
  obtain ⟨r8, h_r8, h⟩ := bd_s h
  refine clVR (As := [.int x1, .int (3 : Int32)]) (rest := [.int r7, .int (r6 + x2), .int r5, .ref o]) hx hb hml hown hts gX8_liftNow_X8_of rfl 2 kX8_of ⟨Nat.le_of_ble_eq_true rfl, Nat.le_of_ble_eq_true rfl⟩ (ctX8_of l D ca o o_s o_saved o_text o_pieceCell o_letter o_number o_before o_savedCount o_textLength o_code o_pieceCount o_at o_commands o_hash g4 x1 (3 : Int32) r8 h_r8) hP hK [0, 1] rfl 0 7 rfl rfl rfl rfl hl.1 rfl (Nat.le_of_ble_eq_true rfl) ⟨Nat.le_of_ble_eq_true rfl, Nat.le_of_ble_eq_true rfl⟩ dX8_liftNow_47 rfl ?_
  refine lv_aload_n hx hb dX8_liftNow_50 rfl (lv_at hl 1 rfl) ?_
  refine gtF (ci := 7) (v := .ref o_s) (C := RX8) (T := TX8) (N := 14) hx hb hts inX8_liftNow_X8 hown hK hP 0 rfl rfl 0 (by decide) mwX8_liftNow_0 rfl rfl dX8_liftNow_51 ?_
  refine lv_iconst (v := (1 : Int32)) hx hb dX8_liftNow_54 (by decide) ?_
  obtain ⟨hin, y9, e_y9, h⟩ := rd_s h
  refine ldI hx hb hK hP 1 rfl hin dX8_liftNow_55 ?_
  refine top_i e_y9 ?_
  refine lv_iload_n hx hb dX8_liftNow_56 rfl (lv_at hl 0 rfl) ?_
  obtain ⟨⟨r10_0, r10_1⟩, h_r10, h⟩ := bd_s h
  have h := up2_s h
  refine clVW (As := [.int r5, .int (r6 + x2), .int r7, .int r8, .int y9, .int r1]) (rest := []) (wr := []) (wn := [(o, .inr (7, [.ref o_s, .ref o_saved, .int o_savedCount, .ref o_text, .int o_textLength, .int o_code, .int o_pieceCount, .ref o_pieceCell, .int o_at, .int o_commands, .ref o_letter, .ref o_number, .ref o_before, .long o_hash])), (o_s, .inl (ca 0, 1634, .inl r10_1))]) hx hb hml hown hts gX8_liftNow_X8_put rfl 6 kX8_put ⟨Nat.le_of_ble_eq_true rfl, Nat.le_of_ble_eq_true rfl⟩ (ctX8_put l D ca o o_s o_saved o_text o_pieceCell o_letter o_number o_before o_savedCount o_textLength o_code o_pieceCount o_at o_commands o_hash g4 r5 (r6 + x2) r7 r8 y9 r1 _ r10_0 r10_1 h_r10) hP hD hS hA hK [0, 1] [] rfl (by decide) rfl (by decide) (by decide) 0 7 rfl rfl rfl rfl hl.1 rfl (Nat.le_of_ble_eq_true rfl) ⟨Nat.le_of_ble_eq_true rfl, Nat.le_of_ble_eq_true rfl⟩ dX8_liftNow_57 rfl rfl (fun H locs hP hD hS => ?_)
  cases h
  exact hret 60 ls _ _ _ hP hD hS rfl dX8_liftNow_60
theorem mwX8_lift_0 : Cond.fieldLink RX8 31 "SegmentTimesModel" "code" "I" ∈ wsX8_lift := List.mem_of_getElem? (i := 1) rfl
theorem inX8_lift_X8 : ∀ w ∈ u_ws RX8 TX8 14, w ∈ wsX8_lift := fun w h => List.mem_cons_of_mem _ (List.mem_append_right _ (h))
theorem kX8_lift : yX8_lift.cls = RX8 ∧ yX8_lift.cls ≠ "java/lang/invoke/MethodHandle" ∧ yX8_lift.cls ≠ "java/lang/invoke/VarHandle" ∧ (parseMethodDescriptor yX8_lift.desc).map (fun d => d.parameters.length) = some 2 := by decide +kernel
set_option maxHeartbeats 4000000 in
set_option maxRecDepth 100000 in
theorem ctX8_lift (l : Launch) (D : va_G) (ca : Nat → ClassId) (o : Nat) (o_s : Nat) (o_saved : Nat) (o_text : Nat) (o_pieceCell : Nat) (o_letter : Nat) (o_number : Nat) (o_before : Nat) (o_savedCount : Int32) (o_textLength : Int32) (o_code : Int32) (o_pieceCount : Int32) (o_at : Int32) (o_commands : Int32) (o_hash : Int64) (o_s_d : Nat → Int32) (o_saved_d : Nat → Int32) (x1 : Int32) (x2 : Int32) (sz : Nat) (u0 : Int32) (u1 : Int32) (u2 : Int32) (u3 : Nat → Int32) (u4 : Nat → Int32) (hf : fX8_lift o_savedCount o_code o_s_d o_saved_d x1 x2 = some (u0, u1, u2, u3, u4)) : MW l yX8_lift wsX8_lift 4 87 D ca [.ref o, .int x1, .int x2] sz [(o, .inr (7, [.ref o_s, .ref o_saved, .int o_savedCount, .ref o_text, .int o_textLength, .int o_code, .int o_pieceCount, .ref o_pieceCell, .int o_at, .int o_commands, .ref o_letter, .ref o_number, .ref o_before, .long o_hash])), (o_s, .inl (ca 0, 1634, .inl o_s_d)), (o_saved, .inl (ca 0, 6536, .inl o_saved_d))] (some (.int u0)) [(o, .inr (7, [.ref o_s, .ref o_saved, .int u1, .ref o_text, .int o_textLength, .int u2, .int o_pieceCount, .ref o_pieceCell, .int o_at, .int o_commands, .ref o_letter, .ref o_number, .ref o_before, .long o_hash])), (o_s, .inl (ca 0, 1634, .inl u3)), (o_saved, .inl (ca 0, 6536, .inl u4))] := by
  refine hdWi (by decide +kernel) rfl (Nat.le_of_ble_eq_true rfl) ?_
  intro p e s m args below meth c A Q hx hb hml hown hts hP hD hK hA hS hret ls hl
  have hown : s.vm.findClass RX8 = some m.cls := hown
  have hl : lv_has ls 3 [(0, .ref o), (1, .int x1), (2, .int x2)] := hl
  have h := hf
  unfold fX8_lift at h
  clear hf
  refine lv_aload_n hx hb dX8_lift_0 rfl (lv_at hl 0 rfl) ?_
  refine lv_aload_n hx hb dX8_lift_1 rfl (lv_at hl 0 rfl) ?_
  refine lv_iload_n hx hb dX8_lift_2 rfl (lv_at hl 1 rfl) ?_
  refine lv_iload_n hx hb dX8_lift_3 rfl (lv_at hl 2 rfl) ?_
  obtain ⟨r1, h_r1, h⟩ := bd_s h
  refine clVR (As := [.int x1, .int x2]) (rest := [.ref o]) hx hb hml hown hts gX8_lift_X8_whyNotLift rfl 2 kX8_whyNotLift ⟨Nat.le_of_ble_eq_true rfl, Nat.le_of_ble_eq_true rfl⟩ (ctX8_whyNotLift l D ca o o_s o_saved o_text o_pieceCell o_letter o_number o_before o_savedCount o_textLength o_code o_pieceCount o_at o_commands o_hash o_s_d x1 x2 r1 h_r1) hP hK [0, 1] rfl 0 7 rfl rfl rfl rfl hl.1 rfl (Nat.le_of_ble_eq_true rfl) ⟨Nat.le_of_ble_eq_true rfl, Nat.le_of_ble_eq_true rfl⟩ dX8_lift_4 rfl ?_
  refine ptI (ci := 7) (v := .int r1) (ty := .int) (C := RX8) (T := TX8) (N := 14) (wn := [(o, .inr (7, [.ref o_s, .ref o_saved, .int o_savedCount, .ref o_text, .int o_textLength, .int r1, .int o_pieceCount, .ref o_pieceCell, .int o_at, .int o_commands, .ref o_letter, .ref o_number, .ref o_before, .long o_hash])), (o_s, .inl (ca 0, 1634, .inl o_s_d)), (o_saved, .inl (ca 0, 6536, .inl o_saved_d))]) hx hb hts inX8_lift_X8 tyX8 tyX8_ok nmX8 hown hK hP hD hS 0 rfl rfl 5 (by decide) mwX8_lift_0 rfl rfl (by decide +kernel) rfl rfl (Nat.le_of_ble_eq_true rfl) rfl dX8_lift_7 (fun H locs hP hD hS => ?_)
  refine lv_aload_n hx hb dX8_lift_10 rfl (lv_at hl 0 rfl) ?_
  refine gtF (ci := 7) (v := .int r1) (C := RX8) (T := TX8) (N := 14) hx hb hts inX8_lift_X8 hown hK hP 0 rfl rfl 5 (by decide) mwX8_lift_0 rfl rfl dX8_lift_11 ?_
  refine lv_if_eq (tgt := 19) hx hb dX8_lift_14 (by decide) (fun c2 => ?_) (fun c2 => ?_)
  · have h := ip_s h c2
    refine lv_aload_n hx hb dX8_lift_19 rfl (lv_at hl 0 rfl) ?_
    obtain ⟨⟨r3_0, r3_1⟩, h_r3, h⟩ := bd_s h
    have h := up2_s h
    refine clVW (As := []) (rest := []) (wr := []) (wn := [(o, .inr (7, [.ref o_s, .ref o_saved, .int r3_0, .ref o_text, .int o_textLength, .int r1, .int o_pieceCount, .ref o_pieceCell, .int o_at, .int o_commands, .ref o_letter, .ref o_number, .ref o_before, .long o_hash])), (o_s, .inl (ca 0, 1634, .inl o_s_d)), (o_saved, .inl (ca 0, 6536, .inl r3_1))]) hx hb hml hown hts gX8_lift_X8_keep rfl 0 kX8_keep ⟨Nat.le_of_ble_eq_true rfl, Nat.le_of_ble_eq_true rfl⟩ (ctX8_keep l D ca o o_s o_saved o_text o_pieceCell o_letter o_number o_before o_savedCount o_textLength r1 o_pieceCount o_at o_commands o_hash o_s_d o_saved_d  _ r3_0 r3_1 h_r3) hP hD hS hA hK [0, 1, 2] [] rfl (by decide) rfl (by decide) (by decide) 0 7 rfl rfl rfl rfl hl.1 rfl (Nat.le_of_ble_eq_true rfl) ⟨Nat.le_of_ble_eq_true rfl, Nat.le_of_ble_eq_true rfl⟩ dX8_lift_20 rfl rfl (fun H locs hP hD hS => ?_)
    refine lv_aload_n hx hb dX8_lift_23 rfl (lv_at hl 0 rfl) ?_
    refine lv_iload_n hx hb dX8_lift_24 rfl (lv_at hl 1 rfl) ?_
    refine lv_iload_n hx hb dX8_lift_25 rfl (lv_at hl 2 rfl) ?_
    obtain ⟨⟨r4_0, r4_1⟩, h_r4, h⟩ := bd_s h
    have h := up2_s h
    refine clVW (As := [.int x1, .int x2]) (rest := []) (wr := [(o_saved, .inl (ca 0, 6536, .inl r3_1))]) (wn := [(o_saved, .inl (ca 0, 6536, .inl r3_1)), (o, .inr (7, [.ref o_s, .ref o_saved, .int r3_0, .ref o_text, .int o_textLength, .int r1, .int o_pieceCount, .ref o_pieceCell, .int o_at, .int o_commands, .ref o_letter, .ref o_number, .ref o_before, .long o_hash])), (o_s, .inl (ca 0, 1634, .inl r4_1))]) hx hb hml hown hts gX8_lift_X8_liftNow rfl 2 kX8_liftNow ⟨Nat.le_of_ble_eq_true rfl, Nat.le_of_ble_eq_true rfl⟩ (ctX8_liftNow l D ca o o_s o_saved o_text o_pieceCell o_letter o_number o_before r3_0 o_textLength r1 o_pieceCount o_at o_commands o_hash o_s_d x1 x2 _ r4_0 r4_1 h_r4) hP hD hS hA hK [0, 1] [2] rfl (by decide) rfl (by decide) (by decide) 0 7 rfl rfl rfl rfl hl.1 rfl (Nat.le_of_ble_eq_true rfl) ⟨Nat.le_of_ble_eq_true rfl, Nat.le_of_ble_eq_true rfl⟩ dX8_lift_26 rfl rfl (fun H locs hP hD hS => ?_)
    have hP := hP.sub (ws' := [(o, .inr (7, [.ref o_s, .ref o_saved, .int r3_0, .ref o_text, .int o_textLength, .int r1, .int o_pieceCount, .ref o_pieceCell, .int o_at, .int o_commands, .ref o_letter, .ref o_number, .ref o_before, .long o_hash])), (o_s, .inl (ca 0, 1634, .inl r4_1)), (o_saved, .inl (ca 0, 6536, .inl r3_1))]) [1, 2, 0] rfl
    have hD := hD.sub (ws' := [(o, .inr (7, [.ref o_s, .ref o_saved, .int r3_0, .ref o_text, .int o_textLength, .int r1, .int o_pieceCount, .ref o_pieceCell, .int o_at, .int o_commands, .ref o_letter, .ref o_number, .ref o_before, .long o_hash])), (o_s, .inl (ca 0, 1634, .inl r4_1)), (o_saved, .inl (ca 0, 6536, .inl r3_1))]) [1, 2, 0] (by decide) rfl
    cases h
    exact hret 29 ls _ _ _ hP hD hS rfl dX8_lift_29
  · have h := in_s h c2
    refine lv_iconst (v := (0 : Int32)) hx hb dX8_lift_17 (by decide) ?_
    cases h
    exact hret 18 ls _ _ _ hP hD hS rfl dX8_lift_18
theorem mwX8_whyNotPass_0 : Cond.constantLong RX8 52 (1000) ∈ wsX8_whyNotPass := List.mem_of_getElem? (i := 1) rfl
theorem mwX8_whyNotPass_1 : Cond.fieldLink RX8 7 "SegmentTimesModel" "s" "[I" ∈ wsX8_whyNotPass := List.mem_of_getElem? (i := 2) rfl
theorem inX8_whyNotPass_X8 : ∀ w ∈ u_ws RX8 TX8 14, w ∈ wsX8_whyNotPass := fun w h => List.mem_cons_of_mem _ (List.mem_append_right _ (h))
theorem kX8_whyNotPass : yX8_whyNotPass.cls = RX8 ∧ yX8_whyNotPass.cls ≠ "java/lang/invoke/MethodHandle" ∧ yX8_whyNotPass.cls ≠ "java/lang/invoke/VarHandle" ∧ (parseMethodDescriptor yX8_whyNotPass.desc).map (fun d => d.parameters.length) = some 1 := by decide +kernel
set_option maxHeartbeats 4000000 in
set_option maxRecDepth 100000 in
theorem ctX8_whyNotPass (l : Launch) (D : va_G) (ca : Nat → ClassId) (o : Nat) (o_s : Nat) (o_saved : Nat) (o_text : Nat) (o_pieceCell : Nat) (o_letter : Nat) (o_number : Nat) (o_before : Nat) (o_savedCount : Int32) (o_textLength : Int32) (o_code : Int32) (o_pieceCount : Int32) (o_at : Int32) (o_commands : Int32) (o_hash : Int64) (o_s_d : Nat → Int32) (x1 : Int32) (u0 : Int32) (hf : fX8_whyNotPass o_s_d x1 = some u0) : MR l yX8_whyNotPass wsX8_whyNotPass 1 25 D ca [.ref o, .int x1] [(o, .inr (7, [.ref o_s, .ref o_saved, .int o_savedCount, .ref o_text, .int o_textLength, .int o_code, .int o_pieceCount, .ref o_pieceCell, .int o_at, .int o_commands, .ref o_letter, .ref o_number, .ref o_before, .long o_hash])), (o_s, .inl (ca 0, 1634, .inl o_s_d))] (some (.int u0)) := by
  refine hdRi (plainFor_of_name (by decide +kernel)) rfl (Nat.le_of_ble_eq_true rfl) ?_
  intro p e s m args below meth c Q hx hb hml hown hts hP hK hret ls hl
  have hown : s.vm.findClass RX8 = some m.cls := hown
  have hl : lv_has ls 2 [(0, .ref o), (1, .int x1)] := hl
  have h := hf
  unfold fX8_whyNotPass at h
  clear hf
  refine lv_iload_n hx hb dX8_whyNotPass_0 rfl (lv_at hl 1 rfl) ?_
  refine lv_i2l (v := (x1).toInt64) hx hb dX8_whyNotPass_1 rfl ?_
  refine lv_lconst (v := (0 : Int64)) hx hb dX8_whyNotPass_2 (by decide) ?_
  refine lv_ldc2 (v := (1000 : Int64)) hx hb hown (hts _ mwX8_whyNotPass_0) dX8_whyNotPass_3 ?_
  obtain ⟨r1, h_r1, h⟩ := bd_s h
  refine clSR (As := [.long (x1).toInt64, .long (0 : Int64), .long (1000 : Int64)]) (rest := []) hx hb hml hown hts gX8_whyNotPass_X8_in rfl 3 kX8_in.2 ⟨Nat.le_of_ble_eq_true rfl, Nat.le_of_ble_eq_true rfl⟩ (ctX8_in l D ca   ((x1).toInt64) (0 : Int64) (1000 : Int64) r1 h_r1) hP hK [] rfl rfl hl.1 rfl (Nat.le_of_ble_eq_true rfl) ⟨Nat.le_of_ble_eq_true rfl, Nat.le_of_ble_eq_true rfl⟩ dX8_whyNotPass_6 rfl ?_
  refine lv_if_ne (tgt := 16) hx hb dX8_whyNotPass_9 (by decide) (fun c2 => ?_) (fun c2 => ?_)
  · have h := in_s h c2
    refine lv_aload_n hx hb dX8_whyNotPass_16 rfl (lv_at hl 0 rfl) ?_
    refine gtF (ci := 7) (v := .ref o_s) (C := RX8) (T := TX8) (N := 14) hx hb hts inX8_whyNotPass_X8 hown hK hP 0 rfl rfl 0 (by decide) mwX8_whyNotPass_1 rfl rfl dX8_whyNotPass_17 ?_
    refine lv_iconst (v := (1 : Int32)) hx hb dX8_whyNotPass_20 (by decide) ?_
    obtain ⟨hin, y3, e_y3, h⟩ := rd_s h
    refine ldI hx hb hK hP 1 rfl hin dX8_whyNotPass_21 ?_
    refine top_i e_y3 ?_
    refine lv_iload_n hx hb dX8_whyNotPass_22 rfl (lv_at hl 1 rfl) ?_
    refine lv_iadd hx hb dX8_whyNotPass_23 ?_
    refine lv_sipush (v := (16383 : Int32)) hx hb dX8_whyNotPass_24 (by decide) ?_
    refine lv_icmp_le (tgt := 34) hx hb dX8_whyNotPass_27 (by decide) (fun c4 => ?_) (fun c4 => ?_)
    · have h := ip_s h c4
      refine lv_iconst (v := (0 : Int32)) hx hb dX8_whyNotPass_34 (by decide) ?_
      cases h
      exact hret 35 ls _ rfl dX8_whyNotPass_35
    · have h := in_s h c4
      refine lv_iconst (v := (2 : Int32)) hx hb dX8_whyNotPass_30 (by decide) ?_
      refine lv_goto (tgt := 35) hx hb dX8_whyNotPass_31 (by decide) ?_
      cases h
      exact hret 35 ls _ rfl dX8_whyNotPass_35
  · have h := ip_s h c2
    refine lv_iconst (v := (1 : Int32)) hx hb dX8_whyNotPass_12 (by decide) ?_
    refine lv_goto (tgt := 35) hx hb dX8_whyNotPass_13 (by decide) ?_
    cases h
    exact hret 35 ls _ rfl dX8_whyNotPass_35
theorem mwX8_pass_0 : Cond.fieldLink RX8 31 "SegmentTimesModel" "code" "I" ∈ wsX8_pass := List.mem_of_getElem? (i := 1) rfl
theorem mwX8_pass_1 : Cond.fieldLink RX8 7 "SegmentTimesModel" "s" "[I" ∈ wsX8_pass := List.mem_of_getElem? (i := 2) rfl
theorem inX8_pass_X8 : ∀ w ∈ u_ws RX8 TX8 14, w ∈ wsX8_pass := fun w h => List.mem_cons_of_mem _ (List.mem_append_right _ (h))
theorem kX8_pass : yX8_pass.cls = RX8 ∧ yX8_pass.cls ≠ "java/lang/invoke/MethodHandle" ∧ yX8_pass.cls ≠ "java/lang/invoke/VarHandle" ∧ (parseMethodDescriptor yX8_pass.desc).map (fun d => d.parameters.length) = some 1 := by decide +kernel
set_option maxHeartbeats 4000000 in
set_option maxRecDepth 100000 in
theorem ctX8_pass (l : Launch) (D : va_G) (ca : Nat → ClassId) (o : Nat) (o_s : Nat) (o_saved : Nat) (o_text : Nat) (o_pieceCell : Nat) (o_letter : Nat) (o_number : Nat) (o_before : Nat) (o_savedCount : Int32) (o_textLength : Int32) (o_code : Int32) (o_pieceCount : Int32) (o_at : Int32) (o_commands : Int32) (o_hash : Int64) (o_s_d : Nat → Int32) (o_saved_d : Nat → Int32) (x1 : Int32) (sz : Nat) (u0 : Int32) (u1 : Int32) (u2 : Int32) (u3 : Nat → Int32) (u4 : Nat → Int32) (hf : fX8_pass o_savedCount o_code o_s_d o_saved_d x1 = some (u0, u1, u2, u3, u4)) : MW l yX8_pass wsX8_pass 2 46 D ca [.ref o, .int x1] sz [(o, .inr (7, [.ref o_s, .ref o_saved, .int o_savedCount, .ref o_text, .int o_textLength, .int o_code, .int o_pieceCount, .ref o_pieceCell, .int o_at, .int o_commands, .ref o_letter, .ref o_number, .ref o_before, .long o_hash])), (o_s, .inl (ca 0, 1634, .inl o_s_d)), (o_saved, .inl (ca 0, 6536, .inl o_saved_d))] (some (.int u0)) [(o, .inr (7, [.ref o_s, .ref o_saved, .int u1, .ref o_text, .int o_textLength, .int u2, .int o_pieceCount, .ref o_pieceCell, .int o_at, .int o_commands, .ref o_letter, .ref o_number, .ref o_before, .long o_hash])), (o_s, .inl (ca 0, 1634, .inl u3)), (o_saved, .inl (ca 0, 6536, .inl u4))] := by
  refine hdWi (by decide +kernel) rfl (Nat.le_of_ble_eq_true rfl) ?_
  intro p e s m args below meth c A Q hx hb hml hown hts hP hD hK hA hS hret ls hl
  have hown : s.vm.findClass RX8 = some m.cls := hown
  have hl : lv_has ls 2 [(0, .ref o), (1, .int x1)] := hl
  have h := hf
  unfold fX8_pass at h
  clear hf
  refine lv_aload_n hx hb dX8_pass_0 rfl (lv_at hl 0 rfl) ?_
  refine lv_aload_n hx hb dX8_pass_1 rfl (lv_at hl 0 rfl) ?_
  refine lv_iload_n hx hb dX8_pass_2 rfl (lv_at hl 1 rfl) ?_
  obtain ⟨r1, h_r1, h⟩ := bd_s h
  refine clVR (As := [.int x1]) (rest := [.ref o]) hx hb hml hown hts gX8_pass_X8_whyNotPass rfl 1 kX8_whyNotPass ⟨Nat.le_of_ble_eq_true rfl, Nat.le_of_ble_eq_true rfl⟩ (ctX8_whyNotPass l D ca o o_s o_saved o_text o_pieceCell o_letter o_number o_before o_savedCount o_textLength o_code o_pieceCount o_at o_commands o_hash o_s_d x1 r1 h_r1) hP hK [0, 1] rfl 0 7 rfl rfl rfl rfl hl.1 rfl (Nat.le_of_ble_eq_true rfl) ⟨Nat.le_of_ble_eq_true rfl, Nat.le_of_ble_eq_true rfl⟩ dX8_pass_3 rfl ?_
  refine ptI (ci := 7) (v := .int r1) (ty := .int) (C := RX8) (T := TX8) (N := 14) (wn := [(o, .inr (7, [.ref o_s, .ref o_saved, .int o_savedCount, .ref o_text, .int o_textLength, .int r1, .int o_pieceCount, .ref o_pieceCell, .int o_at, .int o_commands, .ref o_letter, .ref o_number, .ref o_before, .long o_hash])), (o_s, .inl (ca 0, 1634, .inl o_s_d)), (o_saved, .inl (ca 0, 6536, .inl o_saved_d))]) hx hb hts inX8_pass_X8 tyX8 tyX8_ok nmX8 hown hK hP hD hS 0 rfl rfl 5 (by decide) mwX8_pass_0 rfl rfl (by decide +kernel) rfl rfl (Nat.le_of_ble_eq_true rfl) rfl dX8_pass_6 (fun H locs hP hD hS => ?_)
  refine lv_aload_n hx hb dX8_pass_9 rfl (lv_at hl 0 rfl) ?_
  refine gtF (ci := 7) (v := .int r1) (C := RX8) (T := TX8) (N := 14) hx hb hts inX8_pass_X8 hown hK hP 0 rfl rfl 5 (by decide) mwX8_pass_0 rfl rfl dX8_pass_10 ?_
  refine lv_if_eq (tgt := 18) hx hb dX8_pass_13 (by decide) (fun c2 => ?_) (fun c2 => ?_)
  · have h := ip_s h c2
    refine lv_aload_n hx hb dX8_pass_18 rfl (lv_at hl 0 rfl) ?_
    obtain ⟨⟨r3_0, r3_1⟩, h_r3, h⟩ := bd_s h
    have h := up2_s h
    refine clVW (As := []) (rest := []) (wr := []) (wn := [(o, .inr (7, [.ref o_s, .ref o_saved, .int r3_0, .ref o_text, .int o_textLength, .int r1, .int o_pieceCount, .ref o_pieceCell, .int o_at, .int o_commands, .ref o_letter, .ref o_number, .ref o_before, .long o_hash])), (o_s, .inl (ca 0, 1634, .inl o_s_d)), (o_saved, .inl (ca 0, 6536, .inl r3_1))]) hx hb hml hown hts gX8_pass_X8_keep rfl 0 kX8_keep ⟨Nat.le_of_ble_eq_true rfl, Nat.le_of_ble_eq_true rfl⟩ (ctX8_keep l D ca o o_s o_saved o_text o_pieceCell o_letter o_number o_before o_savedCount o_textLength r1 o_pieceCount o_at o_commands o_hash o_s_d o_saved_d  _ r3_0 r3_1 h_r3) hP hD hS hA hK [0, 1, 2] [] rfl (by decide) rfl (by decide) (by decide) 0 7 rfl rfl rfl rfl hl.1 rfl (Nat.le_of_ble_eq_true rfl) ⟨Nat.le_of_ble_eq_true rfl, Nat.le_of_ble_eq_true rfl⟩ dX8_pass_19 rfl rfl (fun H locs hP hD hS => ?_)
    refine lv_aload_n hx hb dX8_pass_22 rfl (lv_at hl 0 rfl) ?_
    refine gtF (ci := 7) (v := .ref o_s) (C := RX8) (T := TX8) (N := 14) hx hb hts inX8_pass_X8 hown hK hP 0 rfl rfl 0 (by decide) mwX8_pass_1 rfl rfl dX8_pass_23 ?_
    refine lv_iconst (v := (1 : Int32)) hx hb dX8_pass_26 (by decide) ?_
    refine lv_dup2_11 hx hb dX8_pass_27 rfl rfl ?_
    obtain ⟨hin, y4, e_y4, h⟩ := rd_s h
    refine ldI hx hb hK hP 1 rfl hin dX8_pass_28 ?_
    refine top_i e_y4 ?_
    refine lv_iload_n hx hb dX8_pass_29 rfl (lv_at hl 1 rfl) ?_
    refine lv_iadd hx hb dX8_pass_30 ?_
    obtain ⟨hin, g5, e_g5, h⟩ := wr_s h
    refine stI (wn := [(o, .inr (7, [.ref o_s, .ref o_saved, .int r3_0, .ref o_text, .int o_textLength, .int r1, .int o_pieceCount, .ref o_pieceCell, .int o_at, .int o_commands, .ref o_letter, .ref o_number, .ref o_before, .long o_hash])), (o_s, .inl (ca 0, 1634, .inl g5)), (o_saved, .inl (ca 0, 6536, .inl r3_1))]) hx hb hK hP hD hS 1 rfl hin e_g5 rfl dX8_pass_31 (fun H locs hP hD hS => ?_)
    refine lv_aload_n hx hb dX8_pass_32 rfl (lv_at hl 0 rfl) ?_
    refine gtF (ci := 7) (v := .ref o_s) (C := RX8) (T := TX8) (N := 14) hx hb hts inX8_pass_X8 hown hK hP 0 rfl rfl 0 (by decide) mwX8_pass_1 rfl rfl dX8_pass_33 ?_
    refine lv_iconst (v := (1 : Int32)) hx hb dX8_pass_36 (by decide) ?_
    obtain ⟨hin, y6, e_y6, h⟩ := rd_s h
    refine ldI hx hb hK hP 1 rfl hin dX8_pass_37 ?_
    refine top_i e_y6 ?_
    cases h
    exact hret 38 ls _ _ _ hP hD hS rfl dX8_pass_38
  · have h := in_s h c2
    refine lv_iconst (v := (0 : Int32)) hx hb dX8_pass_16 (by decide) ?_
    cases h
    exact hret 17 ls _ _ _ hP hD hS rfl dX8_pass_17
theorem mwX8_now_0 : Cond.fieldLink RX8 31 "SegmentTimesModel" "code" "I" ∈ wsX8_now := List.mem_of_getElem? (i := 1) rfl
theorem mwX8_now_1 : Cond.fieldLink RX8 7 "SegmentTimesModel" "s" "[I" ∈ wsX8_now := List.mem_of_getElem? (i := 2) rfl
theorem inX8_now_X8 : ∀ w ∈ u_ws RX8 TX8 14, w ∈ wsX8_now := fun w h => List.mem_cons_of_mem _ (List.mem_append_right _ (h))
theorem kX8_now : yX8_now.cls = RX8 ∧ yX8_now.cls ≠ "java/lang/invoke/MethodHandle" ∧ yX8_now.cls ≠ "java/lang/invoke/VarHandle" ∧ (parseMethodDescriptor yX8_now.desc).map (fun d => d.parameters.length) = some 0 := by decide +kernel
set_option maxHeartbeats 4000000 in
set_option maxRecDepth 100000 in
theorem ctX8_now (l : Launch) (D : va_G) (ca : Nat → ClassId) (o : Nat) (o_s : Nat) (o_saved : Nat) (o_text : Nat) (o_pieceCell : Nat) (o_letter : Nat) (o_number : Nat) (o_before : Nat) (o_savedCount : Int32) (o_textLength : Int32) (o_code : Int32) (o_pieceCount : Int32) (o_at : Int32) (o_commands : Int32) (o_hash : Int64) (o_s_d : Nat → Int32)  (sz : Nat) (u0 : Int32) (u1 : Int32) (hf : fX8_now o_code o_s_d = some (u0, u1)) : MW l yX8_now wsX8_now 0 0 D ca [.ref o] sz [(o, .inr (7, [.ref o_s, .ref o_saved, .int o_savedCount, .ref o_text, .int o_textLength, .int o_code, .int o_pieceCount, .ref o_pieceCell, .int o_at, .int o_commands, .ref o_letter, .ref o_number, .ref o_before, .long o_hash])), (o_s, .inl (ca 0, 1634, .inl o_s_d))] (some (.int u0)) [(o, .inr (7, [.ref o_s, .ref o_saved, .int o_savedCount, .ref o_text, .int o_textLength, .int u1, .int o_pieceCount, .ref o_pieceCell, .int o_at, .int o_commands, .ref o_letter, .ref o_number, .ref o_before, .long o_hash])), (o_s, .inl (ca 0, 1634, .inl o_s_d))] := by
  refine hdWi (by decide +kernel) rfl (Nat.le_of_ble_eq_true rfl) ?_
  intro p e s m args below meth c A Q hx hb hml hown hts hP hD hK hA hS hret ls hl
  have hown : s.vm.findClass RX8 = some m.cls := hown
  have hl : lv_has ls 1 [(0, .ref o)] := hl
  have h := hf
  unfold fX8_now at h
  clear hf
  refine lv_aload_n hx hb dX8_now_0 rfl (lv_at hl 0 rfl) ?_
  refine lv_iconst (v := (0 : Int32)) hx hb dX8_now_1 (by decide) ?_
  refine ptI (ci := 7) (v := .int (0 : Int32)) (ty := .int) (C := RX8) (T := TX8) (N := 14) (wn := [(o, .inr (7, [.ref o_s, .ref o_saved, .int o_savedCount, .ref o_text, .int o_textLength, .int (0 : Int32), .int o_pieceCount, .ref o_pieceCell, .int o_at, .int o_commands, .ref o_letter, .ref o_number, .ref o_before, .long o_hash])), (o_s, .inl (ca 0, 1634, .inl o_s_d))]) hx hb hts inX8_now_X8 tyX8 tyX8_ok nmX8 hown hK hP hD hS 0 rfl rfl 5 (by decide) mwX8_now_0 rfl rfl (by decide +kernel) rfl rfl (Nat.le_of_ble_eq_true rfl) rfl dX8_now_2 (fun H locs hP hD hS => ?_)
  refine lv_aload_n hx hb dX8_now_5 rfl (lv_at hl 0 rfl) ?_
  refine gtF (ci := 7) (v := .ref o_s) (C := RX8) (T := TX8) (N := 14) hx hb hts inX8_now_X8 hown hK hP 0 rfl rfl 0 (by decide) mwX8_now_1 rfl rfl dX8_now_6 ?_
  refine lv_iconst (v := (1 : Int32)) hx hb dX8_now_9 (by decide) ?_
  obtain ⟨hin, y1, e_y1, h⟩ := rd_s h
  refine ldI hx hb hK hP 1 rfl hin dX8_now_10 ?_
  refine top_i e_y1 ?_
  cases h
  exact hret 11 ls _ _ _ hP hD hS rfl dX8_now_11
theorem mwX8_segments_0 : Cond.fieldLink RX8 31 "SegmentTimesModel" "code" "I" ∈ wsX8_segments := List.mem_of_getElem? (i := 1) rfl
theorem mwX8_segments_1 : Cond.fieldLink RX8 7 "SegmentTimesModel" "s" "[I" ∈ wsX8_segments := List.mem_of_getElem? (i := 2) rfl
theorem inX8_segments_X8 : ∀ w ∈ u_ws RX8 TX8 14, w ∈ wsX8_segments := fun w h => List.mem_cons_of_mem _ (List.mem_append_right _ (h))
theorem kX8_segments : yX8_segments.cls = RX8 ∧ yX8_segments.cls ≠ "java/lang/invoke/MethodHandle" ∧ yX8_segments.cls ≠ "java/lang/invoke/VarHandle" ∧ (parseMethodDescriptor yX8_segments.desc).map (fun d => d.parameters.length) = some 0 := by decide +kernel
set_option maxHeartbeats 4000000 in
set_option maxRecDepth 100000 in
theorem ctX8_segments (l : Launch) (D : va_G) (ca : Nat → ClassId) (o : Nat) (o_s : Nat) (o_saved : Nat) (o_text : Nat) (o_pieceCell : Nat) (o_letter : Nat) (o_number : Nat) (o_before : Nat) (o_savedCount : Int32) (o_textLength : Int32) (o_code : Int32) (o_pieceCount : Int32) (o_at : Int32) (o_commands : Int32) (o_hash : Int64) (o_s_d : Nat → Int32)  (sz : Nat) (u0 : Int32) (u1 : Int32) (hf : fX8_segments o_code o_s_d = some (u0, u1)) : MW l yX8_segments wsX8_segments 0 0 D ca [.ref o] sz [(o, .inr (7, [.ref o_s, .ref o_saved, .int o_savedCount, .ref o_text, .int o_textLength, .int o_code, .int o_pieceCount, .ref o_pieceCell, .int o_at, .int o_commands, .ref o_letter, .ref o_number, .ref o_before, .long o_hash])), (o_s, .inl (ca 0, 1634, .inl o_s_d))] (some (.int u0)) [(o, .inr (7, [.ref o_s, .ref o_saved, .int o_savedCount, .ref o_text, .int o_textLength, .int u1, .int o_pieceCount, .ref o_pieceCell, .int o_at, .int o_commands, .ref o_letter, .ref o_number, .ref o_before, .long o_hash])), (o_s, .inl (ca 0, 1634, .inl o_s_d))] := by
  refine hdWi (by decide +kernel) rfl (Nat.le_of_ble_eq_true rfl) ?_
  intro p e s m args below meth c A Q hx hb hml hown hts hP hD hK hA hS hret ls hl
  have hown : s.vm.findClass RX8 = some m.cls := hown
  have hl : lv_has ls 1 [(0, .ref o)] := hl
  have h := hf
  unfold fX8_segments at h
  clear hf
  refine lv_aload_n hx hb dX8_segments_0 rfl (lv_at hl 0 rfl) ?_
  refine lv_iconst (v := (0 : Int32)) hx hb dX8_segments_1 (by decide) ?_
  refine ptI (ci := 7) (v := .int (0 : Int32)) (ty := .int) (C := RX8) (T := TX8) (N := 14) (wn := [(o, .inr (7, [.ref o_s, .ref o_saved, .int o_savedCount, .ref o_text, .int o_textLength, .int (0 : Int32), .int o_pieceCount, .ref o_pieceCell, .int o_at, .int o_commands, .ref o_letter, .ref o_number, .ref o_before, .long o_hash])), (o_s, .inl (ca 0, 1634, .inl o_s_d))]) hx hb hts inX8_segments_X8 tyX8 tyX8_ok nmX8 hown hK hP hD hS 0 rfl rfl 5 (by decide) mwX8_segments_0 rfl rfl (by decide +kernel) rfl rfl (Nat.le_of_ble_eq_true rfl) rfl dX8_segments_2 (fun H locs hP hD hS => ?_)
  refine lv_aload_n hx hb dX8_segments_5 rfl (lv_at hl 0 rfl) ?_
  refine gtF (ci := 7) (v := .ref o_s) (C := RX8) (T := TX8) (N := 14) hx hb hts inX8_segments_X8 hown hK hP 0 rfl rfl 0 (by decide) mwX8_segments_1 rfl rfl dX8_segments_6 ?_
  refine lv_iconst (v := (0 : Int32)) hx hb dX8_segments_9 (by decide) ?_
  obtain ⟨hin, y1, e_y1, h⟩ := rd_s h
  refine ldI hx hb hK hP 1 rfl hin dX8_segments_10 ?_
  refine top_i e_y1 ?_
  cases h
  exact hret 11 ls _ _ _ hP hD hS rfl dX8_segments_11
theorem mwX8_segment_0 : Cond.fieldLink RX8 31 "SegmentTimesModel" "code" "I" ∈ wsX8_segment := List.mem_of_getElem? (i := 1) rfl
theorem mwX8_segment_1 : Cond.constantLong RX8 115 (5) ∈ wsX8_segment := List.mem_of_getElem? (i := 2) rfl
theorem inX8_segment_X8 : ∀ w ∈ u_ws RX8 TX8 14, w ∈ wsX8_segment := fun w h => List.mem_cons_of_mem _ (List.mem_append_right _ (h))
theorem kX8_segment : yX8_segment.cls = RX8 ∧ yX8_segment.cls ≠ "java/lang/invoke/MethodHandle" ∧ yX8_segment.cls ≠ "java/lang/invoke/VarHandle" ∧ (parseMethodDescriptor yX8_segment.desc).map (fun d => d.parameters.length) = some 2 := by decide +kernel
set_option maxHeartbeats 4000000 in
set_option maxRecDepth 100000 in
theorem ctX8_segment (l : Launch) (D : va_G) (ca : Nat → ClassId) (o : Nat) (o_s : Nat) (o_saved : Nat) (o_text : Nat) (o_pieceCell : Nat) (o_letter : Nat) (o_number : Nat) (o_before : Nat) (o_savedCount : Int32) (o_textLength : Int32) (o_code : Int32) (o_pieceCount : Int32) (o_at : Int32) (o_commands : Int32) (o_hash : Int64) (o_s_d : Nat → Int32) (x1 : Int32) (x2 : Int32) (sz : Nat) (u0 : Int32) (u1 : Int32) (hf : fX8_segment o_code o_s_d x1 x2 = some (u0, u1)) : MW l yX8_segment wsX8_segment 2 46 D ca [.ref o, .int x1, .int x2] sz [(o, .inr (7, [.ref o_s, .ref o_saved, .int o_savedCount, .ref o_text, .int o_textLength, .int o_code, .int o_pieceCount, .ref o_pieceCell, .int o_at, .int o_commands, .ref o_letter, .ref o_number, .ref o_before, .long o_hash])), (o_s, .inl (ca 0, 1634, .inl o_s_d))] (some (.int u0)) [(o, .inr (7, [.ref o_s, .ref o_saved, .int o_savedCount, .ref o_text, .int o_textLength, .int u1, .int o_pieceCount, .ref o_pieceCell, .int o_at, .int o_commands, .ref o_letter, .ref o_number, .ref o_before, .long o_hash])), (o_s, .inl (ca 0, 1634, .inl o_s_d))] := by
  refine hdWi (by decide +kernel) rfl (Nat.le_of_ble_eq_true rfl) ?_
  intro p e s m args below meth c A Q hx hb hml hown hts hP hD hK hA hS hret ls hl
  have hown : s.vm.findClass RX8 = some m.cls := hown
  have hl : lv_has ls 3 [(0, .ref o), (1, .int x1), (2, .int x2)] := hl
  have h := hf
  unfold fX8_segment at h
  clear hf
  refine lv_aload_n hx hb dX8_segment_0 rfl (lv_at hl 0 rfl) ?_
  refine lv_iconst (v := (0 : Int32)) hx hb dX8_segment_1 (by decide) ?_
  refine ptI (ci := 7) (v := .int (0 : Int32)) (ty := .int) (C := RX8) (T := TX8) (N := 14) (wn := [(o, .inr (7, [.ref o_s, .ref o_saved, .int o_savedCount, .ref o_text, .int o_textLength, .int (0 : Int32), .int o_pieceCount, .ref o_pieceCell, .int o_at, .int o_commands, .ref o_letter, .ref o_number, .ref o_before, .long o_hash])), (o_s, .inl (ca 0, 1634, .inl o_s_d))]) hx hb hts inX8_segment_X8 tyX8 tyX8_ok nmX8 hown hK hP hD hS 0 rfl rfl 5 (by decide) mwX8_segment_0 rfl rfl (by decide +kernel) rfl rfl (Nat.le_of_ble_eq_true rfl) rfl dX8_segment_2 (fun H locs hP hD hS => ?_)
  refine lv_aload_n hx hb dX8_segment_5 rfl (lv_at hl 0 rfl) ?_
  refine lv_iload_n hx hb dX8_segment_6 rfl (lv_at hl 1 rfl) ?_
  obtain ⟨r1, h_r1, h⟩ := bd_s h
  refine clVR (As := [.int x1]) (rest := []) hx hb hml hown hts gX8_segment_X8_isSegment rfl 1 kX8_isSegment ⟨Nat.le_of_ble_eq_true rfl, Nat.le_of_ble_eq_true rfl⟩ (ctX8_isSegment l D ca o o_s o_saved o_text o_pieceCell o_letter o_number o_before o_savedCount o_textLength (0 : Int32) o_pieceCount o_at o_commands o_hash o_s_d x1 r1 h_r1) hP hK [0, 1] rfl 0 7 rfl rfl rfl rfl hl.1 rfl (Nat.le_of_ble_eq_true rfl) ⟨Nat.le_of_ble_eq_true rfl, Nat.le_of_ble_eq_true rfl⟩ dX8_segment_7 rfl ?_
  refine lv_if_ne (tgt := 19) hx hb dX8_segment_10 (by decide) (fun c2 => ?_) (fun c2 => ?_)
  · have h := in_s h c2
    refine lv_iload_n hx hb dX8_segment_19 rfl (lv_at hl 2 rfl) ?_
    refine lv_i2l (v := (x2).toInt64) hx hb dX8_segment_20 rfl ?_
    refine lv_lconst (v := (0 : Int64)) hx hb dX8_segment_21 (by decide) ?_
    refine lv_ldc2 (v := (5 : Int64)) hx hb hown (hts _ mwX8_segment_1) dX8_segment_22 ?_
    obtain ⟨r3, h_r3, h⟩ := bd_s h
    refine clSR (As := [.long (x2).toInt64, .long (0 : Int64), .long (5 : Int64)]) (rest := []) hx hb hml hown hts gX8_segment_X8_in rfl 3 kX8_in.2 ⟨Nat.le_of_ble_eq_true rfl, Nat.le_of_ble_eq_true rfl⟩ (ctX8_in l D ca   ((x2).toInt64) (0 : Int64) (5 : Int64) r3 h_r3) hP hK [] rfl rfl hl.1 rfl (Nat.le_of_ble_eq_true rfl) ⟨Nat.le_of_ble_eq_true rfl, Nat.le_of_ble_eq_true rfl⟩ dX8_segment_25 rfl ?_
    refine lv_if_eq (tgt := 40) hx hb dX8_segment_28 (by decide) (fun c4 => ?_) (fun c4 => ?_)
    · have h := ip_s h c4
      refine lv_aload_n hx hb dX8_segment_40 rfl (lv_at hl 0 rfl) ?_
      refine lv_iconst (v := (2 : Int32)) hx hb dX8_segment_41 (by decide) ?_
      obtain ⟨⟨r5_0, r5_1⟩, h_r5, h⟩ := bd_s h
      have h := up2_s h
      refine clVW (As := [.int (2 : Int32)]) (rest := []) (wr := [(o_s, .inl (ca 0, 1634, .inl o_s_d))]) (wn := [(o_s, .inl (ca 0, 1634, .inl o_s_d)), (o, .inr (7, [.ref o_s, .ref o_saved, .int o_savedCount, .ref o_text, .int o_textLength, .int r5_1, .int o_pieceCount, .ref o_pieceCell, .int o_at, .int o_commands, .ref o_letter, .ref o_number, .ref o_before, .long o_hash]))]) hx hb hml hown hts gX8_segment_X8_fails rfl 1 kX8_fails ⟨Nat.le_of_ble_eq_true rfl, Nat.le_of_ble_eq_true rfl⟩ (ctX8_fails l D ca o o_s o_saved o_text o_pieceCell o_letter o_number o_before o_savedCount o_textLength (0 : Int32) o_pieceCount o_at o_commands o_hash (2 : Int32) _ r5_0 r5_1 h_r5) hP hD hS hA hK [0] [1] rfl (by decide) rfl (by decide) (by decide) 0 7 rfl rfl rfl rfl hl.1 rfl (Nat.le_of_ble_eq_true rfl) ⟨Nat.le_of_ble_eq_true rfl, Nat.le_of_ble_eq_true rfl⟩ dX8_segment_42 rfl rfl (fun H locs hP hD hS => ?_)
      have hP := hP.sub (ws' := [(o, .inr (7, [.ref o_s, .ref o_saved, .int o_savedCount, .ref o_text, .int o_textLength, .int r5_1, .int o_pieceCount, .ref o_pieceCell, .int o_at, .int o_commands, .ref o_letter, .ref o_number, .ref o_before, .long o_hash])), (o_s, .inl (ca 0, 1634, .inl o_s_d))]) [1, 0] rfl
      have hD := hD.sub (ws' := [(o, .inr (7, [.ref o_s, .ref o_saved, .int o_savedCount, .ref o_text, .int o_textLength, .int r5_1, .int o_pieceCount, .ref o_pieceCell, .int o_at, .int o_commands, .ref o_letter, .ref o_number, .ref o_before, .long o_hash])), (o_s, .inl (ca 0, 1634, .inl o_s_d))]) [1, 0] (by decide) rfl
      cases h
      exact hret 45 ls _ _ _ hP hD hS rfl dX8_segment_45
    · have h := in_s h c4
      refine lv_aload_n hx hb dX8_segment_31 rfl (lv_at hl 0 rfl) ?_
      refine lv_iload_n hx hb dX8_segment_32 rfl (lv_at hl 1 rfl) ?_
      refine lv_iload_n hx hb dX8_segment_33 rfl (lv_at hl 2 rfl) ?_
      obtain ⟨r6, h_r6, h⟩ := bd_s h
      refine clVR (As := [.int x1, .int x2]) (rest := []) hx hb hml hown hts gX8_segment_X8_of rfl 2 kX8_of ⟨Nat.le_of_ble_eq_true rfl, Nat.le_of_ble_eq_true rfl⟩ (ctX8_of l D ca o o_s o_saved o_text o_pieceCell o_letter o_number o_before o_savedCount o_textLength (0 : Int32) o_pieceCount o_at o_commands o_hash o_s_d x1 x2 r6 h_r6) hP hK [0, 1] rfl 0 7 rfl rfl rfl rfl hl.1 rfl (Nat.le_of_ble_eq_true rfl) ⟨Nat.le_of_ble_eq_true rfl, Nat.le_of_ble_eq_true rfl⟩ dX8_segment_34 rfl ?_
      refine lv_goto (tgt := 45) hx hb dX8_segment_37 (by decide) ?_
      cases h
      exact hret 45 ls _ _ _ hP hD hS rfl dX8_segment_45
  · have h := ip_s h c2
    refine lv_aload_n hx hb dX8_segment_13 rfl (lv_at hl 0 rfl) ?_
    refine lv_iconst (v := (1 : Int32)) hx hb dX8_segment_14 (by decide) ?_
    obtain ⟨⟨r7_0, r7_1⟩, h_r7, h⟩ := bd_s h
    have h := up2_s h
    refine clVW (As := [.int (1 : Int32)]) (rest := []) (wr := [(o_s, .inl (ca 0, 1634, .inl o_s_d))]) (wn := [(o_s, .inl (ca 0, 1634, .inl o_s_d)), (o, .inr (7, [.ref o_s, .ref o_saved, .int o_savedCount, .ref o_text, .int o_textLength, .int r7_1, .int o_pieceCount, .ref o_pieceCell, .int o_at, .int o_commands, .ref o_letter, .ref o_number, .ref o_before, .long o_hash]))]) hx hb hml hown hts gX8_segment_X8_fails rfl 1 kX8_fails ⟨Nat.le_of_ble_eq_true rfl, Nat.le_of_ble_eq_true rfl⟩ (ctX8_fails l D ca o o_s o_saved o_text o_pieceCell o_letter o_number o_before o_savedCount o_textLength (0 : Int32) o_pieceCount o_at o_commands o_hash (1 : Int32) _ r7_0 r7_1 h_r7) hP hD hS hA hK [0] [1] rfl (by decide) rfl (by decide) (by decide) 0 7 rfl rfl rfl rfl hl.1 rfl (Nat.le_of_ble_eq_true rfl) ⟨Nat.le_of_ble_eq_true rfl, Nat.le_of_ble_eq_true rfl⟩ dX8_segment_15 rfl rfl (fun H locs hP hD hS => ?_)
    have hP := hP.sub (ws' := [(o, .inr (7, [.ref o_s, .ref o_saved, .int o_savedCount, .ref o_text, .int o_textLength, .int r7_1, .int o_pieceCount, .ref o_pieceCell, .int o_at, .int o_commands, .ref o_letter, .ref o_number, .ref o_before, .long o_hash])), (o_s, .inl (ca 0, 1634, .inl o_s_d))]) [1, 0] rfl
    have hD := hD.sub (ws' := [(o, .inr (7, [.ref o_s, .ref o_saved, .int o_savedCount, .ref o_text, .int o_textLength, .int r7_1, .int o_pieceCount, .ref o_pieceCell, .int o_at, .int o_commands, .ref o_letter, .ref o_number, .ref o_before, .long o_hash])), (o_s, .inl (ca 0, 1634, .inl o_s_d))]) [1, 0] (by decide) rfl
    cases h
    exact hret 18 ls _ _ _ hP hD hS rfl dX8_segment_18
theorem kX8_valueAt : yX8_valueAt.cls = RX8 ∧ yX8_valueAt.cls ≠ "java/lang/invoke/MethodHandle" ∧ yX8_valueAt.cls ≠ "java/lang/invoke/VarHandle" ∧ (parseMethodDescriptor yX8_valueAt.desc).map (fun d => d.parameters.length) = some 2 := by decide +kernel
set_option maxHeartbeats 4000000 in
set_option maxRecDepth 100000 in
theorem ctX8_valueAt (l : Launch) (D : va_G) (ca : Nat → ClassId) (o : Nat) (o_s : Nat) (o_saved : Nat) (o_text : Nat) (o_pieceCell : Nat) (o_letter : Nat) (o_number : Nat) (o_before : Nat) (o_savedCount : Int32) (o_textLength : Int32) (o_code : Int32) (o_pieceCount : Int32) (o_at : Int32) (o_commands : Int32) (o_hash : Int64) (o_s_d : Nat → Int32) (x1 : Int32) (x2 : Int32) (u0 : Int32) (hf : fX8_valueAt o_s_d x1 x2 = some u0) : MR l yX8_valueAt wsX8_valueAt 2 43 D ca [.ref o, .int x1, .int x2] [(o, .inr (7, [.ref o_s, .ref o_saved, .int o_savedCount, .ref o_text, .int o_textLength, .int o_code, .int o_pieceCount, .ref o_pieceCell, .int o_at, .int o_commands, .ref o_letter, .ref o_number, .ref o_before, .long o_hash])), (o_s, .inl (ca 0, 1634, .inl o_s_d))] (some (.int u0)) := by
  refine hdRi (plainFor_of_name (by decide +kernel)) rfl (Nat.le_of_ble_eq_true rfl) ?_
  intro p e s m args below meth c Q hx hb hml hown hts hP hK hret ls hl
  have hown : s.vm.findClass RX8 = some m.cls := hown
  have hl : lv_has ls 3 [(0, .ref o), (1, .int x1), (2, .int x2)] := hl
  have h := hf
  unfold fX8_valueAt at h
  clear hf
  refine lv_aload_n hx hb dX8_valueAt_0 rfl (lv_at hl 0 rfl) ?_
  refine lv_iload_n hx hb dX8_valueAt_1 rfl (lv_at hl 1 rfl) ?_
  refine lv_iconst (v := (0 : Int32)) hx hb dX8_valueAt_2 (by decide) ?_
  obtain ⟨r1, h_r1, h⟩ := bd_s h
  refine clVR (As := [.int x1, .int (0 : Int32)]) (rest := []) hx hb hml hown hts gX8_valueAt_X8_of rfl 2 kX8_of ⟨Nat.le_of_ble_eq_true rfl, Nat.le_of_ble_eq_true rfl⟩ (ctX8_of l D ca o o_s o_saved o_text o_pieceCell o_letter o_number o_before o_savedCount o_textLength o_code o_pieceCount o_at o_commands o_hash o_s_d x1 (0 : Int32) r1 h_r1) hP hK [0, 1] rfl 0 7 rfl rfl rfl rfl hl.1 rfl (Nat.le_of_ble_eq_true rfl) ⟨Nat.le_of_ble_eq_true rfl, Nat.le_of_ble_eq_true rfl⟩ dX8_valueAt_3 rfl ?_
  refine lv_iload_n hx hb dX8_valueAt_6 rfl (lv_at hl 2 rfl) ?_
  refine lv_imul hx hb dX8_valueAt_7 ?_
  refine lv_aload_n hx hb dX8_valueAt_8 rfl (lv_at hl 0 rfl) ?_
  refine lv_iload_n hx hb dX8_valueAt_9 rfl (lv_at hl 1 rfl) ?_
  refine lv_iconst (v := (1 : Int32)) hx hb dX8_valueAt_10 (by decide) ?_
  obtain ⟨r2, h_r2, h⟩ := bd_s h
  refine clVR (As := [.int x1, .int (1 : Int32)]) (rest := [.int (r1 * x2)]) hx hb hml hown hts gX8_valueAt_X8_of rfl 2 kX8_of ⟨Nat.le_of_ble_eq_true rfl, Nat.le_of_ble_eq_true rfl⟩ (ctX8_of l D ca o o_s o_saved o_text o_pieceCell o_letter o_number o_before o_savedCount o_textLength o_code o_pieceCount o_at o_commands o_hash o_s_d x1 (1 : Int32) r2 h_r2) hP hK [0, 1] rfl 0 7 rfl rfl rfl rfl hl.1 rfl (Nat.le_of_ble_eq_true rfl) ⟨Nat.le_of_ble_eq_true rfl, Nat.le_of_ble_eq_true rfl⟩ dX8_valueAt_11 rfl ?_
  refine lv_iadd hx hb dX8_valueAt_14 ?_
  cases h
  exact hret 15 ls _ rfl dX8_valueAt_15
theorem kX8_isThere : yX8_isThere.cls = RX8 ∧ yX8_isThere.cls ≠ "java/lang/invoke/MethodHandle" ∧ yX8_isThere.cls ≠ "java/lang/invoke/VarHandle" ∧ (parseMethodDescriptor yX8_isThere.desc).map (fun d => d.parameters.length) = some 3 := by decide +kernel
set_option maxHeartbeats 4000000 in
set_option maxRecDepth 100000 in
theorem ctX8_isThere (l : Launch) (D : va_G) (ca : Nat → ClassId) (o : Nat) (o_s : Nat) (o_saved : Nat) (o_text : Nat) (o_pieceCell : Nat) (o_letter : Nat) (o_number : Nat) (o_before : Nat) (o_savedCount : Int32) (o_textLength : Int32) (o_code : Int32) (o_pieceCount : Int32) (o_at : Int32) (o_commands : Int32) (o_hash : Int64) (o_s_d : Nat → Int32) (x1 : Int32) (x2 : Int32) (x3 : Int32) (u0 : Int32) (hf : fX8_isThere o_s_d x1 x2 x3 = some u0) : MR l yX8_isThere wsX8_isThere 3 65 D ca [.ref o, .int x1, .int x2, .int x3] [(o, .inr (7, [.ref o_s, .ref o_saved, .int o_savedCount, .ref o_text, .int o_textLength, .int o_code, .int o_pieceCount, .ref o_pieceCell, .int o_at, .int o_commands, .ref o_letter, .ref o_number, .ref o_before, .long o_hash])), (o_s, .inl (ca 0, 1634, .inl o_s_d))] (some (.int u0)) := by
  refine hdRz (plainFor_of_name (by decide +kernel)) rfl (Nat.le_of_ble_eq_true rfl) ?_
  intro p e s m args below meth c Q hx hb hml hown hts hP hK hret ls hl
  have hown : s.vm.findClass RX8 = some m.cls := hown
  have hl : lv_has ls 4 [(0, .ref o), (1, .int x1), (2, .int x2), (3, .int x3)] := hl
  have h := hf
  unfold fX8_isThere at h
  clear hf
  refine lv_aload_n hx hb dX8_isThere_0 rfl (lv_at hl 0 rfl) ?_
  refine lv_iload_n hx hb dX8_isThere_1 rfl (lv_at hl 1 rfl) ?_
  refine lv_iload_n hx hb dX8_isThere_2 rfl (lv_at hl 3 rfl) ?_
  obtain ⟨r1, h_r1, h⟩ := bd_s h
  refine clVR (As := [.int x1, .int x3]) (rest := []) hx hb hml hown hts gX8_isThere_X8_isLive rfl 2 kX8_isLive ⟨Nat.le_of_ble_eq_true rfl, Nat.le_of_ble_eq_true rfl⟩ (ctX8_isLive l D ca o o_s o_saved o_text o_pieceCell o_letter o_number o_before o_savedCount o_textLength o_code o_pieceCount o_at o_commands o_hash o_s_d x1 x3 r1 h_r1) hP hK [0, 1] rfl 0 7 rfl rfl rfl rfl hl.1 rfl (Nat.le_of_ble_eq_true rfl) ⟨Nat.le_of_ble_eq_true rfl, Nat.le_of_ble_eq_true rfl⟩ dX8_isThere_3 rfl ?_
  refine lv_if_eq (tgt := 35) hx hb dX8_isThere_6 (by decide) (fun c2 => ?_) (fun c2 => ?_)
  · have h := ip_s h c2
    refine lv_iconst (v := (0 : Int32)) hx hb dX8_isThere_35 (by decide) ?_
    obtain ⟨hz, h⟩ := zr_s h
    cases h
    exact hret 36 ls _ hz rfl dX8_isThere_36
  · have h := in_s h c2
    refine lv_iload_n hx hb dX8_isThere_9 rfl (lv_at hl 2 rfl) ?_
    refine lv_i2l (v := (x2).toInt64) hx hb dX8_isThere_10 rfl ?_
    refine lv_aload_n hx hb dX8_isThere_11 rfl (lv_at hl 0 rfl) ?_
    refine lv_iload_n hx hb dX8_isThere_12 rfl (lv_at hl 1 rfl) ?_
    refine lv_iconst (v := (2 : Int32)) hx hb dX8_isThere_13 (by decide) ?_
    obtain ⟨r3, h_r3, h⟩ := bd_s h
    refine clVR (As := [.int x1, .int (2 : Int32)]) (rest := [.long (x2).toInt64]) hx hb hml hown hts gX8_isThere_X8_of rfl 2 kX8_of ⟨Nat.le_of_ble_eq_true rfl, Nat.le_of_ble_eq_true rfl⟩ (ctX8_of l D ca o o_s o_saved o_text o_pieceCell o_letter o_number o_before o_savedCount o_textLength o_code o_pieceCount o_at o_commands o_hash o_s_d x1 (2 : Int32) r3 h_r3) hP hK [0, 1] rfl 0 7 rfl rfl rfl rfl hl.1 rfl (Nat.le_of_ble_eq_true rfl) ⟨Nat.le_of_ble_eq_true rfl, Nat.le_of_ble_eq_true rfl⟩ dX8_isThere_14 rfl ?_
    refine lv_i2l (v := (r3).toInt64) hx hb dX8_isThere_17 rfl ?_
    refine lv_aload_n hx hb dX8_isThere_18 rfl (lv_at hl 0 rfl) ?_
    refine lv_iload_n hx hb dX8_isThere_19 rfl (lv_at hl 1 rfl) ?_
    refine lv_iconst (v := (3 : Int32)) hx hb dX8_isThere_20 (by decide) ?_
    obtain ⟨r4, h_r4, h⟩ := bd_s h
    refine clVR (As := [.int x1, .int (3 : Int32)]) (rest := [.long (r3).toInt64, .long (x2).toInt64]) hx hb hml hown hts gX8_isThere_X8_of rfl 2 kX8_of ⟨Nat.le_of_ble_eq_true rfl, Nat.le_of_ble_eq_true rfl⟩ (ctX8_of l D ca o o_s o_saved o_text o_pieceCell o_letter o_number o_before o_savedCount o_textLength o_code o_pieceCount o_at o_commands o_hash o_s_d x1 (3 : Int32) r4 h_r4) hP hK [0, 1] rfl 0 7 rfl rfl rfl rfl hl.1 rfl (Nat.le_of_ble_eq_true rfl) ⟨Nat.le_of_ble_eq_true rfl, Nat.le_of_ble_eq_true rfl⟩ dX8_isThere_21 rfl ?_
    refine lv_i2l (v := (r4).toInt64) hx hb dX8_isThere_24 rfl ?_
    obtain ⟨r5, h_r5, h⟩ := bd_s h
    refine clSR (As := [.long (x2).toInt64, .long (r3).toInt64, .long (r4).toInt64]) (rest := []) hx hb hml hown hts gX8_isThere_X8_in rfl 3 kX8_in.2 ⟨Nat.le_of_ble_eq_true rfl, Nat.le_of_ble_eq_true rfl⟩ (ctX8_in l D ca   ((x2).toInt64) ((r3).toInt64) ((r4).toInt64) r5 h_r5) hP hK [] rfl rfl hl.1 rfl (Nat.le_of_ble_eq_true rfl) ⟨Nat.le_of_ble_eq_true rfl, Nat.le_of_ble_eq_true rfl⟩ dX8_isThere_25 rfl ?_
    refine lv_if_eq (tgt := 35) hx hb dX8_isThere_28 (by decide) (fun c6 => ?_) (fun c6 => ?_)
    · have h := ip_s h c6
      refine lv_iconst (v := (0 : Int32)) hx hb dX8_isThere_35 (by decide) ?_
      obtain ⟨hz, h⟩ := zr_s h
      cases h
      exact hret 36 ls _ hz rfl dX8_isThere_36
    · have h := in_s h c6
      refine lv_iconst (v := (1 : Int32)) hx hb dX8_isThere_31 (by decide) ?_
      refine lv_goto (tgt := 36) hx hb dX8_isThere_32 (by decide) ?_
      obtain ⟨hz, h⟩ := zr_s h
      cases h
      exact hret 36 ls _ hz rfl dX8_isThere_36
theorem kX8_isBefore : yX8_isBefore.cls = RX8 ∧ yX8_isBefore.cls ≠ "java/lang/invoke/MethodHandle" ∧ yX8_isBefore.cls ≠ "java/lang/invoke/VarHandle" ∧ (parseMethodDescriptor yX8_isBefore.desc).map (fun d => d.parameters.length) = some 3 := by decide +kernel
set_option maxHeartbeats 4000000 in
set_option maxRecDepth 100000 in
theorem ctX8_isBefore (l : Launch) (D : va_G) (ca : Nat → ClassId) (o : Nat) (o_s : Nat) (o_saved : Nat) (o_text : Nat) (o_pieceCell : Nat) (o_letter : Nat) (o_number : Nat) (o_before : Nat) (o_savedCount : Int32) (o_textLength : Int32) (o_code : Int32) (o_pieceCount : Int32) (o_at : Int32) (o_commands : Int32) (o_hash : Int64) (o_s_d : Nat → Int32) (x1 : Int32) (x2 : Int32) (x3 : Int32) (u0 : Int32) (hf : fX8_isBefore o_s_d x1 x2 x3 = some u0) : MR l yX8_isBefore wsX8_isBefore 3 65 D ca [.ref o, .int x1, .int x2, .int x3] [(o, .inr (7, [.ref o_s, .ref o_saved, .int o_savedCount, .ref o_text, .int o_textLength, .int o_code, .int o_pieceCount, .ref o_pieceCell, .int o_at, .int o_commands, .ref o_letter, .ref o_number, .ref o_before, .long o_hash])), (o_s, .inl (ca 0, 1634, .inl o_s_d))] (some (.int u0)) := by
  refine hdRz (plainFor_of_name (by decide +kernel)) rfl (Nat.le_of_ble_eq_true rfl) ?_
  intro p e s m args below meth c Q hx hb hml hown hts hP hK hret ls hl
  have hown : s.vm.findClass RX8 = some m.cls := hown
  have hl : lv_has ls 6 [(0, .ref o), (1, .int x1), (2, .int x2), (3, .int x3)] := hl
  have h := hf
  unfold fX8_isBefore at h
  clear hf
  refine lv_aload_n hx hb dX8_isBefore_0 rfl (lv_at hl 0 rfl) ?_
  refine lv_iload_n hx hb dX8_isBefore_1 rfl (lv_at hl 1 rfl) ?_
  refine lv_iload_n hx hb dX8_isBefore_2 rfl (lv_at hl 3 rfl) ?_
  obtain ⟨r1, h_r1, h⟩ := bd_s h
  refine clVR (As := [.int x1, .int x3]) (rest := []) hx hb hml hown hts gX8_isBefore_X8_valueAt rfl 2 kX8_valueAt ⟨Nat.le_of_ble_eq_true rfl, Nat.le_of_ble_eq_true rfl⟩ (ctX8_valueAt l D ca o o_s o_saved o_text o_pieceCell o_letter o_number o_before o_savedCount o_textLength o_code o_pieceCount o_at o_commands o_hash o_s_d x1 x3 r1 h_r1) hP hK [0, 1] rfl 0 7 rfl rfl rfl rfl hl.1 rfl (Nat.le_of_ble_eq_true rfl) ⟨Nat.le_of_ble_eq_true rfl, Nat.le_of_ble_eq_true rfl⟩ dX8_isBefore_3 rfl ?_
  refine lv_istore (lv' := [(4, .int r1), (0, .ref o), (1, .int x1), (2, .int x2), (3, .int x3)]) hx hb dX8_isBefore_6 hl (by decide) rfl (fun ls hl => ?_)
  refine lv_aload_n hx hb dX8_isBefore_8 rfl (lv_at hl 1 rfl) ?_
  refine lv_iload_n hx hb dX8_isBefore_9 rfl (lv_at hl 3 rfl) ?_
  refine lv_iload_n hx hb dX8_isBefore_10 rfl (lv_at hl 4 rfl) ?_
  obtain ⟨r2, h_r2, h⟩ := bd_s h
  refine clVR (As := [.int x2, .int x3]) (rest := []) hx hb hml hown hts gX8_isBefore_X8_valueAt rfl 2 kX8_valueAt ⟨Nat.le_of_ble_eq_true rfl, Nat.le_of_ble_eq_true rfl⟩ (ctX8_valueAt l D ca o o_s o_saved o_text o_pieceCell o_letter o_number o_before o_savedCount o_textLength o_code o_pieceCount o_at o_commands o_hash o_s_d x2 x3 r2 h_r2) hP hK [0, 1] rfl 0 7 rfl rfl rfl rfl hl.1 rfl (Nat.le_of_ble_eq_true rfl) ⟨Nat.le_of_ble_eq_true rfl, Nat.le_of_ble_eq_true rfl⟩ dX8_isBefore_11 rfl ?_
  refine lv_istore (lv' := [(5, .int r2), (4, .int r1), (0, .ref o), (1, .int x1), (2, .int x2), (3, .int x3)]) hx hb dX8_isBefore_14 hl (by decide) rfl (fun ls hl => ?_)
  refine lv_iload hx hb dX8_isBefore_16 (lv_at hl 1 rfl) ?_
  refine lv_iload hx hb dX8_isBefore_18 (lv_at hl 0 rfl) ?_
  refine lv_icmp_lt (tgt := 35) hx hb dX8_isBefore_20 (by decide) (fun c3 => ?_) (fun c3 => ?_)
  · have h := ip_s h c3
    refine lv_iconst (v := (1 : Int32)) hx hb dX8_isBefore_35 (by decide) ?_
    refine lv_goto (tgt := 40) hx hb dX8_isBefore_36 (by decide) ?_
    obtain ⟨hz, h⟩ := zr_s h
    cases h
    exact hret 40 ls _ hz rfl dX8_isBefore_40
  · have h := in_s h c3
    refine lv_iload hx hb dX8_isBefore_23 (lv_at hl 1 rfl) ?_
    refine lv_iload hx hb dX8_isBefore_25 (lv_at hl 0 rfl) ?_
    refine lv_icmp_ne (tgt := 39) hx hb dX8_isBefore_27 (by decide) (fun c4 => ?_) (fun c4 => ?_)
    · have h := in_s h c4
      refine lv_iconst (v := (0 : Int32)) hx hb dX8_isBefore_39 (by decide) ?_
      obtain ⟨hz, h⟩ := zr_s h
      cases h
      exact hret 40 ls _ hz rfl dX8_isBefore_40
    · have h := ip_s h c4
      refine lv_iload_n hx hb dX8_isBefore_30 rfl (lv_at hl 3 rfl) ?_
      refine lv_iload_n hx hb dX8_isBefore_31 rfl (lv_at hl 4 rfl) ?_
      refine lv_icmp_ge (tgt := 39) hx hb dX8_isBefore_32 (by decide) (fun c5 => ?_) (fun c5 => ?_)
      · have h := ip_s h c5
        refine lv_iconst (v := (0 : Int32)) hx hb dX8_isBefore_39 (by decide) ?_
        obtain ⟨hz, h⟩ := zr_s h
        cases h
        exact hret 40 ls _ hz rfl dX8_isBefore_40
      · have h := in_s h c5
        refine lv_iconst (v := (1 : Int32)) hx hb dX8_isBefore_35 (by decide) ?_
        refine lv_goto (tgt := 40) hx hb dX8_isBefore_36 (by decide) ?_
        obtain ⟨hz, h⟩ := zr_s h
        cases h
        exact hret 40 ls _ hz rfl dX8_isBefore_40
theorem mwX8_firstAt_0 : Cond.fieldLink RX8 7 "SegmentTimesModel" "s" "[I" ∈ wsX8_firstAt := List.mem_of_getElem? (i := 1) rfl
theorem inX8_firstAt_X8 : ∀ w ∈ u_ws RX8 TX8 14, w ∈ wsX8_firstAt := fun w h => List.mem_cons_of_mem _ (List.mem_append_right _ (h))
theorem kX8_firstAt : yX8_firstAt.cls = RX8 ∧ yX8_firstAt.cls ≠ "java/lang/invoke/MethodHandle" ∧ yX8_firstAt.cls ≠ "java/lang/invoke/VarHandle" ∧ (parseMethodDescriptor yX8_firstAt.desc).map (fun d => d.parameters.length) = some 2 := by decide +kernel
set_option maxHeartbeats 4000000 in
set_option maxRecDepth 100000 in
theorem ctX8_firstAt (l : Launch) (D : va_G) (ca : Nat → ClassId) (o : Nat) (o_s : Nat) (o_saved : Nat) (o_text : Nat) (o_pieceCell : Nat) (o_letter : Nat) (o_number : Nat) (o_before : Nat) (o_savedCount : Int32) (o_textLength : Int32) (o_code : Int32) (o_pieceCount : Int32) (o_at : Int32) (o_commands : Int32) (o_hash : Int64) (o_s_d : Nat → Int32) (x1 : Int32) (x2 : Int32) (u0 : Int32) (hf : fX8_firstAt o_s_d x1 x2 = some u0) : MR l yX8_firstAt wsX8_firstAt 4 90 D ca [.ref o, .int x1, .int x2] [(o, .inr (7, [.ref o_s, .ref o_saved, .int o_savedCount, .ref o_text, .int o_textLength, .int o_code, .int o_pieceCount, .ref o_pieceCell, .int o_at, .int o_commands, .ref o_letter, .ref o_number, .ref o_before, .long o_hash])), (o_s, .inl (ca 0, 1634, .inl o_s_d))] (some (.int u0)) := by
  refine hdRi (plainFor_of_name (by decide +kernel)) rfl (Nat.le_of_ble_eq_true rfl) ?_
  intro p e s m args below meth c Q hx hb hml hown hts hP hK hret ls hl
  have hown : s.vm.findClass RX8 = some m.cls := hown
  have hl : lv_has ls 5 [(0, .ref o), (1, .int x1), (2, .int x2)] := hl
  have h := hf
  unfold fX8_firstAt at h
  clear hf
  have L5 : ∀  (n : Nat) (l3 : Int32) (l4 : Int32), lp (fun q => bX8_firstAt_5 o_s_d x1 x2  q.1 q.2) n (l3, l4) = some u0 → ∀ ls, lv_has ls 5 [(0, .ref o), (1, .int x1), (2, .int x2), (3, .int l3), (4, .int l4)] → W p l e ({ frames := 4, cells := 0, slots := 0, locals := 90 }) s m args below meth c s.heap [] 0 0 Q (F0 m 5 ls []) := by
    intro  n
    induction n with
    | zero => intro l3 l4 h; exact (lp_0 h).elim
    | succ n ih5 =>
      intro l3 l4 h ls hl
      obtain ⟨q5, h, hq5⟩ := lp_s h
      have h : bX8_firstAt_5 o_s_d x1 x2  l3 l4 = some q5 := h
      unfold bX8_firstAt_5 at h
      refine lv_iload hx hb dX8_firstAt_5 (lv_at hl 4 rfl) ?_
      refine lv_aload_n hx hb dX8_firstAt_7 rfl (lv_at hl 0 rfl) ?_
      refine gtF (ci := 7) (v := .ref o_s) (C := RX8) (T := TX8) (N := 14) hx hb hts inX8_firstAt_X8 hown hK hP 0 rfl rfl 0 (by decide) mwX8_firstAt_0 rfl rfl dX8_firstAt_8 ?_
      refine lv_iconst (v := (0 : Int32)) hx hb dX8_firstAt_11 (by decide) ?_
      obtain ⟨hin, y1, e_y1, h⟩ := rd_s h
      refine ldI hx hb hK hP 1 rfl hin dX8_firstAt_12 ?_
      refine top_i e_y1 ?_
      refine lv_icmp_ge (tgt := 56) hx hb dX8_firstAt_13 (by decide) (fun c2 => ?_) (fun c2 => ?_)
      · have h := ip_s h c2
        have h := xt_s hq5 h
        refine lv_iload_n hx hb dX8_firstAt_56 rfl (lv_at hl 3 rfl) ?_
        cases h
        exact hret 57 ls _ rfl dX8_firstAt_57
      · have h := in_s h c2
        refine lv_aload_n hx hb dX8_firstAt_16 rfl (lv_at hl 0 rfl) ?_
        refine lv_iload hx hb dX8_firstAt_17 (lv_at hl 4 rfl) ?_
        refine lv_iload_n hx hb dX8_firstAt_19 rfl (lv_at hl 1 rfl) ?_
        refine lv_iload_n hx hb dX8_firstAt_20 rfl (lv_at hl 2 rfl) ?_
        obtain ⟨r3, h_r3, h⟩ := bd_s h
        refine clVR (As := [.int l4, .int x1, .int x2]) (rest := []) hx hb hml hown hts gX8_firstAt_X8_isThere rfl 3 kX8_isThere ⟨Nat.le_of_ble_eq_true rfl, Nat.le_of_ble_eq_true rfl⟩ (ctX8_isThere l D ca o o_s o_saved o_text o_pieceCell o_letter o_number o_before o_savedCount o_textLength o_code o_pieceCount o_at o_commands o_hash o_s_d l4 x1 x2 r3 h_r3) hP hK [0, 1] rfl 0 7 rfl rfl rfl rfl hl.1 rfl (Nat.le_of_ble_eq_true rfl) ⟨Nat.le_of_ble_eq_true rfl, Nat.le_of_ble_eq_true rfl⟩ dX8_firstAt_21 rfl ?_
        refine lv_if_eq (tgt := 48) hx hb dX8_firstAt_24 (by decide) (fun c4 => ?_) (fun c4 => ?_)
        · have h := ip_s h c4
          refine lv_iload_n hx hb dX8_firstAt_48 rfl (lv_at hl 3 rfl) ?_
          refine lv_istore_n (lv' := [(3, .int l3), (0, .ref o), (1, .int x1), (2, .int x2), (4, .int l4)]) hx hb dX8_firstAt_49 rfl hl (by decide) rfl (fun ls hl => ?_)
          obtain ⟨y5, e_y5, h⟩ := nm_s h
          refine lv_iinc (v := y5) (lv' := [(4, .int y5), (3, .int l3), (0, .ref o), (1, .int x1), (2, .int x2)]) hx hb dX8_firstAt_50 hl (k := 4) rfl (by rw [e_y5]; rfl) (by decide) rfl (fun ls hl => ?_)
          refine lv_goto (tgt := 5) hx hb dX8_firstAt_53 (by decide) ?_
          exact ih5 l3 y5 (lp_l hq5 h) ls (lv_sub hl [2, 3, 4, 1, 0] rfl)
        · have h := in_s h c4
          refine lv_iload_n hx hb dX8_firstAt_27 rfl (lv_at hl 3 rfl) ?_
          refine lv_iconst (v := (-1 : Int32)) hx hb dX8_firstAt_28 (by decide) ?_
          refine lv_icmp_eq (tgt := 43) hx hb dX8_firstAt_29 (by decide) (fun c6 => ?_) (fun c6 => ?_)
          · have h := ip_s h c6
            refine lv_iload hx hb dX8_firstAt_43 (lv_at hl 4 rfl) ?_
            refine lv_goto (tgt := 49) hx hb dX8_firstAt_45 (by decide) ?_
            refine lv_istore_n (lv' := [(3, .int l4), (0, .ref o), (1, .int x1), (2, .int x2), (4, .int l4)]) hx hb dX8_firstAt_49 rfl hl (by decide) rfl (fun ls hl => ?_)
            obtain ⟨y7, e_y7, h⟩ := nm_s h
            refine lv_iinc (v := y7) (lv' := [(4, .int y7), (3, .int l4), (0, .ref o), (1, .int x1), (2, .int x2)]) hx hb dX8_firstAt_50 hl (k := 4) rfl (by rw [e_y7]; rfl) (by decide) rfl (fun ls hl => ?_)
            refine lv_goto (tgt := 5) hx hb dX8_firstAt_53 (by decide) ?_
            exact ih5 l4 y7 (lp_l hq5 h) ls (lv_sub hl [2, 3, 4, 1, 0] rfl)
          · have h := in_s h c6
            refine lv_aload_n hx hb dX8_firstAt_32 rfl (lv_at hl 0 rfl) ?_
            refine lv_iload hx hb dX8_firstAt_33 (lv_at hl 4 rfl) ?_
            refine lv_iload_n hx hb dX8_firstAt_35 rfl (lv_at hl 3 rfl) ?_
            refine lv_iload_n hx hb dX8_firstAt_36 rfl (lv_at hl 1 rfl) ?_
            obtain ⟨r8, h_r8, h⟩ := bd_s h
            refine clVR (As := [.int l4, .int l3, .int x1]) (rest := []) hx hb hml hown hts gX8_firstAt_X8_isBefore rfl 3 kX8_isBefore ⟨Nat.le_of_ble_eq_true rfl, Nat.le_of_ble_eq_true rfl⟩ (ctX8_isBefore l D ca o o_s o_saved o_text o_pieceCell o_letter o_number o_before o_savedCount o_textLength o_code o_pieceCount o_at o_commands o_hash o_s_d l4 l3 x1 r8 h_r8) hP hK [0, 1] rfl 0 7 rfl rfl rfl rfl hl.1 rfl (Nat.le_of_ble_eq_true rfl) ⟨Nat.le_of_ble_eq_true rfl, Nat.le_of_ble_eq_true rfl⟩ dX8_firstAt_37 rfl ?_
            refine lv_if_eq (tgt := 48) hx hb dX8_firstAt_40 (by decide) (fun c9 => ?_) (fun c9 => ?_)
            · have h := ip_s h c9
              refine lv_iload_n hx hb dX8_firstAt_48 rfl (lv_at hl 3 rfl) ?_
              refine lv_istore_n (lv' := [(3, .int l3), (0, .ref o), (1, .int x1), (2, .int x2), (4, .int l4)]) hx hb dX8_firstAt_49 rfl hl (by decide) rfl (fun ls hl => ?_)
              obtain ⟨y10, e_y10, h⟩ := nm_s h
              refine lv_iinc (v := y10) (lv' := [(4, .int y10), (3, .int l3), (0, .ref o), (1, .int x1), (2, .int x2)]) hx hb dX8_firstAt_50 hl (k := 4) rfl (by rw [e_y10]; rfl) (by decide) rfl (fun ls hl => ?_)
              refine lv_goto (tgt := 5) hx hb dX8_firstAt_53 (by decide) ?_
              exact ih5 l3 y10 (lp_l hq5 h) ls (lv_sub hl [2, 3, 4, 1, 0] rfl)
            · have h := in_s h c9
              refine lv_iload hx hb dX8_firstAt_43 (lv_at hl 4 rfl) ?_
              refine lv_goto (tgt := 49) hx hb dX8_firstAt_45 (by decide) ?_
              refine lv_istore_n (lv' := [(3, .int l4), (0, .ref o), (1, .int x1), (2, .int x2), (4, .int l4)]) hx hb dX8_firstAt_49 rfl hl (by decide) rfl (fun ls hl => ?_)
              obtain ⟨y11, e_y11, h⟩ := nm_s h
              refine lv_iinc (v := y11) (lv' := [(4, .int y11), (3, .int l4), (0, .ref o), (1, .int x1), (2, .int x2)]) hx hb dX8_firstAt_50 hl (k := 4) rfl (by rw [e_y11]; rfl) (by decide) rfl (fun ls hl => ?_)
              refine lv_goto (tgt := 5) hx hb dX8_firstAt_53 (by decide) ?_
              exact ih5 l4 y11 (lp_l hq5 h) ls (lv_sub hl [2, 3, 4, 1, 0] rfl)
  refine lv_iconst (v := (-1 : Int32)) hx hb dX8_firstAt_0 (by decide) ?_
  refine lv_istore_n (lv' := [(3, .int (-1 : Int32)), (0, .ref o), (1, .int x1), (2, .int x2)]) hx hb dX8_firstAt_1 rfl hl (by decide) rfl (fun ls hl => ?_)
  refine lv_iconst (v := (0 : Int32)) hx hb dX8_firstAt_2 (by decide) ?_
  refine lv_istore (lv' := [(4, .int (0 : Int32)), (3, .int (-1 : Int32)), (0, .ref o), (1, .int x1), (2, .int x2)]) hx hb dX8_firstAt_3 hl (by decide) rfl (fun ls hl => ?_)
  exact L5  fuel (-1 : Int32) (0 : Int32) h ls (lv_sub hl [2, 3, 4, 1, 0] rfl)
theorem kX8_isPlace : yX8_isPlace.cls = yX8_isPlace.cls ∧ yX8_isPlace.cls ≠ "java/lang/invoke/MethodHandle" ∧ yX8_isPlace.cls ≠ "java/lang/invoke/VarHandle" ∧ (parseMethodDescriptor yX8_isPlace.desc).map (fun d => d.parameters.length) = some 2 := by decide +kernel
set_option maxHeartbeats 4000000 in
set_option maxRecDepth 100000 in
theorem ctX8_isPlace (l : Launch) (D : va_G) (ca : Nat → ClassId)   (x0 : Int32) (x1 : Int32) (u0 : Int32) (hf : fX8_isPlace x0 x1 = some u0) : MR l yX8_isPlace wsX8_isPlace 2 45 D ca [.int x0, .int x1] [] (some (.int u0)) := by
  refine hdRz (plainFor_of_name (by decide +kernel)) rfl (Nat.le_of_ble_eq_true rfl) ?_
  intro p e s m args below meth c Q hx hb hml hown hts hP hK hret ls hl
  have hown : s.vm.findClass RX8 = some m.cls := hown
  have hl : lv_has ls 2 [(0, .int x0), (1, .int x1)] := hl
  have h := hf
  unfold fX8_isPlace at h
  clear hf
  refine lv_iload_n hx hb dX8_isPlace_0 rfl (lv_at hl 0 rfl) ?_
  obtain ⟨r1, h_r1, h⟩ := bd_s h
  refine clSR (As := [.int x0]) (rest := []) hx hb hml hown hts gX8_isPlace_X8_isPosition rfl 1 kX8_isPosition.2 ⟨Nat.le_of_ble_eq_true rfl, Nat.le_of_ble_eq_true rfl⟩ (ctX8_isPosition l D ca   x0 r1 h_r1) hP hK [] rfl rfl hl.1 rfl (Nat.le_of_ble_eq_true rfl) ⟨Nat.le_of_ble_eq_true rfl, Nat.le_of_ble_eq_true rfl⟩ dX8_isPlace_1 rfl ?_
  refine lv_if_eq (tgt := 18) hx hb dX8_isPlace_4 (by decide) (fun c2 => ?_) (fun c2 => ?_)
  · have h := ip_s h c2
    refine lv_iconst (v := (0 : Int32)) hx hb dX8_isPlace_18 (by decide) ?_
    obtain ⟨hz, h⟩ := zr_s h
    cases h
    exact hret 19 ls _ hz rfl dX8_isPlace_19
  · have h := in_s h c2
    refine lv_iload_n hx hb dX8_isPlace_7 rfl (lv_at hl 1 rfl) ?_
    obtain ⟨r3, h_r3, h⟩ := bd_s h
    refine clSR (As := [.int x1]) (rest := []) hx hb hml hown hts gX8_isPlace_X8_isTick rfl 1 kX8_isTick.2 ⟨Nat.le_of_ble_eq_true rfl, Nat.le_of_ble_eq_true rfl⟩ (ctX8_isTick l D ca   x1 r3 h_r3) hP hK [] rfl rfl hl.1 rfl (Nat.le_of_ble_eq_true rfl) ⟨Nat.le_of_ble_eq_true rfl, Nat.le_of_ble_eq_true rfl⟩ dX8_isPlace_8 rfl ?_
    refine lv_if_eq (tgt := 18) hx hb dX8_isPlace_11 (by decide) (fun c4 => ?_) (fun c4 => ?_)
    · have h := ip_s h c4
      refine lv_iconst (v := (0 : Int32)) hx hb dX8_isPlace_18 (by decide) ?_
      obtain ⟨hz, h⟩ := zr_s h
      cases h
      exact hret 19 ls _ hz rfl dX8_isPlace_19
    · have h := in_s h c4
      refine lv_iconst (v := (1 : Int32)) hx hb dX8_isPlace_14 (by decide) ?_
      refine lv_goto (tgt := 19) hx hb dX8_isPlace_15 (by decide) ?_
      obtain ⟨hz, h⟩ := zr_s h
      cases h
      exact hret 19 ls _ hz rfl dX8_isPlace_19
theorem mwX8_minimum_0 : Cond.fieldLink RX8 31 "SegmentTimesModel" "code" "I" ∈ wsX8_minimum := List.mem_of_getElem? (i := 1) rfl
theorem mwX8_minimum_1 : Cond.constantLong RX8 133 (9223372036854775807) ∈ wsX8_minimum := List.mem_of_getElem? (i := 2) rfl
theorem inX8_minimum_X8 : ∀ w ∈ u_ws RX8 TX8 14, w ∈ wsX8_minimum := fun w h => List.mem_cons_of_mem _ (List.mem_append_right _ (h))
theorem kX8_minimum : yX8_minimum.cls = RX8 ∧ yX8_minimum.cls ≠ "java/lang/invoke/MethodHandle" ∧ yX8_minimum.cls ≠ "java/lang/invoke/VarHandle" ∧ (parseMethodDescriptor yX8_minimum.desc).map (fun d => d.parameters.length) = some 2 := by decide +kernel
set_option maxHeartbeats 4000000 in
set_option maxRecDepth 100000 in
theorem ctX8_minimum (l : Launch) (D : va_G) (ca : Nat → ClassId) (o : Nat) (o_s : Nat) (o_saved : Nat) (o_text : Nat) (o_pieceCell : Nat) (o_letter : Nat) (o_number : Nat) (o_before : Nat) (o_savedCount : Int32) (o_textLength : Int32) (o_code : Int32) (o_pieceCount : Int32) (o_at : Int32) (o_commands : Int32) (o_hash : Int64) (o_s_d : Nat → Int32) (x1 : Int32) (x2 : Int32) (sz : Nat) (u0 : Int64) (u1 : Int32) (hf : fX8_minimum o_code o_s_d x1 x2 = some (u0, u1)) : MW l yX8_minimum wsX8_minimum 5 114 D ca [.ref o, .int x1, .int x2] sz [(o, .inr (7, [.ref o_s, .ref o_saved, .int o_savedCount, .ref o_text, .int o_textLength, .int o_code, .int o_pieceCount, .ref o_pieceCell, .int o_at, .int o_commands, .ref o_letter, .ref o_number, .ref o_before, .long o_hash])), (o_s, .inl (ca 0, 1634, .inl o_s_d))] (some (.long u0)) [(o, .inr (7, [.ref o_s, .ref o_saved, .int o_savedCount, .ref o_text, .int o_textLength, .int u1, .int o_pieceCount, .ref o_pieceCell, .int o_at, .int o_commands, .ref o_letter, .ref o_number, .ref o_before, .long o_hash])), (o_s, .inl (ca 0, 1634, .inl o_s_d))] := by
  refine hdWl (by decide +kernel) rfl (Nat.le_of_ble_eq_true rfl) ?_
  intro p e s m args below meth c A Q hx hb hml hown hts hP hD hK hA hS hret ls hl
  have hown : s.vm.findClass RX8 = some m.cls := hown
  have hl : lv_has ls 4 [(0, .ref o), (1, .int x1), (2, .int x2)] := hl
  have h := hf
  unfold fX8_minimum at h
  clear hf
  refine lv_aload_n hx hb dX8_minimum_0 rfl (lv_at hl 0 rfl) ?_
  refine lv_iconst (v := (0 : Int32)) hx hb dX8_minimum_1 (by decide) ?_
  refine ptI (ci := 7) (v := .int (0 : Int32)) (ty := .int) (C := RX8) (T := TX8) (N := 14) (wn := [(o, .inr (7, [.ref o_s, .ref o_saved, .int o_savedCount, .ref o_text, .int o_textLength, .int (0 : Int32), .int o_pieceCount, .ref o_pieceCell, .int o_at, .int o_commands, .ref o_letter, .ref o_number, .ref o_before, .long o_hash])), (o_s, .inl (ca 0, 1634, .inl o_s_d))]) hx hb hts inX8_minimum_X8 tyX8 tyX8_ok nmX8 hown hK hP hD hS 0 rfl rfl 5 (by decide) mwX8_minimum_0 rfl rfl (by decide +kernel) rfl rfl (Nat.le_of_ble_eq_true rfl) rfl dX8_minimum_2 (fun H locs hP hD hS => ?_)
  refine lv_iload_n hx hb dX8_minimum_5 rfl (lv_at hl 1 rfl) ?_
  refine lv_iload_n hx hb dX8_minimum_6 rfl (lv_at hl 2 rfl) ?_
  obtain ⟨r1, h_r1, h⟩ := bd_s h
  refine clSR (As := [.int x1, .int x2]) (rest := []) hx hb hml hown hts gX8_minimum_X8_isPlace rfl 2 kX8_isPlace.2 ⟨Nat.le_of_ble_eq_true rfl, Nat.le_of_ble_eq_true rfl⟩ (ctX8_isPlace l D ca   x1 x2 r1 h_r1) hP hK [] rfl rfl hl.1 rfl (Nat.le_of_ble_eq_true rfl) ⟨Nat.le_of_ble_eq_true rfl, Nat.le_of_ble_eq_true rfl⟩ dX8_minimum_7 rfl ?_
  refine lv_if_ne (tgt := 20) hx hb dX8_minimum_10 (by decide) (fun c2 => ?_) (fun c2 => ?_)
  · have h := in_s h c2
    refine lv_aload_n hx hb dX8_minimum_20 rfl (lv_at hl 0 rfl) ?_
    refine lv_iload_n hx hb dX8_minimum_21 rfl (lv_at hl 1 rfl) ?_
    refine lv_iload_n hx hb dX8_minimum_22 rfl (lv_at hl 2 rfl) ?_
    obtain ⟨r3, h_r3, h⟩ := bd_s h
    refine clVR (As := [.int x1, .int x2]) (rest := []) hx hb hml hown hts gX8_minimum_X8_firstAt rfl 2 kX8_firstAt ⟨Nat.le_of_ble_eq_true rfl, Nat.le_of_ble_eq_true rfl⟩ (ctX8_firstAt l D ca o o_s o_saved o_text o_pieceCell o_letter o_number o_before o_savedCount o_textLength (0 : Int32) o_pieceCount o_at o_commands o_hash o_s_d x1 x2 r3 h_r3) hP hK [0, 1] rfl 0 7 rfl rfl rfl rfl hl.1 rfl (Nat.le_of_ble_eq_true rfl) ⟨Nat.le_of_ble_eq_true rfl, Nat.le_of_ble_eq_true rfl⟩ dX8_minimum_23 rfl ?_
    refine lv_istore_n (lv' := [(3, .int r3), (0, .ref o), (1, .int x1), (2, .int x2)]) hx hb dX8_minimum_26 rfl hl (by decide) rfl (fun ls hl => ?_)
    refine lv_iload_n hx hb dX8_minimum_27 rfl (lv_at hl 0 rfl) ?_
    refine lv_iconst (v := (-1 : Int32)) hx hb dX8_minimum_28 (by decide) ?_
    refine lv_icmp_ne (tgt := 38) hx hb dX8_minimum_29 (by decide) (fun c4 => ?_) (fun c4 => ?_)
    · have h := in_s h c4
      refine lv_aload_n hx hb dX8_minimum_38 rfl (lv_at hl 1 rfl) ?_
      refine lv_iload_n hx hb dX8_minimum_39 rfl (lv_at hl 0 rfl) ?_
      refine lv_iload_n hx hb dX8_minimum_40 rfl (lv_at hl 2 rfl) ?_
      obtain ⟨r5, h_r5, h⟩ := bd_s h
      refine clVR (As := [.int r3, .int x1]) (rest := []) hx hb hml hown hts gX8_minimum_X8_valueAt rfl 2 kX8_valueAt ⟨Nat.le_of_ble_eq_true rfl, Nat.le_of_ble_eq_true rfl⟩ (ctX8_valueAt l D ca o o_s o_saved o_text o_pieceCell o_letter o_number o_before o_savedCount o_textLength (0 : Int32) o_pieceCount o_at o_commands o_hash o_s_d r3 x1 r5 h_r5) hP hK [0, 1] rfl 0 7 rfl rfl rfl rfl hl.1 rfl (Nat.le_of_ble_eq_true rfl) ⟨Nat.le_of_ble_eq_true rfl, Nat.le_of_ble_eq_true rfl⟩ dX8_minimum_41 rfl ?_
      refine lv_i2l (v := (r5).toInt64) hx hb dX8_minimum_44 rfl ?_
      cases h
      exact hret 45 ls _ _ _ hP hD hS rfl dX8_minimum_45
    · have h := ip_s h c4
      refine lv_ldc2 (v := (9223372036854775807 : Int64)) hx hb hown (hts _ mwX8_minimum_1) dX8_minimum_32 ?_
      refine lv_goto (tgt := 45) hx hb dX8_minimum_35 (by decide) ?_
      cases h
      exact hret 45 ls _ _ _ hP hD hS rfl dX8_minimum_45
  · have h := ip_s h c2
    refine lv_aload_n hx hb dX8_minimum_13 rfl (lv_at hl 0 rfl) ?_
    refine lv_iconst (v := (1 : Int32)) hx hb dX8_minimum_14 (by decide) ?_
    obtain ⟨⟨r6_0, r6_1⟩, h_r6, h⟩ := bd_s h
    have h := up2_s h
    refine clVW (As := [.int (1 : Int32)]) (rest := []) (wr := [(o_s, .inl (ca 0, 1634, .inl o_s_d))]) (wn := [(o_s, .inl (ca 0, 1634, .inl o_s_d)), (o, .inr (7, [.ref o_s, .ref o_saved, .int o_savedCount, .ref o_text, .int o_textLength, .int r6_1, .int o_pieceCount, .ref o_pieceCell, .int o_at, .int o_commands, .ref o_letter, .ref o_number, .ref o_before, .long o_hash]))]) hx hb hml hown hts gX8_minimum_X8_fails rfl 1 kX8_fails ⟨Nat.le_of_ble_eq_true rfl, Nat.le_of_ble_eq_true rfl⟩ (ctX8_fails l D ca o o_s o_saved o_text o_pieceCell o_letter o_number o_before o_savedCount o_textLength (0 : Int32) o_pieceCount o_at o_commands o_hash (1 : Int32) _ r6_0 r6_1 h_r6) hP hD hS hA hK [0] [1] rfl (by decide) rfl (by decide) (by decide) 0 7 rfl rfl rfl rfl hl.1 rfl (Nat.le_of_ble_eq_true rfl) ⟨Nat.le_of_ble_eq_true rfl, Nat.le_of_ble_eq_true rfl⟩ dX8_minimum_15 rfl rfl (fun H locs hP hD hS => ?_)
    refine lv_i2l (v := (r6_0).toInt64) hx hb dX8_minimum_18 rfl ?_
    have hP := hP.sub (ws' := [(o, .inr (7, [.ref o_s, .ref o_saved, .int o_savedCount, .ref o_text, .int o_textLength, .int r6_1, .int o_pieceCount, .ref o_pieceCell, .int o_at, .int o_commands, .ref o_letter, .ref o_number, .ref o_before, .long o_hash])), (o_s, .inl (ca 0, 1634, .inl o_s_d))]) [1, 0] rfl
    have hD := hD.sub (ws' := [(o, .inr (7, [.ref o_s, .ref o_saved, .int o_savedCount, .ref o_text, .int o_textLength, .int r6_1, .int o_pieceCount, .ref o_pieceCell, .int o_at, .int o_commands, .ref o_letter, .ref o_number, .ref o_before, .long o_hash])), (o_s, .inl (ca 0, 1634, .inl o_s_d))]) [1, 0] (by decide) rfl
    cases h
    exact hret 19 ls _ _ _ hP hD hS rfl dX8_minimum_19
theorem mwX8_placeOf_0 : Cond.fieldLink RX8 7 "SegmentTimesModel" "s" "[I" ∈ wsX8_placeOf := List.mem_of_getElem? (i := 1) rfl
theorem inX8_placeOf_X8 : ∀ w ∈ u_ws RX8 TX8 14, w ∈ wsX8_placeOf := fun w h => List.mem_cons_of_mem _ (List.mem_append_right _ (h))
theorem kX8_placeOf : yX8_placeOf.cls = RX8 ∧ yX8_placeOf.cls ≠ "java/lang/invoke/MethodHandle" ∧ yX8_placeOf.cls ≠ "java/lang/invoke/VarHandle" ∧ (parseMethodDescriptor yX8_placeOf.desc).map (fun d => d.parameters.length) = some 3 := by decide +kernel
set_option maxHeartbeats 4000000 in
set_option maxRecDepth 100000 in
theorem ctX8_placeOf (l : Launch) (D : va_G) (ca : Nat → ClassId) (o : Nat) (o_s : Nat) (o_saved : Nat) (o_text : Nat) (o_pieceCell : Nat) (o_letter : Nat) (o_number : Nat) (o_before : Nat) (o_savedCount : Int32) (o_textLength : Int32) (o_code : Int32) (o_pieceCount : Int32) (o_at : Int32) (o_commands : Int32) (o_hash : Int64) (o_s_d : Nat → Int32) (x1 : Int32) (x2 : Int32) (x3 : Int32) (u0 : Int32) (hf : fX8_placeOf o_s_d x1 x2 x3 = some u0) : MR l yX8_placeOf wsX8_placeOf 4 90 D ca [.ref o, .int x1, .int x2, .int x3] [(o, .inr (7, [.ref o_s, .ref o_saved, .int o_savedCount, .ref o_text, .int o_textLength, .int o_code, .int o_pieceCount, .ref o_pieceCell, .int o_at, .int o_commands, .ref o_letter, .ref o_number, .ref o_before, .long o_hash])), (o_s, .inl (ca 0, 1634, .inl o_s_d))] (some (.int u0)) := by
  refine hdRi (plainFor_of_name (by decide +kernel)) rfl (Nat.le_of_ble_eq_true rfl) ?_
  intro p e s m args below meth c Q hx hb hml hown hts hP hK hret ls hl
  have hown : s.vm.findClass RX8 = some m.cls := hown
  have hl : lv_has ls 6 [(0, .ref o), (1, .int x1), (2, .int x2), (3, .int x3)] := hl
  have h := hf
  unfold fX8_placeOf at h
  clear hf
  have L6 : ∀  (n : Nat) (l4 : Int32) (l5 : Int32), lp (fun q => bX8_placeOf_6 o_s_d x1 x2 x3  q.1 q.2) n (l4, l5) = some u0 → ∀ ls, lv_has ls 6 [(0, .ref o), (1, .int x1), (2, .int x2), (3, .int x3), (4, .int l4), (5, .int l5)] → W p l e ({ frames := 4, cells := 0, slots := 0, locals := 90 }) s m args below meth c s.heap [] 0 0 Q (F0 m 6 ls []) := by
    intro  n
    induction n with
    | zero => intro l4 l5 h; exact (lp_0 h).elim
    | succ n ih6 =>
      intro l4 l5 h ls hl
      obtain ⟨q6, h, hq6⟩ := lp_s h
      have h : bX8_placeOf_6 o_s_d x1 x2 x3  l4 l5 = some q6 := h
      unfold bX8_placeOf_6 at h
      have J45 : ∀ (l5 : Int32) (s0 : Int32), jX8_placeOf_45  l5 s0 = some q6 → ∀ ls, lv_has ls 6 [(0, .ref o), (1, .int x1), (2, .int x2), (3, .int x3), (5, .int l5)] → W p l e ({ frames := 4, cells := 0, slots := 0, locals := 90 }) s m args below meth c s.heap [] 0 0 Q (F0 m 45 ls [.int s0]) := by
        intro l5 s0 h ls hl
        unfold jX8_placeOf_45 at h
        refine lv_iconst (v := (0 : Int32)) hx hb dX8_placeOf_45 (by decide) ?_
        refine lv_iadd hx hb dX8_placeOf_46 ?_
        obtain ⟨y1, e_y1, h⟩ := nm_s h
        refine top_i e_y1 ?_
        refine lv_istore (lv' := [(4, .int y1), (0, .ref o), (1, .int x1), (2, .int x2), (3, .int x3), (5, .int l5)]) hx hb dX8_placeOf_47 hl (by decide) rfl (fun ls hl => ?_)
        obtain ⟨y2, e_y2, h⟩ := nm_s h
        refine lv_iinc (v := y2) (lv' := [(5, .int y2), (4, .int y1), (0, .ref o), (1, .int x1), (2, .int x2), (3, .int x3)]) hx hb dX8_placeOf_49 hl (k := 5) rfl (by rw [e_y2]; rfl) (by decide) rfl (fun ls hl => ?_)
        refine lv_goto (tgt := 6) hx hb dX8_placeOf_52 (by decide) ?_
        exact ih6 y1 y2 (lp_l hq6 h) ls (lv_sub hl [2, 3, 4, 5, 1, 0] rfl)
      refine lv_iload hx hb dX8_placeOf_6 (lv_at hl 5 rfl) ?_
      refine lv_aload_n hx hb dX8_placeOf_8 rfl (lv_at hl 0 rfl) ?_
      refine gtF (ci := 7) (v := .ref o_s) (C := RX8) (T := TX8) (N := 14) hx hb hts inX8_placeOf_X8 hown hK hP 0 rfl rfl 0 (by decide) mwX8_placeOf_0 rfl rfl dX8_placeOf_9 ?_
      refine lv_iconst (v := (0 : Int32)) hx hb dX8_placeOf_12 (by decide) ?_
      obtain ⟨hin, y1, e_y1, h⟩ := rd_s h
      refine ldI hx hb hK hP 1 rfl hin dX8_placeOf_13 ?_
      refine top_i e_y1 ?_
      refine lv_icmp_ge (tgt := 55) hx hb dX8_placeOf_14 (by decide) (fun c2 => ?_) (fun c2 => ?_)
      · have h := ip_s h c2
        have h := xt_s hq6 h
        refine lv_iload hx hb dX8_placeOf_55 (lv_at hl 4 rfl) ?_
        cases h
        exact hret 57 ls _ rfl dX8_placeOf_57
      · have h := in_s h c2
        refine lv_iload hx hb dX8_placeOf_17 (lv_at hl 4 rfl) ?_
        refine lv_aload_n hx hb dX8_placeOf_19 rfl (lv_at hl 0 rfl) ?_
        refine lv_iload hx hb dX8_placeOf_20 (lv_at hl 5 rfl) ?_
        refine lv_iload_n hx hb dX8_placeOf_22 rfl (lv_at hl 2 rfl) ?_
        refine lv_iload_n hx hb dX8_placeOf_23 rfl (lv_at hl 3 rfl) ?_
        obtain ⟨r3, h_r3, h⟩ := bd_s h
        refine clVR (As := [.int l5, .int x2, .int x3]) (rest := [.int l4]) hx hb hml hown hts gX8_placeOf_X8_isThere rfl 3 kX8_isThere ⟨Nat.le_of_ble_eq_true rfl, Nat.le_of_ble_eq_true rfl⟩ (ctX8_isThere l D ca o o_s o_saved o_text o_pieceCell o_letter o_number o_before o_savedCount o_textLength o_code o_pieceCount o_at o_commands o_hash o_s_d l5 x2 x3 r3 h_r3) hP hK [0, 1] rfl 0 7 rfl rfl rfl rfl hl.1 rfl (Nat.le_of_ble_eq_true rfl) ⟨Nat.le_of_ble_eq_true rfl, Nat.le_of_ble_eq_true rfl⟩ dX8_placeOf_24 rfl ?_
        refine lv_if_eq (tgt := 45) hx hb dX8_placeOf_27 (by decide) (fun c4 => ?_) (fun c4 => ?_)
        · have h := ip_s h c4
          exact J45 l5 l4 h ls (lv_sub hl [0, 1, 2, 3, 5] rfl)
        · have h := in_s h c4
          refine lv_aload_n hx hb dX8_placeOf_30 rfl (lv_at hl 0 rfl) ?_
          refine lv_iload hx hb dX8_placeOf_31 (lv_at hl 5 rfl) ?_
          refine lv_iload_n hx hb dX8_placeOf_33 rfl (lv_at hl 1 rfl) ?_
          refine lv_iload_n hx hb dX8_placeOf_34 rfl (lv_at hl 2 rfl) ?_
          obtain ⟨r5, h_r5, h⟩ := bd_s h
          refine clVR (As := [.int l5, .int x1, .int x2]) (rest := [.int l4]) hx hb hml hown hts gX8_placeOf_X8_isBefore rfl 3 kX8_isBefore ⟨Nat.le_of_ble_eq_true rfl, Nat.le_of_ble_eq_true rfl⟩ (ctX8_isBefore l D ca o o_s o_saved o_text o_pieceCell o_letter o_number o_before o_savedCount o_textLength o_code o_pieceCount o_at o_commands o_hash o_s_d l5 x1 x2 r5 h_r5) hP hK [0, 1] rfl 0 7 rfl rfl rfl rfl hl.1 rfl (Nat.le_of_ble_eq_true rfl) ⟨Nat.le_of_ble_eq_true rfl, Nat.le_of_ble_eq_true rfl⟩ dX8_placeOf_35 rfl ?_
          refine lv_if_eq (tgt := 45) hx hb dX8_placeOf_38 (by decide) (fun c6 => ?_) (fun c6 => ?_)
          · have h := ip_s h c6
            exact J45 l5 l4 h ls (lv_sub hl [0, 1, 2, 3, 5] rfl)
          · have h := in_s h c6
            refine lv_iconst (v := (1 : Int32)) hx hb dX8_placeOf_41 (by decide) ?_
            refine lv_goto (tgt := 46) hx hb dX8_placeOf_42 (by decide) ?_
            refine lv_iadd hx hb dX8_placeOf_46 ?_
            obtain ⟨y7, e_y7, h⟩ := nm_s h
            refine top_i e_y7 ?_
            refine lv_istore (lv' := [(4, .int y7), (0, .ref o), (1, .int x1), (2, .int x2), (3, .int x3), (5, .int l5)]) hx hb dX8_placeOf_47 hl (by decide) rfl (fun ls hl => ?_)
            obtain ⟨y8, e_y8, h⟩ := nm_s h
            refine lv_iinc (v := y8) (lv' := [(5, .int y8), (4, .int y7), (0, .ref o), (1, .int x1), (2, .int x2), (3, .int x3)]) hx hb dX8_placeOf_49 hl (k := 5) rfl (by rw [e_y8]; rfl) (by decide) rfl (fun ls hl => ?_)
            refine lv_goto (tgt := 6) hx hb dX8_placeOf_52 (by decide) ?_
            exact ih6 y7 y8 (lp_l hq6 h) ls (lv_sub hl [2, 3, 4, 5, 1, 0] rfl)
  refine lv_iconst (v := (0 : Int32)) hx hb dX8_placeOf_0 (by decide) ?_
  refine lv_istore (lv' := [(4, .int (0 : Int32)), (0, .ref o), (1, .int x1), (2, .int x2), (3, .int x3)]) hx hb dX8_placeOf_1 hl (by decide) rfl (fun ls hl => ?_)
  refine lv_iconst (v := (0 : Int32)) hx hb dX8_placeOf_3 (by decide) ?_
  refine lv_istore (lv' := [(5, .int (0 : Int32)), (4, .int (0 : Int32)), (0, .ref o), (1, .int x1), (2, .int x2), (3, .int x3)]) hx hb dX8_placeOf_4 hl (by decide) rfl (fun ls hl => ?_)
  exact L6  fuel (0 : Int32) (0 : Int32) h ls (lv_sub hl [2, 3, 4, 5, 1, 0] rfl)
theorem mwX8_ranked_0 : Cond.fieldLink RX8 31 "SegmentTimesModel" "code" "I" ∈ wsX8_ranked := List.mem_of_getElem? (i := 1) rfl
theorem mwX8_ranked_1 : Cond.fieldLink RX8 7 "SegmentTimesModel" "s" "[I" ∈ wsX8_ranked := List.mem_of_getElem? (i := 2) rfl
theorem inX8_ranked_X8 : ∀ w ∈ u_ws RX8 TX8 14, w ∈ wsX8_ranked := fun w h => List.mem_cons_of_mem _ (List.mem_append_right _ (h))
theorem kX8_ranked : yX8_ranked.cls = RX8 ∧ yX8_ranked.cls ≠ "java/lang/invoke/MethodHandle" ∧ yX8_ranked.cls ≠ "java/lang/invoke/VarHandle" ∧ (parseMethodDescriptor yX8_ranked.desc).map (fun d => d.parameters.length) = some 3 := by decide +kernel
set_option maxHeartbeats 4000000 in
set_option maxRecDepth 100000 in
theorem ctX8_ranked (l : Launch) (D : va_G) (ca : Nat → ClassId) (o : Nat) (o_s : Nat) (o_saved : Nat) (o_text : Nat) (o_pieceCell : Nat) (o_letter : Nat) (o_number : Nat) (o_before : Nat) (o_savedCount : Int32) (o_textLength : Int32) (o_code : Int32) (o_pieceCount : Int32) (o_at : Int32) (o_commands : Int32) (o_hash : Int64) (o_s_d : Nat → Int32) (x1 : Int32) (x2 : Int32) (x3 : Int32) (sz : Nat) (u0 : Int32) (u1 : Int32) (hf : fX8_ranked o_code o_s_d x1 x2 x3 = some (u0, u1)) : MW l yX8_ranked wsX8_ranked 5 115 D ca [.ref o, .int x1, .int x2, .int x3] sz [(o, .inr (7, [.ref o_s, .ref o_saved, .int o_savedCount, .ref o_text, .int o_textLength, .int o_code, .int o_pieceCount, .ref o_pieceCell, .int o_at, .int o_commands, .ref o_letter, .ref o_number, .ref o_before, .long o_hash])), (o_s, .inl (ca 0, 1634, .inl o_s_d))] (some (.int u0)) [(o, .inr (7, [.ref o_s, .ref o_saved, .int o_savedCount, .ref o_text, .int o_textLength, .int u1, .int o_pieceCount, .ref o_pieceCell, .int o_at, .int o_commands, .ref o_letter, .ref o_number, .ref o_before, .long o_hash])), (o_s, .inl (ca 0, 1634, .inl o_s_d))] := by
  refine hdWi (by decide +kernel) rfl (Nat.le_of_ble_eq_true rfl) ?_
  intro p e s m args below meth c A Q hx hb hml hown hts hP hD hK hA hS hret ls hl
  have hown : s.vm.findClass RX8 = some m.cls := hown
  have hl : lv_has ls 5 [(0, .ref o), (1, .int x1), (2, .int x2), (3, .int x3)] := hl
  have h := hf
  unfold fX8_ranked at h
  clear hf
  have J17 : ∀ (w_o_code : Int32), jX8_ranked_17  w_o_code = some (u0, u1) → ∀ (H : Heap) (locs : List Loc), va_P D vwCl [(o, .inr (7, [.ref o_s, .ref o_saved, .int o_savedCount, .ref o_text, .int o_textLength, .int w_o_code, .int o_pieceCount, .ref o_pieceCell, .int o_at, .int o_commands, .ref o_letter, .ref o_number, .ref o_before, .long o_hash])), (o_s, .inl (ca 0, 1634, .inl o_s_d))] H → va_D A [(o, .inr (7, [.ref o_s, .ref o_saved, .int o_savedCount, .ref o_text, .int o_textLength, .int w_o_code, .int o_pieceCount, .ref o_pieceCell, .int o_at, .int o_commands, .ref o_letter, .ref o_number, .ref o_before, .long o_hash])), (o_s, .inl (ca 0, 1634, .inl o_s_d))] → va_S A s.heap H locs → ∀ ls, lv_has ls 5 [(0, .ref o)] → W p l e ({ frames := 5, cells := 0, slots := 0, locals := 115 }) s m args below meth c H locs 0 0 Q (F0 m 17 ls []) := by
    intro w_o_code h H locs hP hD hS ls hl
    unfold jX8_ranked_17 at h
    refine lv_aload_n hx hb dX8_ranked_17 rfl (lv_at hl 0 rfl) ?_
    refine lv_iconst (v := (1 : Int32)) hx hb dX8_ranked_18 (by decide) ?_
    obtain ⟨⟨r1_0, r1_1⟩, h_r1, h⟩ := bd_s h
    have h := up2_s h
    refine clVW (As := [.int (1 : Int32)]) (rest := []) (wr := [(o_s, .inl (ca 0, 1634, .inl o_s_d))]) (wn := [(o_s, .inl (ca 0, 1634, .inl o_s_d)), (o, .inr (7, [.ref o_s, .ref o_saved, .int o_savedCount, .ref o_text, .int o_textLength, .int r1_1, .int o_pieceCount, .ref o_pieceCell, .int o_at, .int o_commands, .ref o_letter, .ref o_number, .ref o_before, .long o_hash]))]) hx hb hml hown hts gX8_ranked_X8_fails rfl 1 kX8_fails ⟨Nat.le_of_ble_eq_true rfl, Nat.le_of_ble_eq_true rfl⟩ (ctX8_fails l D ca o o_s o_saved o_text o_pieceCell o_letter o_number o_before o_savedCount o_textLength w_o_code o_pieceCount o_at o_commands o_hash (1 : Int32) _ r1_0 r1_1 h_r1) hP hD hS hA hK [0] [1] rfl (by decide) rfl (by decide) (by decide) 0 7 rfl rfl rfl rfl hl.1 rfl (Nat.le_of_ble_eq_true rfl) ⟨Nat.le_of_ble_eq_true rfl, Nat.le_of_ble_eq_true rfl⟩ dX8_ranked_19 rfl rfl (fun H locs hP hD hS => ?_)
    have hP := hP.sub (ws' := [(o, .inr (7, [.ref o_s, .ref o_saved, .int o_savedCount, .ref o_text, .int o_textLength, .int r1_1, .int o_pieceCount, .ref o_pieceCell, .int o_at, .int o_commands, .ref o_letter, .ref o_number, .ref o_before, .long o_hash])), (o_s, .inl (ca 0, 1634, .inl o_s_d))]) [1, 0] rfl
    have hD := hD.sub (ws' := [(o, .inr (7, [.ref o_s, .ref o_saved, .int o_savedCount, .ref o_text, .int o_textLength, .int r1_1, .int o_pieceCount, .ref o_pieceCell, .int o_at, .int o_commands, .ref o_letter, .ref o_number, .ref o_before, .long o_hash])), (o_s, .inl (ca 0, 1634, .inl o_s_d))]) [1, 0] (by decide) rfl
    cases h
    exact hret 22 ls _ _ _ hP hD hS rfl dX8_ranked_22
  have L26 : ∀ (w_o_code : Int32) (n : Nat) (l4 : Int32), lp (fun q => bX8_ranked_26 o_s_d x1 x2 x3 w_o_code q) n l4 = some (u0, u1) → ∀ (H : Heap) (locs : List Loc), va_P D vwCl [(o, .inr (7, [.ref o_s, .ref o_saved, .int o_savedCount, .ref o_text, .int o_textLength, .int w_o_code, .int o_pieceCount, .ref o_pieceCell, .int o_at, .int o_commands, .ref o_letter, .ref o_number, .ref o_before, .long o_hash])), (o_s, .inl (ca 0, 1634, .inl o_s_d))] H → va_D A [(o, .inr (7, [.ref o_s, .ref o_saved, .int o_savedCount, .ref o_text, .int o_textLength, .int w_o_code, .int o_pieceCount, .ref o_pieceCell, .int o_at, .int o_commands, .ref o_letter, .ref o_number, .ref o_before, .long o_hash])), (o_s, .inl (ca 0, 1634, .inl o_s_d))] → va_S A s.heap H locs → ∀ ls, lv_has ls 5 [(0, .ref o), (1, .int x1), (2, .int x2), (3, .int x3), (4, .int l4)] → W p l e ({ frames := 5, cells := 0, slots := 0, locals := 115 }) s m args below meth c H locs 0 0 Q (F0 m 26 ls []) := by
    intro w_o_code n
    induction n with
    | zero => intro l4 h; exact (lp_0 h).elim
    | succ n ih26 =>
      intro l4 h H locs hP hD hS ls hl
      obtain ⟨q26, h, hq26⟩ := lp_s h
      have h : bX8_ranked_26 o_s_d x1 x2 x3 w_o_code l4 = some q26 := h
      unfold bX8_ranked_26 at h
      refine lv_iload hx hb dX8_ranked_26 (lv_at hl 4 rfl) ?_
      refine lv_aload_n hx hb dX8_ranked_28 rfl (lv_at hl 0 rfl) ?_
      refine gtF (ci := 7) (v := .ref o_s) (C := RX8) (T := TX8) (N := 14) hx hb hts inX8_ranked_X8 hown hK hP 0 rfl rfl 0 (by decide) mwX8_ranked_1 rfl rfl dX8_ranked_29 ?_
      refine lv_iconst (v := (0 : Int32)) hx hb dX8_ranked_32 (by decide) ?_
      obtain ⟨hin, y1, e_y1, h⟩ := rd_s h
      refine ldI hx hb hK hP 1 rfl hin dX8_ranked_33 ?_
      refine top_i e_y1 ?_
      refine lv_icmp_ge (tgt := 69) hx hb dX8_ranked_34 (by decide) (fun c2 => ?_) (fun c2 => ?_)
      · have h := ip_s h c2
        have h := xt_s hq26 h
        refine lv_iconst (v := (-1 : Int32)) hx hb dX8_ranked_69 (by decide) ?_
        cases h
        exact hret 70 ls _ _ _ hP hD hS rfl dX8_ranked_70
      · have h := in_s h c2
        refine lv_aload_n hx hb dX8_ranked_37 rfl (lv_at hl 0 rfl) ?_
        refine lv_iload hx hb dX8_ranked_38 (lv_at hl 4 rfl) ?_
        refine lv_iload_n hx hb dX8_ranked_40 rfl (lv_at hl 1 rfl) ?_
        refine lv_iload_n hx hb dX8_ranked_41 rfl (lv_at hl 2 rfl) ?_
        obtain ⟨r3, h_r3, h⟩ := bd_s h
        refine clVR (As := [.int l4, .int x1, .int x2]) (rest := []) hx hb hml hown hts gX8_ranked_X8_isThere rfl 3 kX8_isThere ⟨Nat.le_of_ble_eq_true rfl, Nat.le_of_ble_eq_true rfl⟩ (ctX8_isThere l D ca o o_s o_saved o_text o_pieceCell o_letter o_number o_before o_savedCount o_textLength w_o_code o_pieceCount o_at o_commands o_hash o_s_d l4 x1 x2 r3 h_r3) hP hK [0, 1] rfl 0 7 rfl rfl rfl rfl hl.1 rfl (Nat.le_of_ble_eq_true rfl) ⟨Nat.le_of_ble_eq_true rfl, Nat.le_of_ble_eq_true rfl⟩ dX8_ranked_42 rfl ?_
        refine lv_if_eq (tgt := 63) hx hb dX8_ranked_45 (by decide) (fun c4 => ?_) (fun c4 => ?_)
        · have h := ip_s h c4
          obtain ⟨y5, e_y5, h⟩ := nm_s h
          refine lv_iinc (v := y5) (lv' := [(4, .int y5), (0, .ref o), (1, .int x1), (2, .int x2), (3, .int x3)]) hx hb dX8_ranked_63 hl (k := 4) rfl (by rw [e_y5]; rfl) (by decide) rfl (fun ls hl => ?_)
          refine lv_goto (tgt := 26) hx hb dX8_ranked_66 (by decide) ?_
          exact ih26 y5 (lp_l hq26 h) _ _ hP hD hS ls (lv_sub hl [1, 2, 3, 4, 0] rfl)
        · have h := in_s h c4
          refine lv_aload_n hx hb dX8_ranked_48 rfl (lv_at hl 0 rfl) ?_
          refine lv_iload hx hb dX8_ranked_49 (lv_at hl 4 rfl) ?_
          refine lv_iload_n hx hb dX8_ranked_51 rfl (lv_at hl 1 rfl) ?_
          refine lv_iload_n hx hb dX8_ranked_52 rfl (lv_at hl 2 rfl) ?_
          obtain ⟨r6, h_r6, h⟩ := bd_s h
          refine clVR (As := [.int l4, .int x1, .int x2]) (rest := []) hx hb hml hown hts gX8_ranked_X8_placeOf rfl 3 kX8_placeOf ⟨Nat.le_of_ble_eq_true rfl, Nat.le_of_ble_eq_true rfl⟩ (ctX8_placeOf l D ca o o_s o_saved o_text o_pieceCell o_letter o_number o_before o_savedCount o_textLength w_o_code o_pieceCount o_at o_commands o_hash o_s_d l4 x1 x2 r6 h_r6) hP hK [0, 1] rfl 0 7 rfl rfl rfl rfl hl.1 rfl (Nat.le_of_ble_eq_true rfl) ⟨Nat.le_of_ble_eq_true rfl, Nat.le_of_ble_eq_true rfl⟩ dX8_ranked_53 rfl ?_
          refine lv_iload_n hx hb dX8_ranked_56 rfl (lv_at hl 3 rfl) ?_
          refine lv_icmp_ne (tgt := 63) hx hb dX8_ranked_57 (by decide) (fun c7 => ?_) (fun c7 => ?_)
          · have h := in_s h c7
            obtain ⟨y8, e_y8, h⟩ := nm_s h
            refine lv_iinc (v := y8) (lv' := [(4, .int y8), (0, .ref o), (1, .int x1), (2, .int x2), (3, .int x3)]) hx hb dX8_ranked_63 hl (k := 4) rfl (by rw [e_y8]; rfl) (by decide) rfl (fun ls hl => ?_)
            refine lv_goto (tgt := 26) hx hb dX8_ranked_66 (by decide) ?_
            exact ih26 y8 (lp_l hq26 h) _ _ hP hD hS ls (lv_sub hl [1, 2, 3, 4, 0] rfl)
          · have h := ip_s h c7
            have h := xt_s hq26 h
            refine lv_iload hx hb dX8_ranked_60 (lv_at hl 4 rfl) ?_
            cases h
            exact hret 62 ls _ _ _ hP hD hS rfl dX8_ranked_62
  refine lv_aload_n hx hb dX8_ranked_0 rfl (lv_at hl 0 rfl) ?_
  refine lv_iconst (v := (0 : Int32)) hx hb dX8_ranked_1 (by decide) ?_
  refine ptI (ci := 7) (v := .int (0 : Int32)) (ty := .int) (C := RX8) (T := TX8) (N := 14) (wn := [(o, .inr (7, [.ref o_s, .ref o_saved, .int o_savedCount, .ref o_text, .int o_textLength, .int (0 : Int32), .int o_pieceCount, .ref o_pieceCell, .int o_at, .int o_commands, .ref o_letter, .ref o_number, .ref o_before, .long o_hash])), (o_s, .inl (ca 0, 1634, .inl o_s_d))]) hx hb hts inX8_ranked_X8 tyX8 tyX8_ok nmX8 hown hK hP hD hS 0 rfl rfl 5 (by decide) mwX8_ranked_0 rfl rfl (by decide +kernel) rfl rfl (Nat.le_of_ble_eq_true rfl) rfl dX8_ranked_2 (fun H locs hP hD hS => ?_)
  refine lv_iload_n hx hb dX8_ranked_5 rfl (lv_at hl 1 rfl) ?_
  refine lv_iload_n hx hb dX8_ranked_6 rfl (lv_at hl 2 rfl) ?_
  obtain ⟨r1, h_r1, h⟩ := bd_s h
  refine clSR (As := [.int x1, .int x2]) (rest := []) hx hb hml hown hts gX8_ranked_X8_isPlace rfl 2 kX8_isPlace.2 ⟨Nat.le_of_ble_eq_true rfl, Nat.le_of_ble_eq_true rfl⟩ (ctX8_isPlace l D ca   x1 x2 r1 h_r1) hP hK [] rfl rfl hl.1 rfl (Nat.le_of_ble_eq_true rfl) ⟨Nat.le_of_ble_eq_true rfl, Nat.le_of_ble_eq_true rfl⟩ dX8_ranked_7 rfl ?_
  refine lv_if_eq (tgt := 17) hx hb dX8_ranked_10 (by decide) (fun c2 => ?_) (fun c2 => ?_)
  · have h := ip_s h c2
    exact J17 (0 : Int32) h _ _ hP hD hS ls (lv_sub hl [0] rfl)
  · have h := in_s h c2
    refine lv_iload_n hx hb dX8_ranked_13 rfl (lv_at hl 3 rfl) ?_
    refine lv_if_ge (tgt := 23) hx hb dX8_ranked_14 (by decide) (fun c3 => ?_) (fun c3 => ?_)
    · have h := ip_s h c3
      refine lv_iconst (v := (0 : Int32)) hx hb dX8_ranked_23 (by decide) ?_
      refine lv_istore (lv' := [(4, .int (0 : Int32)), (0, .ref o), (1, .int x1), (2, .int x2), (3, .int x3)]) hx hb dX8_ranked_24 hl (by decide) rfl (fun ls hl => ?_)
      exact L26 (0 : Int32) fuel (0 : Int32) h _ _ hP hD hS ls (lv_sub hl [1, 2, 3, 4, 0] rfl)
    · have h := in_s h c3
      exact J17 (0 : Int32) h _ _ hP hD hS ls (lv_sub hl [0] rfl)
