theorem mwX8_readsAll_0 : Cond.fieldLink RX8 201 "SegmentTimesModel" "at" "I" ∈ wsX8_readsAll := List.mem_of_getElem? (i := 1) rfl
theorem mwX8_readsAll_1 : Cond.fieldLink RX8 214 "SegmentTimesModel" "commands" "I" ∈ wsX8_readsAll := List.mem_of_getElem? (i := 2) rfl
theorem inX8_readsAll_X8 : ∀ w ∈ u_ws RX8 TX8 14, w ∈ wsX8_readsAll := fun w h => List.mem_cons_of_mem _ (List.mem_append_right _ (h))
theorem kX8_readsAll : yX8_readsAll.cls = RX8 ∧ yX8_readsAll.cls ≠ "java/lang/invoke/MethodHandle" ∧ yX8_readsAll.cls ≠ "java/lang/invoke/VarHandle" ∧ (parseMethodDescriptor yX8_readsAll.desc).map (fun d => d.parameters.length) = some 0 := by decide +kernel
set_option maxHeartbeats 4000000 in
set_option maxRecDepth 100000 in
theorem ctX8_readsAll (l : Launch) (D : va_G) (ca : Nat → ClassId) (o : Nat) (o_s : Nat) (o_saved : Nat) (o_text : Nat) (o_pieceCell : Nat) (o_letter : Nat) (o_number : Nat) (o_before : Nat) (o_savedCount : Int32) (o_textLength : Int32) (o_code : Int32) (o_pieceCount : Int32) (o_at : Int32) (o_commands : Int32) (o_hash : Int64) (o_text_d : Nat → Int32) (o_letter_d : Nat → Int32) (o_number_d : Nat → Int32)  (sz : Nat) (u0 : Int32) (u1 : Int32) (u2 : Int32) (u3 : Nat → Int32) (u4 : Nat → Int32) (hf : fX8_readsAll o_textLength o_at o_commands o_text_d o_letter_d o_number_d = some (u0, u1, u2, u3, u4)) : MW l yX8_readsAll wsX8_readsAll 4 88 D ca [.ref o] sz [(o, .inr (7, [.ref o_s, .ref o_saved, .int o_savedCount, .ref o_text, .int o_textLength, .int o_code, .int o_pieceCount, .ref o_pieceCell, .int o_at, .int o_commands, .ref o_letter, .ref o_number, .ref o_before, .long o_hash])), (o_text, .inl (ca 0, 120, .inl o_text_d)), (o_letter, .inl (ca 0, 60, .inl o_letter_d)), (o_number, .inl (ca 0, 240, .inl o_number_d))] (some (.int u0)) [(o, .inr (7, [.ref o_s, .ref o_saved, .int o_savedCount, .ref o_text, .int o_textLength, .int o_code, .int o_pieceCount, .ref o_pieceCell, .int u1, .int u2, .ref o_letter, .ref o_number, .ref o_before, .long o_hash])), (o_text, .inl (ca 0, 120, .inl o_text_d)), (o_letter, .inl (ca 0, 60, .inl u3)), (o_number, .inl (ca 0, 240, .inl u4))] := by
  refine hdWz (by decide +kernel) rfl (Nat.le_of_ble_eq_true rfl) ?_
  intro p e s m args below meth c A Q hx hb hml hown hts hP hD hK hA hS hret ls hl
  have hown : s.vm.findClass RX8 = some m.cls := hown
  have hl : lv_has ls 2 [(0, .ref o)] := hl
  have h := hf
  unfold fX8_readsAll at h
  clear hf
  have L12 : ∀  (n : Nat) (l1 : Int32) (w_o_at : Int32) (w_o_commands : Int32) (w_o_letter_d : Nat → Int32) (w_o_number_d : Nat → Int32), lp (fun q => bX8_readsAll_12 o_textLength o_text_d  q.1 q.2.1 q.2.2.1 q.2.2.2.1 q.2.2.2.2) n (l1, w_o_at, w_o_commands, w_o_letter_d, w_o_number_d) = some (u0, u1, u2, u3, u4) → ∀ (H : Heap) (locs : List Loc), va_P D vwCl [(o, .inr (7, [.ref o_s, .ref o_saved, .int o_savedCount, .ref o_text, .int o_textLength, .int o_code, .int o_pieceCount, .ref o_pieceCell, .int w_o_at, .int w_o_commands, .ref o_letter, .ref o_number, .ref o_before, .long o_hash])), (o_text, .inl (ca 0, 120, .inl o_text_d)), (o_letter, .inl (ca 0, 60, .inl w_o_letter_d)), (o_number, .inl (ca 0, 240, .inl w_o_number_d))] H → va_D A [(o, .inr (7, [.ref o_s, .ref o_saved, .int o_savedCount, .ref o_text, .int o_textLength, .int o_code, .int o_pieceCount, .ref o_pieceCell, .int w_o_at, .int w_o_commands, .ref o_letter, .ref o_number, .ref o_before, .long o_hash])), (o_text, .inl (ca 0, 120, .inl o_text_d)), (o_letter, .inl (ca 0, 60, .inl w_o_letter_d)), (o_number, .inl (ca 0, 240, .inl w_o_number_d))] → va_S A s.heap H locs → ∀ ls, lv_has ls 2 [(0, .ref o), (1, .int l1)] → W p l e ({ frames := 4, cells := 0, slots := 0, locals := 88 }) s m args below meth c H locs 0 0 Q (F0 m 12 ls []) := by
    intro  n
    induction n with
    | zero => intro l1 w_o_at w_o_commands w_o_letter_d w_o_number_d h; exact (lp_0 h).elim
    | succ n ih12 =>
      intro l1 w_o_at w_o_commands w_o_letter_d w_o_number_d h H locs hP hD hS ls hl
      obtain ⟨q12, h, hq12⟩ := lp_s h
      have h : bX8_readsAll_12 o_textLength o_text_d  l1 w_o_at w_o_commands w_o_letter_d w_o_number_d = some q12 := h
      unfold bX8_readsAll_12 at h
      refine lv_iload_n hx hb dX8_readsAll_12 rfl (lv_at hl 1 rfl) ?_
      refine lv_if_eq (tgt := 32) hx hb dX8_readsAll_13 (by decide) (fun c1 => ?_) (fun c1 => ?_)
      · have h := ip_s h c1
        have h := xt_s hq12 h
        refine lv_iload_n hx hb dX8_readsAll_32 rfl (lv_at hl 1 rfl) ?_
        obtain ⟨hz, h⟩ := zr_s h
        cases h
        exact hret 33 ls _ hz _ _ hP hD hS rfl dX8_readsAll_33
      · have h := in_s h c1
        refine lv_aload_n hx hb dX8_readsAll_16 rfl (lv_at hl 0 rfl) ?_
        obtain ⟨r2, h_r2, h⟩ := bd_s h
        refine clVR (As := []) (rest := []) hx hb hml hown hts gX8_readsAll_X8_here rfl 0 kX8_here ⟨Nat.le_of_ble_eq_true rfl, Nat.le_of_ble_eq_true rfl⟩ (ctX8_here l D ca o o_s o_saved o_text o_pieceCell o_letter o_number o_before o_savedCount o_textLength o_code o_pieceCount w_o_at w_o_commands o_hash o_text_d  r2 h_r2) hP hK [0, 1] rfl 0 7 rfl rfl rfl rfl hl.1 rfl (Nat.le_of_ble_eq_true rfl) ⟨Nat.le_of_ble_eq_true rfl, Nat.le_of_ble_eq_true rfl⟩ dX8_readsAll_17 rfl ?_
        refine lv_iconst (v := (-1 : Int32)) hx hb dX8_readsAll_20 (by decide) ?_
        refine lv_icmp_eq (tgt := 32) hx hb dX8_readsAll_21 (by decide) (fun c3 => ?_) (fun c3 => ?_)
        · have h := ip_s h c3
          have h := xt_s hq12 h
          refine lv_iload_n hx hb dX8_readsAll_32 rfl (lv_at hl 1 rfl) ?_
          obtain ⟨hz, h⟩ := zr_s h
          cases h
          exact hret 33 ls _ hz _ _ hP hD hS rfl dX8_readsAll_33
        · have h := in_s h c3
          refine lv_aload_n hx hb dX8_readsAll_24 rfl (lv_at hl 0 rfl) ?_
          obtain ⟨⟨r4_0, r4_1, r4_2, r4_3, r4_4⟩, h_r4, h⟩ := bd_s h
          have h := up5_s h
          refine clVW (As := []) (rest := []) (wr := []) (wn := [(o, .inr (7, [.ref o_s, .ref o_saved, .int o_savedCount, .ref o_text, .int o_textLength, .int o_code, .int o_pieceCount, .ref o_pieceCell, .int r4_1, .int r4_2, .ref o_letter, .ref o_number, .ref o_before, .long o_hash])), (o_text, .inl (ca 0, 120, .inl o_text_d)), (o_letter, .inl (ca 0, 60, .inl r4_3)), (o_number, .inl (ca 0, 240, .inl r4_4))]) hx hb hml hown hts gX8_readsAll_X8_readsCommand rfl 0 kX8_readsCommand ⟨Nat.le_of_ble_eq_true rfl, Nat.le_of_ble_eq_true rfl⟩ (ctX8_readsCommand l D ca o o_s o_saved o_text o_pieceCell o_letter o_number o_before o_savedCount o_textLength o_code o_pieceCount w_o_at w_o_commands o_hash o_text_d w_o_letter_d w_o_number_d  _ r4_0 r4_1 r4_2 r4_3 r4_4 h_r4) hP hD hS hA hK [0, 1, 2, 3] [] rfl (by decide) rfl (by decide) (by decide) 0 7 rfl rfl rfl rfl hl.1 rfl (Nat.le_of_ble_eq_true rfl) ⟨Nat.le_of_ble_eq_true rfl, Nat.le_of_ble_eq_true rfl⟩ dX8_readsAll_25 rfl rfl (fun H locs hP hD hS => ?_)
          refine lv_istore_n (lv' := [(1, .int r4_0), (0, .ref o)]) hx hb dX8_readsAll_28 rfl hl (by decide) rfl (fun ls hl => ?_)
          refine lv_goto (tgt := 12) hx hb dX8_readsAll_29 (by decide) ?_
          exact ih12 r4_0 r4_1 r4_2 r4_3 r4_4 (lp_l hq12 h) _ _ hP hD hS ls (lv_sub hl [1, 0] rfl)
  refine lv_aload_n hx hb dX8_readsAll_0 rfl (lv_at hl 0 rfl) ?_
  refine lv_iconst (v := (0 : Int32)) hx hb dX8_readsAll_1 (by decide) ?_
  refine ptI (ci := 7) (v := .int (0 : Int32)) (ty := .int) (C := RX8) (T := TX8) (N := 14) (wn := [(o, .inr (7, [.ref o_s, .ref o_saved, .int o_savedCount, .ref o_text, .int o_textLength, .int o_code, .int o_pieceCount, .ref o_pieceCell, .int (0 : Int32), .int o_commands, .ref o_letter, .ref o_number, .ref o_before, .long o_hash])), (o_text, .inl (ca 0, 120, .inl o_text_d)), (o_letter, .inl (ca 0, 60, .inl o_letter_d)), (o_number, .inl (ca 0, 240, .inl o_number_d))]) hx hb hts inX8_readsAll_X8 tyX8 tyX8_ok nmX8 hown hK hP hD hS 0 rfl rfl 8 (by decide) mwX8_readsAll_0 rfl rfl (by decide +kernel) rfl rfl (Nat.le_of_ble_eq_true rfl) rfl dX8_readsAll_2 (fun H locs hP hD hS => ?_)
  refine lv_aload_n hx hb dX8_readsAll_5 rfl (lv_at hl 0 rfl) ?_
  refine lv_iconst (v := (0 : Int32)) hx hb dX8_readsAll_6 (by decide) ?_
  refine ptI (ci := 7) (v := .int (0 : Int32)) (ty := .int) (C := RX8) (T := TX8) (N := 14) (wn := [(o, .inr (7, [.ref o_s, .ref o_saved, .int o_savedCount, .ref o_text, .int o_textLength, .int o_code, .int o_pieceCount, .ref o_pieceCell, .int (0 : Int32), .int (0 : Int32), .ref o_letter, .ref o_number, .ref o_before, .long o_hash])), (o_text, .inl (ca 0, 120, .inl o_text_d)), (o_letter, .inl (ca 0, 60, .inl o_letter_d)), (o_number, .inl (ca 0, 240, .inl o_number_d))]) hx hb hts inX8_readsAll_X8 tyX8 tyX8_ok nmX8 hown hK hP hD hS 0 rfl rfl 9 (by decide) mwX8_readsAll_1 rfl rfl (by decide +kernel) rfl rfl (Nat.le_of_ble_eq_true rfl) rfl dX8_readsAll_7 (fun H locs hP hD hS => ?_)
  refine lv_iconst (v := (1 : Int32)) hx hb dX8_readsAll_10 (by decide) ?_
  refine lv_istore_n (lv' := [(1, .int (1 : Int32)), (0, .ref o)]) hx hb dX8_readsAll_11 rfl hl (by decide) rfl (fun ls hl => ?_)
  exact L12  fuel (1 : Int32) (0 : Int32) (0 : Int32) o_letter_d o_number_d h _ _ hP hD hS ls (lv_sub hl [1, 0] rfl)
theorem mwX8_whyNotDo_0 : Cond.fieldLink RX8 25 "SegmentTimesModel" "number" "[I" ∈ wsX8_whyNotDo := List.mem_of_getElem? (i := 1) rfl
theorem mwX8_whyNotDo_1 : Cond.fieldLink RX8 22 "SegmentTimesModel" "letter" "[I" ∈ wsX8_whyNotDo := List.mem_of_getElem? (i := 2) rfl
theorem inX8_whyNotDo_X8 : ∀ w ∈ u_ws RX8 TX8 14, w ∈ wsX8_whyNotDo := fun w h => List.mem_cons_of_mem _ (List.mem_append_right _ (h))
theorem kX8_whyNotDo : yX8_whyNotDo.cls = RX8 ∧ yX8_whyNotDo.cls ≠ "java/lang/invoke/MethodHandle" ∧ yX8_whyNotDo.cls ≠ "java/lang/invoke/VarHandle" ∧ (parseMethodDescriptor yX8_whyNotDo.desc).map (fun d => d.parameters.length) = some 1 := by decide +kernel
set_option maxHeartbeats 4000000 in
set_option maxRecDepth 100000 in
theorem ctX8_whyNotDo (l : Launch) (D : va_G) (ca : Nat → ClassId) (o : Nat) (o_s : Nat) (o_saved : Nat) (o_text : Nat) (o_pieceCell : Nat) (o_letter : Nat) (o_number : Nat) (o_before : Nat) (o_savedCount : Int32) (o_textLength : Int32) (o_code : Int32) (o_pieceCount : Int32) (o_at : Int32) (o_commands : Int32) (o_hash : Int64) (o_s_d : Nat → Int32) (o_letter_d : Nat → Int32) (o_number_d : Nat → Int32) (x1 : Int32) (u0 : Int32) (hf : fX8_whyNotDo o_s_d o_letter_d o_number_d x1 = some u0) : MR l yX8_whyNotDo wsX8_whyNotDo 4 88 D ca [.ref o, .int x1] [(o, .inr (7, [.ref o_s, .ref o_saved, .int o_savedCount, .ref o_text, .int o_textLength, .int o_code, .int o_pieceCount, .ref o_pieceCell, .int o_at, .int o_commands, .ref o_letter, .ref o_number, .ref o_before, .long o_hash])), (o_s, .inl (ca 0, 1634, .inl o_s_d)), (o_letter, .inl (ca 0, 60, .inl o_letter_d)), (o_number, .inl (ca 0, 240, .inl o_number_d))] (some (.int u0)) := by
  refine hdRi (plainFor_of_name (by decide +kernel)) rfl (Nat.le_of_ble_eq_true rfl) ?_
  intro p e s m args below meth c Q hx hb hml hown hts hP hK hret ls hl
  have hown : s.vm.findClass RX8 = some m.cls := hown
  have hl : lv_has ls 4 [(0, .ref o), (1, .int x1)] := hl
  have h := hf
  unfold fX8_whyNotDo at h
  clear hf
  refine lv_aload_n hx hb dX8_whyNotDo_0 rfl (lv_at hl 0 rfl) ?_
  refine gtF (ci := 7) (v := .ref o_number) (C := RX8) (T := TX8) (N := 14) hx hb hts inX8_whyNotDo_X8 hown hK hP 0 rfl rfl 11 (by decide) mwX8_whyNotDo_0 rfl rfl dX8_whyNotDo_1 ?_
  refine lv_iconst (v := (4 : Int32)) hx hb dX8_whyNotDo_4 (by decide) ?_
  refine lv_iload_n hx hb dX8_whyNotDo_5 rfl (lv_at hl 1 rfl) ?_
  refine lv_imul hx hb dX8_whyNotDo_6 ?_
  obtain ⟨hin, y1, e_y1, h⟩ := rd_s h
  refine ldI hx hb hK hP 3 rfl hin dX8_whyNotDo_7 ?_
  refine top_i e_y1 ?_
  refine lv_istore_n (lv' := [(2, .int y1), (0, .ref o), (1, .int x1)]) hx hb dX8_whyNotDo_8 rfl hl (by decide) rfl (fun ls hl => ?_)
  refine lv_aload_n hx hb dX8_whyNotDo_9 rfl (lv_at hl 1 rfl) ?_
  refine gtF (ci := 7) (v := .ref o_number) (C := RX8) (T := TX8) (N := 14) hx hb hts inX8_whyNotDo_X8 hown hK hP 0 rfl rfl 11 (by decide) mwX8_whyNotDo_0 rfl rfl dX8_whyNotDo_10 ?_
  refine lv_iconst (v := (4 : Int32)) hx hb dX8_whyNotDo_13 (by decide) ?_
  refine lv_iload_n hx hb dX8_whyNotDo_14 rfl (lv_at hl 2 rfl) ?_
  refine lv_imul hx hb dX8_whyNotDo_15 ?_
  refine lv_iconst (v := (1 : Int32)) hx hb dX8_whyNotDo_16 (by decide) ?_
  refine lv_iadd hx hb dX8_whyNotDo_17 ?_
  obtain ⟨hin, y2, e_y2, h⟩ := rd_s h
  refine ldI hx hb hK hP 3 rfl hin dX8_whyNotDo_18 ?_
  refine top_i e_y2 ?_
  refine lv_istore_n (lv' := [(3, .int y2), (2, .int y1), (0, .ref o), (1, .int x1)]) hx hb dX8_whyNotDo_19 rfl hl (by decide) rfl (fun ls hl => ?_)
  refine lv_aload_n hx hb dX8_whyNotDo_20 rfl (lv_at hl 2 rfl) ?_
  refine gtF (ci := 7) (v := .ref o_letter) (C := RX8) (T := TX8) (N := 14) hx hb hts inX8_whyNotDo_X8 hown hK hP 0 rfl rfl 10 (by decide) mwX8_whyNotDo_1 rfl rfl dX8_whyNotDo_21 ?_
  refine lv_iload_n hx hb dX8_whyNotDo_24 rfl (lv_at hl 3 rfl) ?_
  obtain ⟨hin, y3, e_y3, h⟩ := rd_s h
  refine ldI hx hb hK hP 2 rfl hin dX8_whyNotDo_25 ?_
  refine top_i e_y3 ?_
  have hsw := h
  by_cases c4 : y3 = (97 : Int32)
  · have h := ip_s h c4
    refine lv_lookup (off := 50) (tgt := 76) hx hb dX8_whyNotDo_26 (by decide) (by rw [c4]; decide) (by decide) ?_
    refine lv_aload_n hx hb dX8_whyNotDo_76 rfl (lv_at hl 2 rfl) ?_
    refine lv_iload_n hx hb dX8_whyNotDo_77 rfl (lv_at hl 1 rfl) ?_
    refine lv_iload_n hx hb dX8_whyNotDo_78 rfl (lv_at hl 0 rfl) ?_
    refine lv_aload_n hx hb dX8_whyNotDo_79 rfl (lv_at hl 2 rfl) ?_
    refine gtF (ci := 7) (v := .ref o_number) (C := RX8) (T := TX8) (N := 14) hx hb hts inX8_whyNotDo_X8 hown hK hP 0 rfl rfl 11 (by decide) mwX8_whyNotDo_0 rfl rfl dX8_whyNotDo_80 ?_
    refine lv_iconst (v := (4 : Int32)) hx hb dX8_whyNotDo_83 (by decide) ?_
    refine lv_iload_n hx hb dX8_whyNotDo_84 rfl (lv_at hl 3 rfl) ?_
    refine lv_imul hx hb dX8_whyNotDo_85 ?_
    refine lv_iconst (v := (2 : Int32)) hx hb dX8_whyNotDo_86 (by decide) ?_
    refine lv_iadd hx hb dX8_whyNotDo_87 ?_
    obtain ⟨hin, y5, e_y5, h⟩ := rd_s h
    refine ldI hx hb hK hP 3 rfl hin dX8_whyNotDo_88 ?_
    refine top_i e_y5 ?_
    refine lv_aload_n hx hb dX8_whyNotDo_89 rfl (lv_at hl 2 rfl) ?_
    refine gtF (ci := 7) (v := .ref o_number) (C := RX8) (T := TX8) (N := 14) hx hb hts inX8_whyNotDo_X8 hown hK hP 0 rfl rfl 11 (by decide) mwX8_whyNotDo_0 rfl rfl dX8_whyNotDo_90 ?_
    refine lv_iconst (v := (4 : Int32)) hx hb dX8_whyNotDo_93 (by decide) ?_
    refine lv_iload_n hx hb dX8_whyNotDo_94 rfl (lv_at hl 3 rfl) ?_
    refine lv_imul hx hb dX8_whyNotDo_95 ?_
    refine lv_iconst (v := (3 : Int32)) hx hb dX8_whyNotDo_96 (by decide) ?_
    refine lv_iadd hx hb dX8_whyNotDo_97 ?_
    obtain ⟨hin, y6, e_y6, h⟩ := rd_s h
    refine ldI hx hb hK hP 3 rfl hin dX8_whyNotDo_98 ?_
    refine top_i e_y6 ?_
    obtain ⟨r7, h_r7, h⟩ := bd_s h
    refine clVR (As := [.int y1, .int y2, .int y5, .int y6]) (rest := []) hx hb hml hown hts gX8_whyNotDo_X8_whyNotAdd rfl 4 kX8_whyNotAdd ⟨Nat.le_of_ble_eq_true rfl, Nat.le_of_ble_eq_true rfl⟩ (ctX8_whyNotAdd l D ca o o_s o_saved o_text o_pieceCell o_letter o_number o_before o_savedCount o_textLength o_code o_pieceCount o_at o_commands o_hash o_s_d y1 y2 y5 y6 r7 h_r7) hP hK [0, 1] rfl 0 7 rfl rfl rfl rfl hl.1 rfl (Nat.le_of_ble_eq_true rfl) ⟨Nat.le_of_ble_eq_true rfl, Nat.le_of_ble_eq_true rfl⟩ dX8_whyNotDo_99 rfl ?_
    cases h
    exact hret 102 ls _ rfl dX8_whyNotDo_102
  have h := in_s h c4
  by_cases c8 : y3 = (101 : Int32)
  · have h := ip_s h c8
    refine lv_lookup (off := 77) (tgt := 103) hx hb dX8_whyNotDo_26 (by decide) (by rw [c8]; decide) (by decide) ?_
    refine lv_aload_n hx hb dX8_whyNotDo_103 rfl (lv_at hl 2 rfl) ?_
    refine lv_iload_n hx hb dX8_whyNotDo_104 rfl (lv_at hl 1 rfl) ?_
    obtain ⟨r9, h_r9, h⟩ := bd_s h
    refine clVR (As := [.int y1]) (rest := []) hx hb hml hown hts gX8_whyNotDo_X8_whyNotEnd rfl 1 kX8_whyNotEnd ⟨Nat.le_of_ble_eq_true rfl, Nat.le_of_ble_eq_true rfl⟩ (ctX8_whyNotEnd l D ca o o_s o_saved o_text o_pieceCell o_letter o_number o_before o_savedCount o_textLength o_code o_pieceCount o_at o_commands o_hash o_s_d y1 r9 h_r9) hP hK [0, 1] rfl 0 7 rfl rfl rfl rfl hl.1 rfl (Nat.le_of_ble_eq_true rfl) ⟨Nat.le_of_ble_eq_true rfl, Nat.le_of_ble_eq_true rfl⟩ dX8_whyNotDo_105 rfl ?_
    cases h
    exact hret 108 ls _ rfl dX8_whyNotDo_108
  have h := in_s h c8
  by_cases c10 : y3 = (109 : Int32)
  · have h := ip_s h c10
    refine lv_lookup (off := 89) (tgt := 115) hx hb dX8_whyNotDo_26 (by decide) (by rw [c10]; decide) (by decide) ?_
    refine lv_aload_n hx hb dX8_whyNotDo_115 rfl (lv_at hl 2 rfl) ?_
    refine lv_iload_n hx hb dX8_whyNotDo_116 rfl (lv_at hl 1 rfl) ?_
    refine lv_iload_n hx hb dX8_whyNotDo_117 rfl (lv_at hl 0 rfl) ?_
    obtain ⟨r11, h_r11, h⟩ := bd_s h
    refine clVR (As := [.int y1, .int y2]) (rest := []) hx hb hml hown hts gX8_whyNotDo_X8_whyNotLift rfl 2 kX8_whyNotLift ⟨Nat.le_of_ble_eq_true rfl, Nat.le_of_ble_eq_true rfl⟩ (ctX8_whyNotLift l D ca o o_s o_saved o_text o_pieceCell o_letter o_number o_before o_savedCount o_textLength o_code o_pieceCount o_at o_commands o_hash o_s_d y1 y2 r11 h_r11) hP hK [0, 1] rfl 0 7 rfl rfl rfl rfl hl.1 rfl (Nat.le_of_ble_eq_true rfl) ⟨Nat.le_of_ble_eq_true rfl, Nat.le_of_ble_eq_true rfl⟩ dX8_whyNotDo_118 rfl ?_
    cases h
    exact hret 121 ls _ rfl dX8_whyNotDo_121
  have h := in_s h c10
  by_cases c12 : y3 = (113 : Int32)
  · have h := ip_s h c12
    refine lv_lookup (off := 96) (tgt := 122) hx hb dX8_whyNotDo_26 (by decide) (by rw [c12]; decide) (by decide) ?_
    refine lv_aload_n hx hb dX8_whyNotDo_122 rfl (lv_at hl 2 rfl) ?_
    refine lv_iload_n hx hb dX8_whyNotDo_123 rfl (lv_at hl 1 rfl) ?_
    refine lv_iload_n hx hb dX8_whyNotDo_124 rfl (lv_at hl 0 rfl) ?_
    obtain ⟨r13, h_r13, h⟩ := bd_s h
    refine clVR (As := [.int y1, .int y2]) (rest := []) hx hb hml hown hts gX8_whyNotDo_X8_whyNotCollect rfl 2 kX8_whyNotCollect ⟨Nat.le_of_ble_eq_true rfl, Nat.le_of_ble_eq_true rfl⟩ (ctX8_whyNotCollect l D ca o o_s o_saved o_text o_pieceCell o_letter o_number o_before o_savedCount o_textLength o_code o_pieceCount o_at o_commands o_hash o_s_d y1 y2 r13 h_r13) hP hK [0, 1] rfl 0 7 rfl rfl rfl rfl hl.1 rfl (Nat.le_of_ble_eq_true rfl) ⟨Nat.le_of_ble_eq_true rfl, Nat.le_of_ble_eq_true rfl⟩ dX8_whyNotDo_125 rfl ?_
    cases h
    exact hret 128 ls _ rfl dX8_whyNotDo_128
  have h := in_s h c12
  by_cases c14 : y3 = (116 : Int32)
  · have h := ip_s h c14
    refine lv_lookup (off := 83) (tgt := 109) hx hb dX8_whyNotDo_26 (by decide) (by rw [c14]; decide) (by decide) ?_
    refine lv_aload_n hx hb dX8_whyNotDo_109 rfl (lv_at hl 2 rfl) ?_
    refine lv_iload_n hx hb dX8_whyNotDo_110 rfl (lv_at hl 1 rfl) ?_
    obtain ⟨r15, h_r15, h⟩ := bd_s h
    refine clVR (As := [.int y1]) (rest := []) hx hb hml hown hts gX8_whyNotDo_X8_whyNotPass rfl 1 kX8_whyNotPass ⟨Nat.le_of_ble_eq_true rfl, Nat.le_of_ble_eq_true rfl⟩ (ctX8_whyNotPass l D ca o o_s o_saved o_text o_pieceCell o_letter o_number o_before o_savedCount o_textLength o_code o_pieceCount o_at o_commands o_hash o_s_d y1 r15 h_r15) hP hK [0, 1] rfl 0 7 rfl rfl rfl rfl hl.1 rfl (Nat.le_of_ble_eq_true rfl) ⟨Nat.le_of_ble_eq_true rfl, Nat.le_of_ble_eq_true rfl⟩ dX8_whyNotDo_111 rfl ?_
    cases h
    exact hret 114 ls _ rfl dX8_whyNotDo_114
  have h := in_s h c14
  refine lv_lookup (off := 103) (tgt := 129) hx hb dX8_whyNotDo_26 (by decide) (sw_out _ [(97 : Int32), (101 : Int32), (109 : Int32), (113 : Int32), (116 : Int32)] (fun k hk => by simp only [List.mem_cons, List.mem_nil_iff, or_false] at hk; rcases hk with rfl | rfl | rfl | rfl | rfl <;> assumption) (by decide)) (by decide) ?_
  refine lv_iconst (v := (0 : Int32)) hx hb dX8_whyNotDo_129 (by decide) ?_
  cases h
  exact hret 130 ls _ rfl dX8_whyNotDo_130
theorem mwX8_doNow_0 : Cond.fieldLink RX8 25 "SegmentTimesModel" "number" "[I" ∈ wsX8_doNow := List.mem_of_getElem? (i := 1) rfl
theorem mwX8_doNow_1 : Cond.fieldLink RX8 22 "SegmentTimesModel" "letter" "[I" ∈ wsX8_doNow := List.mem_of_getElem? (i := 2) rfl
theorem mwX8_doNow_2 : Cond.fieldLink RX8 7 "SegmentTimesModel" "s" "[I" ∈ wsX8_doNow := List.mem_of_getElem? (i := 3) rfl
theorem inX8_doNow_X8 : ∀ w ∈ u_ws RX8 TX8 14, w ∈ wsX8_doNow := fun w h => List.mem_cons_of_mem _ (List.mem_append_right _ (h))
theorem kX8_doNow : yX8_doNow.cls = RX8 ∧ yX8_doNow.cls ≠ "java/lang/invoke/MethodHandle" ∧ yX8_doNow.cls ≠ "java/lang/invoke/VarHandle" ∧ (parseMethodDescriptor yX8_doNow.desc).map (fun d => d.parameters.length) = some 1 := by decide +kernel
set_option maxHeartbeats 4000000 in
set_option maxRecDepth 100000 in
theorem ctX8_doNow (l : Launch) (D : va_G) (ca : Nat → ClassId) (o : Nat) (o_s : Nat) (o_saved : Nat) (o_text : Nat) (o_pieceCell : Nat) (o_letter : Nat) (o_number : Nat) (o_before : Nat) (o_savedCount : Int32) (o_textLength : Int32) (o_code : Int32) (o_pieceCount : Int32) (o_at : Int32) (o_commands : Int32) (o_hash : Int64) (o_s_d : Nat → Int32) (o_letter_d : Nat → Int32) (o_number_d : Nat → Int32) (x1 : Int32) (sz : Nat) (u0 : Nat → Int32) (hf : fX8_doNow o_s_d o_letter_d o_number_d x1 = some u0) : MW l yX8_doNow wsX8_doNow 6 140 D ca [.ref o, .int x1] sz [(o, .inr (7, [.ref o_s, .ref o_saved, .int o_savedCount, .ref o_text, .int o_textLength, .int o_code, .int o_pieceCount, .ref o_pieceCell, .int o_at, .int o_commands, .ref o_letter, .ref o_number, .ref o_before, .long o_hash])), (o_s, .inl (ca 0, 1634, .inl o_s_d)), (o_letter, .inl (ca 0, 60, .inl o_letter_d)), (o_number, .inl (ca 0, 240, .inl o_number_d))] none [(o, .inr (7, [.ref o_s, .ref o_saved, .int o_savedCount, .ref o_text, .int o_textLength, .int o_code, .int o_pieceCount, .ref o_pieceCell, .int o_at, .int o_commands, .ref o_letter, .ref o_number, .ref o_before, .long o_hash])), (o_s, .inl (ca 0, 1634, .inl u0)), (o_letter, .inl (ca 0, 60, .inl o_letter_d)), (o_number, .inl (ca 0, 240, .inl o_number_d))] := by
  refine hdWv (by decide +kernel) rfl (Nat.le_of_ble_eq_true rfl) rfl ?_
  intro p e s m args below meth c A Q hx hb hml hown hts hP hD hK hA hS hret ls hl
  have hown : s.vm.findClass RX8 = some m.cls := hown
  have hl : lv_has ls 4 [(0, .ref o), (1, .int x1)] := hl
  have h := hf
  unfold fX8_doNow at h
  clear hf
  refine lv_aload_n hx hb dX8_doNow_0 rfl (lv_at hl 0 rfl) ?_
  refine gtF (ci := 7) (v := .ref o_number) (C := RX8) (T := TX8) (N := 14) hx hb hts inX8_doNow_X8 hown hK hP 0 rfl rfl 11 (by decide) mwX8_doNow_0 rfl rfl dX8_doNow_1 ?_
  refine lv_iconst (v := (4 : Int32)) hx hb dX8_doNow_4 (by decide) ?_
  refine lv_iload_n hx hb dX8_doNow_5 rfl (lv_at hl 1 rfl) ?_
  refine lv_imul hx hb dX8_doNow_6 ?_
  obtain ⟨hin, y1, e_y1, h⟩ := rd_s h
  refine ldI hx hb hK hP 3 rfl hin dX8_doNow_7 ?_
  refine top_i e_y1 ?_
  refine lv_istore_n (lv' := [(2, .int y1), (0, .ref o), (1, .int x1)]) hx hb dX8_doNow_8 rfl hl (by decide) rfl (fun ls hl => ?_)
  refine lv_aload_n hx hb dX8_doNow_9 rfl (lv_at hl 1 rfl) ?_
  refine gtF (ci := 7) (v := .ref o_number) (C := RX8) (T := TX8) (N := 14) hx hb hts inX8_doNow_X8 hown hK hP 0 rfl rfl 11 (by decide) mwX8_doNow_0 rfl rfl dX8_doNow_10 ?_
  refine lv_iconst (v := (4 : Int32)) hx hb dX8_doNow_13 (by decide) ?_
  refine lv_iload_n hx hb dX8_doNow_14 rfl (lv_at hl 2 rfl) ?_
  refine lv_imul hx hb dX8_doNow_15 ?_
  refine lv_iconst (v := (1 : Int32)) hx hb dX8_doNow_16 (by decide) ?_
  refine lv_iadd hx hb dX8_doNow_17 ?_
  obtain ⟨hin, y2, e_y2, h⟩ := rd_s h
  refine ldI hx hb hK hP 3 rfl hin dX8_doNow_18 ?_
  refine top_i e_y2 ?_
  refine lv_istore_n (lv' := [(3, .int y2), (2, .int y1), (0, .ref o), (1, .int x1)]) hx hb dX8_doNow_19 rfl hl (by decide) rfl (fun ls hl => ?_)
  refine lv_aload_n hx hb dX8_doNow_20 rfl (lv_at hl 2 rfl) ?_
  refine gtF (ci := 7) (v := .ref o_letter) (C := RX8) (T := TX8) (N := 14) hx hb hts inX8_doNow_X8 hown hK hP 0 rfl rfl 10 (by decide) mwX8_doNow_1 rfl rfl dX8_doNow_21 ?_
  refine lv_iload_n hx hb dX8_doNow_24 rfl (lv_at hl 3 rfl) ?_
  obtain ⟨hin, y3, e_y3, h⟩ := rd_s h
  refine ldI hx hb hK hP 2 rfl hin dX8_doNow_25 ?_
  refine top_i e_y3 ?_
  have hsw := h
  by_cases c4 : y3 = (97 : Int32)
  · have h := ip_s h c4
    refine lv_lookup (off := 50) (tgt := 76) hx hb dX8_doNow_26 (by decide) (by rw [c4]; decide) (by decide) ?_
    refine lv_aload_n hx hb dX8_doNow_76 rfl (lv_at hl 2 rfl) ?_
    refine lv_iload_n hx hb dX8_doNow_77 rfl (lv_at hl 1 rfl) ?_
    refine lv_iload_n hx hb dX8_doNow_78 rfl (lv_at hl 0 rfl) ?_
    refine lv_aload_n hx hb dX8_doNow_79 rfl (lv_at hl 2 rfl) ?_
    refine gtF (ci := 7) (v := .ref o_number) (C := RX8) (T := TX8) (N := 14) hx hb hts inX8_doNow_X8 hown hK hP 0 rfl rfl 11 (by decide) mwX8_doNow_0 rfl rfl dX8_doNow_80 ?_
    refine lv_iconst (v := (4 : Int32)) hx hb dX8_doNow_83 (by decide) ?_
    refine lv_iload_n hx hb dX8_doNow_84 rfl (lv_at hl 3 rfl) ?_
    refine lv_imul hx hb dX8_doNow_85 ?_
    refine lv_iconst (v := (2 : Int32)) hx hb dX8_doNow_86 (by decide) ?_
    refine lv_iadd hx hb dX8_doNow_87 ?_
    obtain ⟨hin, y5, e_y5, h⟩ := rd_s h
    refine ldI hx hb hK hP 3 rfl hin dX8_doNow_88 ?_
    refine top_i e_y5 ?_
    refine lv_aload_n hx hb dX8_doNow_89 rfl (lv_at hl 2 rfl) ?_
    refine gtF (ci := 7) (v := .ref o_number) (C := RX8) (T := TX8) (N := 14) hx hb hts inX8_doNow_X8 hown hK hP 0 rfl rfl 11 (by decide) mwX8_doNow_0 rfl rfl dX8_doNow_90 ?_
    refine lv_iconst (v := (4 : Int32)) hx hb dX8_doNow_93 (by decide) ?_
    refine lv_iload_n hx hb dX8_doNow_94 rfl (lv_at hl 3 rfl) ?_
    refine lv_imul hx hb dX8_doNow_95 ?_
    refine lv_iconst (v := (3 : Int32)) hx hb dX8_doNow_96 (by decide) ?_
    refine lv_iadd hx hb dX8_doNow_97 ?_
    obtain ⟨hin, y6, e_y6, h⟩ := rd_s h
    refine ldI hx hb hK hP 3 rfl hin dX8_doNow_98 ?_
    refine top_i e_y6 ?_
    refine lv_aload_n hx hb dX8_doNow_99 rfl (lv_at hl 2 rfl) ?_
    refine gtF (ci := 7) (v := .ref o_s) (C := RX8) (T := TX8) (N := 14) hx hb hts inX8_doNow_X8 hown hK hP 0 rfl rfl 0 (by decide) mwX8_doNow_2 rfl rfl dX8_doNow_100 ?_
    refine lv_iconst (v := (1 : Int32)) hx hb dX8_doNow_103 (by decide) ?_
    obtain ⟨hin, y7, e_y7, h⟩ := rd_s h
    refine ldI hx hb hK hP 1 rfl hin dX8_doNow_104 ?_
    refine top_i e_y7 ?_
    refine lv_sipush (v := (16384 : Int32)) hx hb dX8_doNow_105 (by decide) ?_
    obtain ⟨⟨r8_0, r8_1⟩, h_r8, h⟩ := bd_s h
    have h := up2_s h
    refine clVW (As := [.int y1, .int y2, .int y5, .int y6, .int y7, .int (16384 : Int32)]) (rest := []) (wr := [(o_letter, .inl (ca 0, 60, .inl o_letter_d)), (o_number, .inl (ca 0, 240, .inl o_number_d))]) (wn := [(o_letter, .inl (ca 0, 60, .inl o_letter_d)), (o_number, .inl (ca 0, 240, .inl o_number_d)), (o, .inr (7, [.ref o_s, .ref o_saved, .int o_savedCount, .ref o_text, .int o_textLength, .int o_code, .int o_pieceCount, .ref o_pieceCell, .int o_at, .int o_commands, .ref o_letter, .ref o_number, .ref o_before, .long o_hash])), (o_s, .inl (ca 0, 1634, .inl r8_1))]) hx hb hml hown hts gX8_doNow_X8_put rfl 6 kX8_put ⟨Nat.le_of_ble_eq_true rfl, Nat.le_of_ble_eq_true rfl⟩ (ctX8_put l D ca o o_s o_saved o_text o_pieceCell o_letter o_number o_before o_savedCount o_textLength o_code o_pieceCount o_at o_commands o_hash o_s_d y1 y2 y5 y6 y7 (16384 : Int32) _ r8_0 r8_1 h_r8) hP hD hS hA hK [0, 1] [2, 3] rfl (by decide) rfl (by decide) (by decide) 0 7 rfl rfl rfl rfl hl.1 rfl (Nat.le_of_ble_eq_true rfl) ⟨Nat.le_of_ble_eq_true rfl, Nat.le_of_ble_eq_true rfl⟩ dX8_doNow_108 rfl rfl (fun H locs hP hD hS => ?_)
    refine lv_pop hx hb dX8_doNow_111 rfl ?_
    refine lv_goto (tgt := 162) hx hb dX8_doNow_112 (by decide) ?_
    have hP := hP.sub (ws' := [(o, .inr (7, [.ref o_s, .ref o_saved, .int o_savedCount, .ref o_text, .int o_textLength, .int o_code, .int o_pieceCount, .ref o_pieceCell, .int o_at, .int o_commands, .ref o_letter, .ref o_number, .ref o_before, .long o_hash])), (o_s, .inl (ca 0, 1634, .inl r8_1)), (o_letter, .inl (ca 0, 60, .inl o_letter_d)), (o_number, .inl (ca 0, 240, .inl o_number_d))]) [2, 3, 0, 1] rfl
    have hD := hD.sub (ws' := [(o, .inr (7, [.ref o_s, .ref o_saved, .int o_savedCount, .ref o_text, .int o_textLength, .int o_code, .int o_pieceCount, .ref o_pieceCell, .int o_at, .int o_commands, .ref o_letter, .ref o_number, .ref o_before, .long o_hash])), (o_s, .inl (ca 0, 1634, .inl r8_1)), (o_letter, .inl (ca 0, 60, .inl o_letter_d)), (o_number, .inl (ca 0, 240, .inl o_number_d))]) [2, 3, 0, 1] (by decide) rfl
    cases h
    exact hret 162 ls _ _ hP hD hS rfl dX8_doNow_162
  have h := in_s h c4
  by_cases c9 : y3 = (101 : Int32)
  · have h := ip_s h c9
    refine lv_lookup (off := 89) (tgt := 115) hx hb dX8_doNow_26 (by decide) (by rw [c9]; decide) (by decide) ?_
    refine lv_aload_n hx hb dX8_doNow_115 rfl (lv_at hl 2 rfl) ?_
    refine lv_iload_n hx hb dX8_doNow_116 rfl (lv_at hl 1 rfl) ?_
    obtain ⟨⟨r10_0, r10_1⟩, h_r10, h⟩ := bd_s h
    have h := up2_s h
    refine clVW (As := [.int y1]) (rest := []) (wr := [(o_letter, .inl (ca 0, 60, .inl o_letter_d)), (o_number, .inl (ca 0, 240, .inl o_number_d))]) (wn := [(o_letter, .inl (ca 0, 60, .inl o_letter_d)), (o_number, .inl (ca 0, 240, .inl o_number_d)), (o, .inr (7, [.ref o_s, .ref o_saved, .int o_savedCount, .ref o_text, .int o_textLength, .int o_code, .int o_pieceCount, .ref o_pieceCell, .int o_at, .int o_commands, .ref o_letter, .ref o_number, .ref o_before, .long o_hash])), (o_s, .inl (ca 0, 1634, .inl r10_1))]) hx hb hml hown hts gX8_doNow_X8_endNow rfl 1 kX8_endNow ⟨Nat.le_of_ble_eq_true rfl, Nat.le_of_ble_eq_true rfl⟩ (ctX8_endNow l D ca o o_s o_saved o_text o_pieceCell o_letter o_number o_before o_savedCount o_textLength o_code o_pieceCount o_at o_commands o_hash o_s_d y1 _ r10_0 r10_1 h_r10) hP hD hS hA hK [0, 1] [2, 3] rfl (by decide) rfl (by decide) (by decide) 0 7 rfl rfl rfl rfl hl.1 rfl (Nat.le_of_ble_eq_true rfl) ⟨Nat.le_of_ble_eq_true rfl, Nat.le_of_ble_eq_true rfl⟩ dX8_doNow_117 rfl rfl (fun H locs hP hD hS => ?_)
    refine lv_pop hx hb dX8_doNow_120 rfl ?_
    refine lv_goto (tgt := 162) hx hb dX8_doNow_121 (by decide) ?_
    have hP := hP.sub (ws' := [(o, .inr (7, [.ref o_s, .ref o_saved, .int o_savedCount, .ref o_text, .int o_textLength, .int o_code, .int o_pieceCount, .ref o_pieceCell, .int o_at, .int o_commands, .ref o_letter, .ref o_number, .ref o_before, .long o_hash])), (o_s, .inl (ca 0, 1634, .inl r10_1)), (o_letter, .inl (ca 0, 60, .inl o_letter_d)), (o_number, .inl (ca 0, 240, .inl o_number_d))]) [2, 3, 0, 1] rfl
    have hD := hD.sub (ws' := [(o, .inr (7, [.ref o_s, .ref o_saved, .int o_savedCount, .ref o_text, .int o_textLength, .int o_code, .int o_pieceCount, .ref o_pieceCell, .int o_at, .int o_commands, .ref o_letter, .ref o_number, .ref o_before, .long o_hash])), (o_s, .inl (ca 0, 1634, .inl r10_1)), (o_letter, .inl (ca 0, 60, .inl o_letter_d)), (o_number, .inl (ca 0, 240, .inl o_number_d))]) [2, 3, 0, 1] (by decide) rfl
    cases h
    exact hret 162 ls _ _ hP hD hS rfl dX8_doNow_162
  have h := in_s h c9
  by_cases c11 : y3 = (109 : Int32)
  · have h := ip_s h c11
    refine lv_lookup (off := 111) (tgt := 137) hx hb dX8_doNow_26 (by decide) (by rw [c11]; decide) (by decide) ?_
    refine lv_aload_n hx hb dX8_doNow_137 rfl (lv_at hl 2 rfl) ?_
    refine lv_iload_n hx hb dX8_doNow_138 rfl (lv_at hl 1 rfl) ?_
    refine lv_iload_n hx hb dX8_doNow_139 rfl (lv_at hl 0 rfl) ?_
    obtain ⟨⟨r12_0, r12_1⟩, h_r12, h⟩ := bd_s h
    have h := up2_s h
    refine clVW (As := [.int y1, .int y2]) (rest := []) (wr := [(o_letter, .inl (ca 0, 60, .inl o_letter_d)), (o_number, .inl (ca 0, 240, .inl o_number_d))]) (wn := [(o_letter, .inl (ca 0, 60, .inl o_letter_d)), (o_number, .inl (ca 0, 240, .inl o_number_d)), (o, .inr (7, [.ref o_s, .ref o_saved, .int o_savedCount, .ref o_text, .int o_textLength, .int o_code, .int o_pieceCount, .ref o_pieceCell, .int o_at, .int o_commands, .ref o_letter, .ref o_number, .ref o_before, .long o_hash])), (o_s, .inl (ca 0, 1634, .inl r12_1))]) hx hb hml hown hts gX8_doNow_X8_liftNow rfl 2 kX8_liftNow ⟨Nat.le_of_ble_eq_true rfl, Nat.le_of_ble_eq_true rfl⟩ (ctX8_liftNow l D ca o o_s o_saved o_text o_pieceCell o_letter o_number o_before o_savedCount o_textLength o_code o_pieceCount o_at o_commands o_hash o_s_d y1 y2 _ r12_0 r12_1 h_r12) hP hD hS hA hK [0, 1] [2, 3] rfl (by decide) rfl (by decide) (by decide) 0 7 rfl rfl rfl rfl hl.1 rfl (Nat.le_of_ble_eq_true rfl) ⟨Nat.le_of_ble_eq_true rfl, Nat.le_of_ble_eq_true rfl⟩ dX8_doNow_140 rfl rfl (fun H locs hP hD hS => ?_)
    refine lv_pop hx hb dX8_doNow_143 rfl ?_
    refine lv_goto (tgt := 162) hx hb dX8_doNow_144 (by decide) ?_
    have hP := hP.sub (ws' := [(o, .inr (7, [.ref o_s, .ref o_saved, .int o_savedCount, .ref o_text, .int o_textLength, .int o_code, .int o_pieceCount, .ref o_pieceCell, .int o_at, .int o_commands, .ref o_letter, .ref o_number, .ref o_before, .long o_hash])), (o_s, .inl (ca 0, 1634, .inl r12_1)), (o_letter, .inl (ca 0, 60, .inl o_letter_d)), (o_number, .inl (ca 0, 240, .inl o_number_d))]) [2, 3, 0, 1] rfl
    have hD := hD.sub (ws' := [(o, .inr (7, [.ref o_s, .ref o_saved, .int o_savedCount, .ref o_text, .int o_textLength, .int o_code, .int o_pieceCount, .ref o_pieceCell, .int o_at, .int o_commands, .ref o_letter, .ref o_number, .ref o_before, .long o_hash])), (o_s, .inl (ca 0, 1634, .inl r12_1)), (o_letter, .inl (ca 0, 60, .inl o_letter_d)), (o_number, .inl (ca 0, 240, .inl o_number_d))]) [2, 3, 0, 1] (by decide) rfl
    cases h
    exact hret 162 ls _ _ hP hD hS rfl dX8_doNow_162
  have h := in_s h c11
  by_cases c13 : y3 = (113 : Int32)
  · have h := ip_s h c13
    refine lv_lookup (off := 121) (tgt := 147) hx hb dX8_doNow_26 (by decide) (by rw [c13]; decide) (by decide) ?_
    refine lv_aload_n hx hb dX8_doNow_147 rfl (lv_at hl 2 rfl) ?_
    refine lv_iload_n hx hb dX8_doNow_148 rfl (lv_at hl 1 rfl) ?_
    refine lv_iload_n hx hb dX8_doNow_149 rfl (lv_at hl 0 rfl) ?_
    obtain ⟨⟨r14_0, r14_1⟩, h_r14, h⟩ := bd_s h
    have h := up2_s h
    refine clVW (As := [.int y1, .int y2]) (rest := []) (wr := [(o_letter, .inl (ca 0, 60, .inl o_letter_d)), (o_number, .inl (ca 0, 240, .inl o_number_d))]) (wn := [(o_letter, .inl (ca 0, 60, .inl o_letter_d)), (o_number, .inl (ca 0, 240, .inl o_number_d)), (o, .inr (7, [.ref o_s, .ref o_saved, .int o_savedCount, .ref o_text, .int o_textLength, .int o_code, .int o_pieceCount, .ref o_pieceCell, .int o_at, .int o_commands, .ref o_letter, .ref o_number, .ref o_before, .long o_hash])), (o_s, .inl (ca 0, 1634, .inl r14_1))]) hx hb hml hown hts gX8_doNow_X8_collectNow rfl 2 kX8_collectNow ⟨Nat.le_of_ble_eq_true rfl, Nat.le_of_ble_eq_true rfl⟩ (ctX8_collectNow l D ca o o_s o_saved o_text o_pieceCell o_letter o_number o_before o_savedCount o_textLength o_code o_pieceCount o_at o_commands o_hash o_s_d y1 y2 _ r14_0 r14_1 h_r14) hP hD hS hA hK [0, 1] [2, 3] rfl (by decide) rfl (by decide) (by decide) 0 7 rfl rfl rfl rfl hl.1 rfl (Nat.le_of_ble_eq_true rfl) ⟨Nat.le_of_ble_eq_true rfl, Nat.le_of_ble_eq_true rfl⟩ dX8_doNow_150 rfl rfl (fun H locs hP hD hS => ?_)
    refine lv_pop hx hb dX8_doNow_153 rfl ?_
    refine lv_goto (tgt := 162) hx hb dX8_doNow_154 (by decide) ?_
    have hP := hP.sub (ws' := [(o, .inr (7, [.ref o_s, .ref o_saved, .int o_savedCount, .ref o_text, .int o_textLength, .int o_code, .int o_pieceCount, .ref o_pieceCell, .int o_at, .int o_commands, .ref o_letter, .ref o_number, .ref o_before, .long o_hash])), (o_s, .inl (ca 0, 1634, .inl r14_1)), (o_letter, .inl (ca 0, 60, .inl o_letter_d)), (o_number, .inl (ca 0, 240, .inl o_number_d))]) [2, 3, 0, 1] rfl
    have hD := hD.sub (ws' := [(o, .inr (7, [.ref o_s, .ref o_saved, .int o_savedCount, .ref o_text, .int o_textLength, .int o_code, .int o_pieceCount, .ref o_pieceCell, .int o_at, .int o_commands, .ref o_letter, .ref o_number, .ref o_before, .long o_hash])), (o_s, .inl (ca 0, 1634, .inl r14_1)), (o_letter, .inl (ca 0, 60, .inl o_letter_d)), (o_number, .inl (ca 0, 240, .inl o_number_d))]) [2, 3, 0, 1] (by decide) rfl
    cases h
    exact hret 162 ls _ _ hP hD hS rfl dX8_doNow_162
  have h := in_s h c13
  by_cases c15 : y3 = (116 : Int32)
  · have h := ip_s h c15
    refine lv_lookup (off := 98) (tgt := 124) hx hb dX8_doNow_26 (by decide) (by rw [c15]; decide) (by decide) ?_
    refine lv_aload_n hx hb dX8_doNow_124 rfl (lv_at hl 2 rfl) ?_
    refine gtF (ci := 7) (v := .ref o_s) (C := RX8) (T := TX8) (N := 14) hx hb hts inX8_doNow_X8 hown hK hP 0 rfl rfl 0 (by decide) mwX8_doNow_2 rfl rfl dX8_doNow_125 ?_
    refine lv_iconst (v := (1 : Int32)) hx hb dX8_doNow_128 (by decide) ?_
    refine lv_dup2_11 hx hb dX8_doNow_129 rfl rfl ?_
    obtain ⟨hin, y16, e_y16, h⟩ := rd_s h
    refine ldI hx hb hK hP 1 rfl hin dX8_doNow_130 ?_
    refine top_i e_y16 ?_
    refine lv_iload_n hx hb dX8_doNow_131 rfl (lv_at hl 1 rfl) ?_
    refine lv_iadd hx hb dX8_doNow_132 ?_
    obtain ⟨hin, g17, e_g17, h⟩ := wr_s h
    refine stI (wn := [(o, .inr (7, [.ref o_s, .ref o_saved, .int o_savedCount, .ref o_text, .int o_textLength, .int o_code, .int o_pieceCount, .ref o_pieceCell, .int o_at, .int o_commands, .ref o_letter, .ref o_number, .ref o_before, .long o_hash])), (o_s, .inl (ca 0, 1634, .inl g17)), (o_letter, .inl (ca 0, 60, .inl o_letter_d)), (o_number, .inl (ca 0, 240, .inl o_number_d))]) hx hb hK hP hD hS 1 rfl hin e_g17 rfl dX8_doNow_133 (fun H locs hP hD hS => ?_)
    refine lv_goto (tgt := 162) hx hb dX8_doNow_134 (by decide) ?_
    cases h
    exact hret 162 ls _ _ hP hD hS rfl dX8_doNow_162
  have h := in_s h c15
  refine lv_lookup (off := 131) (tgt := 157) hx hb dX8_doNow_26 (by decide) (sw_out _ [(97 : Int32), (101 : Int32), (109 : Int32), (113 : Int32), (116 : Int32)] (fun k hk => by simp only [List.mem_cons, List.mem_nil_iff, or_false] at hk; rcases hk with rfl | rfl | rfl | rfl | rfl <;> assumption) (by decide)) (by decide) ?_
  refine lv_aload_n hx hb dX8_doNow_157 rfl (lv_at hl 2 rfl) ?_
  obtain ⟨⟨r18_0, r18_1⟩, h_r18, h⟩ := bd_s h
  have h := up2_s h
  refine clVW (As := []) (rest := []) (wr := [(o_letter, .inl (ca 0, 60, .inl o_letter_d)), (o_number, .inl (ca 0, 240, .inl o_number_d))]) (wn := [(o_letter, .inl (ca 0, 60, .inl o_letter_d)), (o_number, .inl (ca 0, 240, .inl o_number_d)), (o, .inr (7, [.ref o_s, .ref o_saved, .int o_savedCount, .ref o_text, .int o_textLength, .int o_code, .int o_pieceCount, .ref o_pieceCell, .int o_at, .int o_commands, .ref o_letter, .ref o_number, .ref o_before, .long o_hash])), (o_s, .inl (ca 0, 1634, .inl r18_1))]) hx hb hml hown hts gX8_doNow_X8_solveNow rfl 0 kX8_solveNow ⟨Nat.le_of_ble_eq_true rfl, Nat.le_of_ble_eq_true rfl⟩ (ctX8_solveNow l D ca o o_s o_saved o_text o_pieceCell o_letter o_number o_before o_savedCount o_textLength o_code o_pieceCount o_at o_commands o_hash o_s_d  _ r18_0 r18_1 h_r18) hP hD hS hA hK [0, 1] [2, 3] rfl (by decide) rfl (by decide) (by decide) 0 7 rfl rfl rfl rfl hl.1 rfl (Nat.le_of_ble_eq_true rfl) ⟨Nat.le_of_ble_eq_true rfl, Nat.le_of_ble_eq_true rfl⟩ dX8_doNow_158 rfl rfl (fun H locs hP hD hS => ?_)
  refine lv_pop hx hb dX8_doNow_161 rfl ?_
  have hP := hP.sub (ws' := [(o, .inr (7, [.ref o_s, .ref o_saved, .int o_savedCount, .ref o_text, .int o_textLength, .int o_code, .int o_pieceCount, .ref o_pieceCell, .int o_at, .int o_commands, .ref o_letter, .ref o_number, .ref o_before, .long o_hash])), (o_s, .inl (ca 0, 1634, .inl r18_1)), (o_letter, .inl (ca 0, 60, .inl o_letter_d)), (o_number, .inl (ca 0, 240, .inl o_number_d))]) [2, 3, 0, 1] rfl
  have hD := hD.sub (ws' := [(o, .inr (7, [.ref o_s, .ref o_saved, .int o_savedCount, .ref o_text, .int o_textLength, .int o_code, .int o_pieceCount, .ref o_pieceCell, .int o_at, .int o_commands, .ref o_letter, .ref o_number, .ref o_before, .long o_hash])), (o_s, .inl (ca 0, 1634, .inl r18_1)), (o_letter, .inl (ca 0, 60, .inl o_letter_d)), (o_number, .inl (ca 0, 240, .inl o_number_d))]) [2, 3, 0, 1] (by decide) rfl
  cases h
  exact hret 162 ls _ _ hP hD hS rfl dX8_doNow_162
theorem mwX8_exchange_0 : Cond.fieldLink RX8 7 "SegmentTimesModel" "s" "[I" ∈ wsX8_exchange := List.mem_of_getElem? (i := 1) rfl
theorem mwX8_exchange_1 : Cond.fieldLink RX8 28 "SegmentTimesModel" "before" "[I" ∈ wsX8_exchange := List.mem_of_getElem? (i := 2) rfl
theorem inX8_exchange_X8 : ∀ w ∈ u_ws RX8 TX8 14, w ∈ wsX8_exchange := fun w h => List.mem_cons_of_mem _ (List.mem_append_right _ (h))
theorem kX8_exchange : yX8_exchange.cls = RX8 ∧ yX8_exchange.cls ≠ "java/lang/invoke/MethodHandle" ∧ yX8_exchange.cls ≠ "java/lang/invoke/VarHandle" ∧ (parseMethodDescriptor yX8_exchange.desc).map (fun d => d.parameters.length) = some 0 := by decide +kernel
set_option maxHeartbeats 4000000 in
set_option maxRecDepth 100000 in
theorem ctX8_exchange (l : Launch) (D : va_G) (ca : Nat → ClassId) (o : Nat) (o_s : Nat) (o_saved : Nat) (o_text : Nat) (o_pieceCell : Nat) (o_letter : Nat) (o_number : Nat) (o_before : Nat) (o_savedCount : Int32) (o_textLength : Int32) (o_code : Int32) (o_pieceCount : Int32) (o_at : Int32) (o_commands : Int32) (o_hash : Int64) (o_s_d : Nat → Int32) (o_before_d : Nat → Int32)  (sz : Nat) (u0 : Nat → Int32) (u1 : Nat → Int32) (hf : fX8_exchange o_s_d o_before_d = some (u0, u1)) : MW l yX8_exchange wsX8_exchange 0 0 D ca [.ref o] sz [(o, .inr (7, [.ref o_s, .ref o_saved, .int o_savedCount, .ref o_text, .int o_textLength, .int o_code, .int o_pieceCount, .ref o_pieceCell, .int o_at, .int o_commands, .ref o_letter, .ref o_number, .ref o_before, .long o_hash])), (o_s, .inl (ca 0, 1634, .inl o_s_d)), (o_before, .inl (ca 0, 1634, .inl o_before_d))] none [(o, .inr (7, [.ref o_s, .ref o_saved, .int o_savedCount, .ref o_text, .int o_textLength, .int o_code, .int o_pieceCount, .ref o_pieceCell, .int o_at, .int o_commands, .ref o_letter, .ref o_number, .ref o_before, .long o_hash])), (o_s, .inl (ca 0, 1634, .inl u0)), (o_before, .inl (ca 0, 1634, .inl u1))] := by
  refine hdWv (by decide +kernel) rfl (Nat.le_of_ble_eq_true rfl) rfl ?_
  intro p e s m args below meth c A Q hx hb hml hown hts hP hD hK hA hS hret ls hl
  have hown : s.vm.findClass RX8 = some m.cls := hown
  have hl : lv_has ls 3 [(0, .ref o)] := hl
  have h := hf
  unfold fX8_exchange at h
  clear hf
  have L2 : ∀  (n : Nat) (l1 : Int32) (w_o_s_d : Nat → Int32) (w_o_before_d : Nat → Int32), lp (fun q => bX8_exchange_2   q.1 q.2.1 q.2.2) n (l1, w_o_s_d, w_o_before_d) = some (u0, u1) → ∀ (H : Heap) (locs : List Loc), va_P D vwCl [(o, .inr (7, [.ref o_s, .ref o_saved, .int o_savedCount, .ref o_text, .int o_textLength, .int o_code, .int o_pieceCount, .ref o_pieceCell, .int o_at, .int o_commands, .ref o_letter, .ref o_number, .ref o_before, .long o_hash])), (o_s, .inl (ca 0, 1634, .inl w_o_s_d)), (o_before, .inl (ca 0, 1634, .inl w_o_before_d))] H → va_D A [(o, .inr (7, [.ref o_s, .ref o_saved, .int o_savedCount, .ref o_text, .int o_textLength, .int o_code, .int o_pieceCount, .ref o_pieceCell, .int o_at, .int o_commands, .ref o_letter, .ref o_number, .ref o_before, .long o_hash])), (o_s, .inl (ca 0, 1634, .inl w_o_s_d)), (o_before, .inl (ca 0, 1634, .inl w_o_before_d))] → va_S A s.heap H locs → ∀ ls, lv_has ls 3 [(0, .ref o), (1, .int l1)] → W p l e ({ frames := 0, cells := 0, slots := 0, locals := 0 }) s m args below meth c H locs 0 0 Q (F0 m 2 ls []) := by
    intro  n
    induction n with
    | zero => intro l1 w_o_s_d w_o_before_d h; exact (lp_0 h).elim
    | succ n ih2 =>
      intro l1 w_o_s_d w_o_before_d h H locs hP hD hS ls hl
      obtain ⟨q2, h, hq2⟩ := lp_s h
      have h : bX8_exchange_2   l1 w_o_s_d w_o_before_d = some q2 := h
      unfold bX8_exchange_2 at h
      refine lv_iload_n hx hb dX8_exchange_2 rfl (lv_at hl 1 rfl) ?_
      refine lv_sipush (v := (1634 : Int32)) hx hb dX8_exchange_3 (by decide) ?_
      refine lv_icmp_ge (tgt := 41) hx hb dX8_exchange_6 (by decide) (fun c1 => ?_) (fun c1 => ?_)
      · have h := ip_s h c1
        have h := xt_s hq2 h
        cases h
        exact hret 41 ls _ _ hP hD hS rfl dX8_exchange_41
      · have h := in_s h c1
        refine lv_aload_n hx hb dX8_exchange_9 rfl (lv_at hl 0 rfl) ?_
        refine gtF (ci := 7) (v := .ref o_s) (C := RX8) (T := TX8) (N := 14) hx hb hts inX8_exchange_X8 hown hK hP 0 rfl rfl 0 (by decide) mwX8_exchange_0 rfl rfl dX8_exchange_10 ?_
        refine lv_iload_n hx hb dX8_exchange_13 rfl (lv_at hl 1 rfl) ?_
        obtain ⟨hin, y2, e_y2, h⟩ := rd_s h
        refine ldI hx hb hK hP 1 rfl hin dX8_exchange_14 ?_
        refine top_i e_y2 ?_
        refine lv_istore_n (lv' := [(2, .int y2), (0, .ref o), (1, .int l1)]) hx hb dX8_exchange_15 rfl hl (by decide) rfl (fun ls hl => ?_)
        refine lv_aload_n hx hb dX8_exchange_16 rfl (lv_at hl 1 rfl) ?_
        refine gtF (ci := 7) (v := .ref o_s) (C := RX8) (T := TX8) (N := 14) hx hb hts inX8_exchange_X8 hown hK hP 0 rfl rfl 0 (by decide) mwX8_exchange_0 rfl rfl dX8_exchange_17 ?_
        refine lv_iload_n hx hb dX8_exchange_20 rfl (lv_at hl 2 rfl) ?_
        refine lv_aload_n hx hb dX8_exchange_21 rfl (lv_at hl 1 rfl) ?_
        refine gtF (ci := 7) (v := .ref o_before) (C := RX8) (T := TX8) (N := 14) hx hb hts inX8_exchange_X8 hown hK hP 0 rfl rfl 12 (by decide) mwX8_exchange_1 rfl rfl dX8_exchange_22 ?_
        refine lv_iload_n hx hb dX8_exchange_25 rfl (lv_at hl 2 rfl) ?_
        obtain ⟨hin, y3, e_y3, h⟩ := rd_s h
        refine ldI hx hb hK hP 2 rfl hin dX8_exchange_26 ?_
        refine top_i e_y3 ?_
        obtain ⟨hin, g4, e_g4, h⟩ := wr_s h
        refine stI (wn := [(o, .inr (7, [.ref o_s, .ref o_saved, .int o_savedCount, .ref o_text, .int o_textLength, .int o_code, .int o_pieceCount, .ref o_pieceCell, .int o_at, .int o_commands, .ref o_letter, .ref o_number, .ref o_before, .long o_hash])), (o_s, .inl (ca 0, 1634, .inl g4)), (o_before, .inl (ca 0, 1634, .inl w_o_before_d))]) hx hb hK hP hD hS 1 rfl hin e_g4 rfl dX8_exchange_27 (fun H locs hP hD hS => ?_)
        refine lv_aload_n hx hb dX8_exchange_28 rfl (lv_at hl 1 rfl) ?_
        refine gtF (ci := 7) (v := .ref o_before) (C := RX8) (T := TX8) (N := 14) hx hb hts inX8_exchange_X8 hown hK hP 0 rfl rfl 12 (by decide) mwX8_exchange_1 rfl rfl dX8_exchange_29 ?_
        refine lv_iload_n hx hb dX8_exchange_32 rfl (lv_at hl 2 rfl) ?_
        refine lv_iload_n hx hb dX8_exchange_33 rfl (lv_at hl 0 rfl) ?_
        obtain ⟨hin, g5, e_g5, h⟩ := wr_s h
        refine stI (wn := [(o, .inr (7, [.ref o_s, .ref o_saved, .int o_savedCount, .ref o_text, .int o_textLength, .int o_code, .int o_pieceCount, .ref o_pieceCell, .int o_at, .int o_commands, .ref o_letter, .ref o_number, .ref o_before, .long o_hash])), (o_s, .inl (ca 0, 1634, .inl g4)), (o_before, .inl (ca 0, 1634, .inl g5))]) hx hb hK hP hD hS 2 rfl hin e_g5 rfl dX8_exchange_34 (fun H locs hP hD hS => ?_)
        obtain ⟨y6, e_y6, h⟩ := nm_s h
        refine lv_iinc (v := y6) (lv' := [(1, .int y6), (2, .int y2), (0, .ref o)]) hx hb dX8_exchange_35 hl (k := 2) rfl (by rw [e_y6]; rfl) (by decide) rfl (fun ls hl => ?_)
        refine lv_goto (tgt := 2) hx hb dX8_exchange_38 (by decide) ?_
        exact ih2 y6 g4 g5 (lp_l hq2 h) _ _ hP hD hS ls (lv_sub hl [2, 0] rfl)
  refine lv_iconst (v := (0 : Int32)) hx hb dX8_exchange_0 (by decide) ?_
  refine lv_istore_n (lv' := [(1, .int (0 : Int32)), (0, .ref o)]) hx hb dX8_exchange_1 rfl hl (by decide) rfl (fun ls hl => ?_)
  exact L2  fuel (0 : Int32) o_s_d o_before_d h _ _ hP hD hS ls (lv_sub hl [1, 0] rfl)
theorem mwX8_carryOut_0 : Cond.fieldLink RX8 31 "SegmentTimesModel" "code" "I" ∈ wsX8_carryOut := List.mem_of_getElem? (i := 1) rfl
theorem mwX8_carryOut_1 : Cond.fieldLink RX8 214 "SegmentTimesModel" "commands" "I" ∈ wsX8_carryOut := List.mem_of_getElem? (i := 5) rfl
theorem mwX8_carryOut_2 : Cond.fieldLink RX8 28 "SegmentTimesModel" "before" "[I" ∈ wsX8_carryOut := List.mem_of_getElem? (i := 3) rfl
theorem mwX8_carryOut_3 : Cond.fieldLink RX8 7 "SegmentTimesModel" "s" "[I" ∈ wsX8_carryOut := List.mem_of_getElem? (i := 4) rfl
theorem mwX8_carryOut_4 : Cond.fieldLink RX8 201 "SegmentTimesModel" "at" "I" ∈ wsX8_carryOut := List.mem_of_getElem? (i := 2) rfl
theorem inX8_carryOut_X8 : ∀ w ∈ u_ws RX8 TX8 14, w ∈ wsX8_carryOut := fun w h => List.mem_cons_of_mem _ (List.mem_append_right _ (h))
theorem kX8_carryOut : yX8_carryOut.cls = RX8 ∧ yX8_carryOut.cls ≠ "java/lang/invoke/MethodHandle" ∧ yX8_carryOut.cls ≠ "java/lang/invoke/VarHandle" ∧ (parseMethodDescriptor yX8_carryOut.desc).map (fun d => d.parameters.length) = some 0 := by decide +kernel
set_option maxHeartbeats 4000000 in
set_option maxRecDepth 100000 in
theorem ctX8_carryOut (l : Launch) (D : va_G) (ca : Nat → ClassId) (o : Nat) (o_s : Nat) (o_saved : Nat) (o_text : Nat) (o_pieceCell : Nat) (o_letter : Nat) (o_number : Nat) (o_before : Nat) (o_savedCount : Int32) (o_textLength : Int32) (o_code : Int32) (o_pieceCount : Int32) (o_at : Int32) (o_commands : Int32) (o_hash : Int64) (o_s_d : Nat → Int32) (o_saved_d : Nat → Int32) (o_text_d : Nat → Int32) (o_letter_d : Nat → Int32) (o_number_d : Nat → Int32) (o_before_d : Nat → Int32)  (sz : Nat) (u0 : Int32) (u1 : Int32) (u2 : Int32) (u3 : Int32) (u4 : Int32) (u5 : Nat → Int32) (u6 : Nat → Int32) (u7 : Nat → Int32) (u8 : Nat → Int32) (u9 : Nat → Int32) (hf : fX8_carryOut o_savedCount o_textLength o_code o_at o_commands o_s_d o_saved_d o_text_d o_letter_d o_number_d o_before_d = some (u0, u1, u2, u3, u4, u5, u6, u7, u8, u9)) : MW l yX8_carryOut wsX8_carryOut 7 163 D ca [.ref o] sz [(o, .inr (7, [.ref o_s, .ref o_saved, .int o_savedCount, .ref o_text, .int o_textLength, .int o_code, .int o_pieceCount, .ref o_pieceCell, .int o_at, .int o_commands, .ref o_letter, .ref o_number, .ref o_before, .long o_hash])), (o_s, .inl (ca 0, 1634, .inl o_s_d)), (o_saved, .inl (ca 0, 6536, .inl o_saved_d)), (o_text, .inl (ca 0, 120, .inl o_text_d)), (o_letter, .inl (ca 0, 60, .inl o_letter_d)), (o_number, .inl (ca 0, 240, .inl o_number_d)), (o_before, .inl (ca 0, 1634, .inl o_before_d))] (some (.int u0)) [(o, .inr (7, [.ref o_s, .ref o_saved, .int u1, .ref o_text, .int o_textLength, .int u2, .int o_pieceCount, .ref o_pieceCell, .int u3, .int u4, .ref o_letter, .ref o_number, .ref o_before, .long o_hash])), (o_s, .inl (ca 0, 1634, .inl u5)), (o_saved, .inl (ca 0, 6536, .inl u6)), (o_text, .inl (ca 0, 120, .inl o_text_d)), (o_letter, .inl (ca 0, 60, .inl u7)), (o_number, .inl (ca 0, 240, .inl u8)), (o_before, .inl (ca 0, 1634, .inl u9))] := by
  refine hdWi (by decide +kernel) rfl (Nat.le_of_ble_eq_true rfl) ?_
  intro p e s m args below meth c A Q hx hb hml hown hts hP hD hK hA hS hret ls hl
  have hown : s.vm.findClass RX8 = some m.cls := hown
  have hl : lv_has ls 2 [(0, .ref o)] := hl
  have h := hf
  unfold fX8_carryOut at h
  clear hf
  have L49 : ∀ (w_o_savedCount : Int32) (w_o_code : Int32) (w_o_at : Int32) (w_o_commands : Int32) (w_o_saved_d : Nat → Int32) (w_o_letter_d : Nat → Int32) (w_o_number_d : Nat → Int32) (w_o_before_d : Nat → Int32) (n : Nat) (l1 : Int32) (w_o_s_d : Nat → Int32), lp (fun q => bX8_carryOut_49  w_o_savedCount w_o_code w_o_at w_o_commands w_o_saved_d w_o_letter_d w_o_number_d w_o_before_d q.1 q.2) n (l1, w_o_s_d) = some (u0, u1, u2, u3, u4, u5, u6, u7, u8, u9) → ∀ (H : Heap) (locs : List Loc), va_P D vwCl [(o, .inr (7, [.ref o_s, .ref o_saved, .int w_o_savedCount, .ref o_text, .int o_textLength, .int w_o_code, .int o_pieceCount, .ref o_pieceCell, .int w_o_at, .int w_o_commands, .ref o_letter, .ref o_number, .ref o_before, .long o_hash])), (o_s, .inl (ca 0, 1634, .inl w_o_s_d)), (o_saved, .inl (ca 0, 6536, .inl w_o_saved_d)), (o_text, .inl (ca 0, 120, .inl o_text_d)), (o_letter, .inl (ca 0, 60, .inl w_o_letter_d)), (o_number, .inl (ca 0, 240, .inl w_o_number_d)), (o_before, .inl (ca 0, 1634, .inl w_o_before_d))] H → va_D A [(o, .inr (7, [.ref o_s, .ref o_saved, .int w_o_savedCount, .ref o_text, .int o_textLength, .int w_o_code, .int o_pieceCount, .ref o_pieceCell, .int w_o_at, .int w_o_commands, .ref o_letter, .ref o_number, .ref o_before, .long o_hash])), (o_s, .inl (ca 0, 1634, .inl w_o_s_d)), (o_saved, .inl (ca 0, 6536, .inl w_o_saved_d)), (o_text, .inl (ca 0, 120, .inl o_text_d)), (o_letter, .inl (ca 0, 60, .inl w_o_letter_d)), (o_number, .inl (ca 0, 240, .inl w_o_number_d)), (o_before, .inl (ca 0, 1634, .inl w_o_before_d))] → va_S A s.heap H locs → ∀ ls, lv_has ls 2 [(0, .ref o), (1, .int l1)] → W p l e ({ frames := 7, cells := 0, slots := 0, locals := 163 }) s m args below meth c H locs 0 0 Q (F0 m 49 ls []) := by
    intro w_o_savedCount w_o_code w_o_at w_o_commands w_o_saved_d w_o_letter_d w_o_number_d w_o_before_d n
    induction n with
    | zero => intro l1 w_o_s_d h; exact (lp_0 h).elim
    | succ n ih49 =>
      intro l1 w_o_s_d h H locs hP hD hS ls hl
      obtain ⟨q49, h, hq49⟩ := lp_s h
      have h : bX8_carryOut_49  w_o_savedCount w_o_code w_o_at w_o_commands w_o_saved_d w_o_letter_d w_o_number_d w_o_before_d l1 w_o_s_d = some q49 := h
      unfold bX8_carryOut_49 at h
      refine lv_iload_n hx hb dX8_carryOut_49 rfl (lv_at hl 1 rfl) ?_
      refine lv_aload_n hx hb dX8_carryOut_50 rfl (lv_at hl 0 rfl) ?_
      refine gtF (ci := 7) (v := .int w_o_commands) (C := RX8) (T := TX8) (N := 14) hx hb hts inX8_carryOut_X8 hown hK hP 0 rfl rfl 9 (by decide) mwX8_carryOut_1 rfl rfl dX8_carryOut_51 ?_
      refine lv_icmp_ge (tgt := 86) hx hb dX8_carryOut_54 (by decide) (fun c1 => ?_) (fun c1 => ?_)
      · have h := ip_s h c1
        have h := xt_s hq49 h
        refine lv_aload_n hx hb dX8_carryOut_86 rfl (lv_at hl 0 rfl) ?_
        obtain ⟨⟨r2_0, r2_1⟩, h_r2, h⟩ := bd_s h
        have h := up2_s h
        refine clVW (As := []) (rest := []) (wr := [(o_saved, .inl (ca 0, 6536, .inl w_o_saved_d)), (o_text, .inl (ca 0, 120, .inl o_text_d)), (o_letter, .inl (ca 0, 60, .inl w_o_letter_d)), (o_number, .inl (ca 0, 240, .inl w_o_number_d))]) (wn := [(o_saved, .inl (ca 0, 6536, .inl w_o_saved_d)), (o_text, .inl (ca 0, 120, .inl o_text_d)), (o_letter, .inl (ca 0, 60, .inl w_o_letter_d)), (o_number, .inl (ca 0, 240, .inl w_o_number_d)), (o, .inr (7, [.ref o_s, .ref o_saved, .int w_o_savedCount, .ref o_text, .int o_textLength, .int w_o_code, .int o_pieceCount, .ref o_pieceCell, .int w_o_at, .int w_o_commands, .ref o_letter, .ref o_number, .ref o_before, .long o_hash])), (o_s, .inl (ca 0, 1634, .inl r2_0)), (o_before, .inl (ca 0, 1634, .inl r2_1))]) hx hb hml hown hts gX8_carryOut_X8_exchange rfl 0 kX8_exchange ⟨Nat.le_of_ble_eq_true rfl, Nat.le_of_ble_eq_true rfl⟩ (ctX8_exchange l D ca o o_s o_saved o_text o_pieceCell o_letter o_number o_before w_o_savedCount o_textLength w_o_code o_pieceCount w_o_at w_o_commands o_hash w_o_s_d w_o_before_d  _ r2_0 r2_1 h_r2) hP hD hS hA hK [0, 1, 6] [2, 3, 4, 5] rfl (by decide) rfl (by decide) (by decide) 0 7 rfl rfl rfl rfl hl.1 rfl (Nat.le_of_ble_eq_true rfl) ⟨Nat.le_of_ble_eq_true rfl, Nat.le_of_ble_eq_true rfl⟩ dX8_carryOut_87 rfl rfl (fun H locs hP hD hS => ?_)
        refine lv_aload_n hx hb dX8_carryOut_90 rfl (lv_at hl 0 rfl) ?_
        obtain ⟨⟨r3_0, r3_1⟩, h_r3, h⟩ := bd_s h
        have h := up2_s h
        refine clVW (As := []) (rest := []) (wr := [(o_text, .inl (ca 0, 120, .inl o_text_d)), (o_letter, .inl (ca 0, 60, .inl w_o_letter_d)), (o_number, .inl (ca 0, 240, .inl w_o_number_d)), (o_before, .inl (ca 0, 1634, .inl r2_1))]) (wn := [(o_text, .inl (ca 0, 120, .inl o_text_d)), (o_letter, .inl (ca 0, 60, .inl w_o_letter_d)), (o_number, .inl (ca 0, 240, .inl w_o_number_d)), (o_before, .inl (ca 0, 1634, .inl r2_1)), (o, .inr (7, [.ref o_s, .ref o_saved, .int r3_0, .ref o_text, .int o_textLength, .int w_o_code, .int o_pieceCount, .ref o_pieceCell, .int w_o_at, .int w_o_commands, .ref o_letter, .ref o_number, .ref o_before, .long o_hash])), (o_s, .inl (ca 0, 1634, .inl r2_0)), (o_saved, .inl (ca 0, 6536, .inl r3_1))]) hx hb hml hown hts gX8_carryOut_X8_keep rfl 0 kX8_keep ⟨Nat.le_of_ble_eq_true rfl, Nat.le_of_ble_eq_true rfl⟩ (ctX8_keep l D ca o o_s o_saved o_text o_pieceCell o_letter o_number o_before w_o_savedCount o_textLength w_o_code o_pieceCount w_o_at w_o_commands o_hash r2_0 w_o_saved_d  _ r3_0 r3_1 h_r3) hP hD hS hA hK [4, 5, 0] [1, 2, 3, 6] rfl (by decide) rfl (by decide) (by decide) 0 7 rfl rfl rfl rfl hl.1 rfl (Nat.le_of_ble_eq_true rfl) ⟨Nat.le_of_ble_eq_true rfl, Nat.le_of_ble_eq_true rfl⟩ dX8_carryOut_91 rfl rfl (fun H locs hP hD hS => ?_)
        refine lv_aload_n hx hb dX8_carryOut_94 rfl (lv_at hl 0 rfl) ?_
        obtain ⟨⟨r4_0, r4_1⟩, h_r4, h⟩ := bd_s h
        have h := up2_s h
        refine clVW (As := []) (rest := []) (wr := [(o_text, .inl (ca 0, 120, .inl o_text_d)), (o_letter, .inl (ca 0, 60, .inl w_o_letter_d)), (o_number, .inl (ca 0, 240, .inl w_o_number_d)), (o_saved, .inl (ca 0, 6536, .inl r3_1))]) (wn := [(o_text, .inl (ca 0, 120, .inl o_text_d)), (o_letter, .inl (ca 0, 60, .inl w_o_letter_d)), (o_number, .inl (ca 0, 240, .inl w_o_number_d)), (o_saved, .inl (ca 0, 6536, .inl r3_1)), (o, .inr (7, [.ref o_s, .ref o_saved, .int r3_0, .ref o_text, .int o_textLength, .int w_o_code, .int o_pieceCount, .ref o_pieceCell, .int w_o_at, .int w_o_commands, .ref o_letter, .ref o_number, .ref o_before, .long o_hash])), (o_s, .inl (ca 0, 1634, .inl r4_0)), (o_before, .inl (ca 0, 1634, .inl r4_1))]) hx hb hml hown hts gX8_carryOut_X8_exchange rfl 0 kX8_exchange ⟨Nat.le_of_ble_eq_true rfl, Nat.le_of_ble_eq_true rfl⟩ (ctX8_exchange l D ca o o_s o_saved o_text o_pieceCell o_letter o_number o_before r3_0 o_textLength w_o_code o_pieceCount w_o_at w_o_commands o_hash r2_0 r2_1  _ r4_0 r4_1 h_r4) hP hD hS hA hK [4, 5, 3] [0, 1, 2, 6] rfl (by decide) rfl (by decide) (by decide) 0 7 rfl rfl rfl rfl hl.1 rfl (Nat.le_of_ble_eq_true rfl) ⟨Nat.le_of_ble_eq_true rfl, Nat.le_of_ble_eq_true rfl⟩ dX8_carryOut_95 rfl rfl (fun H locs hP hD hS => ?_)
        refine lv_aload_n hx hb dX8_carryOut_98 rfl (lv_at hl 0 rfl) ?_
        refine gtF (ci := 7) (v := .int w_o_commands) (C := RX8) (T := TX8) (N := 14) hx hb hts inX8_carryOut_X8 hown hK hP 4 rfl rfl 9 (by decide) mwX8_carryOut_1 rfl rfl dX8_carryOut_99 ?_
        have hP := hP.sub (ws' := [(o, .inr (7, [.ref o_s, .ref o_saved, .int r3_0, .ref o_text, .int o_textLength, .int w_o_code, .int o_pieceCount, .ref o_pieceCell, .int w_o_at, .int w_o_commands, .ref o_letter, .ref o_number, .ref o_before, .long o_hash])), (o_s, .inl (ca 0, 1634, .inl r4_0)), (o_saved, .inl (ca 0, 6536, .inl r3_1)), (o_text, .inl (ca 0, 120, .inl o_text_d)), (o_letter, .inl (ca 0, 60, .inl w_o_letter_d)), (o_number, .inl (ca 0, 240, .inl w_o_number_d)), (o_before, .inl (ca 0, 1634, .inl r4_1))]) [4, 5, 3, 0, 1, 2, 6] rfl
        have hD := hD.sub (ws' := [(o, .inr (7, [.ref o_s, .ref o_saved, .int r3_0, .ref o_text, .int o_textLength, .int w_o_code, .int o_pieceCount, .ref o_pieceCell, .int w_o_at, .int w_o_commands, .ref o_letter, .ref o_number, .ref o_before, .long o_hash])), (o_s, .inl (ca 0, 1634, .inl r4_0)), (o_saved, .inl (ca 0, 6536, .inl r3_1)), (o_text, .inl (ca 0, 120, .inl o_text_d)), (o_letter, .inl (ca 0, 60, .inl w_o_letter_d)), (o_number, .inl (ca 0, 240, .inl w_o_number_d)), (o_before, .inl (ca 0, 1634, .inl r4_1))]) [4, 5, 3, 0, 1, 2, 6] (by decide) rfl
        cases h
        exact hret 102 ls _ _ _ hP hD hS rfl dX8_carryOut_102
      · have h := in_s h c1
        refine lv_aload_n hx hb dX8_carryOut_57 rfl (lv_at hl 0 rfl) ?_
        refine lv_iload_n hx hb dX8_carryOut_58 rfl (lv_at hl 1 rfl) ?_
        obtain ⟨r5, h_r5, h⟩ := bd_s h
        refine clVR (As := [.int l1]) (rest := []) hx hb hml hown hts gX8_carryOut_X8_whyNotDo rfl 1 kX8_whyNotDo ⟨Nat.le_of_ble_eq_true rfl, Nat.le_of_ble_eq_true rfl⟩ (ctX8_whyNotDo l D ca o o_s o_saved o_text o_pieceCell o_letter o_number o_before w_o_savedCount o_textLength w_o_code o_pieceCount w_o_at w_o_commands o_hash w_o_s_d w_o_letter_d w_o_number_d l1 r5 h_r5) hP hK [0, 1, 4, 5] rfl 0 7 rfl rfl rfl rfl hl.1 rfl (Nat.le_of_ble_eq_true rfl) ⟨Nat.le_of_ble_eq_true rfl, Nat.le_of_ble_eq_true rfl⟩ dX8_carryOut_59 rfl ?_
        refine lv_if_eq (tgt := 75) hx hb dX8_carryOut_62 (by decide) (fun c6 => ?_) (fun c6 => ?_)
        · have h := ip_s h c6
          refine lv_aload_n hx hb dX8_carryOut_75 rfl (lv_at hl 0 rfl) ?_
          refine lv_iload_n hx hb dX8_carryOut_76 rfl (lv_at hl 1 rfl) ?_
          obtain ⟨r7, h_r7, h⟩ := bd_s h
          refine clVW (As := [.int l1]) (rest := []) (wr := [(o_saved, .inl (ca 0, 6536, .inl w_o_saved_d)), (o_text, .inl (ca 0, 120, .inl o_text_d)), (o_before, .inl (ca 0, 1634, .inl w_o_before_d))]) (wn := [(o_saved, .inl (ca 0, 6536, .inl w_o_saved_d)), (o_text, .inl (ca 0, 120, .inl o_text_d)), (o_before, .inl (ca 0, 1634, .inl w_o_before_d)), (o, .inr (7, [.ref o_s, .ref o_saved, .int w_o_savedCount, .ref o_text, .int o_textLength, .int w_o_code, .int o_pieceCount, .ref o_pieceCell, .int w_o_at, .int w_o_commands, .ref o_letter, .ref o_number, .ref o_before, .long o_hash])), (o_s, .inl (ca 0, 1634, .inl r7)), (o_letter, .inl (ca 0, 60, .inl w_o_letter_d)), (o_number, .inl (ca 0, 240, .inl w_o_number_d))]) hx hb hml hown hts gX8_carryOut_X8_doNow rfl 1 kX8_doNow ⟨Nat.le_of_ble_eq_true rfl, Nat.le_of_ble_eq_true rfl⟩ (ctX8_doNow l D ca o o_s o_saved o_text o_pieceCell o_letter o_number o_before w_o_savedCount o_textLength w_o_code o_pieceCount w_o_at w_o_commands o_hash w_o_s_d w_o_letter_d w_o_number_d l1 _ r7 h_r7) hP hD hS hA hK [0, 1, 4, 5] [2, 3, 6] rfl (by decide) rfl (by decide) (by decide) 0 7 rfl rfl rfl rfl hl.1 rfl (Nat.le_of_ble_eq_true rfl) ⟨Nat.le_of_ble_eq_true rfl, Nat.le_of_ble_eq_true rfl⟩ dX8_carryOut_77 rfl rfl (fun H locs hP hD hS => ?_)
          obtain ⟨y8, e_y8, h⟩ := nm_s h
          refine lv_iinc (v := y8) (lv' := [(1, .int y8), (0, .ref o)]) hx hb dX8_carryOut_80 hl (k := 1) rfl (by rw [e_y8]; rfl) (by decide) rfl (fun ls hl => ?_)
          refine lv_goto (tgt := 49) hx hb dX8_carryOut_83 (by decide) ?_
          have hP := hP.sub (ws' := [(o, .inr (7, [.ref o_s, .ref o_saved, .int w_o_savedCount, .ref o_text, .int o_textLength, .int w_o_code, .int o_pieceCount, .ref o_pieceCell, .int w_o_at, .int w_o_commands, .ref o_letter, .ref o_number, .ref o_before, .long o_hash])), (o_s, .inl (ca 0, 1634, .inl r7)), (o_saved, .inl (ca 0, 6536, .inl w_o_saved_d)), (o_text, .inl (ca 0, 120, .inl o_text_d)), (o_letter, .inl (ca 0, 60, .inl w_o_letter_d)), (o_number, .inl (ca 0, 240, .inl w_o_number_d)), (o_before, .inl (ca 0, 1634, .inl w_o_before_d))]) [3, 4, 0, 1, 5, 6, 2] rfl
          have hD := hD.sub (ws' := [(o, .inr (7, [.ref o_s, .ref o_saved, .int w_o_savedCount, .ref o_text, .int o_textLength, .int w_o_code, .int o_pieceCount, .ref o_pieceCell, .int w_o_at, .int w_o_commands, .ref o_letter, .ref o_number, .ref o_before, .long o_hash])), (o_s, .inl (ca 0, 1634, .inl r7)), (o_saved, .inl (ca 0, 6536, .inl w_o_saved_d)), (o_text, .inl (ca 0, 120, .inl o_text_d)), (o_letter, .inl (ca 0, 60, .inl w_o_letter_d)), (o_number, .inl (ca 0, 240, .inl w_o_number_d)), (o_before, .inl (ca 0, 1634, .inl w_o_before_d))]) [3, 4, 0, 1, 5, 6, 2] (by decide) rfl
          exact ih49 y8 r7 (lp_l hq49 h) _ _ hP hD hS ls (lv_sub hl [1, 0] rfl)
        · have h := in_s h c6
          have h := xt_s hq49 h
          refine lv_aload_n hx hb dX8_carryOut_65 rfl (lv_at hl 0 rfl) ?_
          obtain ⟨⟨r9_0, r9_1⟩, h_r9, h⟩ := bd_s h
          have h := up2_s h
          refine clVW (As := []) (rest := []) (wr := [(o_saved, .inl (ca 0, 6536, .inl w_o_saved_d)), (o_text, .inl (ca 0, 120, .inl o_text_d)), (o_letter, .inl (ca 0, 60, .inl w_o_letter_d)), (o_number, .inl (ca 0, 240, .inl w_o_number_d))]) (wn := [(o_saved, .inl (ca 0, 6536, .inl w_o_saved_d)), (o_text, .inl (ca 0, 120, .inl o_text_d)), (o_letter, .inl (ca 0, 60, .inl w_o_letter_d)), (o_number, .inl (ca 0, 240, .inl w_o_number_d)), (o, .inr (7, [.ref o_s, .ref o_saved, .int w_o_savedCount, .ref o_text, .int o_textLength, .int w_o_code, .int o_pieceCount, .ref o_pieceCell, .int w_o_at, .int w_o_commands, .ref o_letter, .ref o_number, .ref o_before, .long o_hash])), (o_s, .inl (ca 0, 1634, .inl r9_0)), (o_before, .inl (ca 0, 1634, .inl r9_1))]) hx hb hml hown hts gX8_carryOut_X8_exchange rfl 0 kX8_exchange ⟨Nat.le_of_ble_eq_true rfl, Nat.le_of_ble_eq_true rfl⟩ (ctX8_exchange l D ca o o_s o_saved o_text o_pieceCell o_letter o_number o_before w_o_savedCount o_textLength w_o_code o_pieceCount w_o_at w_o_commands o_hash w_o_s_d w_o_before_d  _ r9_0 r9_1 h_r9) hP hD hS hA hK [0, 1, 6] [2, 3, 4, 5] rfl (by decide) rfl (by decide) (by decide) 0 7 rfl rfl rfl rfl hl.1 rfl (Nat.le_of_ble_eq_true rfl) ⟨Nat.le_of_ble_eq_true rfl, Nat.le_of_ble_eq_true rfl⟩ dX8_carryOut_66 rfl rfl (fun H locs hP hD hS => ?_)
          refine lv_sipush (v := (-1000 : Int32)) hx hb dX8_carryOut_69 (by decide) ?_
          refine lv_iload_n hx hb dX8_carryOut_72 rfl (lv_at hl 1 rfl) ?_
          refine lv_isub hx hb dX8_carryOut_73 ?_
          obtain ⟨y10, e_y10, h⟩ := nm_s h
          refine top_i e_y10 ?_
          have hP := hP.sub (ws' := [(o, .inr (7, [.ref o_s, .ref o_saved, .int w_o_savedCount, .ref o_text, .int o_textLength, .int w_o_code, .int o_pieceCount, .ref o_pieceCell, .int w_o_at, .int w_o_commands, .ref o_letter, .ref o_number, .ref o_before, .long o_hash])), (o_s, .inl (ca 0, 1634, .inl r9_0)), (o_saved, .inl (ca 0, 6536, .inl w_o_saved_d)), (o_text, .inl (ca 0, 120, .inl o_text_d)), (o_letter, .inl (ca 0, 60, .inl w_o_letter_d)), (o_number, .inl (ca 0, 240, .inl w_o_number_d)), (o_before, .inl (ca 0, 1634, .inl r9_1))]) [4, 5, 0, 1, 2, 3, 6] rfl
          have hD := hD.sub (ws' := [(o, .inr (7, [.ref o_s, .ref o_saved, .int w_o_savedCount, .ref o_text, .int o_textLength, .int w_o_code, .int o_pieceCount, .ref o_pieceCell, .int w_o_at, .int w_o_commands, .ref o_letter, .ref o_number, .ref o_before, .long o_hash])), (o_s, .inl (ca 0, 1634, .inl r9_0)), (o_saved, .inl (ca 0, 6536, .inl w_o_saved_d)), (o_text, .inl (ca 0, 120, .inl o_text_d)), (o_letter, .inl (ca 0, 60, .inl w_o_letter_d)), (o_number, .inl (ca 0, 240, .inl w_o_number_d)), (o_before, .inl (ca 0, 1634, .inl r9_1))]) [4, 5, 0, 1, 2, 3, 6] (by decide) rfl
          cases h
          exact hret 74 ls _ _ _ hP hD hS rfl dX8_carryOut_74
  have L22 : ∀ (w_o_savedCount : Int32) (w_o_code : Int32) (w_o_at : Int32) (w_o_commands : Int32) (w_o_s_d : Nat → Int32) (w_o_saved_d : Nat → Int32) (w_o_letter_d : Nat → Int32) (w_o_number_d : Nat → Int32) (n : Nat) (l1 : Int32) (w_o_before_d : Nat → Int32), lp (fun q => bX8_carryOut_22  w_o_savedCount w_o_code w_o_at w_o_commands w_o_s_d w_o_saved_d w_o_letter_d w_o_number_d q.1 q.2) n (l1, w_o_before_d) = some (u0, u1, u2, u3, u4, u5, u6, u7, u8, u9) → ∀ (H : Heap) (locs : List Loc), va_P D vwCl [(o, .inr (7, [.ref o_s, .ref o_saved, .int w_o_savedCount, .ref o_text, .int o_textLength, .int w_o_code, .int o_pieceCount, .ref o_pieceCell, .int w_o_at, .int w_o_commands, .ref o_letter, .ref o_number, .ref o_before, .long o_hash])), (o_s, .inl (ca 0, 1634, .inl w_o_s_d)), (o_saved, .inl (ca 0, 6536, .inl w_o_saved_d)), (o_text, .inl (ca 0, 120, .inl o_text_d)), (o_letter, .inl (ca 0, 60, .inl w_o_letter_d)), (o_number, .inl (ca 0, 240, .inl w_o_number_d)), (o_before, .inl (ca 0, 1634, .inl w_o_before_d))] H → va_D A [(o, .inr (7, [.ref o_s, .ref o_saved, .int w_o_savedCount, .ref o_text, .int o_textLength, .int w_o_code, .int o_pieceCount, .ref o_pieceCell, .int w_o_at, .int w_o_commands, .ref o_letter, .ref o_number, .ref o_before, .long o_hash])), (o_s, .inl (ca 0, 1634, .inl w_o_s_d)), (o_saved, .inl (ca 0, 6536, .inl w_o_saved_d)), (o_text, .inl (ca 0, 120, .inl o_text_d)), (o_letter, .inl (ca 0, 60, .inl w_o_letter_d)), (o_number, .inl (ca 0, 240, .inl w_o_number_d)), (o_before, .inl (ca 0, 1634, .inl w_o_before_d))] → va_S A s.heap H locs → ∀ ls, lv_has ls 2 [(0, .ref o), (1, .int l1)] → W p l e ({ frames := 7, cells := 0, slots := 0, locals := 163 }) s m args below meth c H locs 0 0 Q (F0 m 22 ls []) := by
    intro w_o_savedCount w_o_code w_o_at w_o_commands w_o_s_d w_o_saved_d w_o_letter_d w_o_number_d n
    induction n with
    | zero => intro l1 w_o_before_d h; exact (lp_0 h).elim
    | succ n ih22 =>
      intro l1 w_o_before_d h H locs hP hD hS ls hl
      obtain ⟨q22, h, hq22⟩ := lp_s h
      have h : bX8_carryOut_22  w_o_savedCount w_o_code w_o_at w_o_commands w_o_s_d w_o_saved_d w_o_letter_d w_o_number_d l1 w_o_before_d = some q22 := h
      unfold bX8_carryOut_22 at h
      refine lv_iload_n hx hb dX8_carryOut_22 rfl (lv_at hl 1 rfl) ?_
      refine lv_sipush (v := (1634 : Int32)) hx hb dX8_carryOut_23 (by decide) ?_
      refine lv_icmp_ge (tgt := 47) hx hb dX8_carryOut_26 (by decide) (fun c1 => ?_) (fun c1 => ?_)
      · have h := ip_s h c1
        have h := xt_s hq22 h
        refine lv_iconst (v := (0 : Int32)) hx hb dX8_carryOut_47 (by decide) ?_
        refine lv_istore_n (lv' := [(1, .int (0 : Int32)), (0, .ref o)]) hx hb dX8_carryOut_48 rfl hl (by decide) rfl (fun ls hl => ?_)
        exact L49 w_o_savedCount w_o_code w_o_at w_o_commands w_o_saved_d w_o_letter_d w_o_number_d w_o_before_d fuel (0 : Int32) w_o_s_d h _ _ hP hD hS ls (lv_sub hl [1, 0] rfl)
      · have h := in_s h c1
        refine lv_aload_n hx hb dX8_carryOut_29 rfl (lv_at hl 0 rfl) ?_
        refine gtF (ci := 7) (v := .ref o_before) (C := RX8) (T := TX8) (N := 14) hx hb hts inX8_carryOut_X8 hown hK hP 0 rfl rfl 12 (by decide) mwX8_carryOut_2 rfl rfl dX8_carryOut_30 ?_
        refine lv_iload_n hx hb dX8_carryOut_33 rfl (lv_at hl 1 rfl) ?_
        refine lv_aload_n hx hb dX8_carryOut_34 rfl (lv_at hl 0 rfl) ?_
        refine gtF (ci := 7) (v := .ref o_s) (C := RX8) (T := TX8) (N := 14) hx hb hts inX8_carryOut_X8 hown hK hP 0 rfl rfl 0 (by decide) mwX8_carryOut_3 rfl rfl dX8_carryOut_35 ?_
        refine lv_iload_n hx hb dX8_carryOut_38 rfl (lv_at hl 1 rfl) ?_
        obtain ⟨hin, y11, e_y11, h⟩ := rd_s h
        refine ldI hx hb hK hP 1 rfl hin dX8_carryOut_39 ?_
        refine top_i e_y11 ?_
        obtain ⟨hin, g12, e_g12, h⟩ := wr_s h
        refine stI (wn := [(o, .inr (7, [.ref o_s, .ref o_saved, .int w_o_savedCount, .ref o_text, .int o_textLength, .int w_o_code, .int o_pieceCount, .ref o_pieceCell, .int w_o_at, .int w_o_commands, .ref o_letter, .ref o_number, .ref o_before, .long o_hash])), (o_s, .inl (ca 0, 1634, .inl w_o_s_d)), (o_saved, .inl (ca 0, 6536, .inl w_o_saved_d)), (o_text, .inl (ca 0, 120, .inl o_text_d)), (o_letter, .inl (ca 0, 60, .inl w_o_letter_d)), (o_number, .inl (ca 0, 240, .inl w_o_number_d)), (o_before, .inl (ca 0, 1634, .inl g12))]) hx hb hK hP hD hS 6 rfl hin e_g12 rfl dX8_carryOut_40 (fun H locs hP hD hS => ?_)
        obtain ⟨y13, e_y13, h⟩ := nm_s h
        refine lv_iinc (v := y13) (lv' := [(1, .int y13), (0, .ref o)]) hx hb dX8_carryOut_41 hl (k := 1) rfl (by rw [e_y13]; rfl) (by decide) rfl (fun ls hl => ?_)
        refine lv_goto (tgt := 22) hx hb dX8_carryOut_44 (by decide) ?_
        exact ih22 y13 g12 (lp_l hq22 h) _ _ hP hD hS ls (lv_sub hl [1, 0] rfl)
  refine lv_aload_n hx hb dX8_carryOut_0 rfl (lv_at hl 0 rfl) ?_
  refine lv_iconst (v := (0 : Int32)) hx hb dX8_carryOut_1 (by decide) ?_
  refine ptI (ci := 7) (v := .int (0 : Int32)) (ty := .int) (C := RX8) (T := TX8) (N := 14) (wn := [(o, .inr (7, [.ref o_s, .ref o_saved, .int o_savedCount, .ref o_text, .int o_textLength, .int (0 : Int32), .int o_pieceCount, .ref o_pieceCell, .int o_at, .int o_commands, .ref o_letter, .ref o_number, .ref o_before, .long o_hash])), (o_s, .inl (ca 0, 1634, .inl o_s_d)), (o_saved, .inl (ca 0, 6536, .inl o_saved_d)), (o_text, .inl (ca 0, 120, .inl o_text_d)), (o_letter, .inl (ca 0, 60, .inl o_letter_d)), (o_number, .inl (ca 0, 240, .inl o_number_d)), (o_before, .inl (ca 0, 1634, .inl o_before_d))]) hx hb hts inX8_carryOut_X8 tyX8 tyX8_ok nmX8 hown hK hP hD hS 0 rfl rfl 5 (by decide) mwX8_carryOut_0 rfl rfl (by decide +kernel) rfl rfl (Nat.le_of_ble_eq_true rfl) rfl dX8_carryOut_2 (fun H locs hP hD hS => ?_)
  refine lv_aload_n hx hb dX8_carryOut_5 rfl (lv_at hl 0 rfl) ?_
  obtain ⟨⟨r1_0, r1_1, r1_2, r1_3, r1_4⟩, h_r1, h⟩ := bd_s h
  have h := up5_s h
  refine clVW (As := []) (rest := []) (wr := [(o_s, .inl (ca 0, 1634, .inl o_s_d)), (o_saved, .inl (ca 0, 6536, .inl o_saved_d)), (o_before, .inl (ca 0, 1634, .inl o_before_d))]) (wn := [(o_s, .inl (ca 0, 1634, .inl o_s_d)), (o_saved, .inl (ca 0, 6536, .inl o_saved_d)), (o_before, .inl (ca 0, 1634, .inl o_before_d)), (o, .inr (7, [.ref o_s, .ref o_saved, .int o_savedCount, .ref o_text, .int o_textLength, .int (0 : Int32), .int o_pieceCount, .ref o_pieceCell, .int r1_1, .int r1_2, .ref o_letter, .ref o_number, .ref o_before, .long o_hash])), (o_text, .inl (ca 0, 120, .inl o_text_d)), (o_letter, .inl (ca 0, 60, .inl r1_3)), (o_number, .inl (ca 0, 240, .inl r1_4))]) hx hb hml hown hts gX8_carryOut_X8_readsAll rfl 0 kX8_readsAll ⟨Nat.le_of_ble_eq_true rfl, Nat.le_of_ble_eq_true rfl⟩ (ctX8_readsAll l D ca o o_s o_saved o_text o_pieceCell o_letter o_number o_before o_savedCount o_textLength (0 : Int32) o_pieceCount o_at o_commands o_hash o_text_d o_letter_d o_number_d  _ r1_0 r1_1 r1_2 r1_3 r1_4 h_r1) hP hD hS hA hK [0, 3, 4, 5] [1, 2, 6] rfl (by decide) rfl (by decide) (by decide) 0 7 rfl rfl rfl rfl hl.1 rfl (Nat.le_of_ble_eq_true rfl) ⟨Nat.le_of_ble_eq_true rfl, Nat.le_of_ble_eq_true rfl⟩ dX8_carryOut_6 rfl rfl (fun H locs hP hD hS => ?_)
  refine lv_if_ne (tgt := 20) hx hb dX8_carryOut_9 (by decide) (fun c2 => ?_) (fun c2 => ?_)
  · have h := in_s h c2
    refine lv_iconst (v := (0 : Int32)) hx hb dX8_carryOut_20 (by decide) ?_
    refine lv_istore_n (lv' := [(1, .int (0 : Int32)), (0, .ref o)]) hx hb dX8_carryOut_21 rfl hl (by decide) rfl (fun ls hl => ?_)
    have hP := hP.sub (ws' := [(o, .inr (7, [.ref o_s, .ref o_saved, .int o_savedCount, .ref o_text, .int o_textLength, .int (0 : Int32), .int o_pieceCount, .ref o_pieceCell, .int r1_1, .int r1_2, .ref o_letter, .ref o_number, .ref o_before, .long o_hash])), (o_s, .inl (ca 0, 1634, .inl o_s_d)), (o_saved, .inl (ca 0, 6536, .inl o_saved_d)), (o_text, .inl (ca 0, 120, .inl o_text_d)), (o_letter, .inl (ca 0, 60, .inl r1_3)), (o_number, .inl (ca 0, 240, .inl r1_4)), (o_before, .inl (ca 0, 1634, .inl o_before_d))]) [3, 0, 1, 4, 5, 6, 2] rfl
    have hD := hD.sub (ws' := [(o, .inr (7, [.ref o_s, .ref o_saved, .int o_savedCount, .ref o_text, .int o_textLength, .int (0 : Int32), .int o_pieceCount, .ref o_pieceCell, .int r1_1, .int r1_2, .ref o_letter, .ref o_number, .ref o_before, .long o_hash])), (o_s, .inl (ca 0, 1634, .inl o_s_d)), (o_saved, .inl (ca 0, 6536, .inl o_saved_d)), (o_text, .inl (ca 0, 120, .inl o_text_d)), (o_letter, .inl (ca 0, 60, .inl r1_3)), (o_number, .inl (ca 0, 240, .inl r1_4)), (o_before, .inl (ca 0, 1634, .inl o_before_d))]) [3, 0, 1, 4, 5, 6, 2] (by decide) rfl
    exact L22 o_savedCount (0 : Int32) r1_1 r1_2 o_s_d o_saved_d r1_3 r1_4 fuel (0 : Int32) o_before_d h _ _ hP hD hS ls (lv_sub hl [1, 0] rfl)
  · have h := ip_s h c2
    refine lv_bipush (v := (-10 : Int32)) hx hb dX8_carryOut_12 (by decide) ?_
    refine lv_aload_n hx hb dX8_carryOut_14 rfl (lv_at hl 0 rfl) ?_
    refine gtF (ci := 7) (v := .int r1_1) (C := RX8) (T := TX8) (N := 14) hx hb hts inX8_carryOut_X8 hown hK hP 3 rfl rfl 8 (by decide) mwX8_carryOut_4 rfl rfl dX8_carryOut_15 ?_
    refine lv_isub hx hb dX8_carryOut_18 ?_
    obtain ⟨y14, e_y14, h⟩ := nm_s h
    refine top_i e_y14 ?_
    have hP := hP.sub (ws' := [(o, .inr (7, [.ref o_s, .ref o_saved, .int o_savedCount, .ref o_text, .int o_textLength, .int (0 : Int32), .int o_pieceCount, .ref o_pieceCell, .int r1_1, .int r1_2, .ref o_letter, .ref o_number, .ref o_before, .long o_hash])), (o_s, .inl (ca 0, 1634, .inl o_s_d)), (o_saved, .inl (ca 0, 6536, .inl o_saved_d)), (o_text, .inl (ca 0, 120, .inl o_text_d)), (o_letter, .inl (ca 0, 60, .inl r1_3)), (o_number, .inl (ca 0, 240, .inl r1_4)), (o_before, .inl (ca 0, 1634, .inl o_before_d))]) [3, 0, 1, 4, 5, 6, 2] rfl
    have hD := hD.sub (ws' := [(o, .inr (7, [.ref o_s, .ref o_saved, .int o_savedCount, .ref o_text, .int o_textLength, .int (0 : Int32), .int o_pieceCount, .ref o_pieceCell, .int r1_1, .int r1_2, .ref o_letter, .ref o_number, .ref o_before, .long o_hash])), (o_s, .inl (ca 0, 1634, .inl o_s_d)), (o_saved, .inl (ca 0, 6536, .inl o_saved_d)), (o_text, .inl (ca 0, 120, .inl o_text_d)), (o_letter, .inl (ca 0, 60, .inl r1_3)), (o_number, .inl (ca 0, 240, .inl r1_4)), (o_before, .inl (ca 0, 1634, .inl o_before_d))]) [3, 0, 1, 4, 5, 6, 2] (by decide) rfl
    cases h
    exact hret 19 ls _ _ _ hP hD hS rfl dX8_carryOut_19
theorem mwX8_undo_0 : Cond.fieldLink RX8 31 "SegmentTimesModel" "code" "I" ∈ wsX8_undo := List.mem_of_getElem? (i := 1) rfl
theorem mwX8_undo_1 : Cond.fieldLink RX8 35 "SegmentTimesModel" "savedCount" "I" ∈ wsX8_undo := List.mem_of_getElem? (i := 2) rfl
theorem mwX8_undo_2 : Cond.fieldLink RX8 7 "SegmentTimesModel" "s" "[I" ∈ wsX8_undo := List.mem_of_getElem? (i := 3) rfl
theorem mwX8_undo_3 : Cond.fieldLink RX8 13 "SegmentTimesModel" "saved" "[I" ∈ wsX8_undo := List.mem_of_getElem? (i := 4) rfl
theorem inX8_undo_X8 : ∀ w ∈ u_ws RX8 TX8 14, w ∈ wsX8_undo := fun w h => List.mem_cons_of_mem _ (List.mem_append_right _ (h))
theorem kX8_undo : yX8_undo.cls = RX8 ∧ yX8_undo.cls ≠ "java/lang/invoke/MethodHandle" ∧ yX8_undo.cls ≠ "java/lang/invoke/VarHandle" ∧ (parseMethodDescriptor yX8_undo.desc).map (fun d => d.parameters.length) = some 0 := by decide +kernel
set_option maxHeartbeats 4000000 in
set_option maxRecDepth 100000 in
theorem ctX8_undo (l : Launch) (D : va_G) (ca : Nat → ClassId) (o : Nat) (o_s : Nat) (o_saved : Nat) (o_text : Nat) (o_pieceCell : Nat) (o_letter : Nat) (o_number : Nat) (o_before : Nat) (o_savedCount : Int32) (o_textLength : Int32) (o_code : Int32) (o_pieceCount : Int32) (o_at : Int32) (o_commands : Int32) (o_hash : Int64) (o_s_d : Nat → Int32) (o_saved_d : Nat → Int32)  (sz : Nat) (u0 : Int32) (u1 : Int32) (u2 : Int32) (u3 : Nat → Int32) (hf : fX8_undo o_savedCount o_code o_s_d o_saved_d = some (u0, u1, u2, u3)) : MW l yX8_undo wsX8_undo 1 21 D ca [.ref o] sz [(o, .inr (7, [.ref o_s, .ref o_saved, .int o_savedCount, .ref o_text, .int o_textLength, .int o_code, .int o_pieceCount, .ref o_pieceCell, .int o_at, .int o_commands, .ref o_letter, .ref o_number, .ref o_before, .long o_hash])), (o_s, .inl (ca 0, 1634, .inl o_s_d)), (o_saved, .inl (ca 0, 6536, .inl o_saved_d))] (some (.int u0)) [(o, .inr (7, [.ref o_s, .ref o_saved, .int u1, .ref o_text, .int o_textLength, .int u2, .int o_pieceCount, .ref o_pieceCell, .int o_at, .int o_commands, .ref o_letter, .ref o_number, .ref o_before, .long o_hash])), (o_s, .inl (ca 0, 1634, .inl u3)), (o_saved, .inl (ca 0, 6536, .inl o_saved_d))] := by
  refine hdWi (by decide +kernel) rfl (Nat.le_of_ble_eq_true rfl) ?_
  intro p e s m args below meth c A Q hx hb hml hown hts hP hD hK hA hS hret ls hl
  have hown : s.vm.findClass RX8 = some m.cls := hown
  have hl : lv_has ls 2 [(0, .ref o)] := hl
  have h := hf
  unfold fX8_undo at h
  clear hf
  have L30 : ∀ (w_o_savedCount : Int32) (w_o_code : Int32) (n : Nat) (l1 : Int32) (w_o_s_d : Nat → Int32), lp (fun q => bX8_undo_30 o_saved_d w_o_savedCount w_o_code q.1 q.2) n (l1, w_o_s_d) = some (u0, u1, u2, u3) → ∀ (H : Heap) (locs : List Loc), va_P D vwCl [(o, .inr (7, [.ref o_s, .ref o_saved, .int w_o_savedCount, .ref o_text, .int o_textLength, .int w_o_code, .int o_pieceCount, .ref o_pieceCell, .int o_at, .int o_commands, .ref o_letter, .ref o_number, .ref o_before, .long o_hash])), (o_s, .inl (ca 0, 1634, .inl w_o_s_d)), (o_saved, .inl (ca 0, 6536, .inl o_saved_d))] H → va_D A [(o, .inr (7, [.ref o_s, .ref o_saved, .int w_o_savedCount, .ref o_text, .int o_textLength, .int w_o_code, .int o_pieceCount, .ref o_pieceCell, .int o_at, .int o_commands, .ref o_letter, .ref o_number, .ref o_before, .long o_hash])), (o_s, .inl (ca 0, 1634, .inl w_o_s_d)), (o_saved, .inl (ca 0, 6536, .inl o_saved_d))] → va_S A s.heap H locs → ∀ ls, lv_has ls 2 [(0, .ref o), (1, .int l1)] → W p l e ({ frames := 1, cells := 0, slots := 0, locals := 21 }) s m args below meth c H locs 0 0 Q (F0 m 30 ls []) := by
    intro w_o_savedCount w_o_code n
    induction n with
    | zero => intro l1 w_o_s_d h; exact (lp_0 h).elim
    | succ n ih30 =>
      intro l1 w_o_s_d h H locs hP hD hS ls hl
      obtain ⟨q30, h, hq30⟩ := lp_s h
      have h : bX8_undo_30 o_saved_d w_o_savedCount w_o_code l1 w_o_s_d = some q30 := h
      unfold bX8_undo_30 at h
      refine lv_iload_n hx hb dX8_undo_30 rfl (lv_at hl 1 rfl) ?_
      refine lv_sipush (v := (1634 : Int32)) hx hb dX8_undo_31 (by decide) ?_
      refine lv_icmp_ge (tgt := 64) hx hb dX8_undo_34 (by decide) (fun c1 => ?_) (fun c1 => ?_)
      · have h := ip_s h c1
        have h := xt_s hq30 h
        refine lv_aload_n hx hb dX8_undo_64 rfl (lv_at hl 0 rfl) ?_
        refine gtF (ci := 7) (v := .int w_o_savedCount) (C := RX8) (T := TX8) (N := 14) hx hb hts inX8_undo_X8 hown hK hP 0 rfl rfl 2 (by decide) mwX8_undo_1 rfl rfl dX8_undo_65 ?_
        cases h
        exact hret 68 ls _ _ _ hP hD hS rfl dX8_undo_68
      · have h := in_s h c1
        refine lv_aload_n hx hb dX8_undo_37 rfl (lv_at hl 0 rfl) ?_
        refine gtF (ci := 7) (v := .ref o_s) (C := RX8) (T := TX8) (N := 14) hx hb hts inX8_undo_X8 hown hK hP 0 rfl rfl 0 (by decide) mwX8_undo_2 rfl rfl dX8_undo_38 ?_
        refine lv_iload_n hx hb dX8_undo_41 rfl (lv_at hl 1 rfl) ?_
        refine lv_aload_n hx hb dX8_undo_42 rfl (lv_at hl 0 rfl) ?_
        refine gtF (ci := 7) (v := .ref o_saved) (C := RX8) (T := TX8) (N := 14) hx hb hts inX8_undo_X8 hown hK hP 0 rfl rfl 1 (by decide) mwX8_undo_3 rfl rfl dX8_undo_43 ?_
        refine lv_sipush (v := (1634 : Int32)) hx hb dX8_undo_46 (by decide) ?_
        refine lv_aload_n hx hb dX8_undo_49 rfl (lv_at hl 0 rfl) ?_
        refine gtF (ci := 7) (v := .int w_o_savedCount) (C := RX8) (T := TX8) (N := 14) hx hb hts inX8_undo_X8 hown hK hP 0 rfl rfl 2 (by decide) mwX8_undo_1 rfl rfl dX8_undo_50 ?_
        refine lv_imul hx hb dX8_undo_53 ?_
        refine lv_iload_n hx hb dX8_undo_54 rfl (lv_at hl 1 rfl) ?_
        refine lv_iadd hx hb dX8_undo_55 ?_
        obtain ⟨hin, y2, e_y2, h⟩ := rd_s h
        refine ldI hx hb hK hP 2 rfl hin dX8_undo_56 ?_
        refine top_i e_y2 ?_
        obtain ⟨hin, g3, e_g3, h⟩ := wr_s h
        refine stI (wn := [(o, .inr (7, [.ref o_s, .ref o_saved, .int w_o_savedCount, .ref o_text, .int o_textLength, .int w_o_code, .int o_pieceCount, .ref o_pieceCell, .int o_at, .int o_commands, .ref o_letter, .ref o_number, .ref o_before, .long o_hash])), (o_s, .inl (ca 0, 1634, .inl g3)), (o_saved, .inl (ca 0, 6536, .inl o_saved_d))]) hx hb hK hP hD hS 1 rfl hin e_g3 rfl dX8_undo_57 (fun H locs hP hD hS => ?_)
        obtain ⟨y4, e_y4, h⟩ := nm_s h
        refine lv_iinc (v := y4) (lv' := [(1, .int y4), (0, .ref o)]) hx hb dX8_undo_58 hl (k := 1) rfl (by rw [e_y4]; rfl) (by decide) rfl (fun ls hl => ?_)
        refine lv_goto (tgt := 30) hx hb dX8_undo_61 (by decide) ?_
        exact ih30 y4 g3 (lp_l hq30 h) _ _ hP hD hS ls (lv_sub hl [1, 0] rfl)
  refine lv_aload_n hx hb dX8_undo_0 rfl (lv_at hl 0 rfl) ?_
  refine lv_iconst (v := (0 : Int32)) hx hb dX8_undo_1 (by decide) ?_
  refine ptI (ci := 7) (v := .int (0 : Int32)) (ty := .int) (C := RX8) (T := TX8) (N := 14) (wn := [(o, .inr (7, [.ref o_s, .ref o_saved, .int o_savedCount, .ref o_text, .int o_textLength, .int (0 : Int32), .int o_pieceCount, .ref o_pieceCell, .int o_at, .int o_commands, .ref o_letter, .ref o_number, .ref o_before, .long o_hash])), (o_s, .inl (ca 0, 1634, .inl o_s_d)), (o_saved, .inl (ca 0, 6536, .inl o_saved_d))]) hx hb hts inX8_undo_X8 tyX8 tyX8_ok nmX8 hown hK hP hD hS 0 rfl rfl 5 (by decide) mwX8_undo_0 rfl rfl (by decide +kernel) rfl rfl (Nat.le_of_ble_eq_true rfl) rfl dX8_undo_2 (fun H locs hP hD hS => ?_)
  refine lv_aload_n hx hb dX8_undo_5 rfl (lv_at hl 0 rfl) ?_
  refine gtF (ci := 7) (v := .int o_savedCount) (C := RX8) (T := TX8) (N := 14) hx hb hts inX8_undo_X8 hown hK hP 0 rfl rfl 2 (by decide) mwX8_undo_1 rfl rfl dX8_undo_6 ?_
  refine lv_if_ne (tgt := 18) hx hb dX8_undo_9 (by decide) (fun c1 => ?_) (fun c1 => ?_)
  · have h := in_s h c1
    refine lv_aload_n hx hb dX8_undo_18 rfl (lv_at hl 0 rfl) ?_
    refine lv_dup hx hb dX8_undo_19 rfl ?_
    refine gtF (ci := 7) (v := .int o_savedCount) (C := RX8) (T := TX8) (N := 14) hx hb hts inX8_undo_X8 hown hK hP 0 rfl rfl 2 (by decide) mwX8_undo_1 rfl rfl dX8_undo_20 ?_
    refine lv_iconst (v := (1 : Int32)) hx hb dX8_undo_23 (by decide) ?_
    refine lv_isub hx hb dX8_undo_24 ?_
    obtain ⟨y2, e_y2, h⟩ := nm_s h
    refine top_i e_y2 ?_
    refine ptI (ci := 7) (v := .int y2) (ty := .int) (C := RX8) (T := TX8) (N := 14) (wn := [(o, .inr (7, [.ref o_s, .ref o_saved, .int y2, .ref o_text, .int o_textLength, .int (0 : Int32), .int o_pieceCount, .ref o_pieceCell, .int o_at, .int o_commands, .ref o_letter, .ref o_number, .ref o_before, .long o_hash])), (o_s, .inl (ca 0, 1634, .inl o_s_d)), (o_saved, .inl (ca 0, 6536, .inl o_saved_d))]) hx hb hts inX8_undo_X8 tyX8 tyX8_ok nmX8 hown hK hP hD hS 0 rfl rfl 2 (by decide) mwX8_undo_1 rfl rfl (by decide +kernel) rfl rfl (Nat.le_of_ble_eq_true rfl) rfl dX8_undo_25 (fun H locs hP hD hS => ?_)
    refine lv_iconst (v := (0 : Int32)) hx hb dX8_undo_28 (by decide) ?_
    refine lv_istore_n (lv' := [(1, .int (0 : Int32)), (0, .ref o)]) hx hb dX8_undo_29 rfl hl (by decide) rfl (fun ls hl => ?_)
    exact L30 y2 (0 : Int32) fuel (0 : Int32) o_s_d h _ _ hP hD hS ls (lv_sub hl [1, 0] rfl)
  · have h := ip_s h c1
    refine lv_aload_n hx hb dX8_undo_12 rfl (lv_at hl 0 rfl) ?_
    refine lv_iconst (v := (1 : Int32)) hx hb dX8_undo_13 (by decide) ?_
    obtain ⟨⟨r5_0, r5_1⟩, h_r5, h⟩ := bd_s h
    have h := up2_s h
    refine clVW (As := [.int (1 : Int32)]) (rest := []) (wr := [(o_s, .inl (ca 0, 1634, .inl o_s_d)), (o_saved, .inl (ca 0, 6536, .inl o_saved_d))]) (wn := [(o_s, .inl (ca 0, 1634, .inl o_s_d)), (o_saved, .inl (ca 0, 6536, .inl o_saved_d)), (o, .inr (7, [.ref o_s, .ref o_saved, .int o_savedCount, .ref o_text, .int o_textLength, .int r5_1, .int o_pieceCount, .ref o_pieceCell, .int o_at, .int o_commands, .ref o_letter, .ref o_number, .ref o_before, .long o_hash]))]) hx hb hml hown hts gX8_undo_X8_fails rfl 1 kX8_fails ⟨Nat.le_of_ble_eq_true rfl, Nat.le_of_ble_eq_true rfl⟩ (ctX8_fails l D ca o o_s o_saved o_text o_pieceCell o_letter o_number o_before o_savedCount o_textLength (0 : Int32) o_pieceCount o_at o_commands o_hash (1 : Int32) _ r5_0 r5_1 h_r5) hP hD hS hA hK [0] [1, 2] rfl (by decide) rfl (by decide) (by decide) 0 7 rfl rfl rfl rfl hl.1 rfl (Nat.le_of_ble_eq_true rfl) ⟨Nat.le_of_ble_eq_true rfl, Nat.le_of_ble_eq_true rfl⟩ dX8_undo_14 rfl rfl (fun H locs hP hD hS => ?_)
    have hP := hP.sub (ws' := [(o, .inr (7, [.ref o_s, .ref o_saved, .int o_savedCount, .ref o_text, .int o_textLength, .int r5_1, .int o_pieceCount, .ref o_pieceCell, .int o_at, .int o_commands, .ref o_letter, .ref o_number, .ref o_before, .long o_hash])), (o_s, .inl (ca 0, 1634, .inl o_s_d)), (o_saved, .inl (ca 0, 6536, .inl o_saved_d))]) [2, 0, 1] rfl
    have hD := hD.sub (ws' := [(o, .inr (7, [.ref o_s, .ref o_saved, .int o_savedCount, .ref o_text, .int o_textLength, .int r5_1, .int o_pieceCount, .ref o_pieceCell, .int o_at, .int o_commands, .ref o_letter, .ref o_number, .ref o_before, .long o_hash])), (o_s, .inl (ca 0, 1634, .inl o_s_d)), (o_saved, .inl (ca 0, 6536, .inl o_saved_d))]) [2, 0, 1] (by decide) rfl
    cases h
    exact hret 17 ls _ _ _ hP hD hS rfl dX8_undo_17
theorem mwX8_mix_0 : Cond.constantLong RX8 238 (31) ∈ wsX8_mix := List.mem_of_getElem? (i := 1) rfl
theorem mwX8_mix_1 : Cond.fieldLink RX8 240 "SegmentTimesModel" "hash" "J" ∈ wsX8_mix := List.mem_of_getElem? (i := 2) rfl
theorem inX8_mix_X8 : ∀ w ∈ u_ws RX8 TX8 14, w ∈ wsX8_mix := fun w h => List.mem_cons_of_mem _ (List.mem_append_right _ (h))
theorem kX8_mix : yX8_mix.cls = RX8 ∧ yX8_mix.cls ≠ "java/lang/invoke/MethodHandle" ∧ yX8_mix.cls ≠ "java/lang/invoke/VarHandle" ∧ (parseMethodDescriptor yX8_mix.desc).map (fun d => d.parameters.length) = some 1 := by decide +kernel
set_option maxHeartbeats 4000000 in
set_option maxRecDepth 100000 in
theorem ctX8_mix (l : Launch) (D : va_G) (ca : Nat → ClassId) (o : Nat) (o_s : Nat) (o_saved : Nat) (o_text : Nat) (o_pieceCell : Nat) (o_letter : Nat) (o_number : Nat) (o_before : Nat) (o_savedCount : Int32) (o_textLength : Int32) (o_code : Int32) (o_pieceCount : Int32) (o_at : Int32) (o_commands : Int32) (o_hash : Int64) (x1 : Int64) (sz : Nat) (u0 : Int64) (hf : fX8_mix o_hash x1 = some u0) : MW l yX8_mix wsX8_mix 0 0 D ca [.ref o, .long x1] sz [(o, .inr (7, [.ref o_s, .ref o_saved, .int o_savedCount, .ref o_text, .int o_textLength, .int o_code, .int o_pieceCount, .ref o_pieceCell, .int o_at, .int o_commands, .ref o_letter, .ref o_number, .ref o_before, .long o_hash]))] none [(o, .inr (7, [.ref o_s, .ref o_saved, .int o_savedCount, .ref o_text, .int o_textLength, .int o_code, .int o_pieceCount, .ref o_pieceCell, .int o_at, .int o_commands, .ref o_letter, .ref o_number, .ref o_before, .long u0]))] := by
  refine hdWv (by decide +kernel) rfl (Nat.le_of_ble_eq_true rfl) rfl ?_
  intro p e s m args below meth c A Q hx hb hml hown hts hP hD hK hA hS hret ls hl
  have hown : s.vm.findClass RX8 = some m.cls := hown
  have hl : lv_has ls 3 [(0, .ref o), (1, .long x1)] := hl
  have h := hf
  unfold fX8_mix at h
  clear hf
  refine lv_aload_n hx hb dX8_mix_0 rfl (lv_at hl 0 rfl) ?_
  refine lv_ldc2 (v := (31 : Int64)) hx hb hown (hts _ mwX8_mix_0) dX8_mix_1 ?_
  refine lv_aload_n hx hb dX8_mix_4 rfl (lv_at hl 0 rfl) ?_
  refine gtF (ci := 7) (v := .long o_hash) (C := RX8) (T := TX8) (N := 14) hx hb hts inX8_mix_X8 hown hK hP 0 rfl rfl 13 (by decide) mwX8_mix_1 rfl rfl dX8_mix_5 ?_
  refine lv_lmul hx hb dX8_mix_8 ?_
  refine lv_lload_n hx hb dX8_mix_9 rfl (lv_at hl 1 rfl) ?_
  refine lv_ladd hx hb dX8_mix_10 ?_
  obtain ⟨y1, e_y1, h⟩ := nm_s h
  refine top_l e_y1 ?_
  refine ptI (ci := 7) (v := .long y1) (ty := .long) (C := RX8) (T := TX8) (N := 14) (wn := [(o, .inr (7, [.ref o_s, .ref o_saved, .int o_savedCount, .ref o_text, .int o_textLength, .int o_code, .int o_pieceCount, .ref o_pieceCell, .int o_at, .int o_commands, .ref o_letter, .ref o_number, .ref o_before, .long y1]))]) hx hb hts inX8_mix_X8 tyX8 tyX8_ok nmX8 hown hK hP hD hS 0 rfl rfl 13 (by decide) mwX8_mix_1 rfl rfl (by decide +kernel) rfl rfl (Nat.le_of_ble_eq_true rfl) rfl dX8_mix_11 (fun H locs hP hD hS => ?_)
  cases h
  exact hret 14 ls _ _ hP hD hS rfl dX8_mix_14
theorem mwX8_mixQuery_0 : Cond.fieldLink RX8 7 "SegmentTimesModel" "s" "[I" ∈ wsX8_mixQuery := List.mem_of_getElem? (i := 1) rfl
theorem inX8_mixQuery_X8 : ∀ w ∈ u_ws RX8 TX8 14, w ∈ wsX8_mixQuery := fun w h => List.mem_cons_of_mem _ (List.mem_append_right _ (h))
theorem kX8_mixQuery : yX8_mixQuery.cls = RX8 ∧ yX8_mixQuery.cls ≠ "java/lang/invoke/MethodHandle" ∧ yX8_mixQuery.cls ≠ "java/lang/invoke/VarHandle" ∧ (parseMethodDescriptor yX8_mixQuery.desc).map (fun d => d.parameters.length) = some 1 := by decide +kernel
set_option maxHeartbeats 4000000 in
set_option maxRecDepth 100000 in
theorem ctX8_mixQuery (l : Launch) (D : va_G) (ca : Nat → ClassId) (o : Nat) (o_s : Nat) (o_saved : Nat) (o_text : Nat) (o_pieceCell : Nat) (o_letter : Nat) (o_number : Nat) (o_before : Nat) (o_savedCount : Int32) (o_textLength : Int32) (o_code : Int32) (o_pieceCount : Int32) (o_at : Int32) (o_commands : Int32) (o_hash : Int64) (o_s_d : Nat → Int32) (x1 : Int32) (sz : Nat) (u0 : Int64) (hf : fX8_mixQuery o_hash o_s_d x1 = some u0) : MW l yX8_mixQuery wsX8_mixQuery 2 43 D ca [.ref o, .int x1] sz [(o, .inr (7, [.ref o_s, .ref o_saved, .int o_savedCount, .ref o_text, .int o_textLength, .int o_code, .int o_pieceCount, .ref o_pieceCell, .int o_at, .int o_commands, .ref o_letter, .ref o_number, .ref o_before, .long o_hash])), (o_s, .inl (ca 0, 1634, .inl o_s_d))] none [(o, .inr (7, [.ref o_s, .ref o_saved, .int o_savedCount, .ref o_text, .int o_textLength, .int o_code, .int o_pieceCount, .ref o_pieceCell, .int o_at, .int o_commands, .ref o_letter, .ref o_number, .ref o_before, .long u0])), (o_s, .inl (ca 0, 1634, .inl o_s_d))] := by
  refine hdWv (by decide +kernel) rfl (Nat.le_of_ble_eq_true rfl) rfl ?_
  intro p e s m args below meth c A Q hx hb hml hown hts hP hD hK hA hS hret ls hl
  have hown : s.vm.findClass RX8 = some m.cls := hown
  have hl : lv_has ls 4 [(0, .ref o), (1, .int x1)] := hl
  have h := hf
  unfold fX8_mixQuery at h
  clear hf
  have L44 : ∀ (l2 : Int32) (n : Nat) (l3 : Int32) (w_o_hash : Int64), lp (fun q => bX8_mixQuery_44 o_s_d x1 l2 q.1 q.2) n (l3, w_o_hash) = some u0 → ∀ (H : Heap) (locs : List Loc), va_P D vwCl [(o, .inr (7, [.ref o_s, .ref o_saved, .int o_savedCount, .ref o_text, .int o_textLength, .int o_code, .int o_pieceCount, .ref o_pieceCell, .int o_at, .int o_commands, .ref o_letter, .ref o_number, .ref o_before, .long w_o_hash])), (o_s, .inl (ca 0, 1634, .inl o_s_d))] H → va_D A [(o, .inr (7, [.ref o_s, .ref o_saved, .int o_savedCount, .ref o_text, .int o_textLength, .int o_code, .int o_pieceCount, .ref o_pieceCell, .int o_at, .int o_commands, .ref o_letter, .ref o_number, .ref o_before, .long w_o_hash])), (o_s, .inl (ca 0, 1634, .inl o_s_d))] → va_S A s.heap H locs → ∀ ls, lv_has ls 4 [(0, .ref o), (1, .int x1), (2, .int l2), (3, .int l3)] → W p l e ({ frames := 2, cells := 0, slots := 0, locals := 43 }) s m args below meth c H locs 0 0 Q (F0 m 44 ls []) := by
    intro l2 n
    induction n with
    | zero => intro l3 w_o_hash h; exact (lp_0 h).elim
    | succ n ih44 =>
      intro l3 w_o_hash h H locs hP hD hS ls hl
      obtain ⟨q44, h, hq44⟩ := lp_s h
      have h : bX8_mixQuery_44 o_s_d x1 l2 l3 w_o_hash = some q44 := h
      unfold bX8_mixQuery_44 at h
      refine lv_iload_n hx hb dX8_mixQuery_44 rfl (lv_at hl 3 rfl) ?_
      refine lv_iconst (v := (3 : Int32)) hx hb dX8_mixQuery_45 (by decide) ?_
      refine lv_icmp_ge (tgt := 77) hx hb dX8_mixQuery_46 (by decide) (fun c1 => ?_) (fun c1 => ?_)
      · have h := ip_s h c1
        have h := xt_s hq44 h
        cases h
        exact hret 77 ls _ _ hP hD hS rfl dX8_mixQuery_77
      · have h := in_s h c1
        refine lv_aload_n hx hb dX8_mixQuery_49 rfl (lv_at hl 0 rfl) ?_
        refine gtF (ci := 7) (v := .ref o_s) (C := RX8) (T := TX8) (N := 14) hx hb hts inX8_mixQuery_X8 hown hK hP 0 rfl rfl 0 (by decide) mwX8_mixQuery_0 rfl rfl dX8_mixQuery_50 ?_
        refine lv_iload_n hx hb dX8_mixQuery_53 rfl (lv_at hl 2 rfl) ?_
        refine lv_iconst (v := (2 : Int32)) hx hb dX8_mixQuery_54 (by decide) ?_
        refine lv_iadd hx hb dX8_mixQuery_55 ?_
        obtain ⟨hin, y2, e_y2, h⟩ := rd_s h
        refine ldI hx hb hK hP 1 rfl hin dX8_mixQuery_56 ?_
        refine top_i e_y2 ?_
        refine lv_iconst (v := (1 : Int32)) hx hb dX8_mixQuery_57 (by decide) ?_
        refine lv_icmp_ne (tgt := 77) hx hb dX8_mixQuery_58 (by decide) (fun c3 => ?_) (fun c3 => ?_)
        · have h := in_s h c3
          have h := xt_s hq44 h
          cases h
          exact hret 77 ls _ _ hP hD hS rfl dX8_mixQuery_77
        · have h := ip_s h c3
          refine lv_aload_n hx hb dX8_mixQuery_61 rfl (lv_at hl 0 rfl) ?_
          refine lv_aload_n hx hb dX8_mixQuery_62 rfl (lv_at hl 0 rfl) ?_
          refine lv_iload_n hx hb dX8_mixQuery_63 rfl (lv_at hl 1 rfl) ?_
          refine lv_iload_n hx hb dX8_mixQuery_64 rfl (lv_at hl 3 rfl) ?_
          obtain ⟨r4, h_r4, h⟩ := bd_s h
          refine clVR (As := [.int x1, .int l3]) (rest := [.ref o]) hx hb hml hown hts gX8_mixQuery_X8_answerOf rfl 2 kX8_answerOf ⟨Nat.le_of_ble_eq_true rfl, Nat.le_of_ble_eq_true rfl⟩ (ctX8_answerOf l D ca o o_s o_saved o_text o_pieceCell o_letter o_number o_before o_savedCount o_textLength o_code o_pieceCount o_at o_commands w_o_hash o_s_d x1 l3 r4 h_r4) hP hK [0, 1] rfl 0 7 rfl rfl rfl rfl hl.1 rfl (Nat.le_of_ble_eq_true rfl) ⟨Nat.le_of_ble_eq_true rfl, Nat.le_of_ble_eq_true rfl⟩ dX8_mixQuery_65 rfl ?_
          obtain ⟨r5, h_r5, h⟩ := bd_s h
          refine clVW (As := [.long r4]) (rest := []) (wr := [(o_s, .inl (ca 0, 1634, .inl o_s_d))]) (wn := [(o_s, .inl (ca 0, 1634, .inl o_s_d)), (o, .inr (7, [.ref o_s, .ref o_saved, .int o_savedCount, .ref o_text, .int o_textLength, .int o_code, .int o_pieceCount, .ref o_pieceCell, .int o_at, .int o_commands, .ref o_letter, .ref o_number, .ref o_before, .long r5]))]) hx hb hml hown hts gX8_mixQuery_X8_mix rfl 1 kX8_mix ⟨Nat.le_of_ble_eq_true rfl, Nat.le_of_ble_eq_true rfl⟩ (ctX8_mix l D ca o o_s o_saved o_text o_pieceCell o_letter o_number o_before o_savedCount o_textLength o_code o_pieceCount o_at o_commands w_o_hash r4 _ r5 h_r5) hP hD hS hA hK [0] [1] rfl (by decide) rfl (by decide) (by decide) 0 7 rfl rfl rfl rfl hl.1 rfl (Nat.le_of_ble_eq_true rfl) ⟨Nat.le_of_ble_eq_true rfl, Nat.le_of_ble_eq_true rfl⟩ dX8_mixQuery_68 rfl rfl (fun H locs hP hD hS => ?_)
          obtain ⟨y6, e_y6, h⟩ := nm_s h
          refine lv_iinc (v := y6) (lv' := [(3, .int y6), (0, .ref o), (1, .int x1), (2, .int l2)]) hx hb dX8_mixQuery_71 hl (k := 3) rfl (by rw [e_y6]; rfl) (by decide) rfl (fun ls hl => ?_)
          refine lv_goto (tgt := 44) hx hb dX8_mixQuery_74 (by decide) ?_
          have hP := hP.sub (ws' := [(o, .inr (7, [.ref o_s, .ref o_saved, .int o_savedCount, .ref o_text, .int o_textLength, .int o_code, .int o_pieceCount, .ref o_pieceCell, .int o_at, .int o_commands, .ref o_letter, .ref o_number, .ref o_before, .long r5])), (o_s, .inl (ca 0, 1634, .inl o_s_d))]) [1, 0] rfl
          have hD := hD.sub (ws' := [(o, .inr (7, [.ref o_s, .ref o_saved, .int o_savedCount, .ref o_text, .int o_textLength, .int o_code, .int o_pieceCount, .ref o_pieceCell, .int o_at, .int o_commands, .ref o_letter, .ref o_number, .ref o_before, .long r5])), (o_s, .inl (ca 0, 1634, .inl o_s_d))]) [1, 0] (by decide) rfl
          exact ih44 y6 r5 (lp_l hq44 h) _ _ hP hD hS ls (lv_sub hl [1, 2, 3, 0] rfl)
  refine lv_iload_n hx hb dX8_mixQuery_0 rfl (lv_at hl 1 rfl) ?_
  obtain ⟨r1, h_r1, h⟩ := bd_s h
  refine clSR (As := [.int x1]) (rest := []) hx hb hml hown hts gX8_mixQuery_X8_query rfl 1 kX8_query.2 ⟨Nat.le_of_ble_eq_true rfl, Nat.le_of_ble_eq_true rfl⟩ (ctX8_query l D ca   x1 r1 h_r1) hP hK [] rfl rfl hl.1 rfl (Nat.le_of_ble_eq_true rfl) ⟨Nat.le_of_ble_eq_true rfl, Nat.le_of_ble_eq_true rfl⟩ dX8_mixQuery_1 rfl ?_
  refine lv_istore_n (lv' := [(2, .int r1), (0, .ref o), (1, .int x1)]) hx hb dX8_mixQuery_4 rfl hl (by decide) rfl (fun ls hl => ?_)
  refine lv_aload_n hx hb dX8_mixQuery_5 rfl (lv_at hl 1 rfl) ?_
  refine lv_aload_n hx hb dX8_mixQuery_6 rfl (lv_at hl 1 rfl) ?_
  refine gtF (ci := 7) (v := .ref o_s) (C := RX8) (T := TX8) (N := 14) hx hb hts inX8_mixQuery_X8 hown hK hP 0 rfl rfl 0 (by decide) mwX8_mixQuery_0 rfl rfl dX8_mixQuery_7 ?_
  refine lv_iload_n hx hb dX8_mixQuery_10 rfl (lv_at hl 0 rfl) ?_
  obtain ⟨hin, y2, e_y2, h⟩ := rd_s h
  refine ldI hx hb hK hP 1 rfl hin dX8_mixQuery_11 ?_
  refine top_i e_y2 ?_
  refine lv_i2l (v := (y2).toInt64) hx hb dX8_mixQuery_12 rfl ?_
  obtain ⟨r3, h_r3, h⟩ := bd_s h
  refine clVW (As := [.long (y2).toInt64]) (rest := []) (wr := [(o_s, .inl (ca 0, 1634, .inl o_s_d))]) (wn := [(o_s, .inl (ca 0, 1634, .inl o_s_d)), (o, .inr (7, [.ref o_s, .ref o_saved, .int o_savedCount, .ref o_text, .int o_textLength, .int o_code, .int o_pieceCount, .ref o_pieceCell, .int o_at, .int o_commands, .ref o_letter, .ref o_number, .ref o_before, .long r3]))]) hx hb hml hown hts gX8_mixQuery_X8_mix rfl 1 kX8_mix ⟨Nat.le_of_ble_eq_true rfl, Nat.le_of_ble_eq_true rfl⟩ (ctX8_mix l D ca o o_s o_saved o_text o_pieceCell o_letter o_number o_before o_savedCount o_textLength o_code o_pieceCount o_at o_commands o_hash ((y2).toInt64) _ r3 h_r3) hP hD hS hA hK [0] [1] rfl (by decide) rfl (by decide) (by decide) 0 7 rfl rfl rfl rfl hl.1 rfl (Nat.le_of_ble_eq_true rfl) ⟨Nat.le_of_ble_eq_true rfl, Nat.le_of_ble_eq_true rfl⟩ dX8_mixQuery_13 rfl rfl (fun H locs hP hD hS => ?_)
  refine lv_aload_n hx hb dX8_mixQuery_16 rfl (lv_at hl 1 rfl) ?_
  refine lv_aload_n hx hb dX8_mixQuery_17 rfl (lv_at hl 1 rfl) ?_
  refine gtF (ci := 7) (v := .ref o_s) (C := RX8) (T := TX8) (N := 14) hx hb hts inX8_mixQuery_X8 hown hK hP 1 rfl rfl 0 (by decide) mwX8_mixQuery_0 rfl rfl dX8_mixQuery_18 ?_
  refine lv_iload_n hx hb dX8_mixQuery_21 rfl (lv_at hl 0 rfl) ?_
  refine lv_iconst (v := (1 : Int32)) hx hb dX8_mixQuery_22 (by decide) ?_
  refine lv_iadd hx hb dX8_mixQuery_23 ?_
  obtain ⟨hin, y4, e_y4, h⟩ := rd_s h
  refine ldI hx hb hK hP 0 rfl hin dX8_mixQuery_24 ?_
  refine top_i e_y4 ?_
  refine lv_i2l (v := (y4).toInt64) hx hb dX8_mixQuery_25 rfl ?_
  obtain ⟨r5, h_r5, h⟩ := bd_s h
  refine clVW (As := [.long (y4).toInt64]) (rest := []) (wr := [(o_s, .inl (ca 0, 1634, .inl o_s_d))]) (wn := [(o_s, .inl (ca 0, 1634, .inl o_s_d)), (o, .inr (7, [.ref o_s, .ref o_saved, .int o_savedCount, .ref o_text, .int o_textLength, .int o_code, .int o_pieceCount, .ref o_pieceCell, .int o_at, .int o_commands, .ref o_letter, .ref o_number, .ref o_before, .long r5]))]) hx hb hml hown hts gX8_mixQuery_X8_mix rfl 1 kX8_mix ⟨Nat.le_of_ble_eq_true rfl, Nat.le_of_ble_eq_true rfl⟩ (ctX8_mix l D ca o o_s o_saved o_text o_pieceCell o_letter o_number o_before o_savedCount o_textLength o_code o_pieceCount o_at o_commands r3 ((y4).toInt64) _ r5 h_r5) hP hD hS hA hK [1] [0] rfl (by decide) rfl (by decide) (by decide) 0 7 rfl rfl rfl rfl hl.1 rfl (Nat.le_of_ble_eq_true rfl) ⟨Nat.le_of_ble_eq_true rfl, Nat.le_of_ble_eq_true rfl⟩ dX8_mixQuery_26 rfl rfl (fun H locs hP hD hS => ?_)
  refine lv_aload_n hx hb dX8_mixQuery_29 rfl (lv_at hl 1 rfl) ?_
  refine lv_aload_n hx hb dX8_mixQuery_30 rfl (lv_at hl 1 rfl) ?_
  refine gtF (ci := 7) (v := .ref o_s) (C := RX8) (T := TX8) (N := 14) hx hb hts inX8_mixQuery_X8 hown hK hP 1 rfl rfl 0 (by decide) mwX8_mixQuery_0 rfl rfl dX8_mixQuery_31 ?_
  refine lv_iload_n hx hb dX8_mixQuery_34 rfl (lv_at hl 0 rfl) ?_
  refine lv_iconst (v := (2 : Int32)) hx hb dX8_mixQuery_35 (by decide) ?_
  refine lv_iadd hx hb dX8_mixQuery_36 ?_
  obtain ⟨hin, y6, e_y6, h⟩ := rd_s h
  refine ldI hx hb hK hP 0 rfl hin dX8_mixQuery_37 ?_
  refine top_i e_y6 ?_
  refine lv_i2l (v := (y6).toInt64) hx hb dX8_mixQuery_38 rfl ?_
  obtain ⟨r7, h_r7, h⟩ := bd_s h
  refine clVW (As := [.long (y6).toInt64]) (rest := []) (wr := [(o_s, .inl (ca 0, 1634, .inl o_s_d))]) (wn := [(o_s, .inl (ca 0, 1634, .inl o_s_d)), (o, .inr (7, [.ref o_s, .ref o_saved, .int o_savedCount, .ref o_text, .int o_textLength, .int o_code, .int o_pieceCount, .ref o_pieceCell, .int o_at, .int o_commands, .ref o_letter, .ref o_number, .ref o_before, .long r7]))]) hx hb hml hown hts gX8_mixQuery_X8_mix rfl 1 kX8_mix ⟨Nat.le_of_ble_eq_true rfl, Nat.le_of_ble_eq_true rfl⟩ (ctX8_mix l D ca o o_s o_saved o_text o_pieceCell o_letter o_number o_before o_savedCount o_textLength o_code o_pieceCount o_at o_commands r5 ((y6).toInt64) _ r7 h_r7) hP hD hS hA hK [1] [0] rfl (by decide) rfl (by decide) (by decide) 0 7 rfl rfl rfl rfl hl.1 rfl (Nat.le_of_ble_eq_true rfl) ⟨Nat.le_of_ble_eq_true rfl, Nat.le_of_ble_eq_true rfl⟩ dX8_mixQuery_39 rfl rfl (fun H locs hP hD hS => ?_)
  refine lv_iconst (v := (0 : Int32)) hx hb dX8_mixQuery_42 (by decide) ?_
  refine lv_istore_n (lv' := [(3, .int (0 : Int32)), (2, .int r1), (0, .ref o), (1, .int x1)]) hx hb dX8_mixQuery_43 rfl hl (by decide) rfl (fun ls hl => ?_)
  have hP := hP.sub (ws' := [(o, .inr (7, [.ref o_s, .ref o_saved, .int o_savedCount, .ref o_text, .int o_textLength, .int o_code, .int o_pieceCount, .ref o_pieceCell, .int o_at, .int o_commands, .ref o_letter, .ref o_number, .ref o_before, .long r7])), (o_s, .inl (ca 0, 1634, .inl o_s_d))]) [1, 0] rfl
  have hD := hD.sub (ws' := [(o, .inr (7, [.ref o_s, .ref o_saved, .int o_savedCount, .ref o_text, .int o_textLength, .int o_code, .int o_pieceCount, .ref o_pieceCell, .int o_at, .int o_commands, .ref o_letter, .ref o_number, .ref o_before, .long r7])), (o_s, .inl (ca 0, 1634, .inl o_s_d))]) [1, 0] (by decide) rfl
  exact L44 r1 fuel (0 : Int32) r7 h _ _ hP hD hS ls (lv_sub hl [2, 3, 1, 0] rfl)
theorem mwX8_digest_0 : Cond.fieldLink RX8 31 "SegmentTimesModel" "code" "I" ∈ wsX8_digest := List.mem_of_getElem? (i := 1) rfl
theorem mwX8_digest_1 : Cond.constantLong RX8 248 (2927) ∈ wsX8_digest := List.mem_of_getElem? (i := 2) rfl
theorem mwX8_digest_2 : Cond.fieldLink RX8 240 "SegmentTimesModel" "hash" "J" ∈ wsX8_digest := List.mem_of_getElem? (i := 3) rfl
theorem mwX8_digest_3 : Cond.fieldLink RX8 198 "SegmentTimesModel" "textLength" "I" ∈ wsX8_digest := List.mem_of_getElem? (i := 4) rfl
theorem mwX8_digest_4 : Cond.fieldLink RX8 7 "SegmentTimesModel" "s" "[I" ∈ wsX8_digest := List.mem_of_getElem? (i := 5) rfl
theorem mwX8_digest_5 : Cond.fieldLink RX8 139 "SegmentTimesModel" "pieceCount" "I" ∈ wsX8_digest := List.mem_of_getElem? (i := 6) rfl
theorem mwX8_digest_6 : Cond.fieldLink RX8 35 "SegmentTimesModel" "savedCount" "I" ∈ wsX8_digest := List.mem_of_getElem? (i := 8) rfl
theorem mwX8_digest_7 : Cond.fieldLink RX8 19 "SegmentTimesModel" "pieceCell" "[I" ∈ wsX8_digest := List.mem_of_getElem? (i := 7) rfl
theorem inX8_digest_X8 : ∀ w ∈ u_ws RX8 TX8 14, w ∈ wsX8_digest := fun w h => List.mem_cons_of_mem _ (List.mem_append_right _ (h))
theorem kX8_digest : yX8_digest.cls = RX8 ∧ yX8_digest.cls ≠ "java/lang/invoke/MethodHandle" ∧ yX8_digest.cls ≠ "java/lang/invoke/VarHandle" ∧ (parseMethodDescriptor yX8_digest.desc).map (fun d => d.parameters.length) = some 0 := by decide +kernel
set_option maxHeartbeats 4000000 in
set_option maxRecDepth 100000 in
theorem ctX8_digest (l : Launch) (D : va_G) (ca : Nat → ClassId) (o : Nat) (o_s : Nat) (o_saved : Nat) (o_text : Nat) (o_pieceCell : Nat) (o_letter : Nat) (o_number : Nat) (o_before : Nat) (o_savedCount : Int32) (o_textLength : Int32) (o_code : Int32) (o_pieceCount : Int32) (o_at : Int32) (o_commands : Int32) (o_hash : Int64) (o_s_d : Nat → Int32) (o_pieceCell_d : Nat → Int32)  (sz : Nat) (u0 : Int64) (u1 : Int32) (u2 : Int32) (u3 : Int64) (u4 : Nat → Int32) (hf : fX8_digest o_savedCount o_textLength o_code o_pieceCount o_hash o_s_d o_pieceCell_d = some (u0, u1, u2, u3, u4)) : MW l yX8_digest wsX8_digest 6 141 D ca [.ref o] sz [(o, .inr (7, [.ref o_s, .ref o_saved, .int o_savedCount, .ref o_text, .int o_textLength, .int o_code, .int o_pieceCount, .ref o_pieceCell, .int o_at, .int o_commands, .ref o_letter, .ref o_number, .ref o_before, .long o_hash])), (o_s, .inl (ca 0, 1634, .inl o_s_d)), (o_pieceCell, .inl (ca 0, 768, .inl o_pieceCell_d))] (some (.long u0)) [(o, .inr (7, [.ref o_s, .ref o_saved, .int o_savedCount, .ref o_text, .int o_textLength, .int u1, .int u2, .ref o_pieceCell, .int o_at, .int o_commands, .ref o_letter, .ref o_number, .ref o_before, .long u3])), (o_s, .inl (ca 0, 1634, .inl o_s_d)), (o_pieceCell, .inl (ca 0, 768, .inl u4))] := by
  refine hdWl (by decide +kernel) rfl (Nat.le_of_ble_eq_true rfl) ?_
  intro p e s m args below meth c A Q hx hb hml hown hts hP hD hK hA hS hret ls hl
  have hown : s.vm.findClass RX8 = some m.cls := hown
  have hl : lv_has ls 2 [(0, .ref o)] := hl
  have h := hf
  unfold fX8_digest at h
  clear hf
  have L149 : ∀ (w_o_code : Int32) (w_o_pieceCount : Int32) (w_o_pieceCell_d : Nat → Int32) (n : Nat) (l1 : Int32) (w_o_hash : Int64), lp (fun q => bX8_digest_149 o_savedCount o_s_d w_o_code w_o_pieceCount w_o_pieceCell_d q.1 q.2) n (l1, w_o_hash) = some (u0, u1, u2, u3, u4) → ∀ (H : Heap) (locs : List Loc), va_P D vwCl [(o, .inr (7, [.ref o_s, .ref o_saved, .int o_savedCount, .ref o_text, .int o_textLength, .int w_o_code, .int w_o_pieceCount, .ref o_pieceCell, .int o_at, .int o_commands, .ref o_letter, .ref o_number, .ref o_before, .long w_o_hash])), (o_s, .inl (ca 0, 1634, .inl o_s_d)), (o_pieceCell, .inl (ca 0, 768, .inl w_o_pieceCell_d))] H → va_D A [(o, .inr (7, [.ref o_s, .ref o_saved, .int o_savedCount, .ref o_text, .int o_textLength, .int w_o_code, .int w_o_pieceCount, .ref o_pieceCell, .int o_at, .int o_commands, .ref o_letter, .ref o_number, .ref o_before, .long w_o_hash])), (o_s, .inl (ca 0, 1634, .inl o_s_d)), (o_pieceCell, .inl (ca 0, 768, .inl w_o_pieceCell_d))] → va_S A s.heap H locs → ∀ ls, lv_has ls 2 [(0, .ref o), (1, .int l1)] → W p l e ({ frames := 6, cells := 0, slots := 0, locals := 141 }) s m args below meth c H locs 0 0 Q (F0 m 149 ls []) := by
    intro w_o_code w_o_pieceCount w_o_pieceCell_d n
    induction n with
    | zero => intro l1 w_o_hash h; exact (lp_0 h).elim
    | succ n ih149 =>
      intro l1 w_o_hash h H locs hP hD hS ls hl
      obtain ⟨q149, h, hq149⟩ := lp_s h
      have h : bX8_digest_149 o_savedCount o_s_d w_o_code w_o_pieceCount w_o_pieceCell_d l1 w_o_hash = some q149 := h
      unfold bX8_digest_149 at h
      refine lv_iload_n hx hb dX8_digest_149 rfl (lv_at hl 1 rfl) ?_
      refine lv_iconst (v := (3 : Int32)) hx hb dX8_digest_150 (by decide) ?_
      refine lv_aload_n hx hb dX8_digest_151 rfl (lv_at hl 0 rfl) ?_
      refine gtF (ci := 7) (v := .int w_o_pieceCount) (C := RX8) (T := TX8) (N := 14) hx hb hts inX8_digest_X8 hown hK hP 0 rfl rfl 6 (by decide) mwX8_digest_5 rfl rfl dX8_digest_152 ?_
      refine lv_imul hx hb dX8_digest_155 ?_
      refine lv_icmp_ge (tgt := 176) hx hb dX8_digest_156 (by decide) (fun c1 => ?_) (fun c1 => ?_)
      · have h := ip_s h c1
        have h := xt_s hq149 h
        refine lv_aload_n hx hb dX8_digest_176 rfl (lv_at hl 0 rfl) ?_
        refine lv_aload_n hx hb dX8_digest_177 rfl (lv_at hl 0 rfl) ?_
        refine lv_aload_n hx hb dX8_digest_178 rfl (lv_at hl 0 rfl) ?_
        refine gtF (ci := 7) (v := .ref o_s) (C := RX8) (T := TX8) (N := 14) hx hb hts inX8_digest_X8 hown hK hP 0 rfl rfl 0 (by decide) mwX8_digest_4 rfl rfl dX8_digest_179 ?_
        refine lv_iconst (v := (1 : Int32)) hx hb dX8_digest_182 (by decide) ?_
        obtain ⟨hin, y2, e_y2, h⟩ := rd_s h
        refine ldI hx hb hK hP 1 rfl hin dX8_digest_183 ?_
        refine top_i e_y2 ?_
        refine lv_iconst (v := (0 : Int32)) hx hb dX8_digest_184 (by decide) ?_
        refine lv_sipush (v := (255 : Int32)) hx hb dX8_digest_185 (by decide) ?_
        obtain ⟨r3, h_r3, h⟩ := bd_s h
        refine clVR (As := [.int y2, .int (0 : Int32), .int (255 : Int32)]) (rest := [.ref o]) hx hb hml hown hts gX8_digest_X8_sumOf rfl 3 kX8_sumOf ⟨Nat.le_of_ble_eq_true rfl, Nat.le_of_ble_eq_true rfl⟩ (ctX8_sumOf l D ca o o_s o_saved o_text o_pieceCell o_letter o_number o_before o_savedCount o_textLength w_o_code w_o_pieceCount o_at o_commands w_o_hash o_s_d y2 (0 : Int32) (255 : Int32) r3 h_r3) hP hK [0, 1] rfl 0 7 rfl rfl rfl rfl hl.1 rfl (Nat.le_of_ble_eq_true rfl) ⟨Nat.le_of_ble_eq_true rfl, Nat.le_of_ble_eq_true rfl⟩ dX8_digest_188 rfl ?_
        obtain ⟨r4, h_r4, h⟩ := bd_s h
        refine clVW (As := [.long r3]) (rest := []) (wr := [(o_s, .inl (ca 0, 1634, .inl o_s_d)), (o_pieceCell, .inl (ca 0, 768, .inl w_o_pieceCell_d))]) (wn := [(o_s, .inl (ca 0, 1634, .inl o_s_d)), (o_pieceCell, .inl (ca 0, 768, .inl w_o_pieceCell_d)), (o, .inr (7, [.ref o_s, .ref o_saved, .int o_savedCount, .ref o_text, .int o_textLength, .int w_o_code, .int w_o_pieceCount, .ref o_pieceCell, .int o_at, .int o_commands, .ref o_letter, .ref o_number, .ref o_before, .long r4]))]) hx hb hml hown hts gX8_digest_X8_mix rfl 1 kX8_mix ⟨Nat.le_of_ble_eq_true rfl, Nat.le_of_ble_eq_true rfl⟩ (ctX8_mix l D ca o o_s o_saved o_text o_pieceCell o_letter o_number o_before o_savedCount o_textLength w_o_code w_o_pieceCount o_at o_commands w_o_hash r3 _ r4 h_r4) hP hD hS hA hK [0] [1, 2] rfl (by decide) rfl (by decide) (by decide) 0 7 rfl rfl rfl rfl hl.1 rfl (Nat.le_of_ble_eq_true rfl) ⟨Nat.le_of_ble_eq_true rfl, Nat.le_of_ble_eq_true rfl⟩ dX8_digest_191 rfl rfl (fun H locs hP hD hS => ?_)
        refine lv_aload_n hx hb dX8_digest_194 rfl (lv_at hl 0 rfl) ?_
        refine lv_aload_n hx hb dX8_digest_195 rfl (lv_at hl 0 rfl) ?_
        refine gtF (ci := 7) (v := .int o_savedCount) (C := RX8) (T := TX8) (N := 14) hx hb hts inX8_digest_X8 hown hK hP 2 rfl rfl 2 (by decide) mwX8_digest_6 rfl rfl dX8_digest_196 ?_
        refine lv_i2l (v := (o_savedCount).toInt64) hx hb dX8_digest_199 rfl ?_
        obtain ⟨r5, h_r5, h⟩ := bd_s h
        refine clVW (As := [.long (o_savedCount).toInt64]) (rest := []) (wr := [(o_s, .inl (ca 0, 1634, .inl o_s_d)), (o_pieceCell, .inl (ca 0, 768, .inl w_o_pieceCell_d))]) (wn := [(o_s, .inl (ca 0, 1634, .inl o_s_d)), (o_pieceCell, .inl (ca 0, 768, .inl w_o_pieceCell_d)), (o, .inr (7, [.ref o_s, .ref o_saved, .int o_savedCount, .ref o_text, .int o_textLength, .int w_o_code, .int w_o_pieceCount, .ref o_pieceCell, .int o_at, .int o_commands, .ref o_letter, .ref o_number, .ref o_before, .long r5]))]) hx hb hml hown hts gX8_digest_X8_mix rfl 1 kX8_mix ⟨Nat.le_of_ble_eq_true rfl, Nat.le_of_ble_eq_true rfl⟩ (ctX8_mix l D ca o o_s o_saved o_text o_pieceCell o_letter o_number o_before o_savedCount o_textLength w_o_code w_o_pieceCount o_at o_commands r4 ((o_savedCount).toInt64) _ r5 h_r5) hP hD hS hA hK [2] [0, 1] rfl (by decide) rfl (by decide) (by decide) 0 7 rfl rfl rfl rfl hl.1 rfl (Nat.le_of_ble_eq_true rfl) ⟨Nat.le_of_ble_eq_true rfl, Nat.le_of_ble_eq_true rfl⟩ dX8_digest_200 rfl rfl (fun H locs hP hD hS => ?_)
        refine lv_aload_n hx hb dX8_digest_203 rfl (lv_at hl 0 rfl) ?_
        refine gtF (ci := 7) (v := .long r5) (C := RX8) (T := TX8) (N := 14) hx hb hts inX8_digest_X8 hown hK hP 2 rfl rfl 13 (by decide) mwX8_digest_2 rfl rfl dX8_digest_204 ?_
        have hP := hP.sub (ws' := [(o, .inr (7, [.ref o_s, .ref o_saved, .int o_savedCount, .ref o_text, .int o_textLength, .int w_o_code, .int w_o_pieceCount, .ref o_pieceCell, .int o_at, .int o_commands, .ref o_letter, .ref o_number, .ref o_before, .long r5])), (o_s, .inl (ca 0, 1634, .inl o_s_d)), (o_pieceCell, .inl (ca 0, 768, .inl w_o_pieceCell_d))]) [2, 0, 1] rfl
        have hD := hD.sub (ws' := [(o, .inr (7, [.ref o_s, .ref o_saved, .int o_savedCount, .ref o_text, .int o_textLength, .int w_o_code, .int w_o_pieceCount, .ref o_pieceCell, .int o_at, .int o_commands, .ref o_letter, .ref o_number, .ref o_before, .long r5])), (o_s, .inl (ca 0, 1634, .inl o_s_d)), (o_pieceCell, .inl (ca 0, 768, .inl w_o_pieceCell_d))]) [2, 0, 1] (by decide) rfl
        cases h
        exact hret 207 ls _ _ _ hP hD hS rfl dX8_digest_207
      · have h := in_s h c1
        refine lv_aload_n hx hb dX8_digest_159 rfl (lv_at hl 0 rfl) ?_
        refine lv_aload_n hx hb dX8_digest_160 rfl (lv_at hl 0 rfl) ?_
        refine gtF (ci := 7) (v := .ref o_pieceCell) (C := RX8) (T := TX8) (N := 14) hx hb hts inX8_digest_X8 hown hK hP 0 rfl rfl 7 (by decide) mwX8_digest_7 rfl rfl dX8_digest_161 ?_
        refine lv_iload_n hx hb dX8_digest_164 rfl (lv_at hl 1 rfl) ?_
        obtain ⟨hin, y6, e_y6, h⟩ := rd_s h
        refine ldI hx hb hK hP 2 rfl hin dX8_digest_165 ?_
        refine top_i e_y6 ?_
        refine lv_i2l (v := (y6).toInt64) hx hb dX8_digest_166 rfl ?_
        obtain ⟨r7, h_r7, h⟩ := bd_s h
        refine clVW (As := [.long (y6).toInt64]) (rest := []) (wr := [(o_s, .inl (ca 0, 1634, .inl o_s_d)), (o_pieceCell, .inl (ca 0, 768, .inl w_o_pieceCell_d))]) (wn := [(o_s, .inl (ca 0, 1634, .inl o_s_d)), (o_pieceCell, .inl (ca 0, 768, .inl w_o_pieceCell_d)), (o, .inr (7, [.ref o_s, .ref o_saved, .int o_savedCount, .ref o_text, .int o_textLength, .int w_o_code, .int w_o_pieceCount, .ref o_pieceCell, .int o_at, .int o_commands, .ref o_letter, .ref o_number, .ref o_before, .long r7]))]) hx hb hml hown hts gX8_digest_X8_mix rfl 1 kX8_mix ⟨Nat.le_of_ble_eq_true rfl, Nat.le_of_ble_eq_true rfl⟩ (ctX8_mix l D ca o o_s o_saved o_text o_pieceCell o_letter o_number o_before o_savedCount o_textLength w_o_code w_o_pieceCount o_at o_commands w_o_hash ((y6).toInt64) _ r7 h_r7) hP hD hS hA hK [0] [1, 2] rfl (by decide) rfl (by decide) (by decide) 0 7 rfl rfl rfl rfl hl.1 rfl (Nat.le_of_ble_eq_true rfl) ⟨Nat.le_of_ble_eq_true rfl, Nat.le_of_ble_eq_true rfl⟩ dX8_digest_167 rfl rfl (fun H locs hP hD hS => ?_)
        obtain ⟨y8, e_y8, h⟩ := nm_s h
        refine lv_iinc (v := y8) (lv' := [(1, .int y8), (0, .ref o)]) hx hb dX8_digest_170 hl (k := 1) rfl (by rw [e_y8]; rfl) (by decide) rfl (fun ls hl => ?_)
        refine lv_goto (tgt := 149) hx hb dX8_digest_173 (by decide) ?_
        have hP := hP.sub (ws' := [(o, .inr (7, [.ref o_s, .ref o_saved, .int o_savedCount, .ref o_text, .int o_textLength, .int w_o_code, .int w_o_pieceCount, .ref o_pieceCell, .int o_at, .int o_commands, .ref o_letter, .ref o_number, .ref o_before, .long r7])), (o_s, .inl (ca 0, 1634, .inl o_s_d)), (o_pieceCell, .inl (ca 0, 768, .inl w_o_pieceCell_d))]) [2, 0, 1] rfl
        have hD := hD.sub (ws' := [(o, .inr (7, [.ref o_s, .ref o_saved, .int o_savedCount, .ref o_text, .int o_textLength, .int w_o_code, .int w_o_pieceCount, .ref o_pieceCell, .int o_at, .int o_commands, .ref o_letter, .ref o_number, .ref o_before, .long r7])), (o_s, .inl (ca 0, 1634, .inl o_s_d)), (o_pieceCell, .inl (ca 0, 768, .inl w_o_pieceCell_d))]) [2, 0, 1] (by decide) rfl
        exact ih149 y8 r7 (lp_l hq149 h) _ _ hP hD hS ls (lv_sub hl [1, 0] rfl)
  have L92 : ∀ (w_o_code : Int32) (w_o_pieceCount : Int32) (w_o_pieceCell_d : Nat → Int32) (n : Nat) (l1 : Int32) (w_o_hash : Int64), lp (fun q => bX8_digest_92 o_savedCount o_s_d w_o_code w_o_pieceCount w_o_pieceCell_d q.1 q.2) n (l1, w_o_hash) = some (u0, u1, u2, u3, u4) → ∀ (H : Heap) (locs : List Loc), va_P D vwCl [(o, .inr (7, [.ref o_s, .ref o_saved, .int o_savedCount, .ref o_text, .int o_textLength, .int w_o_code, .int w_o_pieceCount, .ref o_pieceCell, .int o_at, .int o_commands, .ref o_letter, .ref o_number, .ref o_before, .long w_o_hash])), (o_s, .inl (ca 0, 1634, .inl o_s_d)), (o_pieceCell, .inl (ca 0, 768, .inl w_o_pieceCell_d))] H → va_D A [(o, .inr (7, [.ref o_s, .ref o_saved, .int o_savedCount, .ref o_text, .int o_textLength, .int w_o_code, .int w_o_pieceCount, .ref o_pieceCell, .int o_at, .int o_commands, .ref o_letter, .ref o_number, .ref o_before, .long w_o_hash])), (o_s, .inl (ca 0, 1634, .inl o_s_d)), (o_pieceCell, .inl (ca 0, 768, .inl w_o_pieceCell_d))] → va_S A s.heap H locs → ∀ ls, lv_has ls 2 [(0, .ref o), (1, .int l1)] → W p l e ({ frames := 6, cells := 0, slots := 0, locals := 141 }) s m args below meth c H locs 0 0 Q (F0 m 92 ls []) := by
    intro w_o_code w_o_pieceCount w_o_pieceCell_d n
    induction n with
    | zero => intro l1 w_o_hash h; exact (lp_0 h).elim
    | succ n ih92 =>
      intro l1 w_o_hash h H locs hP hD hS ls hl
      obtain ⟨q92, h, hq92⟩ := lp_s h
      have h : bX8_digest_92 o_savedCount o_s_d w_o_code w_o_pieceCount w_o_pieceCell_d l1 w_o_hash = some q92 := h
      unfold bX8_digest_92 at h
      refine lv_iload_n hx hb dX8_digest_92 rfl (lv_at hl 1 rfl) ?_
      refine lv_aload_n hx hb dX8_digest_93 rfl (lv_at hl 0 rfl) ?_
      refine gtF (ci := 7) (v := .ref o_s) (C := RX8) (T := TX8) (N := 14) hx hb hts inX8_digest_X8 hown hK hP 0 rfl rfl 0 (by decide) mwX8_digest_4 rfl rfl dX8_digest_94 ?_
      refine lv_sipush (v := (242 : Int32)) hx hb dX8_digest_97 (by decide) ?_
      obtain ⟨hin, y1, e_y1, h⟩ := rd_s h
      refine ldI hx hb hK hP 1 rfl hin dX8_digest_100 ?_
      refine top_i e_y1 ?_
      refine lv_icmp_ge (tgt := 115) hx hb dX8_digest_101 (by decide) (fun c2 => ?_) (fun c2 => ?_)
      · have h := ip_s h c2
        have h := xt_s hq92 h
        refine lv_aload_n hx hb dX8_digest_115 rfl (lv_at hl 0 rfl) ?_
        refine lv_aload_n hx hb dX8_digest_116 rfl (lv_at hl 0 rfl) ?_
        refine gtF (ci := 7) (v := .ref o_s) (C := RX8) (T := TX8) (N := 14) hx hb hts inX8_digest_X8 hown hK hP 0 rfl rfl 0 (by decide) mwX8_digest_4 rfl rfl dX8_digest_117 ?_
        refine lv_sipush (v := (423 : Int32)) hx hb dX8_digest_120 (by decide) ?_
        obtain ⟨hin, y3, e_y3, h⟩ := rd_s h
        refine ldI hx hb hK hP 1 rfl hin dX8_digest_123 ?_
        refine top_i e_y3 ?_
        refine lv_i2l (v := (y3).toInt64) hx hb dX8_digest_124 rfl ?_
        obtain ⟨r4, h_r4, h⟩ := bd_s h
        refine clVW (As := [.long (y3).toInt64]) (rest := []) (wr := [(o_s, .inl (ca 0, 1634, .inl o_s_d)), (o_pieceCell, .inl (ca 0, 768, .inl w_o_pieceCell_d))]) (wn := [(o_s, .inl (ca 0, 1634, .inl o_s_d)), (o_pieceCell, .inl (ca 0, 768, .inl w_o_pieceCell_d)), (o, .inr (7, [.ref o_s, .ref o_saved, .int o_savedCount, .ref o_text, .int o_textLength, .int w_o_code, .int w_o_pieceCount, .ref o_pieceCell, .int o_at, .int o_commands, .ref o_letter, .ref o_number, .ref o_before, .long r4]))]) hx hb hml hown hts gX8_digest_X8_mix rfl 1 kX8_mix ⟨Nat.le_of_ble_eq_true rfl, Nat.le_of_ble_eq_true rfl⟩ (ctX8_mix l D ca o o_s o_saved o_text o_pieceCell o_letter o_number o_before o_savedCount o_textLength w_o_code w_o_pieceCount o_at o_commands w_o_hash ((y3).toInt64) _ r4 h_r4) hP hD hS hA hK [0] [1, 2] rfl (by decide) rfl (by decide) (by decide) 0 7 rfl rfl rfl rfl hl.1 rfl (Nat.le_of_ble_eq_true rfl) ⟨Nat.le_of_ble_eq_true rfl, Nat.le_of_ble_eq_true rfl⟩ dX8_digest_125 rfl rfl (fun H locs hP hD hS => ?_)
        refine lv_aload_n hx hb dX8_digest_128 rfl (lv_at hl 0 rfl) ?_
        refine lv_aload_n hx hb dX8_digest_129 rfl (lv_at hl 0 rfl) ?_
        refine gtF (ci := 7) (v := .ref o_s) (C := RX8) (T := TX8) (N := 14) hx hb hts inX8_digest_X8 hown hK hP 2 rfl rfl 0 (by decide) mwX8_digest_4 rfl rfl dX8_digest_130 ?_
        refine lv_iconst (v := (1 : Int32)) hx hb dX8_digest_133 (by decide) ?_
        obtain ⟨hin, y5, e_y5, h⟩ := rd_s h
        refine ldI hx hb hK hP 0 rfl hin dX8_digest_134 ?_
        refine top_i e_y5 ?_
        obtain ⟨⟨r6_0, r6_1⟩, h_r6, h⟩ := bd_s h
        have h := up2_s h
        refine clVW (As := [.int y5]) (rest := []) (wr := []) (wn := [(o, .inr (7, [.ref o_s, .ref o_saved, .int o_savedCount, .ref o_text, .int o_textLength, .int w_o_code, .int r6_0, .ref o_pieceCell, .int o_at, .int o_commands, .ref o_letter, .ref o_number, .ref o_before, .long r4])), (o_s, .inl (ca 0, 1634, .inl o_s_d)), (o_pieceCell, .inl (ca 0, 768, .inl r6_1))]) hx hb hml hown hts gX8_digest_X8_layPieces rfl 1 kX8_layPieces ⟨Nat.le_of_ble_eq_true rfl, Nat.le_of_ble_eq_true rfl⟩ (ctX8_layPieces l D ca o o_s o_saved o_text o_pieceCell o_letter o_number o_before o_savedCount o_textLength w_o_code w_o_pieceCount o_at o_commands r4 o_s_d w_o_pieceCell_d y5 _ r6_0 r6_1 h_r6) hP hD hS hA hK [2, 0, 1] [] rfl (by decide) rfl (by decide) (by decide) 0 7 rfl rfl rfl rfl hl.1 rfl (Nat.le_of_ble_eq_true rfl) ⟨Nat.le_of_ble_eq_true rfl, Nat.le_of_ble_eq_true rfl⟩ dX8_digest_135 rfl rfl (fun H locs hP hD hS => ?_)
        refine lv_aload_n hx hb dX8_digest_138 rfl (lv_at hl 0 rfl) ?_
        refine lv_aload_n hx hb dX8_digest_139 rfl (lv_at hl 0 rfl) ?_
        refine gtF (ci := 7) (v := .int r6_0) (C := RX8) (T := TX8) (N := 14) hx hb hts inX8_digest_X8 hown hK hP 0 rfl rfl 6 (by decide) mwX8_digest_5 rfl rfl dX8_digest_140 ?_
        refine lv_i2l (v := (r6_0).toInt64) hx hb dX8_digest_143 rfl ?_
        obtain ⟨r7, h_r7, h⟩ := bd_s h
        refine clVW (As := [.long (r6_0).toInt64]) (rest := []) (wr := [(o_s, .inl (ca 0, 1634, .inl o_s_d)), (o_pieceCell, .inl (ca 0, 768, .inl r6_1))]) (wn := [(o_s, .inl (ca 0, 1634, .inl o_s_d)), (o_pieceCell, .inl (ca 0, 768, .inl r6_1)), (o, .inr (7, [.ref o_s, .ref o_saved, .int o_savedCount, .ref o_text, .int o_textLength, .int w_o_code, .int r6_0, .ref o_pieceCell, .int o_at, .int o_commands, .ref o_letter, .ref o_number, .ref o_before, .long r7]))]) hx hb hml hown hts gX8_digest_X8_mix rfl 1 kX8_mix ⟨Nat.le_of_ble_eq_true rfl, Nat.le_of_ble_eq_true rfl⟩ (ctX8_mix l D ca o o_s o_saved o_text o_pieceCell o_letter o_number o_before o_savedCount o_textLength w_o_code r6_0 o_at o_commands r4 ((r6_0).toInt64) _ r7 h_r7) hP hD hS hA hK [0] [1, 2] rfl (by decide) rfl (by decide) (by decide) 0 7 rfl rfl rfl rfl hl.1 rfl (Nat.le_of_ble_eq_true rfl) ⟨Nat.le_of_ble_eq_true rfl, Nat.le_of_ble_eq_true rfl⟩ dX8_digest_144 rfl rfl (fun H locs hP hD hS => ?_)
        refine lv_iconst (v := (0 : Int32)) hx hb dX8_digest_147 (by decide) ?_
        refine lv_istore_n (lv' := [(1, .int (0 : Int32)), (0, .ref o)]) hx hb dX8_digest_148 rfl hl (by decide) rfl (fun ls hl => ?_)
        have hP := hP.sub (ws' := [(o, .inr (7, [.ref o_s, .ref o_saved, .int o_savedCount, .ref o_text, .int o_textLength, .int w_o_code, .int r6_0, .ref o_pieceCell, .int o_at, .int o_commands, .ref o_letter, .ref o_number, .ref o_before, .long r7])), (o_s, .inl (ca 0, 1634, .inl o_s_d)), (o_pieceCell, .inl (ca 0, 768, .inl r6_1))]) [2, 0, 1] rfl
        have hD := hD.sub (ws' := [(o, .inr (7, [.ref o_s, .ref o_saved, .int o_savedCount, .ref o_text, .int o_textLength, .int w_o_code, .int r6_0, .ref o_pieceCell, .int o_at, .int o_commands, .ref o_letter, .ref o_number, .ref o_before, .long r7])), (o_s, .inl (ca 0, 1634, .inl o_s_d)), (o_pieceCell, .inl (ca 0, 768, .inl r6_1))]) [2, 0, 1] (by decide) rfl
        exact L149 w_o_code r6_0 r6_1 fuel (0 : Int32) r7 h _ _ hP hD hS ls (lv_sub hl [1, 0] rfl)
      · have h := in_s h c2
        refine lv_aload_n hx hb dX8_digest_104 rfl (lv_at hl 0 rfl) ?_
        refine lv_iload_n hx hb dX8_digest_105 rfl (lv_at hl 1 rfl) ?_
        obtain ⟨r9, h_r9, h⟩ := bd_s h
        refine clVW (As := [.int l1]) (rest := []) (wr := [(o_pieceCell, .inl (ca 0, 768, .inl w_o_pieceCell_d))]) (wn := [(o_pieceCell, .inl (ca 0, 768, .inl w_o_pieceCell_d)), (o, .inr (7, [.ref o_s, .ref o_saved, .int o_savedCount, .ref o_text, .int o_textLength, .int w_o_code, .int w_o_pieceCount, .ref o_pieceCell, .int o_at, .int o_commands, .ref o_letter, .ref o_number, .ref o_before, .long r9])), (o_s, .inl (ca 0, 1634, .inl o_s_d))]) hx hb hml hown hts gX8_digest_X8_mixQuery rfl 1 kX8_mixQuery ⟨Nat.le_of_ble_eq_true rfl, Nat.le_of_ble_eq_true rfl⟩ (ctX8_mixQuery l D ca o o_s o_saved o_text o_pieceCell o_letter o_number o_before o_savedCount o_textLength w_o_code w_o_pieceCount o_at o_commands w_o_hash o_s_d l1 _ r9 h_r9) hP hD hS hA hK [0, 1] [2] rfl (by decide) rfl (by decide) (by decide) 0 7 rfl rfl rfl rfl hl.1 rfl (Nat.le_of_ble_eq_true rfl) ⟨Nat.le_of_ble_eq_true rfl, Nat.le_of_ble_eq_true rfl⟩ dX8_digest_106 rfl rfl (fun H locs hP hD hS => ?_)
        obtain ⟨y10, e_y10, h⟩ := nm_s h
        refine lv_iinc (v := y10) (lv' := [(1, .int y10), (0, .ref o)]) hx hb dX8_digest_109 hl (k := 1) rfl (by rw [e_y10]; rfl) (by decide) rfl (fun ls hl => ?_)
        refine lv_goto (tgt := 92) hx hb dX8_digest_112 (by decide) ?_
        have hP := hP.sub (ws' := [(o, .inr (7, [.ref o_s, .ref o_saved, .int o_savedCount, .ref o_text, .int o_textLength, .int w_o_code, .int w_o_pieceCount, .ref o_pieceCell, .int o_at, .int o_commands, .ref o_letter, .ref o_number, .ref o_before, .long r9])), (o_s, .inl (ca 0, 1634, .inl o_s_d)), (o_pieceCell, .inl (ca 0, 768, .inl w_o_pieceCell_d))]) [1, 2, 0] rfl
        have hD := hD.sub (ws' := [(o, .inr (7, [.ref o_s, .ref o_saved, .int o_savedCount, .ref o_text, .int o_textLength, .int w_o_code, .int w_o_pieceCount, .ref o_pieceCell, .int o_at, .int o_commands, .ref o_letter, .ref o_number, .ref o_before, .long r9])), (o_s, .inl (ca 0, 1634, .inl o_s_d)), (o_pieceCell, .inl (ca 0, 768, .inl w_o_pieceCell_d))]) [1, 2, 0] (by decide) rfl
        exact ih92 y10 r9 (lp_l hq92 h) _ _ hP hD hS ls (lv_sub hl [1, 0] rfl)
  have L45 : ∀ (w_o_code : Int32) (w_o_pieceCount : Int32) (w_o_pieceCell_d : Nat → Int32) (n : Nat) (l1 : Int32) (w_o_hash : Int64), lp (fun q => bX8_digest_45 o_savedCount o_s_d w_o_code w_o_pieceCount w_o_pieceCell_d q.1 q.2) n (l1, w_o_hash) = some (u0, u1, u2, u3, u4) → ∀ (H : Heap) (locs : List Loc), va_P D vwCl [(o, .inr (7, [.ref o_s, .ref o_saved, .int o_savedCount, .ref o_text, .int o_textLength, .int w_o_code, .int w_o_pieceCount, .ref o_pieceCell, .int o_at, .int o_commands, .ref o_letter, .ref o_number, .ref o_before, .long w_o_hash])), (o_s, .inl (ca 0, 1634, .inl o_s_d)), (o_pieceCell, .inl (ca 0, 768, .inl w_o_pieceCell_d))] H → va_D A [(o, .inr (7, [.ref o_s, .ref o_saved, .int o_savedCount, .ref o_text, .int o_textLength, .int w_o_code, .int w_o_pieceCount, .ref o_pieceCell, .int o_at, .int o_commands, .ref o_letter, .ref o_number, .ref o_before, .long w_o_hash])), (o_s, .inl (ca 0, 1634, .inl o_s_d)), (o_pieceCell, .inl (ca 0, 768, .inl w_o_pieceCell_d))] → va_S A s.heap H locs → ∀ ls, lv_has ls 2 [(0, .ref o), (1, .int l1)] → W p l e ({ frames := 6, cells := 0, slots := 0, locals := 141 }) s m args below meth c H locs 0 0 Q (F0 m 45 ls []) := by
    intro w_o_code w_o_pieceCount w_o_pieceCell_d n
    induction n with
    | zero => intro l1 w_o_hash h; exact (lp_0 h).elim
    | succ n ih45 =>
      intro l1 w_o_hash h H locs hP hD hS ls hl
      obtain ⟨q45, h, hq45⟩ := lp_s h
      have h : bX8_digest_45 o_savedCount o_s_d w_o_code w_o_pieceCount w_o_pieceCell_d l1 w_o_hash = some q45 := h
      unfold bX8_digest_45 at h
      refine lv_iload_n hx hb dX8_digest_45 rfl (lv_at hl 1 rfl) ?_
      refine lv_bipush (v := (6 : Int32)) hx hb dX8_digest_46 (by decide) ?_
      refine lv_aload_n hx hb dX8_digest_48 rfl (lv_at hl 0 rfl) ?_
      refine gtF (ci := 7) (v := .ref o_s) (C := RX8) (T := TX8) (N := 14) hx hb hts inX8_digest_X8 hown hK hP 0 rfl rfl 0 (by decide) mwX8_digest_4 rfl rfl dX8_digest_49 ?_
      refine lv_iconst (v := (0 : Int32)) hx hb dX8_digest_52 (by decide) ?_
      obtain ⟨hin, y1, e_y1, h⟩ := rd_s h
      refine ldI hx hb hK hP 1 rfl hin dX8_digest_53 ?_
      refine top_i e_y1 ?_
      refine lv_imul hx hb dX8_digest_54 ?_
      refine lv_icmp_ge (tgt := 77) hx hb dX8_digest_55 (by decide) (fun c2 => ?_) (fun c2 => ?_)
      · have h := ip_s h c2
        have h := xt_s hq45 h
        refine lv_aload_n hx hb dX8_digest_77 rfl (lv_at hl 0 rfl) ?_
        refine lv_aload_n hx hb dX8_digest_78 rfl (lv_at hl 0 rfl) ?_
        refine gtF (ci := 7) (v := .ref o_s) (C := RX8) (T := TX8) (N := 14) hx hb hts inX8_digest_X8 hown hK hP 0 rfl rfl 0 (by decide) mwX8_digest_4 rfl rfl dX8_digest_79 ?_
        refine lv_sipush (v := (242 : Int32)) hx hb dX8_digest_82 (by decide) ?_
        obtain ⟨hin, y3, e_y3, h⟩ := rd_s h
        refine ldI hx hb hK hP 1 rfl hin dX8_digest_85 ?_
        refine top_i e_y3 ?_
        refine lv_i2l (v := (y3).toInt64) hx hb dX8_digest_86 rfl ?_
        obtain ⟨r4, h_r4, h⟩ := bd_s h
        refine clVW (As := [.long (y3).toInt64]) (rest := []) (wr := [(o_s, .inl (ca 0, 1634, .inl o_s_d)), (o_pieceCell, .inl (ca 0, 768, .inl w_o_pieceCell_d))]) (wn := [(o_s, .inl (ca 0, 1634, .inl o_s_d)), (o_pieceCell, .inl (ca 0, 768, .inl w_o_pieceCell_d)), (o, .inr (7, [.ref o_s, .ref o_saved, .int o_savedCount, .ref o_text, .int o_textLength, .int w_o_code, .int w_o_pieceCount, .ref o_pieceCell, .int o_at, .int o_commands, .ref o_letter, .ref o_number, .ref o_before, .long r4]))]) hx hb hml hown hts gX8_digest_X8_mix rfl 1 kX8_mix ⟨Nat.le_of_ble_eq_true rfl, Nat.le_of_ble_eq_true rfl⟩ (ctX8_mix l D ca o o_s o_saved o_text o_pieceCell o_letter o_number o_before o_savedCount o_textLength w_o_code w_o_pieceCount o_at o_commands w_o_hash ((y3).toInt64) _ r4 h_r4) hP hD hS hA hK [0] [1, 2] rfl (by decide) rfl (by decide) (by decide) 0 7 rfl rfl rfl rfl hl.1 rfl (Nat.le_of_ble_eq_true rfl) ⟨Nat.le_of_ble_eq_true rfl, Nat.le_of_ble_eq_true rfl⟩ dX8_digest_87 rfl rfl (fun H locs hP hD hS => ?_)
        refine lv_iconst (v := (0 : Int32)) hx hb dX8_digest_90 (by decide) ?_
        refine lv_istore_n (lv' := [(1, .int (0 : Int32)), (0, .ref o)]) hx hb dX8_digest_91 rfl hl (by decide) rfl (fun ls hl => ?_)
        have hP := hP.sub (ws' := [(o, .inr (7, [.ref o_s, .ref o_saved, .int o_savedCount, .ref o_text, .int o_textLength, .int w_o_code, .int w_o_pieceCount, .ref o_pieceCell, .int o_at, .int o_commands, .ref o_letter, .ref o_number, .ref o_before, .long r4])), (o_s, .inl (ca 0, 1634, .inl o_s_d)), (o_pieceCell, .inl (ca 0, 768, .inl w_o_pieceCell_d))]) [2, 0, 1] rfl
        have hD := hD.sub (ws' := [(o, .inr (7, [.ref o_s, .ref o_saved, .int o_savedCount, .ref o_text, .int o_textLength, .int w_o_code, .int w_o_pieceCount, .ref o_pieceCell, .int o_at, .int o_commands, .ref o_letter, .ref o_number, .ref o_before, .long r4])), (o_s, .inl (ca 0, 1634, .inl o_s_d)), (o_pieceCell, .inl (ca 0, 768, .inl w_o_pieceCell_d))]) [2, 0, 1] (by decide) rfl
        exact L92 w_o_code w_o_pieceCount w_o_pieceCell_d fuel (0 : Int32) r4 h _ _ hP hD hS ls (lv_sub hl [1, 0] rfl)
      · have h := in_s h c2
        refine lv_aload_n hx hb dX8_digest_58 rfl (lv_at hl 0 rfl) ?_
        refine lv_aload_n hx hb dX8_digest_59 rfl (lv_at hl 0 rfl) ?_
        refine gtF (ci := 7) (v := .ref o_s) (C := RX8) (T := TX8) (N := 14) hx hb hts inX8_digest_X8 hown hK hP 0 rfl rfl 0 (by decide) mwX8_digest_4 rfl rfl dX8_digest_60 ?_
        refine lv_iconst (v := (2 : Int32)) hx hb dX8_digest_63 (by decide) ?_
        refine lv_iload_n hx hb dX8_digest_64 rfl (lv_at hl 1 rfl) ?_
        refine lv_iadd hx hb dX8_digest_65 ?_
        obtain ⟨hin, y11, e_y11, h⟩ := rd_s h
        refine ldI hx hb hK hP 1 rfl hin dX8_digest_66 ?_
        refine top_i e_y11 ?_
        refine lv_i2l (v := (y11).toInt64) hx hb dX8_digest_67 rfl ?_
        obtain ⟨r12, h_r12, h⟩ := bd_s h
        refine clVW (As := [.long (y11).toInt64]) (rest := []) (wr := [(o_s, .inl (ca 0, 1634, .inl o_s_d)), (o_pieceCell, .inl (ca 0, 768, .inl w_o_pieceCell_d))]) (wn := [(o_s, .inl (ca 0, 1634, .inl o_s_d)), (o_pieceCell, .inl (ca 0, 768, .inl w_o_pieceCell_d)), (o, .inr (7, [.ref o_s, .ref o_saved, .int o_savedCount, .ref o_text, .int o_textLength, .int w_o_code, .int w_o_pieceCount, .ref o_pieceCell, .int o_at, .int o_commands, .ref o_letter, .ref o_number, .ref o_before, .long r12]))]) hx hb hml hown hts gX8_digest_X8_mix rfl 1 kX8_mix ⟨Nat.le_of_ble_eq_true rfl, Nat.le_of_ble_eq_true rfl⟩ (ctX8_mix l D ca o o_s o_saved o_text o_pieceCell o_letter o_number o_before o_savedCount o_textLength w_o_code w_o_pieceCount o_at o_commands w_o_hash ((y11).toInt64) _ r12 h_r12) hP hD hS hA hK [0] [1, 2] rfl (by decide) rfl (by decide) (by decide) 0 7 rfl rfl rfl rfl hl.1 rfl (Nat.le_of_ble_eq_true rfl) ⟨Nat.le_of_ble_eq_true rfl, Nat.le_of_ble_eq_true rfl⟩ dX8_digest_68 rfl rfl (fun H locs hP hD hS => ?_)
        obtain ⟨y13, e_y13, h⟩ := nm_s h
        refine lv_iinc (v := y13) (lv' := [(1, .int y13), (0, .ref o)]) hx hb dX8_digest_71 hl (k := 1) rfl (by rw [e_y13]; rfl) (by decide) rfl (fun ls hl => ?_)
        refine lv_goto (tgt := 45) hx hb dX8_digest_74 (by decide) ?_
        have hP := hP.sub (ws' := [(o, .inr (7, [.ref o_s, .ref o_saved, .int o_savedCount, .ref o_text, .int o_textLength, .int w_o_code, .int w_o_pieceCount, .ref o_pieceCell, .int o_at, .int o_commands, .ref o_letter, .ref o_number, .ref o_before, .long r12])), (o_s, .inl (ca 0, 1634, .inl o_s_d)), (o_pieceCell, .inl (ca 0, 768, .inl w_o_pieceCell_d))]) [2, 0, 1] rfl
        have hD := hD.sub (ws' := [(o, .inr (7, [.ref o_s, .ref o_saved, .int o_savedCount, .ref o_text, .int o_textLength, .int w_o_code, .int w_o_pieceCount, .ref o_pieceCell, .int o_at, .int o_commands, .ref o_letter, .ref o_number, .ref o_before, .long r12])), (o_s, .inl (ca 0, 1634, .inl o_s_d)), (o_pieceCell, .inl (ca 0, 768, .inl w_o_pieceCell_d))]) [2, 0, 1] (by decide) rfl
        exact ih45 y13 r12 (lp_l hq45 h) _ _ hP hD hS ls (lv_sub hl [1, 0] rfl)
  refine lv_aload_n hx hb dX8_digest_0 rfl (lv_at hl 0 rfl) ?_
  refine lv_iconst (v := (0 : Int32)) hx hb dX8_digest_1 (by decide) ?_
  refine ptI (ci := 7) (v := .int (0 : Int32)) (ty := .int) (C := RX8) (T := TX8) (N := 14) (wn := [(o, .inr (7, [.ref o_s, .ref o_saved, .int o_savedCount, .ref o_text, .int o_textLength, .int (0 : Int32), .int o_pieceCount, .ref o_pieceCell, .int o_at, .int o_commands, .ref o_letter, .ref o_number, .ref o_before, .long o_hash])), (o_s, .inl (ca 0, 1634, .inl o_s_d)), (o_pieceCell, .inl (ca 0, 768, .inl o_pieceCell_d))]) hx hb hts inX8_digest_X8 tyX8 tyX8_ok nmX8 hown hK hP hD hS 0 rfl rfl 5 (by decide) mwX8_digest_0 rfl rfl (by decide +kernel) rfl rfl (Nat.le_of_ble_eq_true rfl) rfl dX8_digest_2 (fun H locs hP hD hS => ?_)
  refine lv_aload_n hx hb dX8_digest_5 rfl (lv_at hl 0 rfl) ?_
  refine lv_ldc2 (v := (2927 : Int64)) hx hb hown (hts _ mwX8_digest_1) dX8_digest_6 ?_
  refine ptI (ci := 7) (v := .long (2927 : Int64)) (ty := .long) (C := RX8) (T := TX8) (N := 14) (wn := [(o, .inr (7, [.ref o_s, .ref o_saved, .int o_savedCount, .ref o_text, .int o_textLength, .int (0 : Int32), .int o_pieceCount, .ref o_pieceCell, .int o_at, .int o_commands, .ref o_letter, .ref o_number, .ref o_before, .long (2927 : Int64)])), (o_s, .inl (ca 0, 1634, .inl o_s_d)), (o_pieceCell, .inl (ca 0, 768, .inl o_pieceCell_d))]) hx hb hts inX8_digest_X8 tyX8 tyX8_ok nmX8 hown hK hP hD hS 0 rfl rfl 13 (by decide) mwX8_digest_2 rfl rfl (by decide +kernel) rfl rfl (Nat.le_of_ble_eq_true rfl) rfl dX8_digest_9 (fun H locs hP hD hS => ?_)
  refine lv_aload_n hx hb dX8_digest_12 rfl (lv_at hl 0 rfl) ?_
  refine lv_aload_n hx hb dX8_digest_13 rfl (lv_at hl 0 rfl) ?_
  refine gtF (ci := 7) (v := .int o_textLength) (C := RX8) (T := TX8) (N := 14) hx hb hts inX8_digest_X8 hown hK hP 0 rfl rfl 4 (by decide) mwX8_digest_3 rfl rfl dX8_digest_14 ?_
  refine lv_i2l (v := (o_textLength).toInt64) hx hb dX8_digest_17 rfl ?_
  obtain ⟨r1, h_r1, h⟩ := bd_s h
  refine clVW (As := [.long (o_textLength).toInt64]) (rest := []) (wr := [(o_s, .inl (ca 0, 1634, .inl o_s_d)), (o_pieceCell, .inl (ca 0, 768, .inl o_pieceCell_d))]) (wn := [(o_s, .inl (ca 0, 1634, .inl o_s_d)), (o_pieceCell, .inl (ca 0, 768, .inl o_pieceCell_d)), (o, .inr (7, [.ref o_s, .ref o_saved, .int o_savedCount, .ref o_text, .int o_textLength, .int (0 : Int32), .int o_pieceCount, .ref o_pieceCell, .int o_at, .int o_commands, .ref o_letter, .ref o_number, .ref o_before, .long r1]))]) hx hb hml hown hts gX8_digest_X8_mix rfl 1 kX8_mix ⟨Nat.le_of_ble_eq_true rfl, Nat.le_of_ble_eq_true rfl⟩ (ctX8_mix l D ca o o_s o_saved o_text o_pieceCell o_letter o_number o_before o_savedCount o_textLength (0 : Int32) o_pieceCount o_at o_commands (2927 : Int64) ((o_textLength).toInt64) _ r1 h_r1) hP hD hS hA hK [0] [1, 2] rfl (by decide) rfl (by decide) (by decide) 0 7 rfl rfl rfl rfl hl.1 rfl (Nat.le_of_ble_eq_true rfl) ⟨Nat.le_of_ble_eq_true rfl, Nat.le_of_ble_eq_true rfl⟩ dX8_digest_18 rfl rfl (fun H locs hP hD hS => ?_)
  refine lv_aload_n hx hb dX8_digest_21 rfl (lv_at hl 0 rfl) ?_
  refine lv_aload_n hx hb dX8_digest_22 rfl (lv_at hl 0 rfl) ?_
  refine gtF (ci := 7) (v := .ref o_s) (C := RX8) (T := TX8) (N := 14) hx hb hts inX8_digest_X8 hown hK hP 2 rfl rfl 0 (by decide) mwX8_digest_4 rfl rfl dX8_digest_23 ?_
  refine lv_iconst (v := (1 : Int32)) hx hb dX8_digest_26 (by decide) ?_
  obtain ⟨hin, y2, e_y2, h⟩ := rd_s h
  refine ldI hx hb hK hP 0 rfl hin dX8_digest_27 ?_
  refine top_i e_y2 ?_
  refine lv_i2l (v := (y2).toInt64) hx hb dX8_digest_28 rfl ?_
  obtain ⟨r3, h_r3, h⟩ := bd_s h
  refine clVW (As := [.long (y2).toInt64]) (rest := []) (wr := [(o_s, .inl (ca 0, 1634, .inl o_s_d)), (o_pieceCell, .inl (ca 0, 768, .inl o_pieceCell_d))]) (wn := [(o_s, .inl (ca 0, 1634, .inl o_s_d)), (o_pieceCell, .inl (ca 0, 768, .inl o_pieceCell_d)), (o, .inr (7, [.ref o_s, .ref o_saved, .int o_savedCount, .ref o_text, .int o_textLength, .int (0 : Int32), .int o_pieceCount, .ref o_pieceCell, .int o_at, .int o_commands, .ref o_letter, .ref o_number, .ref o_before, .long r3]))]) hx hb hml hown hts gX8_digest_X8_mix rfl 1 kX8_mix ⟨Nat.le_of_ble_eq_true rfl, Nat.le_of_ble_eq_true rfl⟩ (ctX8_mix l D ca o o_s o_saved o_text o_pieceCell o_letter o_number o_before o_savedCount o_textLength (0 : Int32) o_pieceCount o_at o_commands r1 ((y2).toInt64) _ r3 h_r3) hP hD hS hA hK [2] [0, 1] rfl (by decide) rfl (by decide) (by decide) 0 7 rfl rfl rfl rfl hl.1 rfl (Nat.le_of_ble_eq_true rfl) ⟨Nat.le_of_ble_eq_true rfl, Nat.le_of_ble_eq_true rfl⟩ dX8_digest_29 rfl rfl (fun H locs hP hD hS => ?_)
  refine lv_aload_n hx hb dX8_digest_32 rfl (lv_at hl 0 rfl) ?_
  refine lv_aload_n hx hb dX8_digest_33 rfl (lv_at hl 0 rfl) ?_
  refine gtF (ci := 7) (v := .ref o_s) (C := RX8) (T := TX8) (N := 14) hx hb hts inX8_digest_X8 hown hK hP 2 rfl rfl 0 (by decide) mwX8_digest_4 rfl rfl dX8_digest_34 ?_
  refine lv_iconst (v := (0 : Int32)) hx hb dX8_digest_37 (by decide) ?_
  obtain ⟨hin, y4, e_y4, h⟩ := rd_s h
  refine ldI hx hb hK hP 0 rfl hin dX8_digest_38 ?_
  refine top_i e_y4 ?_
  refine lv_i2l (v := (y4).toInt64) hx hb dX8_digest_39 rfl ?_
  obtain ⟨r5, h_r5, h⟩ := bd_s h
  refine clVW (As := [.long (y4).toInt64]) (rest := []) (wr := [(o_s, .inl (ca 0, 1634, .inl o_s_d)), (o_pieceCell, .inl (ca 0, 768, .inl o_pieceCell_d))]) (wn := [(o_s, .inl (ca 0, 1634, .inl o_s_d)), (o_pieceCell, .inl (ca 0, 768, .inl o_pieceCell_d)), (o, .inr (7, [.ref o_s, .ref o_saved, .int o_savedCount, .ref o_text, .int o_textLength, .int (0 : Int32), .int o_pieceCount, .ref o_pieceCell, .int o_at, .int o_commands, .ref o_letter, .ref o_number, .ref o_before, .long r5]))]) hx hb hml hown hts gX8_digest_X8_mix rfl 1 kX8_mix ⟨Nat.le_of_ble_eq_true rfl, Nat.le_of_ble_eq_true rfl⟩ (ctX8_mix l D ca o o_s o_saved o_text o_pieceCell o_letter o_number o_before o_savedCount o_textLength (0 : Int32) o_pieceCount o_at o_commands r3 ((y4).toInt64) _ r5 h_r5) hP hD hS hA hK [2] [0, 1] rfl (by decide) rfl (by decide) (by decide) 0 7 rfl rfl rfl rfl hl.1 rfl (Nat.le_of_ble_eq_true rfl) ⟨Nat.le_of_ble_eq_true rfl, Nat.le_of_ble_eq_true rfl⟩ dX8_digest_40 rfl rfl (fun H locs hP hD hS => ?_)
  refine lv_iconst (v := (0 : Int32)) hx hb dX8_digest_43 (by decide) ?_
  refine lv_istore_n (lv' := [(1, .int (0 : Int32)), (0, .ref o)]) hx hb dX8_digest_44 rfl hl (by decide) rfl (fun ls hl => ?_)
  have hP := hP.sub (ws' := [(o, .inr (7, [.ref o_s, .ref o_saved, .int o_savedCount, .ref o_text, .int o_textLength, .int (0 : Int32), .int o_pieceCount, .ref o_pieceCell, .int o_at, .int o_commands, .ref o_letter, .ref o_number, .ref o_before, .long r5])), (o_s, .inl (ca 0, 1634, .inl o_s_d)), (o_pieceCell, .inl (ca 0, 768, .inl o_pieceCell_d))]) [2, 0, 1] rfl
  have hD := hD.sub (ws' := [(o, .inr (7, [.ref o_s, .ref o_saved, .int o_savedCount, .ref o_text, .int o_textLength, .int (0 : Int32), .int o_pieceCount, .ref o_pieceCell, .int o_at, .int o_commands, .ref o_letter, .ref o_number, .ref o_before, .long r5])), (o_s, .inl (ca 0, 1634, .inl o_s_d)), (o_pieceCell, .inl (ca 0, 768, .inl o_pieceCell_d))]) [2, 0, 1] (by decide) rfl
  exact L45 (0 : Int32) o_pieceCount o_pieceCell_d fuel (0 : Int32) r5 h _ _ hP hD hS ls (lv_sub hl [1, 0] rfl)
