theorem mwX8_solve_0 : Cond.fieldLink RX8 31 "SegmentTimesModel" "code" "I" ∈ wsX8_solve := List.mem_of_getElem? (i := 1) rfl
theorem inX8_solve_X8 : ∀ w ∈ u_ws RX8 TX8 14, w ∈ wsX8_solve := fun w h => List.mem_cons_of_mem _ (List.mem_append_right _ (h))
theorem kX8_solve : yX8_solve.cls = RX8 ∧ yX8_solve.cls ≠ "java/lang/invoke/MethodHandle" ∧ yX8_solve.cls ≠ "java/lang/invoke/VarHandle" ∧ (parseMethodDescriptor yX8_solve.desc).map (fun d => d.parameters.length) = some 0 := by decide +kernel
set_option maxHeartbeats 4000000 in
set_option maxRecDepth 100000 in
theorem ctX8_solve (l : Launch) (D : va_G) (ca : Nat → ClassId) (o : Nat) (o_s : Nat) (o_saved : Nat) (o_text : Nat) (o_pieceCell : Nat) (o_letter : Nat) (o_number : Nat) (o_before : Nat) (o_savedCount : Int32) (o_textLength : Int32) (o_code : Int32) (o_pieceCount : Int32) (o_at : Int32) (o_commands : Int32) (o_hash : Int64) (o_s_d : Nat → Int32) (o_saved_d : Nat → Int32)  (sz : Nat) (u0 : Int32) (u1 : Int32) (u2 : Int32) (u3 : Nat → Int32) (u4 : Nat → Int32) (hf : fX8_solve o_savedCount o_code o_s_d o_saved_d = some (u0, u1, u2, u3, u4)) : MW l yX8_solve wsX8_solve 6 140 D ca [.ref o] sz [(o, .inr (7, [.ref o_s, .ref o_saved, .int o_savedCount, .ref o_text, .int o_textLength, .int o_code, .int o_pieceCount, .ref o_pieceCell, .int o_at, .int o_commands, .ref o_letter, .ref o_number, .ref o_before, .long o_hash])), (o_s, .inl (ca 0, 1634, .inl o_s_d)), (o_saved, .inl (ca 0, 6536, .inl o_saved_d))] (some (.int u0)) [(o, .inr (7, [.ref o_s, .ref o_saved, .int u1, .ref o_text, .int o_textLength, .int u2, .int o_pieceCount, .ref o_pieceCell, .int o_at, .int o_commands, .ref o_letter, .ref o_number, .ref o_before, .long o_hash])), (o_s, .inl (ca 0, 1634, .inl u3)), (o_saved, .inl (ca 0, 6536, .inl u4))] := by
  refine hdWi (by decide +kernel) rfl (Nat.le_of_ble_eq_true rfl) ?_
  intro p e s m args below meth c A Q hx hb hml hown hts hP hD hK hA hS hret ls hl
  have hown : s.vm.findClass RX8 = some m.cls := hown
  have hl : lv_has ls 1 [(0, .ref o)] := hl
  have h := hf
  unfold fX8_solve at h
  clear hf
  refine lv_aload_n hx hb dX8_solve_0 rfl (lv_at hl 0 rfl) ?_
  refine lv_iconst (v := (0 : Int32)) hx hb dX8_solve_1 (by decide) ?_
  refine ptI (ci := 7) (v := .int (0 : Int32)) (ty := .int) (C := RX8) (T := TX8) (N := 14) (wn := [(o, .inr (7, [.ref o_s, .ref o_saved, .int o_savedCount, .ref o_text, .int o_textLength, .int (0 : Int32), .int o_pieceCount, .ref o_pieceCell, .int o_at, .int o_commands, .ref o_letter, .ref o_number, .ref o_before, .long o_hash])), (o_s, .inl (ca 0, 1634, .inl o_s_d)), (o_saved, .inl (ca 0, 6536, .inl o_saved_d))]) hx hb hts inX8_solve_X8 tyX8 tyX8_ok nmX8 hown hK hP hD hS 0 rfl rfl 5 (by decide) mwX8_solve_0 rfl rfl (by decide +kernel) rfl rfl (Nat.le_of_ble_eq_true rfl) rfl dX8_solve_2 (fun H locs hP hD hS => ?_)
  refine lv_aload_n hx hb dX8_solve_5 rfl (lv_at hl 0 rfl) ?_
  obtain ⟨⟨r1_0, r1_1⟩, h_r1, h⟩ := bd_s h
  have h := up2_s h
  refine clVW (As := []) (rest := []) (wr := []) (wn := [(o, .inr (7, [.ref o_s, .ref o_saved, .int r1_0, .ref o_text, .int o_textLength, .int (0 : Int32), .int o_pieceCount, .ref o_pieceCell, .int o_at, .int o_commands, .ref o_letter, .ref o_number, .ref o_before, .long o_hash])), (o_s, .inl (ca 0, 1634, .inl o_s_d)), (o_saved, .inl (ca 0, 6536, .inl r1_1))]) hx hb hml hown hts gX8_solve_X8_keep rfl 0 kX8_keep ⟨Nat.le_of_ble_eq_true rfl, Nat.le_of_ble_eq_true rfl⟩ (ctX8_keep l D ca o o_s o_saved o_text o_pieceCell o_letter o_number o_before o_savedCount o_textLength (0 : Int32) o_pieceCount o_at o_commands o_hash o_s_d o_saved_d  _ r1_0 r1_1 h_r1) hP hD hS hA hK [0, 1, 2] [] rfl (by decide) rfl (by decide) (by decide) 0 7 rfl rfl rfl rfl hl.1 rfl (Nat.le_of_ble_eq_true rfl) ⟨Nat.le_of_ble_eq_true rfl, Nat.le_of_ble_eq_true rfl⟩ dX8_solve_6 rfl rfl (fun H locs hP hD hS => ?_)
  refine lv_aload_n hx hb dX8_solve_9 rfl (lv_at hl 0 rfl) ?_
  obtain ⟨⟨r2_0, r2_1⟩, h_r2, h⟩ := bd_s h
  have h := up2_s h
  refine clVW (As := []) (rest := []) (wr := [(o_saved, .inl (ca 0, 6536, .inl r1_1))]) (wn := [(o_saved, .inl (ca 0, 6536, .inl r1_1)), (o, .inr (7, [.ref o_s, .ref o_saved, .int r1_0, .ref o_text, .int o_textLength, .int (0 : Int32), .int o_pieceCount, .ref o_pieceCell, .int o_at, .int o_commands, .ref o_letter, .ref o_number, .ref o_before, .long o_hash])), (o_s, .inl (ca 0, 1634, .inl r2_1))]) hx hb hml hown hts gX8_solve_X8_solveNow rfl 0 kX8_solveNow ⟨Nat.le_of_ble_eq_true rfl, Nat.le_of_ble_eq_true rfl⟩ (ctX8_solveNow l D ca o o_s o_saved o_text o_pieceCell o_letter o_number o_before r1_0 o_textLength (0 : Int32) o_pieceCount o_at o_commands o_hash o_s_d  _ r2_0 r2_1 h_r2) hP hD hS hA hK [0, 1] [2] rfl (by decide) rfl (by decide) (by decide) 0 7 rfl rfl rfl rfl hl.1 rfl (Nat.le_of_ble_eq_true rfl) ⟨Nat.le_of_ble_eq_true rfl, Nat.le_of_ble_eq_true rfl⟩ dX8_solve_10 rfl rfl (fun H locs hP hD hS => ?_)
  have hP := hP.sub (ws' := [(o, .inr (7, [.ref o_s, .ref o_saved, .int r1_0, .ref o_text, .int o_textLength, .int (0 : Int32), .int o_pieceCount, .ref o_pieceCell, .int o_at, .int o_commands, .ref o_letter, .ref o_number, .ref o_before, .long o_hash])), (o_s, .inl (ca 0, 1634, .inl r2_1)), (o_saved, .inl (ca 0, 6536, .inl r1_1))]) [1, 2, 0] rfl
  have hD := hD.sub (ws' := [(o, .inr (7, [.ref o_s, .ref o_saved, .int r1_0, .ref o_text, .int o_textLength, .int (0 : Int32), .int o_pieceCount, .ref o_pieceCell, .int o_at, .int o_commands, .ref o_letter, .ref o_number, .ref o_before, .long o_hash])), (o_s, .inl (ca 0, 1634, .inl r2_1)), (o_saved, .inl (ca 0, 6536, .inl r1_1))]) [1, 2, 0] (by decide) rfl
  cases h
  exact hret 13 ls _ _ _ hP hD hS rfl dX8_solve_13
theorem mwX8_answerOf_0 : Cond.fieldLink RX8 7 "SegmentTimesModel" "s" "[I" ∈ wsX8_answerOf := List.mem_of_getElem? (i := 1) rfl
theorem mwX8_answerOf_1 : Cond.constantLong RX8 133 (9223372036854775807) ∈ wsX8_answerOf := List.mem_of_getElem? (i := 2) rfl
theorem inX8_answerOf_X8 : ∀ w ∈ u_ws RX8 TX8 14, w ∈ wsX8_answerOf := fun w h => List.mem_cons_of_mem _ (List.mem_append_right _ (h))
theorem kX8_answerOf : yX8_answerOf.cls = RX8 ∧ yX8_answerOf.cls ≠ "java/lang/invoke/MethodHandle" ∧ yX8_answerOf.cls ≠ "java/lang/invoke/VarHandle" ∧ (parseMethodDescriptor yX8_answerOf.desc).map (fun d => d.parameters.length) = some 2 := by decide +kernel
set_option maxHeartbeats 4000000 in
set_option maxRecDepth 100000 in
theorem ctX8_answerOf (l : Launch) (D : va_G) (ca : Nat → ClassId) (o : Nat) (o_s : Nat) (o_saved : Nat) (o_text : Nat) (o_pieceCell : Nat) (o_letter : Nat) (o_number : Nat) (o_before : Nat) (o_savedCount : Int32) (o_textLength : Int32) (o_code : Int32) (o_pieceCount : Int32) (o_at : Int32) (o_commands : Int32) (o_hash : Int64) (o_s_d : Nat → Int32) (x1 : Int32) (x2 : Int32) (u0 : Int64) (hf : fX8_answerOf o_s_d x1 x2 = some u0) : MR l yX8_answerOf wsX8_answerOf 1 20 D ca [.ref o, .int x1, .int x2] [(o, .inr (7, [.ref o_s, .ref o_saved, .int o_savedCount, .ref o_text, .int o_textLength, .int o_code, .int o_pieceCount, .ref o_pieceCell, .int o_at, .int o_commands, .ref o_letter, .ref o_number, .ref o_before, .long o_hash])), (o_s, .inl (ca 0, 1634, .inl o_s_d))] (some (.long u0)) := by
  refine hdRl (plainFor_of_name (by decide +kernel)) rfl (Nat.le_of_ble_eq_true rfl) ?_
  intro p e s m args below meth c Q hx hb hml hown hts hP hK hret ls hl
  have hown : s.vm.findClass RX8 = some m.cls := hown
  have hl : lv_has ls 4 [(0, .ref o), (1, .int x1), (2, .int x2)] := hl
  have h := hf
  unfold fX8_answerOf at h
  clear hf
  have J27 : ∀ (l3 : Int32), jX8_answerOf_27 o_s_d x2 l3 = some u0 → ∀ ls, lv_has ls 4 [(0, .ref o), (2, .int x2), (3, .int l3)] → W p l e ({ frames := 1, cells := 0, slots := 0, locals := 20 }) s m args below meth c s.heap [] 0 0 Q (F0 m 27 ls []) := by
    intro l3 h ls hl
    unfold jX8_answerOf_27 at h
    refine lv_aload_n hx hb dX8_answerOf_27 rfl (lv_at hl 0 rfl) ?_
    refine gtF (ci := 7) (v := .ref o_s) (C := RX8) (T := TX8) (N := 14) hx hb hts inX8_answerOf_X8 hown hK hP 0 rfl rfl 0 (by decide) mwX8_answerOf_0 rfl rfl dX8_answerOf_28 ?_
    refine lv_iload_n hx hb dX8_answerOf_31 rfl (lv_at hl 2 rfl) ?_
    refine lv_iconst (v := (3 : Int32)) hx hb dX8_answerOf_32 (by decide) ?_
    refine lv_iadd hx hb dX8_answerOf_33 ?_
    refine lv_iload_n hx hb dX8_answerOf_34 rfl (lv_at hl 1 rfl) ?_
    refine lv_iadd hx hb dX8_answerOf_35 ?_
    obtain ⟨hin, y1, e_y1, h⟩ := rd_s h
    refine ldI hx hb hK hP 1 rfl hin dX8_answerOf_36 ?_
    refine top_i e_y1 ?_
    refine lv_i2l (v := (y1).toInt64) hx hb dX8_answerOf_37 rfl ?_
    cases h
    exact hret 38 ls _ rfl dX8_answerOf_38
  refine lv_iload_n hx hb dX8_answerOf_0 rfl (lv_at hl 1 rfl) ?_
  obtain ⟨r1, h_r1, h⟩ := bd_s h
  refine clSR (As := [.int x1]) (rest := []) hx hb hml hown hts gX8_answerOf_X8_query rfl 1 kX8_query.2 ⟨Nat.le_of_ble_eq_true rfl, Nat.le_of_ble_eq_true rfl⟩ (ctX8_query l D ca   x1 r1 h_r1) hP hK [] rfl rfl hl.1 rfl (Nat.le_of_ble_eq_true rfl) ⟨Nat.le_of_ble_eq_true rfl, Nat.le_of_ble_eq_true rfl⟩ dX8_answerOf_1 rfl ?_
  refine lv_istore_n (lv' := [(3, .int r1), (0, .ref o), (1, .int x1), (2, .int x2)]) hx hb dX8_answerOf_4 rfl hl (by decide) rfl (fun ls hl => ?_)
  refine lv_iload_n hx hb dX8_answerOf_5 rfl (lv_at hl 3 rfl) ?_
  refine lv_if_ne (tgt := 27) hx hb dX8_answerOf_6 (by decide) (fun c2 => ?_) (fun c2 => ?_)
  · have h := in_s h c2
    exact J27 r1 h ls (lv_sub hl [1, 3, 0] rfl)
  · have h := ip_s h c2
    refine lv_aload_n hx hb dX8_answerOf_9 rfl (lv_at hl 1 rfl) ?_
    refine gtF (ci := 7) (v := .ref o_s) (C := RX8) (T := TX8) (N := 14) hx hb hts inX8_answerOf_X8 hown hK hP 0 rfl rfl 0 (by decide) mwX8_answerOf_0 rfl rfl dX8_answerOf_10 ?_
    refine lv_iload_n hx hb dX8_answerOf_13 rfl (lv_at hl 0 rfl) ?_
    refine lv_iconst (v := (4 : Int32)) hx hb dX8_answerOf_14 (by decide) ?_
    refine lv_iadd hx hb dX8_answerOf_15 ?_
    obtain ⟨hin, y3, e_y3, h⟩ := rd_s h
    refine ldI hx hb hK hP 1 rfl hin dX8_answerOf_16 ?_
    refine top_i e_y3 ?_
    refine lv_iconst (v := (-1 : Int32)) hx hb dX8_answerOf_17 (by decide) ?_
    refine lv_icmp_ne (tgt := 27) hx hb dX8_answerOf_18 (by decide) (fun c4 => ?_) (fun c4 => ?_)
    · have h := in_s h c4
      exact J27 r1 h ls (lv_sub hl [1, 3, 0] rfl)
    · have h := ip_s h c4
      refine lv_ldc2 (v := (9223372036854775807 : Int64)) hx hb hown (hts _ mwX8_answerOf_1) dX8_answerOf_21 ?_
      refine lv_goto (tgt := 38) hx hb dX8_answerOf_24 (by decide) ?_
      cases h
      exact hret 38 ls _ rfl dX8_answerOf_38
theorem mwX8_answer_0 : Cond.fieldLink RX8 31 "SegmentTimesModel" "code" "I" ∈ wsX8_answer := List.mem_of_getElem? (i := 1) rfl
theorem mwX8_answer_1 : Cond.fieldLink RX8 7 "SegmentTimesModel" "s" "[I" ∈ wsX8_answer := List.mem_of_getElem? (i := 2) rfl
theorem mwX8_answer_2 : Cond.constantLong RX8 146 (2) ∈ wsX8_answer := List.mem_of_getElem? (i := 3) rfl
theorem inX8_answer_X8 : ∀ w ∈ u_ws RX8 TX8 14, w ∈ wsX8_answer := fun w h => List.mem_cons_of_mem _ (List.mem_append_right _ (h))
theorem kX8_answer : yX8_answer.cls = RX8 ∧ yX8_answer.cls ≠ "java/lang/invoke/MethodHandle" ∧ yX8_answer.cls ≠ "java/lang/invoke/VarHandle" ∧ (parseMethodDescriptor yX8_answer.desc).map (fun d => d.parameters.length) = some 2 := by decide +kernel
set_option maxHeartbeats 4000000 in
set_option maxRecDepth 100000 in
theorem ctX8_answer (l : Launch) (D : va_G) (ca : Nat → ClassId) (o : Nat) (o_s : Nat) (o_saved : Nat) (o_text : Nat) (o_pieceCell : Nat) (o_letter : Nat) (o_number : Nat) (o_before : Nat) (o_savedCount : Int32) (o_textLength : Int32) (o_code : Int32) (o_pieceCount : Int32) (o_at : Int32) (o_commands : Int32) (o_hash : Int64) (o_s_d : Nat → Int32) (x1 : Int32) (x2 : Int32) (sz : Nat) (u0 : Int64) (u1 : Int32) (hf : fX8_answer o_code o_s_d x1 x2 = some (u0, u1)) : MW l yX8_answer wsX8_answer 2 43 D ca [.ref o, .int x1, .int x2] sz [(o, .inr (7, [.ref o_s, .ref o_saved, .int o_savedCount, .ref o_text, .int o_textLength, .int o_code, .int o_pieceCount, .ref o_pieceCell, .int o_at, .int o_commands, .ref o_letter, .ref o_number, .ref o_before, .long o_hash])), (o_s, .inl (ca 0, 1634, .inl o_s_d))] (some (.long u0)) [(o, .inr (7, [.ref o_s, .ref o_saved, .int o_savedCount, .ref o_text, .int o_textLength, .int u1, .int o_pieceCount, .ref o_pieceCell, .int o_at, .int o_commands, .ref o_letter, .ref o_number, .ref o_before, .long o_hash])), (o_s, .inl (ca 0, 1634, .inl o_s_d))] := by
  refine hdWl (by decide +kernel) rfl (Nat.le_of_ble_eq_true rfl) ?_
  intro p e s m args below meth c A Q hx hb hml hown hts hP hD hK hA hS hret ls hl
  have hown : s.vm.findClass RX8 = some m.cls := hown
  have hl : lv_has ls 3 [(0, .ref o), (1, .int x1), (2, .int x2)] := hl
  have h := hf
  unfold fX8_answer at h
  clear hf
  refine lv_aload_n hx hb dX8_answer_0 rfl (lv_at hl 0 rfl) ?_
  refine lv_iconst (v := (0 : Int32)) hx hb dX8_answer_1 (by decide) ?_
  refine ptI (ci := 7) (v := .int (0 : Int32)) (ty := .int) (C := RX8) (T := TX8) (N := 14) (wn := [(o, .inr (7, [.ref o_s, .ref o_saved, .int o_savedCount, .ref o_text, .int o_textLength, .int (0 : Int32), .int o_pieceCount, .ref o_pieceCell, .int o_at, .int o_commands, .ref o_letter, .ref o_number, .ref o_before, .long o_hash])), (o_s, .inl (ca 0, 1634, .inl o_s_d))]) hx hb hts inX8_answer_X8 tyX8 tyX8_ok nmX8 hown hK hP hD hS 0 rfl rfl 5 (by decide) mwX8_answer_0 rfl rfl (by decide +kernel) rfl rfl (Nat.le_of_ble_eq_true rfl) rfl dX8_answer_2 (fun H locs hP hD hS => ?_)
  refine lv_iload_n hx hb dX8_answer_5 rfl (lv_at hl 1 rfl) ?_
  refine lv_i2l (v := (x1).toInt64) hx hb dX8_answer_6 rfl ?_
  refine lv_lconst (v := (0 : Int64)) hx hb dX8_answer_7 (by decide) ?_
  refine lv_aload_n hx hb dX8_answer_8 rfl (lv_at hl 0 rfl) ?_
  refine gtF (ci := 7) (v := .ref o_s) (C := RX8) (T := TX8) (N := 14) hx hb hts inX8_answer_X8 hown hK hP 0 rfl rfl 0 (by decide) mwX8_answer_1 rfl rfl dX8_answer_9 ?_
  refine lv_sipush (v := (242 : Int32)) hx hb dX8_answer_12 (by decide) ?_
  obtain ⟨hin, y1, e_y1, h⟩ := rd_s h
  refine ldI hx hb hK hP 1 rfl hin dX8_answer_15 ?_
  refine top_i e_y1 ?_
  refine lv_iconst (v := (1 : Int32)) hx hb dX8_answer_16 (by decide) ?_
  refine lv_isub hx hb dX8_answer_17 ?_
  refine lv_i2l (v := ((y1 - (1 : Int32))).toInt64) hx hb dX8_answer_18 rfl ?_
  obtain ⟨r2, h_r2, h⟩ := bd_s h
  refine clSR (As := [.long (x1).toInt64, .long (0 : Int64), .long ((y1 - (1 : Int32))).toInt64]) (rest := []) hx hb hml hown hts gX8_answer_X8_in rfl 3 kX8_in.2 ⟨Nat.le_of_ble_eq_true rfl, Nat.le_of_ble_eq_true rfl⟩ (ctX8_in l D ca   ((x1).toInt64) (0 : Int64) (((y1 - (1 : Int32))).toInt64) r2 h_r2) hP hK [] rfl rfl hl.1 rfl (Nat.le_of_ble_eq_true rfl) ⟨Nat.le_of_ble_eq_true rfl, Nat.le_of_ble_eq_true rfl⟩ dX8_answer_19 rfl ?_
  refine lv_if_ne (tgt := 32) hx hb dX8_answer_22 (by decide) (fun c3 => ?_) (fun c3 => ?_)
  · have h := in_s h c3
    refine lv_iload_n hx hb dX8_answer_32 rfl (lv_at hl 2 rfl) ?_
    refine lv_i2l (v := (x2).toInt64) hx hb dX8_answer_33 rfl ?_
    refine lv_lconst (v := (0 : Int64)) hx hb dX8_answer_34 (by decide) ?_
    refine lv_ldc2 (v := (2 : Int64)) hx hb hown (hts _ mwX8_answer_2) dX8_answer_35 ?_
    obtain ⟨r4, h_r4, h⟩ := bd_s h
    refine clSR (As := [.long (x2).toInt64, .long (0 : Int64), .long (2 : Int64)]) (rest := []) hx hb hml hown hts gX8_answer_X8_in rfl 3 kX8_in.2 ⟨Nat.le_of_ble_eq_true rfl, Nat.le_of_ble_eq_true rfl⟩ (ctX8_in l D ca   ((x2).toInt64) (0 : Int64) (2 : Int64) r4 h_r4) hP hK [] rfl rfl hl.1 rfl (Nat.le_of_ble_eq_true rfl) ⟨Nat.le_of_ble_eq_true rfl, Nat.le_of_ble_eq_true rfl⟩ dX8_answer_38 rfl ?_
    refine lv_if_ne (tgt := 51) hx hb dX8_answer_41 (by decide) (fun c5 => ?_) (fun c5 => ?_)
    · have h := in_s h c5
      refine lv_aload_n hx hb dX8_answer_51 rfl (lv_at hl 0 rfl) ?_
      refine gtF (ci := 7) (v := .ref o_s) (C := RX8) (T := TX8) (N := 14) hx hb hts inX8_answer_X8 hown hK hP 0 rfl rfl 0 (by decide) mwX8_answer_1 rfl rfl dX8_answer_52 ?_
      refine lv_iload_n hx hb dX8_answer_55 rfl (lv_at hl 1 rfl) ?_
      obtain ⟨r6, h_r6, h⟩ := bd_s h
      refine clSR (As := [.int x1]) (rest := [.ref o_s]) hx hb hml hown hts gX8_answer_X8_query rfl 1 kX8_query.2 ⟨Nat.le_of_ble_eq_true rfl, Nat.le_of_ble_eq_true rfl⟩ (ctX8_query l D ca   x1 r6 h_r6) hP hK [] rfl rfl hl.1 rfl (Nat.le_of_ble_eq_true rfl) ⟨Nat.le_of_ble_eq_true rfl, Nat.le_of_ble_eq_true rfl⟩ dX8_answer_56 rfl ?_
      refine lv_iconst (v := (2 : Int32)) hx hb dX8_answer_59 (by decide) ?_
      refine lv_iadd hx hb dX8_answer_60 ?_
      obtain ⟨hin, y7, e_y7, h⟩ := rd_s h
      refine ldI hx hb hK hP 1 rfl hin dX8_answer_61 ?_
      refine top_i e_y7 ?_
      refine lv_iconst (v := (1 : Int32)) hx hb dX8_answer_62 (by decide) ?_
      refine lv_icmp_ne (tgt := 75) hx hb dX8_answer_63 (by decide) (fun c8 => ?_) (fun c8 => ?_)
      · have h := in_s h c8
        refine lv_aload_n hx hb dX8_answer_75 rfl (lv_at hl 0 rfl) ?_
        refine lv_iconst (v := (3 : Int32)) hx hb dX8_answer_76 (by decide) ?_
        obtain ⟨⟨r9_0, r9_1⟩, h_r9, h⟩ := bd_s h
        have h := up2_s h
        refine clVW (As := [.int (3 : Int32)]) (rest := []) (wr := [(o_s, .inl (ca 0, 1634, .inl o_s_d))]) (wn := [(o_s, .inl (ca 0, 1634, .inl o_s_d)), (o, .inr (7, [.ref o_s, .ref o_saved, .int o_savedCount, .ref o_text, .int o_textLength, .int r9_1, .int o_pieceCount, .ref o_pieceCell, .int o_at, .int o_commands, .ref o_letter, .ref o_number, .ref o_before, .long o_hash]))]) hx hb hml hown hts gX8_answer_X8_fails rfl 1 kX8_fails ⟨Nat.le_of_ble_eq_true rfl, Nat.le_of_ble_eq_true rfl⟩ (ctX8_fails l D ca o o_s o_saved o_text o_pieceCell o_letter o_number o_before o_savedCount o_textLength (0 : Int32) o_pieceCount o_at o_commands o_hash (3 : Int32) _ r9_0 r9_1 h_r9) hP hD hS hA hK [0] [1] rfl (by decide) rfl (by decide) (by decide) 0 7 rfl rfl rfl rfl hl.1 rfl (Nat.le_of_ble_eq_true rfl) ⟨Nat.le_of_ble_eq_true rfl, Nat.le_of_ble_eq_true rfl⟩ dX8_answer_77 rfl rfl (fun H locs hP hD hS => ?_)
        refine lv_i2l (v := (r9_0).toInt64) hx hb dX8_answer_80 rfl ?_
        have hP := hP.sub (ws' := [(o, .inr (7, [.ref o_s, .ref o_saved, .int o_savedCount, .ref o_text, .int o_textLength, .int r9_1, .int o_pieceCount, .ref o_pieceCell, .int o_at, .int o_commands, .ref o_letter, .ref o_number, .ref o_before, .long o_hash])), (o_s, .inl (ca 0, 1634, .inl o_s_d))]) [1, 0] rfl
        have hD := hD.sub (ws' := [(o, .inr (7, [.ref o_s, .ref o_saved, .int o_savedCount, .ref o_text, .int o_textLength, .int r9_1, .int o_pieceCount, .ref o_pieceCell, .int o_at, .int o_commands, .ref o_letter, .ref o_number, .ref o_before, .long o_hash])), (o_s, .inl (ca 0, 1634, .inl o_s_d))]) [1, 0] (by decide) rfl
        cases h
        exact hret 81 ls _ _ _ hP hD hS rfl dX8_answer_81
      · have h := ip_s h c8
        refine lv_aload_n hx hb dX8_answer_66 rfl (lv_at hl 0 rfl) ?_
        refine lv_iload_n hx hb dX8_answer_67 rfl (lv_at hl 1 rfl) ?_
        refine lv_iload_n hx hb dX8_answer_68 rfl (lv_at hl 2 rfl) ?_
        obtain ⟨r10, h_r10, h⟩ := bd_s h
        refine clVR (As := [.int x1, .int x2]) (rest := []) hx hb hml hown hts gX8_answer_X8_answerOf rfl 2 kX8_answerOf ⟨Nat.le_of_ble_eq_true rfl, Nat.le_of_ble_eq_true rfl⟩ (ctX8_answerOf l D ca o o_s o_saved o_text o_pieceCell o_letter o_number o_before o_savedCount o_textLength (0 : Int32) o_pieceCount o_at o_commands o_hash o_s_d x1 x2 r10 h_r10) hP hK [0, 1] rfl 0 7 rfl rfl rfl rfl hl.1 rfl (Nat.le_of_ble_eq_true rfl) ⟨Nat.le_of_ble_eq_true rfl, Nat.le_of_ble_eq_true rfl⟩ dX8_answer_69 rfl ?_
        refine lv_goto (tgt := 81) hx hb dX8_answer_72 (by decide) ?_
        cases h
        exact hret 81 ls _ _ _ hP hD hS rfl dX8_answer_81
    · have h := ip_s h c5
      refine lv_aload_n hx hb dX8_answer_44 rfl (lv_at hl 0 rfl) ?_
      refine lv_iconst (v := (2 : Int32)) hx hb dX8_answer_45 (by decide) ?_
      obtain ⟨⟨r11_0, r11_1⟩, h_r11, h⟩ := bd_s h
      have h := up2_s h
      refine clVW (As := [.int (2 : Int32)]) (rest := []) (wr := [(o_s, .inl (ca 0, 1634, .inl o_s_d))]) (wn := [(o_s, .inl (ca 0, 1634, .inl o_s_d)), (o, .inr (7, [.ref o_s, .ref o_saved, .int o_savedCount, .ref o_text, .int o_textLength, .int r11_1, .int o_pieceCount, .ref o_pieceCell, .int o_at, .int o_commands, .ref o_letter, .ref o_number, .ref o_before, .long o_hash]))]) hx hb hml hown hts gX8_answer_X8_fails rfl 1 kX8_fails ⟨Nat.le_of_ble_eq_true rfl, Nat.le_of_ble_eq_true rfl⟩ (ctX8_fails l D ca o o_s o_saved o_text o_pieceCell o_letter o_number o_before o_savedCount o_textLength (0 : Int32) o_pieceCount o_at o_commands o_hash (2 : Int32) _ r11_0 r11_1 h_r11) hP hD hS hA hK [0] [1] rfl (by decide) rfl (by decide) (by decide) 0 7 rfl rfl rfl rfl hl.1 rfl (Nat.le_of_ble_eq_true rfl) ⟨Nat.le_of_ble_eq_true rfl, Nat.le_of_ble_eq_true rfl⟩ dX8_answer_46 rfl rfl (fun H locs hP hD hS => ?_)
      refine lv_i2l (v := (r11_0).toInt64) hx hb dX8_answer_49 rfl ?_
      have hP := hP.sub (ws' := [(o, .inr (7, [.ref o_s, .ref o_saved, .int o_savedCount, .ref o_text, .int o_textLength, .int r11_1, .int o_pieceCount, .ref o_pieceCell, .int o_at, .int o_commands, .ref o_letter, .ref o_number, .ref o_before, .long o_hash])), (o_s, .inl (ca 0, 1634, .inl o_s_d))]) [1, 0] rfl
      have hD := hD.sub (ws' := [(o, .inr (7, [.ref o_s, .ref o_saved, .int o_savedCount, .ref o_text, .int o_textLength, .int r11_1, .int o_pieceCount, .ref o_pieceCell, .int o_at, .int o_commands, .ref o_letter, .ref o_number, .ref o_before, .long o_hash])), (o_s, .inl (ca 0, 1634, .inl o_s_d))]) [1, 0] (by decide) rfl
      cases h
      exact hret 50 ls _ _ _ hP hD hS rfl dX8_answer_50
  · have h := ip_s h c3
    refine lv_aload_n hx hb dX8_answer_25 rfl (lv_at hl 0 rfl) ?_
    refine lv_iconst (v := (1 : Int32)) hx hb dX8_answer_26 (by decide) ?_
    obtain ⟨⟨r12_0, r12_1⟩, h_r12, h⟩ := bd_s h
    have h := up2_s h
    refine clVW (As := [.int (1 : Int32)]) (rest := []) (wr := [(o_s, .inl (ca 0, 1634, .inl o_s_d))]) (wn := [(o_s, .inl (ca 0, 1634, .inl o_s_d)), (o, .inr (7, [.ref o_s, .ref o_saved, .int o_savedCount, .ref o_text, .int o_textLength, .int r12_1, .int o_pieceCount, .ref o_pieceCell, .int o_at, .int o_commands, .ref o_letter, .ref o_number, .ref o_before, .long o_hash]))]) hx hb hml hown hts gX8_answer_X8_fails rfl 1 kX8_fails ⟨Nat.le_of_ble_eq_true rfl, Nat.le_of_ble_eq_true rfl⟩ (ctX8_fails l D ca o o_s o_saved o_text o_pieceCell o_letter o_number o_before o_savedCount o_textLength (0 : Int32) o_pieceCount o_at o_commands o_hash (1 : Int32) _ r12_0 r12_1 h_r12) hP hD hS hA hK [0] [1] rfl (by decide) rfl (by decide) (by decide) 0 7 rfl rfl rfl rfl hl.1 rfl (Nat.le_of_ble_eq_true rfl) ⟨Nat.le_of_ble_eq_true rfl, Nat.le_of_ble_eq_true rfl⟩ dX8_answer_27 rfl rfl (fun H locs hP hD hS => ?_)
    refine lv_i2l (v := (r12_0).toInt64) hx hb dX8_answer_30 rfl ?_
    have hP := hP.sub (ws' := [(o, .inr (7, [.ref o_s, .ref o_saved, .int o_savedCount, .ref o_text, .int o_textLength, .int r12_1, .int o_pieceCount, .ref o_pieceCell, .int o_at, .int o_commands, .ref o_letter, .ref o_number, .ref o_before, .long o_hash])), (o_s, .inl (ca 0, 1634, .inl o_s_d))]) [1, 0] rfl
    have hD := hD.sub (ws' := [(o, .inr (7, [.ref o_s, .ref o_saved, .int o_savedCount, .ref o_text, .int o_textLength, .int r12_1, .int o_pieceCount, .ref o_pieceCell, .int o_at, .int o_commands, .ref o_letter, .ref o_number, .ref o_before, .long o_hash])), (o_s, .inl (ca 0, 1634, .inl o_s_d))]) [1, 0] (by decide) rfl
    cases h
    exact hret 31 ls _ _ _ hP hD hS rfl dX8_answer_31
theorem mwX8_forget_0 : Cond.fieldLink RX8 31 "SegmentTimesModel" "code" "I" ∈ wsX8_forget := List.mem_of_getElem? (i := 1) rfl
theorem mwX8_forget_1 : Cond.fieldLink RX8 7 "SegmentTimesModel" "s" "[I" ∈ wsX8_forget := List.mem_of_getElem? (i := 2) rfl
theorem inX8_forget_X8 : ∀ w ∈ u_ws RX8 TX8 14, w ∈ wsX8_forget := fun w h => List.mem_cons_of_mem _ (List.mem_append_right _ (h))
theorem kX8_forget : yX8_forget.cls = RX8 ∧ yX8_forget.cls ≠ "java/lang/invoke/MethodHandle" ∧ yX8_forget.cls ≠ "java/lang/invoke/VarHandle" ∧ (parseMethodDescriptor yX8_forget.desc).map (fun d => d.parameters.length) = some 0 := by decide +kernel
set_option maxHeartbeats 4000000 in
set_option maxRecDepth 100000 in
theorem ctX8_forget (l : Launch) (D : va_G) (ca : Nat → ClassId) (o : Nat) (o_s : Nat) (o_saved : Nat) (o_text : Nat) (o_pieceCell : Nat) (o_letter : Nat) (o_number : Nat) (o_before : Nat) (o_savedCount : Int32) (o_textLength : Int32) (o_code : Int32) (o_pieceCount : Int32) (o_at : Int32) (o_commands : Int32) (o_hash : Int64) (o_s_d : Nat → Int32) (o_saved_d : Nat → Int32)  (sz : Nat) (u0 : Int32) (u1 : Int32) (u2 : Int32) (u3 : Nat → Int32) (u4 : Nat → Int32) (hf : fX8_forget o_savedCount o_code o_s_d o_saved_d = some (u0, u1, u2, u3, u4)) : MW l yX8_forget wsX8_forget 1 21 D ca [.ref o] sz [(o, .inr (7, [.ref o_s, .ref o_saved, .int o_savedCount, .ref o_text, .int o_textLength, .int o_code, .int o_pieceCount, .ref o_pieceCell, .int o_at, .int o_commands, .ref o_letter, .ref o_number, .ref o_before, .long o_hash])), (o_s, .inl (ca 0, 1634, .inl o_s_d)), (o_saved, .inl (ca 0, 6536, .inl o_saved_d))] (some (.int u0)) [(o, .inr (7, [.ref o_s, .ref o_saved, .int u1, .ref o_text, .int o_textLength, .int u2, .int o_pieceCount, .ref o_pieceCell, .int o_at, .int o_commands, .ref o_letter, .ref o_number, .ref o_before, .long o_hash])), (o_s, .inl (ca 0, 1634, .inl u3)), (o_saved, .inl (ca 0, 6536, .inl u4))] := by
  refine hdWi (by decide +kernel) rfl (Nat.le_of_ble_eq_true rfl) ?_
  intro p e s m args below meth c A Q hx hb hml hown hts hP hD hK hA hS hret ls hl
  have hown : s.vm.findClass RX8 = some m.cls := hown
  have hl : lv_has ls 2 [(0, .ref o)] := hl
  have h := hf
  unfold fX8_forget at h
  clear hf
  refine lv_aload_n hx hb dX8_forget_0 rfl (lv_at hl 0 rfl) ?_
  refine lv_iconst (v := (0 : Int32)) hx hb dX8_forget_1 (by decide) ?_
  refine ptI (ci := 7) (v := .int (0 : Int32)) (ty := .int) (C := RX8) (T := TX8) (N := 14) (wn := [(o, .inr (7, [.ref o_s, .ref o_saved, .int o_savedCount, .ref o_text, .int o_textLength, .int (0 : Int32), .int o_pieceCount, .ref o_pieceCell, .int o_at, .int o_commands, .ref o_letter, .ref o_number, .ref o_before, .long o_hash])), (o_s, .inl (ca 0, 1634, .inl o_s_d)), (o_saved, .inl (ca 0, 6536, .inl o_saved_d))]) hx hb hts inX8_forget_X8 tyX8 tyX8_ok nmX8 hown hK hP hD hS 0 rfl rfl 5 (by decide) mwX8_forget_0 rfl rfl (by decide +kernel) rfl rfl (Nat.le_of_ble_eq_true rfl) rfl dX8_forget_2 (fun H locs hP hD hS => ?_)
  refine lv_aload_n hx hb dX8_forget_5 rfl (lv_at hl 0 rfl) ?_
  obtain ⟨⟨r1_0, r1_1⟩, h_r1, h⟩ := bd_s h
  have h := up2_s h
  refine clVW (As := []) (rest := []) (wr := []) (wn := [(o, .inr (7, [.ref o_s, .ref o_saved, .int r1_0, .ref o_text, .int o_textLength, .int (0 : Int32), .int o_pieceCount, .ref o_pieceCell, .int o_at, .int o_commands, .ref o_letter, .ref o_number, .ref o_before, .long o_hash])), (o_s, .inl (ca 0, 1634, .inl o_s_d)), (o_saved, .inl (ca 0, 6536, .inl r1_1))]) hx hb hml hown hts gX8_forget_X8_keep rfl 0 kX8_keep ⟨Nat.le_of_ble_eq_true rfl, Nat.le_of_ble_eq_true rfl⟩ (ctX8_keep l D ca o o_s o_saved o_text o_pieceCell o_letter o_number o_before o_savedCount o_textLength (0 : Int32) o_pieceCount o_at o_commands o_hash o_s_d o_saved_d  _ r1_0 r1_1 h_r1) hP hD hS hA hK [0, 1, 2] [] rfl (by decide) rfl (by decide) (by decide) 0 7 rfl rfl rfl rfl hl.1 rfl (Nat.le_of_ble_eq_true rfl) ⟨Nat.le_of_ble_eq_true rfl, Nat.le_of_ble_eq_true rfl⟩ dX8_forget_6 rfl rfl (fun H locs hP hD hS => ?_)
  refine lv_aload_n hx hb dX8_forget_9 rfl (lv_at hl 0 rfl) ?_
  refine gtF (ci := 7) (v := .ref o_s) (C := RX8) (T := TX8) (N := 14) hx hb hts inX8_forget_X8 hown hK hP 0 rfl rfl 0 (by decide) mwX8_forget_1 rfl rfl dX8_forget_10 ?_
  refine lv_sipush (v := (242 : Int32)) hx hb dX8_forget_13 (by decide) ?_
  obtain ⟨hin, y2, e_y2, h⟩ := rd_s h
  refine ldI hx hb hK hP 1 rfl hin dX8_forget_16 ?_
  refine top_i e_y2 ?_
  refine lv_istore_n (lv' := [(1, .int y2), (0, .ref o)]) hx hb dX8_forget_17 rfl hl (by decide) rfl (fun ls hl => ?_)
  refine lv_aload_n hx hb dX8_forget_18 rfl (lv_at hl 1 rfl) ?_
  refine gtF (ci := 7) (v := .ref o_s) (C := RX8) (T := TX8) (N := 14) hx hb hts inX8_forget_X8 hown hK hP 0 rfl rfl 0 (by decide) mwX8_forget_1 rfl rfl dX8_forget_19 ?_
  refine lv_sipush (v := (242 : Int32)) hx hb dX8_forget_22 (by decide) ?_
  refine lv_iconst (v := (0 : Int32)) hx hb dX8_forget_25 (by decide) ?_
  obtain ⟨hin, g3, e_g3, h⟩ := wr_s h
  refine stI (wn := [(o, .inr (7, [.ref o_s, .ref o_saved, .int r1_0, .ref o_text, .int o_textLength, .int (0 : Int32), .int o_pieceCount, .ref o_pieceCell, .int o_at, .int o_commands, .ref o_letter, .ref o_number, .ref o_before, .long o_hash])), (o_s, .inl (ca 0, 1634, .inl g3)), (o_saved, .inl (ca 0, 6536, .inl r1_1))]) hx hb hK hP hD hS 1 rfl hin e_g3 rfl dX8_forget_26 (fun H locs hP hD hS => ?_)
  refine lv_iload_n hx hb dX8_forget_27 rfl (lv_at hl 0 rfl) ?_
  cases h
  exact hret 28 ls _ _ _ hP hD hS rfl dX8_forget_28
theorem mwX8_mark_0 : Cond.fieldLink RX8 31 "SegmentTimesModel" "code" "I" ∈ wsX8_mark := List.mem_of_getElem? (i := 1) rfl
theorem mwX8_mark_1 : Cond.fieldLink RX8 7 "SegmentTimesModel" "s" "[I" ∈ wsX8_mark := List.mem_of_getElem? (i := 2) rfl
theorem inX8_mark_X8 : ∀ w ∈ u_ws RX8 TX8 14, w ∈ wsX8_mark := fun w h => List.mem_cons_of_mem _ (List.mem_append_right _ (h))
theorem kX8_mark : yX8_mark.cls = RX8 ∧ yX8_mark.cls ≠ "java/lang/invoke/MethodHandle" ∧ yX8_mark.cls ≠ "java/lang/invoke/VarHandle" ∧ (parseMethodDescriptor yX8_mark.desc).map (fun d => d.parameters.length) = some 0 := by decide +kernel
set_option maxHeartbeats 4000000 in
set_option maxRecDepth 100000 in
theorem ctX8_mark (l : Launch) (D : va_G) (ca : Nat → ClassId) (o : Nat) (o_s : Nat) (o_saved : Nat) (o_text : Nat) (o_pieceCell : Nat) (o_letter : Nat) (o_number : Nat) (o_before : Nat) (o_savedCount : Int32) (o_textLength : Int32) (o_code : Int32) (o_pieceCount : Int32) (o_at : Int32) (o_commands : Int32) (o_hash : Int64) (o_s_d : Nat → Int32) (o_saved_d : Nat → Int32)  (sz : Nat) (u0 : Int32) (u1 : Int32) (u2 : Int32) (u3 : Nat → Int32) (u4 : Nat → Int32) (hf : fX8_mark o_savedCount o_code o_s_d o_saved_d = some (u0, u1, u2, u3, u4)) : MW l yX8_mark wsX8_mark 1 21 D ca [.ref o] sz [(o, .inr (7, [.ref o_s, .ref o_saved, .int o_savedCount, .ref o_text, .int o_textLength, .int o_code, .int o_pieceCount, .ref o_pieceCell, .int o_at, .int o_commands, .ref o_letter, .ref o_number, .ref o_before, .long o_hash])), (o_s, .inl (ca 0, 1634, .inl o_s_d)), (o_saved, .inl (ca 0, 6536, .inl o_saved_d))] (some (.int u0)) [(o, .inr (7, [.ref o_s, .ref o_saved, .int u1, .ref o_text, .int o_textLength, .int u2, .int o_pieceCount, .ref o_pieceCell, .int o_at, .int o_commands, .ref o_letter, .ref o_number, .ref o_before, .long o_hash])), (o_s, .inl (ca 0, 1634, .inl u3)), (o_saved, .inl (ca 0, 6536, .inl u4))] := by
  refine hdWi (by decide +kernel) rfl (Nat.le_of_ble_eq_true rfl) ?_
  intro p e s m args below meth c A Q hx hb hml hown hts hP hD hK hA hS hret ls hl
  have hown : s.vm.findClass RX8 = some m.cls := hown
  have hl : lv_has ls 2 [(0, .ref o)] := hl
  have h := hf
  unfold fX8_mark at h
  clear hf
  have L29 : ∀ (w_o_savedCount : Int32) (w_o_code : Int32) (w_o_saved_d : Nat → Int32) (n : Nat) (l1 : Int32) (w_o_s_d : Nat → Int32), lp (fun q => bX8_mark_29  w_o_savedCount w_o_code w_o_saved_d q.1 q.2) n (l1, w_o_s_d) = some (u0, u1, u2, u3, u4) → ∀ (H : Heap) (locs : List Loc), va_P D vwCl [(o, .inr (7, [.ref o_s, .ref o_saved, .int w_o_savedCount, .ref o_text, .int o_textLength, .int w_o_code, .int o_pieceCount, .ref o_pieceCell, .int o_at, .int o_commands, .ref o_letter, .ref o_number, .ref o_before, .long o_hash])), (o_s, .inl (ca 0, 1634, .inl w_o_s_d)), (o_saved, .inl (ca 0, 6536, .inl w_o_saved_d))] H → va_D A [(o, .inr (7, [.ref o_s, .ref o_saved, .int w_o_savedCount, .ref o_text, .int o_textLength, .int w_o_code, .int o_pieceCount, .ref o_pieceCell, .int o_at, .int o_commands, .ref o_letter, .ref o_number, .ref o_before, .long o_hash])), (o_s, .inl (ca 0, 1634, .inl w_o_s_d)), (o_saved, .inl (ca 0, 6536, .inl w_o_saved_d))] → va_S A s.heap H locs → ∀ ls, lv_has ls 2 [(0, .ref o), (1, .int l1)] → W p l e ({ frames := 1, cells := 0, slots := 0, locals := 21 }) s m args below meth c H locs 0 0 Q (F0 m 29 ls []) := by
    intro w_o_savedCount w_o_code w_o_saved_d n
    induction n with
    | zero => intro l1 w_o_s_d h; exact (lp_0 h).elim
    | succ n ih29 =>
      intro l1 w_o_s_d h H locs hP hD hS ls hl
      obtain ⟨q29, h, hq29⟩ := lp_s h
      have h : bX8_mark_29  w_o_savedCount w_o_code w_o_saved_d l1 w_o_s_d = some q29 := h
      unfold bX8_mark_29 at h
      refine lv_iload_n hx hb dX8_mark_29 rfl (lv_at hl 1 rfl) ?_
      refine lv_sipush (v := (242 : Int32)) hx hb dX8_mark_30 (by decide) ?_
      refine lv_icmp_ge (tgt := 71) hx hb dX8_mark_33 (by decide) (fun c1 => ?_) (fun c1 => ?_)
      · have h := ip_s h c1
        have h := xt_s hq29 h
        refine lv_aload_n hx hb dX8_mark_71 rfl (lv_at hl 0 rfl) ?_
        refine gtF (ci := 7) (v := .ref o_s) (C := RX8) (T := TX8) (N := 14) hx hb hts inX8_mark_X8 hown hK hP 0 rfl rfl 0 (by decide) mwX8_mark_1 rfl rfl dX8_mark_72 ?_
        refine lv_sipush (v := (423 : Int32)) hx hb dX8_mark_75 (by decide) ?_
        refine lv_dup2_11 hx hb dX8_mark_78 rfl rfl ?_
        obtain ⟨hin, y2, e_y2, h⟩ := rd_s h
        refine ldI hx hb hK hP 1 rfl hin dX8_mark_79 ?_
        refine top_i e_y2 ?_
        refine lv_iconst (v := (1 : Int32)) hx hb dX8_mark_80 (by decide) ?_
        refine lv_iadd hx hb dX8_mark_81 ?_
        obtain ⟨hin, g3, e_g3, h⟩ := wr_s h
        refine stI (wn := [(o, .inr (7, [.ref o_s, .ref o_saved, .int w_o_savedCount, .ref o_text, .int o_textLength, .int w_o_code, .int o_pieceCount, .ref o_pieceCell, .int o_at, .int o_commands, .ref o_letter, .ref o_number, .ref o_before, .long o_hash])), (o_s, .inl (ca 0, 1634, .inl g3)), (o_saved, .inl (ca 0, 6536, .inl w_o_saved_d))]) hx hb hK hP hD hS 1 rfl hin e_g3 rfl dX8_mark_82 (fun H locs hP hD hS => ?_)
        refine lv_aload_n hx hb dX8_mark_83 rfl (lv_at hl 0 rfl) ?_
        refine gtF (ci := 7) (v := .ref o_s) (C := RX8) (T := TX8) (N := 14) hx hb hts inX8_mark_X8 hown hK hP 0 rfl rfl 0 (by decide) mwX8_mark_1 rfl rfl dX8_mark_84 ?_
        refine lv_sipush (v := (423 : Int32)) hx hb dX8_mark_87 (by decide) ?_
        obtain ⟨hin, y4, e_y4, h⟩ := rd_s h
        refine ldI hx hb hK hP 1 rfl hin dX8_mark_90 ?_
        refine top_i e_y4 ?_
        cases h
        exact hret 91 ls _ _ _ hP hD hS rfl dX8_mark_91
      · have h := in_s h c1
        refine lv_aload_n hx hb dX8_mark_36 rfl (lv_at hl 0 rfl) ?_
        refine gtF (ci := 7) (v := .ref o_s) (C := RX8) (T := TX8) (N := 14) hx hb hts inX8_mark_X8 hown hK hP 0 rfl rfl 0 (by decide) mwX8_mark_1 rfl rfl dX8_mark_37 ?_
        refine lv_sipush (v := (424 : Int32)) hx hb dX8_mark_40 (by decide) ?_
        refine lv_sipush (v := (242 : Int32)) hx hb dX8_mark_43 (by decide) ?_
        refine lv_aload_n hx hb dX8_mark_46 rfl (lv_at hl 0 rfl) ?_
        refine gtF (ci := 7) (v := .ref o_s) (C := RX8) (T := TX8) (N := 14) hx hb hts inX8_mark_X8 hown hK hP 0 rfl rfl 0 (by decide) mwX8_mark_1 rfl rfl dX8_mark_47 ?_
        refine lv_sipush (v := (423 : Int32)) hx hb dX8_mark_50 (by decide) ?_
        obtain ⟨hin, y5, e_y5, h⟩ := rd_s h
        refine ldI hx hb hK hP 1 rfl hin dX8_mark_53 ?_
        refine top_i e_y5 ?_
        refine lv_imul hx hb dX8_mark_54 ?_
        refine lv_iadd hx hb dX8_mark_55 ?_
        refine lv_iload_n hx hb dX8_mark_56 rfl (lv_at hl 1 rfl) ?_
        refine lv_iadd hx hb dX8_mark_57 ?_
        refine lv_aload_n hx hb dX8_mark_58 rfl (lv_at hl 0 rfl) ?_
        refine gtF (ci := 7) (v := .ref o_s) (C := RX8) (T := TX8) (N := 14) hx hb hts inX8_mark_X8 hown hK hP 0 rfl rfl 0 (by decide) mwX8_mark_1 rfl rfl dX8_mark_59 ?_
        refine lv_iload_n hx hb dX8_mark_62 rfl (lv_at hl 1 rfl) ?_
        obtain ⟨hin, y6, e_y6, h⟩ := rd_s h
        refine ldI hx hb hK hP 1 rfl hin dX8_mark_63 ?_
        refine top_i e_y6 ?_
        obtain ⟨hin, g7, e_g7, h⟩ := wr_s h
        refine stI (wn := [(o, .inr (7, [.ref o_s, .ref o_saved, .int w_o_savedCount, .ref o_text, .int o_textLength, .int w_o_code, .int o_pieceCount, .ref o_pieceCell, .int o_at, .int o_commands, .ref o_letter, .ref o_number, .ref o_before, .long o_hash])), (o_s, .inl (ca 0, 1634, .inl g7)), (o_saved, .inl (ca 0, 6536, .inl w_o_saved_d))]) hx hb hK hP hD hS 1 rfl hin e_g7 rfl dX8_mark_64 (fun H locs hP hD hS => ?_)
        obtain ⟨y8, e_y8, h⟩ := nm_s h
        refine lv_iinc (v := y8) (lv' := [(1, .int y8), (0, .ref o)]) hx hb dX8_mark_65 hl (k := 1) rfl (by rw [e_y8]; rfl) (by decide) rfl (fun ls hl => ?_)
        refine lv_goto (tgt := 29) hx hb dX8_mark_68 (by decide) ?_
        exact ih29 y8 g7 (lp_l hq29 h) _ _ hP hD hS ls (lv_sub hl [1, 0] rfl)
  refine lv_aload_n hx hb dX8_mark_0 rfl (lv_at hl 0 rfl) ?_
  refine lv_iconst (v := (0 : Int32)) hx hb dX8_mark_1 (by decide) ?_
  refine ptI (ci := 7) (v := .int (0 : Int32)) (ty := .int) (C := RX8) (T := TX8) (N := 14) (wn := [(o, .inr (7, [.ref o_s, .ref o_saved, .int o_savedCount, .ref o_text, .int o_textLength, .int (0 : Int32), .int o_pieceCount, .ref o_pieceCell, .int o_at, .int o_commands, .ref o_letter, .ref o_number, .ref o_before, .long o_hash])), (o_s, .inl (ca 0, 1634, .inl o_s_d)), (o_saved, .inl (ca 0, 6536, .inl o_saved_d))]) hx hb hts inX8_mark_X8 tyX8 tyX8_ok nmX8 hown hK hP hD hS 0 rfl rfl 5 (by decide) mwX8_mark_0 rfl rfl (by decide +kernel) rfl rfl (Nat.le_of_ble_eq_true rfl) rfl dX8_mark_2 (fun H locs hP hD hS => ?_)
  refine lv_aload_n hx hb dX8_mark_5 rfl (lv_at hl 0 rfl) ?_
  refine gtF (ci := 7) (v := .ref o_s) (C := RX8) (T := TX8) (N := 14) hx hb hts inX8_mark_X8 hown hK hP 0 rfl rfl 0 (by decide) mwX8_mark_1 rfl rfl dX8_mark_6 ?_
  refine lv_sipush (v := (423 : Int32)) hx hb dX8_mark_9 (by decide) ?_
  obtain ⟨hin, y1, e_y1, h⟩ := rd_s h
  refine ldI hx hb hK hP 1 rfl hin dX8_mark_12 ?_
  refine top_i e_y1 ?_
  refine lv_iconst (v := (5 : Int32)) hx hb dX8_mark_13 (by decide) ?_
  refine lv_icmp_ne (tgt := 23) hx hb dX8_mark_14 (by decide) (fun c2 => ?_) (fun c2 => ?_)
  · have h := in_s h c2
    refine lv_aload_n hx hb dX8_mark_23 rfl (lv_at hl 0 rfl) ?_
    obtain ⟨⟨r3_0, r3_1⟩, h_r3, h⟩ := bd_s h
    have h := up2_s h
    refine clVW (As := []) (rest := []) (wr := []) (wn := [(o, .inr (7, [.ref o_s, .ref o_saved, .int r3_0, .ref o_text, .int o_textLength, .int (0 : Int32), .int o_pieceCount, .ref o_pieceCell, .int o_at, .int o_commands, .ref o_letter, .ref o_number, .ref o_before, .long o_hash])), (o_s, .inl (ca 0, 1634, .inl o_s_d)), (o_saved, .inl (ca 0, 6536, .inl r3_1))]) hx hb hml hown hts gX8_mark_X8_keep rfl 0 kX8_keep ⟨Nat.le_of_ble_eq_true rfl, Nat.le_of_ble_eq_true rfl⟩ (ctX8_keep l D ca o o_s o_saved o_text o_pieceCell o_letter o_number o_before o_savedCount o_textLength (0 : Int32) o_pieceCount o_at o_commands o_hash o_s_d o_saved_d  _ r3_0 r3_1 h_r3) hP hD hS hA hK [0, 1, 2] [] rfl (by decide) rfl (by decide) (by decide) 0 7 rfl rfl rfl rfl hl.1 rfl (Nat.le_of_ble_eq_true rfl) ⟨Nat.le_of_ble_eq_true rfl, Nat.le_of_ble_eq_true rfl⟩ dX8_mark_24 rfl rfl (fun H locs hP hD hS => ?_)
    refine lv_iconst (v := (0 : Int32)) hx hb dX8_mark_27 (by decide) ?_
    refine lv_istore_n (lv' := [(1, .int (0 : Int32)), (0, .ref o)]) hx hb dX8_mark_28 rfl hl (by decide) rfl (fun ls hl => ?_)
    exact L29 r3_0 (0 : Int32) r3_1 fuel (0 : Int32) o_s_d h _ _ hP hD hS ls (lv_sub hl [1, 0] rfl)
  · have h := ip_s h c2
    refine lv_aload_n hx hb dX8_mark_17 rfl (lv_at hl 0 rfl) ?_
    refine lv_iconst (v := (1 : Int32)) hx hb dX8_mark_18 (by decide) ?_
    obtain ⟨⟨r9_0, r9_1⟩, h_r9, h⟩ := bd_s h
    have h := up2_s h
    refine clVW (As := [.int (1 : Int32)]) (rest := []) (wr := [(o_s, .inl (ca 0, 1634, .inl o_s_d)), (o_saved, .inl (ca 0, 6536, .inl o_saved_d))]) (wn := [(o_s, .inl (ca 0, 1634, .inl o_s_d)), (o_saved, .inl (ca 0, 6536, .inl o_saved_d)), (o, .inr (7, [.ref o_s, .ref o_saved, .int o_savedCount, .ref o_text, .int o_textLength, .int r9_1, .int o_pieceCount, .ref o_pieceCell, .int o_at, .int o_commands, .ref o_letter, .ref o_number, .ref o_before, .long o_hash]))]) hx hb hml hown hts gX8_mark_X8_fails rfl 1 kX8_fails ⟨Nat.le_of_ble_eq_true rfl, Nat.le_of_ble_eq_true rfl⟩ (ctX8_fails l D ca o o_s o_saved o_text o_pieceCell o_letter o_number o_before o_savedCount o_textLength (0 : Int32) o_pieceCount o_at o_commands o_hash (1 : Int32) _ r9_0 r9_1 h_r9) hP hD hS hA hK [0] [1, 2] rfl (by decide) rfl (by decide) (by decide) 0 7 rfl rfl rfl rfl hl.1 rfl (Nat.le_of_ble_eq_true rfl) ⟨Nat.le_of_ble_eq_true rfl, Nat.le_of_ble_eq_true rfl⟩ dX8_mark_19 rfl rfl (fun H locs hP hD hS => ?_)
    have hP := hP.sub (ws' := [(o, .inr (7, [.ref o_s, .ref o_saved, .int o_savedCount, .ref o_text, .int o_textLength, .int r9_1, .int o_pieceCount, .ref o_pieceCell, .int o_at, .int o_commands, .ref o_letter, .ref o_number, .ref o_before, .long o_hash])), (o_s, .inl (ca 0, 1634, .inl o_s_d)), (o_saved, .inl (ca 0, 6536, .inl o_saved_d))]) [2, 0, 1] rfl
    have hD := hD.sub (ws' := [(o, .inr (7, [.ref o_s, .ref o_saved, .int o_savedCount, .ref o_text, .int o_textLength, .int r9_1, .int o_pieceCount, .ref o_pieceCell, .int o_at, .int o_commands, .ref o_letter, .ref o_number, .ref o_before, .long o_hash])), (o_s, .inl (ca 0, 1634, .inl o_s_d)), (o_saved, .inl (ca 0, 6536, .inl o_saved_d))]) [2, 0, 1] (by decide) rfl
    cases h
    exact hret 22 ls _ _ _ hP hD hS rfl dX8_mark_22
theorem mwX8_rollBack_0 : Cond.fieldLink RX8 31 "SegmentTimesModel" "code" "I" ∈ wsX8_rollBack := List.mem_of_getElem? (i := 1) rfl
theorem mwX8_rollBack_1 : Cond.fieldLink RX8 7 "SegmentTimesModel" "s" "[I" ∈ wsX8_rollBack := List.mem_of_getElem? (i := 2) rfl
theorem inX8_rollBack_X8 : ∀ w ∈ u_ws RX8 TX8 14, w ∈ wsX8_rollBack := fun w h => List.mem_cons_of_mem _ (List.mem_append_right _ (h))
theorem kX8_rollBack : yX8_rollBack.cls = RX8 ∧ yX8_rollBack.cls ≠ "java/lang/invoke/MethodHandle" ∧ yX8_rollBack.cls ≠ "java/lang/invoke/VarHandle" ∧ (parseMethodDescriptor yX8_rollBack.desc).map (fun d => d.parameters.length) = some 0 := by decide +kernel
set_option maxHeartbeats 4000000 in
set_option maxRecDepth 100000 in
theorem ctX8_rollBack (l : Launch) (D : va_G) (ca : Nat → ClassId) (o : Nat) (o_s : Nat) (o_saved : Nat) (o_text : Nat) (o_pieceCell : Nat) (o_letter : Nat) (o_number : Nat) (o_before : Nat) (o_savedCount : Int32) (o_textLength : Int32) (o_code : Int32) (o_pieceCount : Int32) (o_at : Int32) (o_commands : Int32) (o_hash : Int64) (o_s_d : Nat → Int32) (o_saved_d : Nat → Int32)  (sz : Nat) (u0 : Int32) (u1 : Int32) (u2 : Int32) (u3 : Nat → Int32) (u4 : Nat → Int32) (hf : fX8_rollBack o_savedCount o_code o_s_d o_saved_d = some (u0, u1, u2, u3, u4)) : MW l yX8_rollBack wsX8_rollBack 1 21 D ca [.ref o] sz [(o, .inr (7, [.ref o_s, .ref o_saved, .int o_savedCount, .ref o_text, .int o_textLength, .int o_code, .int o_pieceCount, .ref o_pieceCell, .int o_at, .int o_commands, .ref o_letter, .ref o_number, .ref o_before, .long o_hash])), (o_s, .inl (ca 0, 1634, .inl o_s_d)), (o_saved, .inl (ca 0, 6536, .inl o_saved_d))] (some (.int u0)) [(o, .inr (7, [.ref o_s, .ref o_saved, .int u1, .ref o_text, .int o_textLength, .int u2, .int o_pieceCount, .ref o_pieceCell, .int o_at, .int o_commands, .ref o_letter, .ref o_number, .ref o_before, .long o_hash])), (o_s, .inl (ca 0, 1634, .inl u3)), (o_saved, .inl (ca 0, 6536, .inl u4))] := by
  refine hdWi (by decide +kernel) rfl (Nat.le_of_ble_eq_true rfl) ?_
  intro p e s m args below meth c A Q hx hb hml hown hts hP hD hK hA hS hret ls hl
  have hown : s.vm.findClass RX8 = some m.cls := hown
  have hl : lv_has ls 2 [(0, .ref o)] := hl
  have h := hf
  unfold fX8_rollBack at h
  clear hf
  have L40 : ∀ (w_o_savedCount : Int32) (w_o_code : Int32) (w_o_saved_d : Nat → Int32) (n : Nat) (l1 : Int32) (w_o_s_d : Nat → Int32), lp (fun q => bX8_rollBack_40  w_o_savedCount w_o_code w_o_saved_d q.1 q.2) n (l1, w_o_s_d) = some (u0, u1, u2, u3, u4) → ∀ (H : Heap) (locs : List Loc), va_P D vwCl [(o, .inr (7, [.ref o_s, .ref o_saved, .int w_o_savedCount, .ref o_text, .int o_textLength, .int w_o_code, .int o_pieceCount, .ref o_pieceCell, .int o_at, .int o_commands, .ref o_letter, .ref o_number, .ref o_before, .long o_hash])), (o_s, .inl (ca 0, 1634, .inl w_o_s_d)), (o_saved, .inl (ca 0, 6536, .inl w_o_saved_d))] H → va_D A [(o, .inr (7, [.ref o_s, .ref o_saved, .int w_o_savedCount, .ref o_text, .int o_textLength, .int w_o_code, .int o_pieceCount, .ref o_pieceCell, .int o_at, .int o_commands, .ref o_letter, .ref o_number, .ref o_before, .long o_hash])), (o_s, .inl (ca 0, 1634, .inl w_o_s_d)), (o_saved, .inl (ca 0, 6536, .inl w_o_saved_d))] → va_S A s.heap H locs → ∀ ls, lv_has ls 2 [(0, .ref o), (1, .int l1)] → W p l e ({ frames := 1, cells := 0, slots := 0, locals := 21 }) s m args below meth c H locs 0 0 Q (F0 m 40 ls []) := by
    intro w_o_savedCount w_o_code w_o_saved_d n
    induction n with
    | zero => intro l1 w_o_s_d h; exact (lp_0 h).elim
    | succ n ih40 =>
      intro l1 w_o_s_d h H locs hP hD hS ls hl
      obtain ⟨q40, h, hq40⟩ := lp_s h
      have h : bX8_rollBack_40  w_o_savedCount w_o_code w_o_saved_d l1 w_o_s_d = some q40 := h
      unfold bX8_rollBack_40 at h
      refine lv_iload_n hx hb dX8_rollBack_40 rfl (lv_at hl 1 rfl) ?_
      refine lv_sipush (v := (242 : Int32)) hx hb dX8_rollBack_41 (by decide) ?_
      refine lv_icmp_ge (tgt := 82) hx hb dX8_rollBack_44 (by decide) (fun c1 => ?_) (fun c1 => ?_)
      · have h := ip_s h c1
        have h := xt_s hq40 h
        refine lv_aload_n hx hb dX8_rollBack_82 rfl (lv_at hl 0 rfl) ?_
        refine gtF (ci := 7) (v := .ref o_s) (C := RX8) (T := TX8) (N := 14) hx hb hts inX8_rollBack_X8 hown hK hP 0 rfl rfl 0 (by decide) mwX8_rollBack_1 rfl rfl dX8_rollBack_83 ?_
        refine lv_sipush (v := (423 : Int32)) hx hb dX8_rollBack_86 (by decide) ?_
        obtain ⟨hin, y2, e_y2, h⟩ := rd_s h
        refine ldI hx hb hK hP 1 rfl hin dX8_rollBack_89 ?_
        refine top_i e_y2 ?_
        cases h
        exact hret 90 ls _ _ _ hP hD hS rfl dX8_rollBack_90
      · have h := in_s h c1
        refine lv_aload_n hx hb dX8_rollBack_47 rfl (lv_at hl 0 rfl) ?_
        refine gtF (ci := 7) (v := .ref o_s) (C := RX8) (T := TX8) (N := 14) hx hb hts inX8_rollBack_X8 hown hK hP 0 rfl rfl 0 (by decide) mwX8_rollBack_1 rfl rfl dX8_rollBack_48 ?_
        refine lv_iload_n hx hb dX8_rollBack_51 rfl (lv_at hl 1 rfl) ?_
        refine lv_aload_n hx hb dX8_rollBack_52 rfl (lv_at hl 0 rfl) ?_
        refine gtF (ci := 7) (v := .ref o_s) (C := RX8) (T := TX8) (N := 14) hx hb hts inX8_rollBack_X8 hown hK hP 0 rfl rfl 0 (by decide) mwX8_rollBack_1 rfl rfl dX8_rollBack_53 ?_
        refine lv_sipush (v := (424 : Int32)) hx hb dX8_rollBack_56 (by decide) ?_
        refine lv_sipush (v := (242 : Int32)) hx hb dX8_rollBack_59 (by decide) ?_
        refine lv_aload_n hx hb dX8_rollBack_62 rfl (lv_at hl 0 rfl) ?_
        refine gtF (ci := 7) (v := .ref o_s) (C := RX8) (T := TX8) (N := 14) hx hb hts inX8_rollBack_X8 hown hK hP 0 rfl rfl 0 (by decide) mwX8_rollBack_1 rfl rfl dX8_rollBack_63 ?_
        refine lv_sipush (v := (423 : Int32)) hx hb dX8_rollBack_66 (by decide) ?_
        obtain ⟨hin, y3, e_y3, h⟩ := rd_s h
        refine ldI hx hb hK hP 1 rfl hin dX8_rollBack_69 ?_
        refine top_i e_y3 ?_
        refine lv_imul hx hb dX8_rollBack_70 ?_
        refine lv_iadd hx hb dX8_rollBack_71 ?_
        refine lv_iload_n hx hb dX8_rollBack_72 rfl (lv_at hl 1 rfl) ?_
        refine lv_iadd hx hb dX8_rollBack_73 ?_
        obtain ⟨hin, y4, e_y4, h⟩ := rd_s h
        refine ldI hx hb hK hP 1 rfl hin dX8_rollBack_74 ?_
        refine top_i e_y4 ?_
        obtain ⟨hin, g5, e_g5, h⟩ := wr_s h
        refine stI (wn := [(o, .inr (7, [.ref o_s, .ref o_saved, .int w_o_savedCount, .ref o_text, .int o_textLength, .int w_o_code, .int o_pieceCount, .ref o_pieceCell, .int o_at, .int o_commands, .ref o_letter, .ref o_number, .ref o_before, .long o_hash])), (o_s, .inl (ca 0, 1634, .inl g5)), (o_saved, .inl (ca 0, 6536, .inl w_o_saved_d))]) hx hb hK hP hD hS 1 rfl hin e_g5 rfl dX8_rollBack_75 (fun H locs hP hD hS => ?_)
        obtain ⟨y6, e_y6, h⟩ := nm_s h
        refine lv_iinc (v := y6) (lv' := [(1, .int y6), (0, .ref o)]) hx hb dX8_rollBack_76 hl (k := 1) rfl (by rw [e_y6]; rfl) (by decide) rfl (fun ls hl => ?_)
        refine lv_goto (tgt := 40) hx hb dX8_rollBack_79 (by decide) ?_
        exact ih40 y6 g5 (lp_l hq40 h) _ _ hP hD hS ls (lv_sub hl [1, 0] rfl)
  refine lv_aload_n hx hb dX8_rollBack_0 rfl (lv_at hl 0 rfl) ?_
  refine lv_iconst (v := (0 : Int32)) hx hb dX8_rollBack_1 (by decide) ?_
  refine ptI (ci := 7) (v := .int (0 : Int32)) (ty := .int) (C := RX8) (T := TX8) (N := 14) (wn := [(o, .inr (7, [.ref o_s, .ref o_saved, .int o_savedCount, .ref o_text, .int o_textLength, .int (0 : Int32), .int o_pieceCount, .ref o_pieceCell, .int o_at, .int o_commands, .ref o_letter, .ref o_number, .ref o_before, .long o_hash])), (o_s, .inl (ca 0, 1634, .inl o_s_d)), (o_saved, .inl (ca 0, 6536, .inl o_saved_d))]) hx hb hts inX8_rollBack_X8 tyX8 tyX8_ok nmX8 hown hK hP hD hS 0 rfl rfl 5 (by decide) mwX8_rollBack_0 rfl rfl (by decide +kernel) rfl rfl (Nat.le_of_ble_eq_true rfl) rfl dX8_rollBack_2 (fun H locs hP hD hS => ?_)
  refine lv_aload_n hx hb dX8_rollBack_5 rfl (lv_at hl 0 rfl) ?_
  refine gtF (ci := 7) (v := .ref o_s) (C := RX8) (T := TX8) (N := 14) hx hb hts inX8_rollBack_X8 hown hK hP 0 rfl rfl 0 (by decide) mwX8_rollBack_1 rfl rfl dX8_rollBack_6 ?_
  refine lv_sipush (v := (423 : Int32)) hx hb dX8_rollBack_9 (by decide) ?_
  obtain ⟨hin, y1, e_y1, h⟩ := rd_s h
  refine ldI hx hb hK hP 1 rfl hin dX8_rollBack_12 ?_
  refine top_i e_y1 ?_
  refine lv_if_ne (tgt := 22) hx hb dX8_rollBack_13 (by decide) (fun c2 => ?_) (fun c2 => ?_)
  · have h := in_s h c2
    refine lv_aload_n hx hb dX8_rollBack_22 rfl (lv_at hl 0 rfl) ?_
    obtain ⟨⟨r3_0, r3_1⟩, h_r3, h⟩ := bd_s h
    have h := up2_s h
    refine clVW (As := []) (rest := []) (wr := []) (wn := [(o, .inr (7, [.ref o_s, .ref o_saved, .int r3_0, .ref o_text, .int o_textLength, .int (0 : Int32), .int o_pieceCount, .ref o_pieceCell, .int o_at, .int o_commands, .ref o_letter, .ref o_number, .ref o_before, .long o_hash])), (o_s, .inl (ca 0, 1634, .inl o_s_d)), (o_saved, .inl (ca 0, 6536, .inl r3_1))]) hx hb hml hown hts gX8_rollBack_X8_keep rfl 0 kX8_keep ⟨Nat.le_of_ble_eq_true rfl, Nat.le_of_ble_eq_true rfl⟩ (ctX8_keep l D ca o o_s o_saved o_text o_pieceCell o_letter o_number o_before o_savedCount o_textLength (0 : Int32) o_pieceCount o_at o_commands o_hash o_s_d o_saved_d  _ r3_0 r3_1 h_r3) hP hD hS hA hK [0, 1, 2] [] rfl (by decide) rfl (by decide) (by decide) 0 7 rfl rfl rfl rfl hl.1 rfl (Nat.le_of_ble_eq_true rfl) ⟨Nat.le_of_ble_eq_true rfl, Nat.le_of_ble_eq_true rfl⟩ dX8_rollBack_23 rfl rfl (fun H locs hP hD hS => ?_)
    refine lv_aload_n hx hb dX8_rollBack_26 rfl (lv_at hl 0 rfl) ?_
    refine gtF (ci := 7) (v := .ref o_s) (C := RX8) (T := TX8) (N := 14) hx hb hts inX8_rollBack_X8 hown hK hP 0 rfl rfl 0 (by decide) mwX8_rollBack_1 rfl rfl dX8_rollBack_27 ?_
    refine lv_sipush (v := (423 : Int32)) hx hb dX8_rollBack_30 (by decide) ?_
    refine lv_dup2_11 hx hb dX8_rollBack_33 rfl rfl ?_
    obtain ⟨hin, y4, e_y4, h⟩ := rd_s h
    refine ldI hx hb hK hP 1 rfl hin dX8_rollBack_34 ?_
    refine top_i e_y4 ?_
    refine lv_iconst (v := (1 : Int32)) hx hb dX8_rollBack_35 (by decide) ?_
    refine lv_isub hx hb dX8_rollBack_36 ?_
    obtain ⟨hin, g5, e_g5, h⟩ := wr_s h
    refine stI (wn := [(o, .inr (7, [.ref o_s, .ref o_saved, .int r3_0, .ref o_text, .int o_textLength, .int (0 : Int32), .int o_pieceCount, .ref o_pieceCell, .int o_at, .int o_commands, .ref o_letter, .ref o_number, .ref o_before, .long o_hash])), (o_s, .inl (ca 0, 1634, .inl g5)), (o_saved, .inl (ca 0, 6536, .inl r3_1))]) hx hb hK hP hD hS 1 rfl hin e_g5 rfl dX8_rollBack_37 (fun H locs hP hD hS => ?_)
    refine lv_iconst (v := (0 : Int32)) hx hb dX8_rollBack_38 (by decide) ?_
    refine lv_istore_n (lv' := [(1, .int (0 : Int32)), (0, .ref o)]) hx hb dX8_rollBack_39 rfl hl (by decide) rfl (fun ls hl => ?_)
    exact L40 r3_0 (0 : Int32) r3_1 fuel (0 : Int32) g5 h _ _ hP hD hS ls (lv_sub hl [1, 0] rfl)
  · have h := ip_s h c2
    refine lv_aload_n hx hb dX8_rollBack_16 rfl (lv_at hl 0 rfl) ?_
    refine lv_iconst (v := (1 : Int32)) hx hb dX8_rollBack_17 (by decide) ?_
    obtain ⟨⟨r7_0, r7_1⟩, h_r7, h⟩ := bd_s h
    have h := up2_s h
    refine clVW (As := [.int (1 : Int32)]) (rest := []) (wr := [(o_s, .inl (ca 0, 1634, .inl o_s_d)), (o_saved, .inl (ca 0, 6536, .inl o_saved_d))]) (wn := [(o_s, .inl (ca 0, 1634, .inl o_s_d)), (o_saved, .inl (ca 0, 6536, .inl o_saved_d)), (o, .inr (7, [.ref o_s, .ref o_saved, .int o_savedCount, .ref o_text, .int o_textLength, .int r7_1, .int o_pieceCount, .ref o_pieceCell, .int o_at, .int o_commands, .ref o_letter, .ref o_number, .ref o_before, .long o_hash]))]) hx hb hml hown hts gX8_rollBack_X8_fails rfl 1 kX8_fails ⟨Nat.le_of_ble_eq_true rfl, Nat.le_of_ble_eq_true rfl⟩ (ctX8_fails l D ca o o_s o_saved o_text o_pieceCell o_letter o_number o_before o_savedCount o_textLength (0 : Int32) o_pieceCount o_at o_commands o_hash (1 : Int32) _ r7_0 r7_1 h_r7) hP hD hS hA hK [0] [1, 2] rfl (by decide) rfl (by decide) (by decide) 0 7 rfl rfl rfl rfl hl.1 rfl (Nat.le_of_ble_eq_true rfl) ⟨Nat.le_of_ble_eq_true rfl, Nat.le_of_ble_eq_true rfl⟩ dX8_rollBack_18 rfl rfl (fun H locs hP hD hS => ?_)
    have hP := hP.sub (ws' := [(o, .inr (7, [.ref o_s, .ref o_saved, .int o_savedCount, .ref o_text, .int o_textLength, .int r7_1, .int o_pieceCount, .ref o_pieceCell, .int o_at, .int o_commands, .ref o_letter, .ref o_number, .ref o_before, .long o_hash])), (o_s, .inl (ca 0, 1634, .inl o_s_d)), (o_saved, .inl (ca 0, 6536, .inl o_saved_d))]) [2, 0, 1] rfl
    have hD := hD.sub (ws' := [(o, .inr (7, [.ref o_s, .ref o_saved, .int o_savedCount, .ref o_text, .int o_textLength, .int r7_1, .int o_pieceCount, .ref o_pieceCell, .int o_at, .int o_commands, .ref o_letter, .ref o_number, .ref o_before, .long o_hash])), (o_s, .inl (ca 0, 1634, .inl o_s_d)), (o_saved, .inl (ca 0, 6536, .inl o_saved_d))]) [2, 0, 1] (by decide) rfl
    cases h
    exact hret 21 ls _ _ _ hP hD hS rfl dX8_rollBack_21
theorem mwX8_append_0 : Cond.fieldLink RX8 31 "SegmentTimesModel" "code" "I" ∈ wsX8_append := List.mem_of_getElem? (i := 1) rfl
theorem mwX8_append_1 : Cond.constantLong RX8 196 (127) ∈ wsX8_append := List.mem_of_getElem? (i := 2) rfl
theorem mwX8_append_2 : Cond.fieldLink RX8 198 "SegmentTimesModel" "textLength" "I" ∈ wsX8_append := List.mem_of_getElem? (i := 3) rfl
theorem mwX8_append_3 : Cond.fieldLink RX8 16 "SegmentTimesModel" "text" "[I" ∈ wsX8_append := List.mem_of_getElem? (i := 4) rfl
theorem inX8_append_X8 : ∀ w ∈ u_ws RX8 TX8 14, w ∈ wsX8_append := fun w h => List.mem_cons_of_mem _ (List.mem_append_right _ (h))
theorem kX8_append : yX8_append.cls = RX8 ∧ yX8_append.cls ≠ "java/lang/invoke/MethodHandle" ∧ yX8_append.cls ≠ "java/lang/invoke/VarHandle" ∧ (parseMethodDescriptor yX8_append.desc).map (fun d => d.parameters.length) = some 1 := by decide +kernel
set_option maxHeartbeats 4000000 in
set_option maxRecDepth 100000 in
theorem ctX8_append (l : Launch) (D : va_G) (ca : Nat → ClassId) (o : Nat) (o_s : Nat) (o_saved : Nat) (o_text : Nat) (o_pieceCell : Nat) (o_letter : Nat) (o_number : Nat) (o_before : Nat) (o_savedCount : Int32) (o_textLength : Int32) (o_code : Int32) (o_pieceCount : Int32) (o_at : Int32) (o_commands : Int32) (o_hash : Int64) (o_text_d : Nat → Int32) (x1 : Int32) (sz : Nat) (u0 : Int32) (u1 : Int32) (u2 : Int32) (u3 : Nat → Int32) (hf : fX8_append o_textLength o_code o_text_d x1 = some (u0, u1, u2, u3)) : MW l yX8_append wsX8_append 1 25 D ca [.ref o, .int x1] sz [(o, .inr (7, [.ref o_s, .ref o_saved, .int o_savedCount, .ref o_text, .int o_textLength, .int o_code, .int o_pieceCount, .ref o_pieceCell, .int o_at, .int o_commands, .ref o_letter, .ref o_number, .ref o_before, .long o_hash])), (o_text, .inl (ca 0, 120, .inl o_text_d))] (some (.int u0)) [(o, .inr (7, [.ref o_s, .ref o_saved, .int o_savedCount, .ref o_text, .int u1, .int u2, .int o_pieceCount, .ref o_pieceCell, .int o_at, .int o_commands, .ref o_letter, .ref o_number, .ref o_before, .long o_hash])), (o_text, .inl (ca 0, 120, .inl u3))] := by
  refine hdWi (by decide +kernel) rfl (Nat.le_of_ble_eq_true rfl) ?_
  intro p e s m args below meth c A Q hx hb hml hown hts hP hD hK hA hS hret ls hl
  have hown : s.vm.findClass RX8 = some m.cls := hown
  have hl : lv_has ls 2 [(0, .ref o), (1, .int x1)] := hl
  have h := hf
  unfold fX8_append at h
  clear hf
  refine lv_aload_n hx hb dX8_append_0 rfl (lv_at hl 0 rfl) ?_
  refine lv_iconst (v := (0 : Int32)) hx hb dX8_append_1 (by decide) ?_
  refine ptI (ci := 7) (v := .int (0 : Int32)) (ty := .int) (C := RX8) (T := TX8) (N := 14) (wn := [(o, .inr (7, [.ref o_s, .ref o_saved, .int o_savedCount, .ref o_text, .int o_textLength, .int (0 : Int32), .int o_pieceCount, .ref o_pieceCell, .int o_at, .int o_commands, .ref o_letter, .ref o_number, .ref o_before, .long o_hash])), (o_text, .inl (ca 0, 120, .inl o_text_d))]) hx hb hts inX8_append_X8 tyX8 tyX8_ok nmX8 hown hK hP hD hS 0 rfl rfl 5 (by decide) mwX8_append_0 rfl rfl (by decide +kernel) rfl rfl (Nat.le_of_ble_eq_true rfl) rfl dX8_append_2 (fun H locs hP hD hS => ?_)
  refine lv_iload_n hx hb dX8_append_5 rfl (lv_at hl 1 rfl) ?_
  refine lv_i2l (v := (x1).toInt64) hx hb dX8_append_6 rfl ?_
  refine lv_lconst (v := (0 : Int64)) hx hb dX8_append_7 (by decide) ?_
  refine lv_ldc2 (v := (127 : Int64)) hx hb hown (hts _ mwX8_append_1) dX8_append_8 ?_
  obtain ⟨r1, h_r1, h⟩ := bd_s h
  refine clSR (As := [.long (x1).toInt64, .long (0 : Int64), .long (127 : Int64)]) (rest := []) hx hb hml hown hts gX8_append_X8_in rfl 3 kX8_in.2 ⟨Nat.le_of_ble_eq_true rfl, Nat.le_of_ble_eq_true rfl⟩ (ctX8_in l D ca   ((x1).toInt64) (0 : Int64) (127 : Int64) r1 h_r1) hP hK [] rfl rfl hl.1 rfl (Nat.le_of_ble_eq_true rfl) ⟨Nat.le_of_ble_eq_true rfl, Nat.le_of_ble_eq_true rfl⟩ dX8_append_11 rfl ?_
  refine lv_if_ne (tgt := 23) hx hb dX8_append_14 (by decide) (fun c2 => ?_) (fun c2 => ?_)
  · have h := in_s h c2
    refine lv_aload_n hx hb dX8_append_23 rfl (lv_at hl 0 rfl) ?_
    refine gtF (ci := 7) (v := .int o_textLength) (C := RX8) (T := TX8) (N := 14) hx hb hts inX8_append_X8 hown hK hP 0 rfl rfl 4 (by decide) mwX8_append_2 rfl rfl dX8_append_24 ?_
    refine lv_bipush (v := (120 : Int32)) hx hb dX8_append_27 (by decide) ?_
    refine lv_icmp_ne (tgt := 38) hx hb dX8_append_29 (by decide) (fun c3 => ?_) (fun c3 => ?_)
    · have h := in_s h c3
      refine lv_aload_n hx hb dX8_append_38 rfl (lv_at hl 0 rfl) ?_
      refine gtF (ci := 7) (v := .ref o_text) (C := RX8) (T := TX8) (N := 14) hx hb hts inX8_append_X8 hown hK hP 0 rfl rfl 3 (by decide) mwX8_append_3 rfl rfl dX8_append_39 ?_
      refine lv_aload_n hx hb dX8_append_42 rfl (lv_at hl 0 rfl) ?_
      refine gtF (ci := 7) (v := .int o_textLength) (C := RX8) (T := TX8) (N := 14) hx hb hts inX8_append_X8 hown hK hP 0 rfl rfl 4 (by decide) mwX8_append_2 rfl rfl dX8_append_43 ?_
      refine lv_iload_n hx hb dX8_append_46 rfl (lv_at hl 1 rfl) ?_
      obtain ⟨hin, g4, e_g4, h⟩ := wr_s h
      refine stI (wn := [(o, .inr (7, [.ref o_s, .ref o_saved, .int o_savedCount, .ref o_text, .int o_textLength, .int (0 : Int32), .int o_pieceCount, .ref o_pieceCell, .int o_at, .int o_commands, .ref o_letter, .ref o_number, .ref o_before, .long o_hash])), (o_text, .inl (ca 0, 120, .inl g4))]) hx hb hK hP hD hS 1 rfl hin e_g4 rfl dX8_append_47 (fun H locs hP hD hS => ?_)
      refine lv_aload_n hx hb dX8_append_48 rfl (lv_at hl 0 rfl) ?_
      refine lv_dup hx hb dX8_append_49 rfl ?_
      refine gtF (ci := 7) (v := .int o_textLength) (C := RX8) (T := TX8) (N := 14) hx hb hts inX8_append_X8 hown hK hP 0 rfl rfl 4 (by decide) mwX8_append_2 rfl rfl dX8_append_50 ?_
      refine lv_iconst (v := (1 : Int32)) hx hb dX8_append_53 (by decide) ?_
      refine lv_iadd hx hb dX8_append_54 ?_
      obtain ⟨y5, e_y5, h⟩ := nm_s h
      refine top_i e_y5 ?_
      refine ptI (ci := 7) (v := .int y5) (ty := .int) (C := RX8) (T := TX8) (N := 14) (wn := [(o, .inr (7, [.ref o_s, .ref o_saved, .int o_savedCount, .ref o_text, .int y5, .int (0 : Int32), .int o_pieceCount, .ref o_pieceCell, .int o_at, .int o_commands, .ref o_letter, .ref o_number, .ref o_before, .long o_hash])), (o_text, .inl (ca 0, 120, .inl g4))]) hx hb hts inX8_append_X8 tyX8 tyX8_ok nmX8 hown hK hP hD hS 0 rfl rfl 4 (by decide) mwX8_append_2 rfl rfl (by decide +kernel) rfl rfl (Nat.le_of_ble_eq_true rfl) rfl dX8_append_55 (fun H locs hP hD hS => ?_)
      refine lv_aload_n hx hb dX8_append_58 rfl (lv_at hl 0 rfl) ?_
      refine gtF (ci := 7) (v := .int y5) (C := RX8) (T := TX8) (N := 14) hx hb hts inX8_append_X8 hown hK hP 0 rfl rfl 4 (by decide) mwX8_append_2 rfl rfl dX8_append_59 ?_
      cases h
      exact hret 62 ls _ _ _ hP hD hS rfl dX8_append_62
    · have h := ip_s h c3
      refine lv_aload_n hx hb dX8_append_32 rfl (lv_at hl 0 rfl) ?_
      refine lv_iconst (v := (2 : Int32)) hx hb dX8_append_33 (by decide) ?_
      obtain ⟨⟨r6_0, r6_1⟩, h_r6, h⟩ := bd_s h
      have h := up2_s h
      refine clVW (As := [.int (2 : Int32)]) (rest := []) (wr := [(o_text, .inl (ca 0, 120, .inl o_text_d))]) (wn := [(o_text, .inl (ca 0, 120, .inl o_text_d)), (o, .inr (7, [.ref o_s, .ref o_saved, .int o_savedCount, .ref o_text, .int o_textLength, .int r6_1, .int o_pieceCount, .ref o_pieceCell, .int o_at, .int o_commands, .ref o_letter, .ref o_number, .ref o_before, .long o_hash]))]) hx hb hml hown hts gX8_append_X8_fails rfl 1 kX8_fails ⟨Nat.le_of_ble_eq_true rfl, Nat.le_of_ble_eq_true rfl⟩ (ctX8_fails l D ca o o_s o_saved o_text o_pieceCell o_letter o_number o_before o_savedCount o_textLength (0 : Int32) o_pieceCount o_at o_commands o_hash (2 : Int32) _ r6_0 r6_1 h_r6) hP hD hS hA hK [0] [1] rfl (by decide) rfl (by decide) (by decide) 0 7 rfl rfl rfl rfl hl.1 rfl (Nat.le_of_ble_eq_true rfl) ⟨Nat.le_of_ble_eq_true rfl, Nat.le_of_ble_eq_true rfl⟩ dX8_append_34 rfl rfl (fun H locs hP hD hS => ?_)
      have hP := hP.sub (ws' := [(o, .inr (7, [.ref o_s, .ref o_saved, .int o_savedCount, .ref o_text, .int o_textLength, .int r6_1, .int o_pieceCount, .ref o_pieceCell, .int o_at, .int o_commands, .ref o_letter, .ref o_number, .ref o_before, .long o_hash])), (o_text, .inl (ca 0, 120, .inl o_text_d))]) [1, 0] rfl
      have hD := hD.sub (ws' := [(o, .inr (7, [.ref o_s, .ref o_saved, .int o_savedCount, .ref o_text, .int o_textLength, .int r6_1, .int o_pieceCount, .ref o_pieceCell, .int o_at, .int o_commands, .ref o_letter, .ref o_number, .ref o_before, .long o_hash])), (o_text, .inl (ca 0, 120, .inl o_text_d))]) [1, 0] (by decide) rfl
      cases h
      exact hret 37 ls _ _ _ hP hD hS rfl dX8_append_37
  · have h := ip_s h c2
    refine lv_aload_n hx hb dX8_append_17 rfl (lv_at hl 0 rfl) ?_
    refine lv_iconst (v := (1 : Int32)) hx hb dX8_append_18 (by decide) ?_
    obtain ⟨⟨r7_0, r7_1⟩, h_r7, h⟩ := bd_s h
    have h := up2_s h
    refine clVW (As := [.int (1 : Int32)]) (rest := []) (wr := [(o_text, .inl (ca 0, 120, .inl o_text_d))]) (wn := [(o_text, .inl (ca 0, 120, .inl o_text_d)), (o, .inr (7, [.ref o_s, .ref o_saved, .int o_savedCount, .ref o_text, .int o_textLength, .int r7_1, .int o_pieceCount, .ref o_pieceCell, .int o_at, .int o_commands, .ref o_letter, .ref o_number, .ref o_before, .long o_hash]))]) hx hb hml hown hts gX8_append_X8_fails rfl 1 kX8_fails ⟨Nat.le_of_ble_eq_true rfl, Nat.le_of_ble_eq_true rfl⟩ (ctX8_fails l D ca o o_s o_saved o_text o_pieceCell o_letter o_number o_before o_savedCount o_textLength (0 : Int32) o_pieceCount o_at o_commands o_hash (1 : Int32) _ r7_0 r7_1 h_r7) hP hD hS hA hK [0] [1] rfl (by decide) rfl (by decide) (by decide) 0 7 rfl rfl rfl rfl hl.1 rfl (Nat.le_of_ble_eq_true rfl) ⟨Nat.le_of_ble_eq_true rfl, Nat.le_of_ble_eq_true rfl⟩ dX8_append_19 rfl rfl (fun H locs hP hD hS => ?_)
    have hP := hP.sub (ws' := [(o, .inr (7, [.ref o_s, .ref o_saved, .int o_savedCount, .ref o_text, .int o_textLength, .int r7_1, .int o_pieceCount, .ref o_pieceCell, .int o_at, .int o_commands, .ref o_letter, .ref o_number, .ref o_before, .long o_hash])), (o_text, .inl (ca 0, 120, .inl o_text_d))]) [1, 0] rfl
    have hD := hD.sub (ws' := [(o, .inr (7, [.ref o_s, .ref o_saved, .int o_savedCount, .ref o_text, .int o_textLength, .int r7_1, .int o_pieceCount, .ref o_pieceCell, .int o_at, .int o_commands, .ref o_letter, .ref o_number, .ref o_before, .long o_hash])), (o_text, .inl (ca 0, 120, .inl o_text_d))]) [1, 0] (by decide) rfl
    cases h
    exact hret 22 ls _ _ _ hP hD hS rfl dX8_append_22
theorem mwX8_clearText_0 : Cond.fieldLink RX8 31 "SegmentTimesModel" "code" "I" ∈ wsX8_clearText := List.mem_of_getElem? (i := 1) rfl
theorem mwX8_clearText_1 : Cond.fieldLink RX8 198 "SegmentTimesModel" "textLength" "I" ∈ wsX8_clearText := List.mem_of_getElem? (i := 2) rfl
theorem inX8_clearText_X8 : ∀ w ∈ u_ws RX8 TX8 14, w ∈ wsX8_clearText := fun w h => List.mem_cons_of_mem _ (List.mem_append_right _ (h))
theorem kX8_clearText : yX8_clearText.cls = RX8 ∧ yX8_clearText.cls ≠ "java/lang/invoke/MethodHandle" ∧ yX8_clearText.cls ≠ "java/lang/invoke/VarHandle" ∧ (parseMethodDescriptor yX8_clearText.desc).map (fun d => d.parameters.length) = some 0 := by decide +kernel
set_option maxHeartbeats 4000000 in
set_option maxRecDepth 100000 in
theorem ctX8_clearText (l : Launch) (D : va_G) (ca : Nat → ClassId) (o : Nat) (o_s : Nat) (o_saved : Nat) (o_text : Nat) (o_pieceCell : Nat) (o_letter : Nat) (o_number : Nat) (o_before : Nat) (o_savedCount : Int32) (o_textLength : Int32) (o_code : Int32) (o_pieceCount : Int32) (o_at : Int32) (o_commands : Int32) (o_hash : Int64)  (sz : Nat) (u0 : Int32) (u1 : Int32) (u2 : Int32) (hf : fX8_clearText o_textLength o_code = some (u0, u1, u2)) : MW l yX8_clearText wsX8_clearText 0 0 D ca [.ref o] sz [(o, .inr (7, [.ref o_s, .ref o_saved, .int o_savedCount, .ref o_text, .int o_textLength, .int o_code, .int o_pieceCount, .ref o_pieceCell, .int o_at, .int o_commands, .ref o_letter, .ref o_number, .ref o_before, .long o_hash]))] (some (.int u0)) [(o, .inr (7, [.ref o_s, .ref o_saved, .int o_savedCount, .ref o_text, .int u1, .int u2, .int o_pieceCount, .ref o_pieceCell, .int o_at, .int o_commands, .ref o_letter, .ref o_number, .ref o_before, .long o_hash]))] := by
  refine hdWi (by decide +kernel) rfl (Nat.le_of_ble_eq_true rfl) ?_
  intro p e s m args below meth c A Q hx hb hml hown hts hP hD hK hA hS hret ls hl
  have hown : s.vm.findClass RX8 = some m.cls := hown
  have hl : lv_has ls 2 [(0, .ref o)] := hl
  have h := hf
  unfold fX8_clearText at h
  clear hf
  refine lv_aload_n hx hb dX8_clearText_0 rfl (lv_at hl 0 rfl) ?_
  refine lv_iconst (v := (0 : Int32)) hx hb dX8_clearText_1 (by decide) ?_
  refine ptI (ci := 7) (v := .int (0 : Int32)) (ty := .int) (C := RX8) (T := TX8) (N := 14) (wn := [(o, .inr (7, [.ref o_s, .ref o_saved, .int o_savedCount, .ref o_text, .int o_textLength, .int (0 : Int32), .int o_pieceCount, .ref o_pieceCell, .int o_at, .int o_commands, .ref o_letter, .ref o_number, .ref o_before, .long o_hash]))]) hx hb hts inX8_clearText_X8 tyX8 tyX8_ok nmX8 hown hK hP hD hS 0 rfl rfl 5 (by decide) mwX8_clearText_0 rfl rfl (by decide +kernel) rfl rfl (Nat.le_of_ble_eq_true rfl) rfl dX8_clearText_2 (fun H locs hP hD hS => ?_)
  refine lv_aload_n hx hb dX8_clearText_5 rfl (lv_at hl 0 rfl) ?_
  refine gtF (ci := 7) (v := .int o_textLength) (C := RX8) (T := TX8) (N := 14) hx hb hts inX8_clearText_X8 hown hK hP 0 rfl rfl 4 (by decide) mwX8_clearText_1 rfl rfl dX8_clearText_6 ?_
  refine lv_istore_n (lv' := [(1, .int o_textLength), (0, .ref o)]) hx hb dX8_clearText_9 rfl hl (by decide) rfl (fun ls hl => ?_)
  refine lv_aload_n hx hb dX8_clearText_10 rfl (lv_at hl 1 rfl) ?_
  refine lv_iconst (v := (0 : Int32)) hx hb dX8_clearText_11 (by decide) ?_
  refine ptI (ci := 7) (v := .int (0 : Int32)) (ty := .int) (C := RX8) (T := TX8) (N := 14) (wn := [(o, .inr (7, [.ref o_s, .ref o_saved, .int o_savedCount, .ref o_text, .int (0 : Int32), .int (0 : Int32), .int o_pieceCount, .ref o_pieceCell, .int o_at, .int o_commands, .ref o_letter, .ref o_number, .ref o_before, .long o_hash]))]) hx hb hts inX8_clearText_X8 tyX8 tyX8_ok nmX8 hown hK hP hD hS 0 rfl rfl 4 (by decide) mwX8_clearText_1 rfl rfl (by decide +kernel) rfl rfl (Nat.le_of_ble_eq_true rfl) rfl dX8_clearText_12 (fun H locs hP hD hS => ?_)
  refine lv_iload_n hx hb dX8_clearText_15 rfl (lv_at hl 0 rfl) ?_
  cases h
  exact hret 16 ls _ _ _ hP hD hS rfl dX8_clearText_16
theorem mwX8_here_0 : Cond.fieldLink RX8 201 "SegmentTimesModel" "at" "I" ∈ wsX8_here := List.mem_of_getElem? (i := 1) rfl
theorem mwX8_here_1 : Cond.fieldLink RX8 198 "SegmentTimesModel" "textLength" "I" ∈ wsX8_here := List.mem_of_getElem? (i := 2) rfl
theorem mwX8_here_2 : Cond.fieldLink RX8 16 "SegmentTimesModel" "text" "[I" ∈ wsX8_here := List.mem_of_getElem? (i := 3) rfl
theorem inX8_here_X8 : ∀ w ∈ u_ws RX8 TX8 14, w ∈ wsX8_here := fun w h => List.mem_cons_of_mem _ (List.mem_append_right _ (h))
theorem kX8_here : yX8_here.cls = RX8 ∧ yX8_here.cls ≠ "java/lang/invoke/MethodHandle" ∧ yX8_here.cls ≠ "java/lang/invoke/VarHandle" ∧ (parseMethodDescriptor yX8_here.desc).map (fun d => d.parameters.length) = some 0 := by decide +kernel
set_option maxHeartbeats 4000000 in
set_option maxRecDepth 100000 in
theorem ctX8_here (l : Launch) (D : va_G) (ca : Nat → ClassId) (o : Nat) (o_s : Nat) (o_saved : Nat) (o_text : Nat) (o_pieceCell : Nat) (o_letter : Nat) (o_number : Nat) (o_before : Nat) (o_savedCount : Int32) (o_textLength : Int32) (o_code : Int32) (o_pieceCount : Int32) (o_at : Int32) (o_commands : Int32) (o_hash : Int64) (o_text_d : Nat → Int32)  (u0 : Int32) (hf : fX8_here o_textLength o_at o_text_d = some u0) : MR l yX8_here wsX8_here 0 0 D ca [.ref o] [(o, .inr (7, [.ref o_s, .ref o_saved, .int o_savedCount, .ref o_text, .int o_textLength, .int o_code, .int o_pieceCount, .ref o_pieceCell, .int o_at, .int o_commands, .ref o_letter, .ref o_number, .ref o_before, .long o_hash])), (o_text, .inl (ca 0, 120, .inl o_text_d))] (some (.int u0)) := by
  refine hdRi (plainFor_of_name (by decide +kernel)) rfl (Nat.le_of_ble_eq_true rfl) ?_
  intro p e s m args below meth c Q hx hb hml hown hts hP hK hret ls hl
  have hown : s.vm.findClass RX8 = some m.cls := hown
  have hl : lv_has ls 1 [(0, .ref o)] := hl
  have h := hf
  unfold fX8_here at h
  clear hf
  refine lv_aload_n hx hb dX8_here_0 rfl (lv_at hl 0 rfl) ?_
  refine gtF (ci := 7) (v := .int o_at) (C := RX8) (T := TX8) (N := 14) hx hb hts inX8_here_X8 hown hK hP 0 rfl rfl 8 (by decide) mwX8_here_0 rfl rfl dX8_here_1 ?_
  refine lv_aload_n hx hb dX8_here_4 rfl (lv_at hl 0 rfl) ?_
  refine gtF (ci := 7) (v := .int o_textLength) (C := RX8) (T := TX8) (N := 14) hx hb hts inX8_here_X8 hown hK hP 0 rfl rfl 4 (by decide) mwX8_here_1 rfl rfl dX8_here_5 ?_
  refine lv_icmp_ge (tgt := 23) hx hb dX8_here_8 (by decide) (fun c1 => ?_) (fun c1 => ?_)
  · have h := ip_s h c1
    refine lv_iconst (v := (-1 : Int32)) hx hb dX8_here_23 (by decide) ?_
    cases h
    exact hret 24 ls _ rfl dX8_here_24
  · have h := in_s h c1
    refine lv_aload_n hx hb dX8_here_11 rfl (lv_at hl 0 rfl) ?_
    refine gtF (ci := 7) (v := .ref o_text) (C := RX8) (T := TX8) (N := 14) hx hb hts inX8_here_X8 hown hK hP 0 rfl rfl 3 (by decide) mwX8_here_2 rfl rfl dX8_here_12 ?_
    refine lv_aload_n hx hb dX8_here_15 rfl (lv_at hl 0 rfl) ?_
    refine gtF (ci := 7) (v := .int o_at) (C := RX8) (T := TX8) (N := 14) hx hb hts inX8_here_X8 hown hK hP 0 rfl rfl 8 (by decide) mwX8_here_0 rfl rfl dX8_here_16 ?_
    obtain ⟨hin, y2, e_y2, h⟩ := rd_s h
    refine ldI hx hb hK hP 1 rfl hin dX8_here_19 ?_
    refine top_i e_y2 ?_
    refine lv_goto (tgt := 24) hx hb dX8_here_20 (by decide) ?_
    cases h
    exact hret 24 ls _ rfl dX8_here_24
theorem mwX8_takes_0 : Cond.fieldLink RX8 201 "SegmentTimesModel" "at" "I" ∈ wsX8_takes := List.mem_of_getElem? (i := 1) rfl
theorem inX8_takes_X8 : ∀ w ∈ u_ws RX8 TX8 14, w ∈ wsX8_takes := fun w h => List.mem_cons_of_mem _ (List.mem_append_right _ (h))
theorem kX8_takes : yX8_takes.cls = RX8 ∧ yX8_takes.cls ≠ "java/lang/invoke/MethodHandle" ∧ yX8_takes.cls ≠ "java/lang/invoke/VarHandle" ∧ (parseMethodDescriptor yX8_takes.desc).map (fun d => d.parameters.length) = some 1 := by decide +kernel
set_option maxHeartbeats 4000000 in
set_option maxRecDepth 100000 in
theorem ctX8_takes (l : Launch) (D : va_G) (ca : Nat → ClassId) (o : Nat) (o_s : Nat) (o_saved : Nat) (o_text : Nat) (o_pieceCell : Nat) (o_letter : Nat) (o_number : Nat) (o_before : Nat) (o_savedCount : Int32) (o_textLength : Int32) (o_code : Int32) (o_pieceCount : Int32) (o_at : Int32) (o_commands : Int32) (o_hash : Int64) (o_text_d : Nat → Int32) (x1 : Int32) (sz : Nat) (u0 : Int32) (u1 : Int32) (hf : fX8_takes o_textLength o_at o_text_d x1 = some (u0, u1)) : MW l yX8_takes wsX8_takes 1 20 D ca [.ref o, .int x1] sz [(o, .inr (7, [.ref o_s, .ref o_saved, .int o_savedCount, .ref o_text, .int o_textLength, .int o_code, .int o_pieceCount, .ref o_pieceCell, .int o_at, .int o_commands, .ref o_letter, .ref o_number, .ref o_before, .long o_hash])), (o_text, .inl (ca 0, 120, .inl o_text_d))] (some (.int u0)) [(o, .inr (7, [.ref o_s, .ref o_saved, .int o_savedCount, .ref o_text, .int o_textLength, .int o_code, .int o_pieceCount, .ref o_pieceCell, .int u1, .int o_commands, .ref o_letter, .ref o_number, .ref o_before, .long o_hash])), (o_text, .inl (ca 0, 120, .inl o_text_d))] := by
  refine hdWz (by decide +kernel) rfl (Nat.le_of_ble_eq_true rfl) ?_
  intro p e s m args below meth c A Q hx hb hml hown hts hP hD hK hA hS hret ls hl
  have hown : s.vm.findClass RX8 = some m.cls := hown
  have hl : lv_has ls 3 [(0, .ref o), (1, .int x1)] := hl
  have h := hf
  unfold fX8_takes at h
  clear hf
  have J28 : ∀ (l2 : Int32) (s1 : Int32) (s2 : Int32) (w_o_at : Int32), jX8_takes_28  l2 s1 s2 w_o_at = some (u0, u1) → ∀ (H : Heap) (locs : List Loc), va_P D vwCl [(o, .inr (7, [.ref o_s, .ref o_saved, .int o_savedCount, .ref o_text, .int o_textLength, .int o_code, .int o_pieceCount, .ref o_pieceCell, .int w_o_at, .int o_commands, .ref o_letter, .ref o_number, .ref o_before, .long o_hash])), (o_text, .inl (ca 0, 120, .inl o_text_d))] H → va_D A [(o, .inr (7, [.ref o_s, .ref o_saved, .int o_savedCount, .ref o_text, .int o_textLength, .int o_code, .int o_pieceCount, .ref o_pieceCell, .int w_o_at, .int o_commands, .ref o_letter, .ref o_number, .ref o_before, .long o_hash])), (o_text, .inl (ca 0, 120, .inl o_text_d))] → va_S A s.heap H locs → ∀ ls, lv_has ls 3 [(2, .int l2)] → W p l e ({ frames := 1, cells := 0, slots := 0, locals := 20 }) s m args below meth c H locs 0 0 Q (F0 m 28 ls [.int s2, .int s1, .ref o]) := by
    intro l2 s1 s2 w_o_at h H locs hP hD hS ls hl
    unfold jX8_takes_28 at h
    refine lv_iadd hx hb dX8_takes_28 ?_
    obtain ⟨y1, e_y1, h⟩ := nm_s h
    refine top_i e_y1 ?_
    refine ptI (ci := 7) (v := .int y1) (ty := .int) (C := RX8) (T := TX8) (N := 14) (wn := [(o, .inr (7, [.ref o_s, .ref o_saved, .int o_savedCount, .ref o_text, .int o_textLength, .int o_code, .int o_pieceCount, .ref o_pieceCell, .int y1, .int o_commands, .ref o_letter, .ref o_number, .ref o_before, .long o_hash])), (o_text, .inl (ca 0, 120, .inl o_text_d))]) hx hb hts inX8_takes_X8 tyX8 tyX8_ok nmX8 hown hK hP hD hS 0 rfl rfl 8 (by decide) mwX8_takes_0 rfl rfl (by decide +kernel) rfl rfl (Nat.le_of_ble_eq_true rfl) rfl dX8_takes_29 (fun H locs hP hD hS => ?_)
    refine lv_iload_n hx hb dX8_takes_32 rfl (lv_at hl 0 rfl) ?_
    obtain ⟨hz, h⟩ := zr_s h
    cases h
    exact hret 33 ls _ hz _ _ hP hD hS rfl dX8_takes_33
  have J13 : ∀ (s0 : Int32) (w_o_at : Int32), jX8_takes_13  s0 w_o_at = some (u0, u1) → ∀ (H : Heap) (locs : List Loc), va_P D vwCl [(o, .inr (7, [.ref o_s, .ref o_saved, .int o_savedCount, .ref o_text, .int o_textLength, .int o_code, .int o_pieceCount, .ref o_pieceCell, .int w_o_at, .int o_commands, .ref o_letter, .ref o_number, .ref o_before, .long o_hash])), (o_text, .inl (ca 0, 120, .inl o_text_d))] H → va_D A [(o, .inr (7, [.ref o_s, .ref o_saved, .int o_savedCount, .ref o_text, .int o_textLength, .int o_code, .int o_pieceCount, .ref o_pieceCell, .int w_o_at, .int o_commands, .ref o_letter, .ref o_number, .ref o_before, .long o_hash])), (o_text, .inl (ca 0, 120, .inl o_text_d))] → va_S A s.heap H locs → ∀ ls, lv_has ls 3 [(0, .ref o)] → W p l e ({ frames := 1, cells := 0, slots := 0, locals := 20 }) s m args below meth c H locs 0 0 Q (F0 m 13 ls [.int s0]) := by
    intro s0 w_o_at h H locs hP hD hS ls hl
    unfold jX8_takes_13 at h
    refine lv_istore_n (lv' := [(2, .int s0), (0, .ref o)]) hx hb dX8_takes_13 rfl hl (by decide) rfl (fun ls hl => ?_)
    refine lv_aload_n hx hb dX8_takes_14 rfl (lv_at hl 1 rfl) ?_
    refine lv_dup hx hb dX8_takes_15 rfl ?_
    refine gtF (ci := 7) (v := .int w_o_at) (C := RX8) (T := TX8) (N := 14) hx hb hts inX8_takes_X8 hown hK hP 0 rfl rfl 8 (by decide) mwX8_takes_0 rfl rfl dX8_takes_16 ?_
    refine lv_iload_n hx hb dX8_takes_19 rfl (lv_at hl 0 rfl) ?_
    refine lv_if_eq (tgt := 27) hx hb dX8_takes_20 (by decide) (fun c1 => ?_) (fun c1 => ?_)
    · have h := ip_s h c1
      refine lv_iconst (v := (0 : Int32)) hx hb dX8_takes_27 (by decide) ?_
      exact J28 s0 w_o_at (0 : Int32) w_o_at h _ _ hP hD hS ls (lv_sub hl [0] rfl)
    · have h := in_s h c1
      refine lv_iconst (v := (1 : Int32)) hx hb dX8_takes_23 (by decide) ?_
      refine lv_goto (tgt := 28) hx hb dX8_takes_24 (by decide) ?_
      exact J28 s0 w_o_at (1 : Int32) w_o_at h _ _ hP hD hS ls (lv_sub hl [0] rfl)
  refine lv_aload_n hx hb dX8_takes_0 rfl (lv_at hl 0 rfl) ?_
  obtain ⟨r1, h_r1, h⟩ := bd_s h
  refine clVR (As := []) (rest := []) hx hb hml hown hts gX8_takes_X8_here rfl 0 kX8_here ⟨Nat.le_of_ble_eq_true rfl, Nat.le_of_ble_eq_true rfl⟩ (ctX8_here l D ca o o_s o_saved o_text o_pieceCell o_letter o_number o_before o_savedCount o_textLength o_code o_pieceCount o_at o_commands o_hash o_text_d  r1 h_r1) hP hK [0, 1] rfl 0 7 rfl rfl rfl rfl hl.1 rfl (Nat.le_of_ble_eq_true rfl) ⟨Nat.le_of_ble_eq_true rfl, Nat.le_of_ble_eq_true rfl⟩ dX8_takes_1 rfl ?_
  refine lv_iload_n hx hb dX8_takes_4 rfl (lv_at hl 1 rfl) ?_
  refine lv_icmp_ne (tgt := 12) hx hb dX8_takes_5 (by decide) (fun c2 => ?_) (fun c2 => ?_)
  · have h := in_s h c2
    refine lv_iconst (v := (0 : Int32)) hx hb dX8_takes_12 (by decide) ?_
    exact J13 (0 : Int32) o_at h _ _ hP hD hS ls (lv_sub hl [0] rfl)
  · have h := ip_s h c2
    refine lv_iconst (v := (1 : Int32)) hx hb dX8_takes_8 (by decide) ?_
    refine lv_goto (tgt := 13) hx hb dX8_takes_9 (by decide) ?_
    exact J13 (1 : Int32) o_at h _ _ hP hD hS ls (lv_sub hl [0] rfl)
theorem kX8_numbersOf : yX8_numbersOf.cls = yX8_numbersOf.cls ∧ yX8_numbersOf.cls ≠ "java/lang/invoke/MethodHandle" ∧ yX8_numbersOf.cls ≠ "java/lang/invoke/VarHandle" ∧ (parseMethodDescriptor yX8_numbersOf.desc).map (fun d => d.parameters.length) = some 1 := by decide +kernel
set_option maxHeartbeats 4000000 in
set_option maxRecDepth 100000 in
theorem ctX8_numbersOf (l : Launch) (D : va_G) (ca : Nat → ClassId)   (x0 : Int32) (u0 : Int32) (hf : fX8_numbersOf x0 = some u0) : MR l yX8_numbersOf wsX8_numbersOf 0 0 D ca [.int x0] [] (some (.int u0)) := by
  refine hdRi (plainFor_of_name (by decide +kernel)) rfl (Nat.le_of_ble_eq_true rfl) ?_
  intro p e s m args below meth c Q hx hb hml hown hts hP hK hret ls hl
  have hown : s.vm.findClass RX8 = some m.cls := hown
  have hl : lv_has ls 1 [(0, .int x0)] := hl
  have h := hf
  unfold fX8_numbersOf at h
  clear hf
  refine lv_iload_n hx hb dX8_numbersOf_0 rfl (lv_at hl 0 rfl) ?_
  have hsw := h
  by_cases c1 : x0 = (97 : Int32)
  · have h := ip_s h c1
    refine lv_tableIn (off := 95) (tgt := 96) hx hb dX8_numbersOf_1 (by rw [c1]; decide) (by rw [c1]; decide) (by rw [c1]; decide) (by decide) ?_
    refine lv_iconst (v := (4 : Int32)) hx hb dX8_numbersOf_96 (by decide) ?_
    cases h
    exact hret 97 ls _ rfl dX8_numbersOf_97
  have h := in_s h c1
  by_cases c2 : x0 = (101 : Int32)
  · have h := ip_s h c2
    refine lv_tableIn (off := 99) (tgt := 100) hx hb dX8_numbersOf_1 (by rw [c2]; decide) (by rw [c2]; decide) (by rw [c2]; decide) (by decide) ?_
    refine lv_iconst (v := (1 : Int32)) hx hb dX8_numbersOf_100 (by decide) ?_
    cases h
    exact hret 101 ls _ rfl dX8_numbersOf_101
  have h := in_s h c2
  by_cases c3 : x0 = (109 : Int32)
  · have h := ip_s h c3
    refine lv_tableIn (off := 97) (tgt := 98) hx hb dX8_numbersOf_1 (by rw [c3]; decide) (by rw [c3]; decide) (by rw [c3]; decide) (by decide) ?_
    refine lv_iconst (v := (2 : Int32)) hx hb dX8_numbersOf_98 (by decide) ?_
    cases h
    exact hret 99 ls _ rfl dX8_numbersOf_99
  have h := in_s h c3
  by_cases c4 : x0 = (113 : Int32)
  · have h := ip_s h c4
    refine lv_tableIn (off := 97) (tgt := 98) hx hb dX8_numbersOf_1 (by rw [c4]; decide) (by rw [c4]; decide) (by rw [c4]; decide) (by decide) ?_
    refine lv_iconst (v := (2 : Int32)) hx hb dX8_numbersOf_98 (by decide) ?_
    cases h
    exact hret 99 ls _ rfl dX8_numbersOf_99
  have h := in_s h c4
  by_cases c5 : x0 = (115 : Int32)
  · have h := ip_s h c5
    refine lv_tableIn (off := 101) (tgt := 102) hx hb dX8_numbersOf_1 (by rw [c5]; decide) (by rw [c5]; decide) (by rw [c5]; decide) (by decide) ?_
    refine lv_iconst (v := (0 : Int32)) hx hb dX8_numbersOf_102 (by decide) ?_
    cases h
    exact hret 103 ls _ rfl dX8_numbersOf_103
  have h := in_s h c5
  by_cases c6 : x0 = (116 : Int32)
  · have h := ip_s h c6
    refine lv_tableIn (off := 99) (tgt := 100) hx hb dX8_numbersOf_1 (by rw [c6]; decide) (by rw [c6]; decide) (by rw [c6]; decide) (by decide) ?_
    refine lv_iconst (v := (1 : Int32)) hx hb dX8_numbersOf_100 (by decide) ?_
    cases h
    exact hret 101 ls _ rfl dX8_numbersOf_101
  have h := in_s h c6
  by_cases c7 : x0.toInt < 97 ∨ 116 < x0.toInt
  · refine lv_tableOut (tgt := 104) hx hb dX8_numbersOf_1 c7 (by decide) ?_
    refine lv_iconst (v := (-1 : Int32)) hx hb dX8_numbersOf_104 (by decide) ?_
    cases h
    exact hret 105 ls _ rfl dX8_numbersOf_105
  refine lv_tableIn (off := 103) (tgt := 104) hx hb dX8_numbersOf_1 (fun z => c7 (Or.inl z)) (fun z => c7 (Or.inr z)) (sw_in c7 [(97 : Int32), (101 : Int32), (109 : Int32), (113 : Int32), (115 : Int32), (116 : Int32)] (fun k hk => by simp only [List.mem_cons, List.mem_nil_iff, or_false] at hk; rcases hk with rfl | rfl | rfl | rfl | rfl | rfl <;> assumption) (by decide)) (by decide) ?_
  refine lv_iconst (v := (-1 : Int32)) hx hb dX8_numbersOf_104 (by decide) ?_
  cases h
  exact hret 105 ls _ rfl dX8_numbersOf_105
theorem mwX8_readsNumber_0 : Cond.fieldLink RX8 25 "SegmentTimesModel" "number" "[I" ∈ wsX8_readsNumber := List.mem_of_getElem? (i := 4) rfl
theorem mwX8_readsNumber_1 : Cond.fieldLink RX8 214 "SegmentTimesModel" "commands" "I" ∈ wsX8_readsNumber := List.mem_of_getElem? (i := 5) rfl
theorem mwX8_readsNumber_2 : Cond.constantLong RX8 210 (48) ∈ wsX8_readsNumber := List.mem_of_getElem? (i := 1) rfl
theorem mwX8_readsNumber_3 : Cond.constantLong RX8 212 (57) ∈ wsX8_readsNumber := List.mem_of_getElem? (i := 2) rfl
theorem mwX8_readsNumber_4 : Cond.fieldLink RX8 201 "SegmentTimesModel" "at" "I" ∈ wsX8_readsNumber := List.mem_of_getElem? (i := 3) rfl
theorem inX8_readsNumber_X8 : ∀ w ∈ u_ws RX8 TX8 14, w ∈ wsX8_readsNumber := fun w h => List.mem_cons_of_mem _ (List.mem_append_right _ (h))
theorem kX8_readsNumber : yX8_readsNumber.cls = RX8 ∧ yX8_readsNumber.cls ≠ "java/lang/invoke/MethodHandle" ∧ yX8_readsNumber.cls ≠ "java/lang/invoke/VarHandle" ∧ (parseMethodDescriptor yX8_readsNumber.desc).map (fun d => d.parameters.length) = some 1 := by decide +kernel
set_option maxHeartbeats 4000000 in
set_option maxRecDepth 100000 in
theorem ctX8_readsNumber (l : Launch) (D : va_G) (ca : Nat → ClassId) (o : Nat) (o_s : Nat) (o_saved : Nat) (o_text : Nat) (o_pieceCell : Nat) (o_letter : Nat) (o_number : Nat) (o_before : Nat) (o_savedCount : Int32) (o_textLength : Int32) (o_code : Int32) (o_pieceCount : Int32) (o_at : Int32) (o_commands : Int32) (o_hash : Int64) (o_text_d : Nat → Int32) (o_number_d : Nat → Int32) (x1 : Int32) (sz : Nat) (u0 : Int32) (u1 : Int32) (u2 : Nat → Int32) (hf : fX8_readsNumber o_textLength o_at o_commands o_text_d o_number_d x1 = some (u0, u1, u2)) : MW l yX8_readsNumber wsX8_readsNumber 2 42 D ca [.ref o, .int x1] sz [(o, .inr (7, [.ref o_s, .ref o_saved, .int o_savedCount, .ref o_text, .int o_textLength, .int o_code, .int o_pieceCount, .ref o_pieceCell, .int o_at, .int o_commands, .ref o_letter, .ref o_number, .ref o_before, .long o_hash])), (o_text, .inl (ca 0, 120, .inl o_text_d)), (o_number, .inl (ca 0, 240, .inl o_number_d))] (some (.int u0)) [(o, .inr (7, [.ref o_s, .ref o_saved, .int o_savedCount, .ref o_text, .int o_textLength, .int o_code, .int o_pieceCount, .ref o_pieceCell, .int u1, .int o_commands, .ref o_letter, .ref o_number, .ref o_before, .long o_hash])), (o_text, .inl (ca 0, 120, .inl o_text_d)), (o_number, .inl (ca 0, 240, .inl u2))] := by
  refine hdWz (by decide +kernel) rfl (Nat.le_of_ble_eq_true rfl) ?_
  intro p e s m args below meth c A Q hx hb hml hown hts hP hD hK hA hS hret ls hl
  have hown : s.vm.findClass RX8 = some m.cls := hown
  have hl : lv_has ls 5 [(0, .ref o), (1, .int x1)] := hl
  have h := hf
  unfold fX8_readsNumber at h
  clear hf
  have J101 : ∀ (l3 : Int32) (s1 : Int32) (s2 : Int32) (w_o_at : Int32) (w_o_number_d : Nat → Int32), jX8_readsNumber_101  l3 s1 s2 w_o_at w_o_number_d = some (u0, u1, u2) → ∀ (H : Heap) (locs : List Loc), va_P D vwCl [(o, .inr (7, [.ref o_s, .ref o_saved, .int o_savedCount, .ref o_text, .int o_textLength, .int o_code, .int o_pieceCount, .ref o_pieceCell, .int w_o_at, .int o_commands, .ref o_letter, .ref o_number, .ref o_before, .long o_hash])), (o_text, .inl (ca 0, 120, .inl o_text_d)), (o_number, .inl (ca 0, 240, .inl w_o_number_d))] H → va_D A [(o, .inr (7, [.ref o_s, .ref o_saved, .int o_savedCount, .ref o_text, .int o_textLength, .int o_code, .int o_pieceCount, .ref o_pieceCell, .int w_o_at, .int o_commands, .ref o_letter, .ref o_number, .ref o_before, .long o_hash])), (o_text, .inl (ca 0, 120, .inl o_text_d)), (o_number, .inl (ca 0, 240, .inl w_o_number_d))] → va_S A s.heap H locs → ∀ ls, lv_has ls 5 [(3, .int l3)] → W p l e ({ frames := 2, cells := 0, slots := 0, locals := 42 }) s m args below meth c H locs 0 0 Q (F0 m 101 ls [.int s2, .int s1, .ref o_number]) := by
    intro l3 s1 s2 w_o_at w_o_number_d h H locs hP hD hS ls hl
    unfold jX8_readsNumber_101 at h
    obtain ⟨hin, g1, e_g1, h⟩ := wr_s h
    refine stI (wn := [(o, .inr (7, [.ref o_s, .ref o_saved, .int o_savedCount, .ref o_text, .int o_textLength, .int o_code, .int o_pieceCount, .ref o_pieceCell, .int w_o_at, .int o_commands, .ref o_letter, .ref o_number, .ref o_before, .long o_hash])), (o_text, .inl (ca 0, 120, .inl o_text_d)), (o_number, .inl (ca 0, 240, .inl g1))]) hx hb hK hP hD hS 2 rfl hin e_g1 rfl dX8_readsNumber_101 (fun H locs hP hD hS => ?_)
    refine lv_iload_n hx hb dX8_readsNumber_102 rfl (lv_at hl 0 rfl) ?_
    refine lv_if_le (tgt := 110) hx hb dX8_readsNumber_103 (by decide) (fun c2 => ?_) (fun c2 => ?_)
    · have h := ip_s h c2
      refine lv_iconst (v := (0 : Int32)) hx hb dX8_readsNumber_110 (by decide) ?_
      obtain ⟨hz, h⟩ := zr_s h
      cases h
      exact hret 111 ls _ hz _ _ hP hD hS rfl dX8_readsNumber_111
    · have h := in_s h c2
      refine lv_iconst (v := (1 : Int32)) hx hb dX8_readsNumber_106 (by decide) ?_
      refine lv_goto (tgt := 111) hx hb dX8_readsNumber_107 (by decide) ?_
      obtain ⟨hz, h⟩ := zr_s h
      cases h
      exact hret 111 ls _ hz _ _ hP hD hS rfl dX8_readsNumber_111
  have J77 : ∀ (l2 : Int32) (l3 : Int32) (l4 : Int32) (w_o_at : Int32) (w_o_number_d : Nat → Int32), jX8_readsNumber_77 o_commands x1 l2 l3 l4 w_o_at w_o_number_d = some (u0, u1, u2) → ∀ (H : Heap) (locs : List Loc), va_P D vwCl [(o, .inr (7, [.ref o_s, .ref o_saved, .int o_savedCount, .ref o_text, .int o_textLength, .int o_code, .int o_pieceCount, .ref o_pieceCell, .int w_o_at, .int o_commands, .ref o_letter, .ref o_number, .ref o_before, .long o_hash])), (o_text, .inl (ca 0, 120, .inl o_text_d)), (o_number, .inl (ca 0, 240, .inl w_o_number_d))] H → va_D A [(o, .inr (7, [.ref o_s, .ref o_saved, .int o_savedCount, .ref o_text, .int o_textLength, .int o_code, .int o_pieceCount, .ref o_pieceCell, .int w_o_at, .int o_commands, .ref o_letter, .ref o_number, .ref o_before, .long o_hash])), (o_text, .inl (ca 0, 120, .inl o_text_d)), (o_number, .inl (ca 0, 240, .inl w_o_number_d))] → va_S A s.heap H locs → ∀ ls, lv_has ls 5 [(0, .ref o), (1, .int x1), (2, .int l2), (3, .int l3), (4, .int l4)] → W p l e ({ frames := 2, cells := 0, slots := 0, locals := 42 }) s m args below meth c H locs 0 0 Q (F0 m 77 ls []) := by
    intro l2 l3 l4 w_o_at w_o_number_d h H locs hP hD hS ls hl
    unfold jX8_readsNumber_77 at h
    refine lv_aload_n hx hb dX8_readsNumber_77 rfl (lv_at hl 0 rfl) ?_
    refine gtF (ci := 7) (v := .ref o_number) (C := RX8) (T := TX8) (N := 14) hx hb hts inX8_readsNumber_X8 hown hK hP 0 rfl rfl 11 (by decide) mwX8_readsNumber_0 rfl rfl dX8_readsNumber_78 ?_
    refine lv_iconst (v := (4 : Int32)) hx hb dX8_readsNumber_81 (by decide) ?_
    refine lv_aload_n hx hb dX8_readsNumber_82 rfl (lv_at hl 0 rfl) ?_
    refine gtF (ci := 7) (v := .int o_commands) (C := RX8) (T := TX8) (N := 14) hx hb hts inX8_readsNumber_X8 hown hK hP 0 rfl rfl 9 (by decide) mwX8_readsNumber_1 rfl rfl dX8_readsNumber_83 ?_
    refine lv_imul hx hb dX8_readsNumber_86 ?_
    refine lv_iload_n hx hb dX8_readsNumber_87 rfl (lv_at hl 1 rfl) ?_
    refine lv_iadd hx hb dX8_readsNumber_88 ?_
    refine lv_iload_n hx hb dX8_readsNumber_89 rfl (lv_at hl 2 rfl) ?_
    refine lv_if_eq (tgt := 99) hx hb dX8_readsNumber_90 (by decide) (fun c1 => ?_) (fun c1 => ?_)
    · have h := ip_s h c1
      refine lv_iload hx hb dX8_readsNumber_99 (lv_at hl 4 rfl) ?_
      exact J101 l3 (((4 : Int32) * o_commands) + x1) l4 w_o_at w_o_number_d h _ _ hP hD hS ls (lv_sub hl [3] rfl)
    · have h := in_s h c1
      refine lv_iload hx hb dX8_readsNumber_93 (lv_at hl 4 rfl) ?_
      refine lv_ineg hx hb dX8_readsNumber_95 ?_
      refine lv_goto (tgt := 101) hx hb dX8_readsNumber_96 (by decide) ?_
      exact J101 l3 (((4 : Int32) * o_commands) + x1) (-l4) w_o_at w_o_number_d h _ _ hP hD hS ls (lv_sub hl [3] rfl)
  have L23 : ∀ (l2 : Int32) (w_o_number_d : Nat → Int32) (n : Nat) (l3 : Int32) (l4 : Int32) (w_o_at : Int32), lp (fun q => bX8_readsNumber_23 o_textLength o_commands o_text_d x1 l2 w_o_number_d q.1 q.2.1 q.2.2) n (l3, l4, w_o_at) = some (u0, u1, u2) → ∀ (H : Heap) (locs : List Loc), va_P D vwCl [(o, .inr (7, [.ref o_s, .ref o_saved, .int o_savedCount, .ref o_text, .int o_textLength, .int o_code, .int o_pieceCount, .ref o_pieceCell, .int w_o_at, .int o_commands, .ref o_letter, .ref o_number, .ref o_before, .long o_hash])), (o_text, .inl (ca 0, 120, .inl o_text_d)), (o_number, .inl (ca 0, 240, .inl w_o_number_d))] H → va_D A [(o, .inr (7, [.ref o_s, .ref o_saved, .int o_savedCount, .ref o_text, .int o_textLength, .int o_code, .int o_pieceCount, .ref o_pieceCell, .int w_o_at, .int o_commands, .ref o_letter, .ref o_number, .ref o_before, .long o_hash])), (o_text, .inl (ca 0, 120, .inl o_text_d)), (o_number, .inl (ca 0, 240, .inl w_o_number_d))] → va_S A s.heap H locs → ∀ ls, lv_has ls 5 [(0, .ref o), (1, .int x1), (2, .int l2), (3, .int l3), (4, .int l4)] → W p l e ({ frames := 2, cells := 0, slots := 0, locals := 42 }) s m args below meth c H locs 0 0 Q (F0 m 23 ls []) := by
    intro l2 w_o_number_d n
    induction n with
    | zero => intro l3 l4 w_o_at h; exact (lp_0 h).elim
    | succ n ih23 =>
      intro l3 l4 w_o_at h H locs hP hD hS ls hl
      obtain ⟨q23, h, hq23⟩ := lp_s h
      have h : bX8_readsNumber_23 o_textLength o_commands o_text_d x1 l2 w_o_number_d l3 l4 w_o_at = some q23 := h
      unfold bX8_readsNumber_23 at h
      refine lv_iload_n hx hb dX8_readsNumber_23 rfl (lv_at hl 3 rfl) ?_
      refine lv_bipush (v := (7 : Int32)) hx hb dX8_readsNumber_24 (by decide) ?_
      refine lv_icmp_ge (tgt := 77) hx hb dX8_readsNumber_26 (by decide) (fun c1 => ?_) (fun c1 => ?_)
      · have h := ip_s h c1
        have h := xt_s hq23 h
        exact J77 l2 l3 l4 w_o_at w_o_number_d h _ _ hP hD hS ls (lv_sub hl [0, 1, 2, 3, 4] rfl)
      · have h := in_s h c1
        refine lv_aload_n hx hb dX8_readsNumber_29 rfl (lv_at hl 0 rfl) ?_
        obtain ⟨r3, h_r3, h⟩ := bd_s h
        refine clVR (As := []) (rest := []) hx hb hml hown hts gX8_readsNumber_X8_here rfl 0 kX8_here ⟨Nat.le_of_ble_eq_true rfl, Nat.le_of_ble_eq_true rfl⟩ (ctX8_here l D ca o o_s o_saved o_text o_pieceCell o_letter o_number o_before o_savedCount o_textLength o_code o_pieceCount w_o_at o_commands o_hash o_text_d  r3 h_r3) hP hK [0, 1] rfl 0 7 rfl rfl rfl rfl hl.1 rfl (Nat.le_of_ble_eq_true rfl) ⟨Nat.le_of_ble_eq_true rfl, Nat.le_of_ble_eq_true rfl⟩ dX8_readsNumber_30 rfl ?_
        refine lv_i2l (v := (r3).toInt64) hx hb dX8_readsNumber_33 rfl ?_
        refine lv_ldc2 (v := (48 : Int64)) hx hb hown (hts _ mwX8_readsNumber_2) dX8_readsNumber_34 ?_
        refine lv_ldc2 (v := (57 : Int64)) hx hb hown (hts _ mwX8_readsNumber_3) dX8_readsNumber_37 ?_
        obtain ⟨r4, h_r4, h⟩ := bd_s h
        refine clSR (As := [.long (r3).toInt64, .long (48 : Int64), .long (57 : Int64)]) (rest := []) hx hb hml hown hts gX8_readsNumber_X8_in rfl 3 kX8_in.2 ⟨Nat.le_of_ble_eq_true rfl, Nat.le_of_ble_eq_true rfl⟩ (ctX8_in l D ca   ((r3).toInt64) (48 : Int64) (57 : Int64) r4 h_r4) hP hK [] rfl rfl hl.1 rfl (Nat.le_of_ble_eq_true rfl) ⟨Nat.le_of_ble_eq_true rfl, Nat.le_of_ble_eq_true rfl⟩ dX8_readsNumber_40 rfl ?_
        refine lv_if_eq (tgt := 77) hx hb dX8_readsNumber_43 (by decide) (fun c5 => ?_) (fun c5 => ?_)
        · have h := ip_s h c5
          have h := xt_s hq23 h
          exact J77 l2 l3 l4 w_o_at w_o_number_d h _ _ hP hD hS ls (lv_sub hl [0, 1, 2, 3, 4] rfl)
        · have h := in_s h c5
          refine lv_bipush (v := (10 : Int32)) hx hb dX8_readsNumber_46 (by decide) ?_
          refine lv_iload hx hb dX8_readsNumber_48 (lv_at hl 4 rfl) ?_
          refine lv_imul hx hb dX8_readsNumber_50 ?_
          refine lv_aload_n hx hb dX8_readsNumber_51 rfl (lv_at hl 0 rfl) ?_
          obtain ⟨r6, h_r6, h⟩ := bd_s h
          refine clVR (As := []) (rest := [.int ((10 : Int32) * l4)]) hx hb hml hown hts gX8_readsNumber_X8_here rfl 0 kX8_here ⟨Nat.le_of_ble_eq_true rfl, Nat.le_of_ble_eq_true rfl⟩ (ctX8_here l D ca o o_s o_saved o_text o_pieceCell o_letter o_number o_before o_savedCount o_textLength o_code o_pieceCount w_o_at o_commands o_hash o_text_d  r6 h_r6) hP hK [0, 1] rfl 0 7 rfl rfl rfl rfl hl.1 rfl (Nat.le_of_ble_eq_true rfl) ⟨Nat.le_of_ble_eq_true rfl, Nat.le_of_ble_eq_true rfl⟩ dX8_readsNumber_52 rfl ?_
          refine lv_iadd hx hb dX8_readsNumber_55 ?_
          refine lv_bipush (v := (48 : Int32)) hx hb dX8_readsNumber_56 (by decide) ?_
          refine lv_isub hx hb dX8_readsNumber_58 ?_
          obtain ⟨y7, e_y7, h⟩ := nm_s h
          refine top_i e_y7 ?_
          refine lv_istore (lv' := [(4, .int y7), (0, .ref o), (1, .int x1), (2, .int l2), (3, .int l3)]) hx hb dX8_readsNumber_59 hl (by decide) rfl (fun ls hl => ?_)
          obtain ⟨y8, e_y8, h⟩ := nm_s h
          refine lv_iinc (v := y8) (lv' := [(3, .int y8), (4, .int y7), (0, .ref o), (1, .int x1), (2, .int l2)]) hx hb dX8_readsNumber_61 hl (k := 4) rfl (by rw [e_y8]; rfl) (by decide) rfl (fun ls hl => ?_)
          refine lv_aload_n hx hb dX8_readsNumber_64 rfl (lv_at hl 2 rfl) ?_
          refine lv_dup hx hb dX8_readsNumber_65 rfl ?_
          refine gtF (ci := 7) (v := .int w_o_at) (C := RX8) (T := TX8) (N := 14) hx hb hts inX8_readsNumber_X8 hown hK hP 0 rfl rfl 8 (by decide) mwX8_readsNumber_4 rfl rfl dX8_readsNumber_66 ?_
          refine lv_iconst (v := (1 : Int32)) hx hb dX8_readsNumber_69 (by decide) ?_
          refine lv_iadd hx hb dX8_readsNumber_70 ?_
          obtain ⟨y9, e_y9, h⟩ := nm_s h
          refine top_i e_y9 ?_
          refine ptI (ci := 7) (v := .int y9) (ty := .int) (C := RX8) (T := TX8) (N := 14) (wn := [(o, .inr (7, [.ref o_s, .ref o_saved, .int o_savedCount, .ref o_text, .int o_textLength, .int o_code, .int o_pieceCount, .ref o_pieceCell, .int y9, .int o_commands, .ref o_letter, .ref o_number, .ref o_before, .long o_hash])), (o_text, .inl (ca 0, 120, .inl o_text_d)), (o_number, .inl (ca 0, 240, .inl w_o_number_d))]) hx hb hts inX8_readsNumber_X8 tyX8 tyX8_ok nmX8 hown hK hP hD hS 0 rfl rfl 8 (by decide) mwX8_readsNumber_4 rfl rfl (by decide +kernel) rfl rfl (Nat.le_of_ble_eq_true rfl) rfl dX8_readsNumber_71 (fun H locs hP hD hS => ?_)
          refine lv_goto (tgt := 23) hx hb dX8_readsNumber_74 (by decide) ?_
          exact ih23 y8 y7 y9 (lp_l hq23 h) _ _ hP hD hS ls (lv_sub hl [2, 3, 4, 0, 1] rfl)
  refine lv_aload_n hx hb dX8_readsNumber_0 rfl (lv_at hl 0 rfl) ?_
  refine lv_bipush (v := (32 : Int32)) hx hb dX8_readsNumber_1 (by decide) ?_
  obtain ⟨⟨r1_0, r1_1⟩, h_r1, h⟩ := bd_s h
  have h := up2_s h
  refine clVW (As := [.int (32 : Int32)]) (rest := []) (wr := [(o_number, .inl (ca 0, 240, .inl o_number_d))]) (wn := [(o_number, .inl (ca 0, 240, .inl o_number_d)), (o, .inr (7, [.ref o_s, .ref o_saved, .int o_savedCount, .ref o_text, .int o_textLength, .int o_code, .int o_pieceCount, .ref o_pieceCell, .int r1_1, .int o_commands, .ref o_letter, .ref o_number, .ref o_before, .long o_hash])), (o_text, .inl (ca 0, 120, .inl o_text_d))]) hx hb hml hown hts gX8_readsNumber_X8_takes rfl 1 kX8_takes ⟨Nat.le_of_ble_eq_true rfl, Nat.le_of_ble_eq_true rfl⟩ (ctX8_takes l D ca o o_s o_saved o_text o_pieceCell o_letter o_number o_before o_savedCount o_textLength o_code o_pieceCount o_at o_commands o_hash o_text_d (32 : Int32) _ r1_0 r1_1 h_r1) hP hD hS hA hK [0, 1] [2] rfl (by decide) rfl (by decide) (by decide) 0 7 rfl rfl rfl rfl hl.1 rfl (Nat.le_of_ble_eq_true rfl) ⟨Nat.le_of_ble_eq_true rfl, Nat.le_of_ble_eq_true rfl⟩ dX8_readsNumber_3 rfl rfl (fun H locs hP hD hS => ?_)
  refine lv_if_ne (tgt := 11) hx hb dX8_readsNumber_6 (by decide) (fun c2 => ?_) (fun c2 => ?_)
  · have h := in_s h c2
    refine lv_aload_n hx hb dX8_readsNumber_11 rfl (lv_at hl 0 rfl) ?_
    refine lv_bipush (v := (45 : Int32)) hx hb dX8_readsNumber_12 (by decide) ?_
    obtain ⟨⟨r3_0, r3_1⟩, h_r3, h⟩ := bd_s h
    have h := up2_s h
    refine clVW (As := [.int (45 : Int32)]) (rest := []) (wr := [(o_number, .inl (ca 0, 240, .inl o_number_d))]) (wn := [(o_number, .inl (ca 0, 240, .inl o_number_d)), (o, .inr (7, [.ref o_s, .ref o_saved, .int o_savedCount, .ref o_text, .int o_textLength, .int o_code, .int o_pieceCount, .ref o_pieceCell, .int r3_1, .int o_commands, .ref o_letter, .ref o_number, .ref o_before, .long o_hash])), (o_text, .inl (ca 0, 120, .inl o_text_d))]) hx hb hml hown hts gX8_readsNumber_X8_takes rfl 1 kX8_takes ⟨Nat.le_of_ble_eq_true rfl, Nat.le_of_ble_eq_true rfl⟩ (ctX8_takes l D ca o o_s o_saved o_text o_pieceCell o_letter o_number o_before o_savedCount o_textLength o_code o_pieceCount r1_1 o_commands o_hash o_text_d (45 : Int32) _ r3_0 r3_1 h_r3) hP hD hS hA hK [1, 2] [0] rfl (by decide) rfl (by decide) (by decide) 0 7 rfl rfl rfl rfl hl.1 rfl (Nat.le_of_ble_eq_true rfl) ⟨Nat.le_of_ble_eq_true rfl, Nat.le_of_ble_eq_true rfl⟩ dX8_readsNumber_14 rfl rfl (fun H locs hP hD hS => ?_)
    refine lv_istore_n (lv' := [(2, .int r3_0), (0, .ref o), (1, .int x1)]) hx hb dX8_readsNumber_17 rfl hl (by decide) rfl (fun ls hl => ?_)
    refine lv_iconst (v := (0 : Int32)) hx hb dX8_readsNumber_18 (by decide) ?_
    refine lv_istore_n (lv' := [(3, .int (0 : Int32)), (2, .int r3_0), (0, .ref o), (1, .int x1)]) hx hb dX8_readsNumber_19 rfl hl (by decide) rfl (fun ls hl => ?_)
    refine lv_iconst (v := (0 : Int32)) hx hb dX8_readsNumber_20 (by decide) ?_
    refine lv_istore (lv' := [(4, .int (0 : Int32)), (3, .int (0 : Int32)), (2, .int r3_0), (0, .ref o), (1, .int x1)]) hx hb dX8_readsNumber_21 hl (by decide) rfl (fun ls hl => ?_)
    have hP := hP.sub (ws' := [(o, .inr (7, [.ref o_s, .ref o_saved, .int o_savedCount, .ref o_text, .int o_textLength, .int o_code, .int o_pieceCount, .ref o_pieceCell, .int r3_1, .int o_commands, .ref o_letter, .ref o_number, .ref o_before, .long o_hash])), (o_text, .inl (ca 0, 120, .inl o_text_d)), (o_number, .inl (ca 0, 240, .inl o_number_d))]) [1, 2, 0] rfl
    have hD := hD.sub (ws' := [(o, .inr (7, [.ref o_s, .ref o_saved, .int o_savedCount, .ref o_text, .int o_textLength, .int o_code, .int o_pieceCount, .ref o_pieceCell, .int r3_1, .int o_commands, .ref o_letter, .ref o_number, .ref o_before, .long o_hash])), (o_text, .inl (ca 0, 120, .inl o_text_d)), (o_number, .inl (ca 0, 240, .inl o_number_d))]) [1, 2, 0] (by decide) rfl
    exact L23 r3_0 o_number_d fuel (0 : Int32) (0 : Int32) r3_1 h _ _ hP hD hS ls (lv_sub hl [3, 4, 2, 1, 0] rfl)
  · have h := ip_s h c2
    refine lv_iconst (v := (0 : Int32)) hx hb dX8_readsNumber_9 (by decide) ?_
    obtain ⟨hz, h⟩ := zr_s h
    have hP := hP.sub (ws' := [(o, .inr (7, [.ref o_s, .ref o_saved, .int o_savedCount, .ref o_text, .int o_textLength, .int o_code, .int o_pieceCount, .ref o_pieceCell, .int r1_1, .int o_commands, .ref o_letter, .ref o_number, .ref o_before, .long o_hash])), (o_text, .inl (ca 0, 120, .inl o_text_d)), (o_number, .inl (ca 0, 240, .inl o_number_d))]) [1, 2, 0] rfl
    have hD := hD.sub (ws' := [(o, .inr (7, [.ref o_s, .ref o_saved, .int o_savedCount, .ref o_text, .int o_textLength, .int o_code, .int o_pieceCount, .ref o_pieceCell, .int r1_1, .int o_commands, .ref o_letter, .ref o_number, .ref o_before, .long o_hash])), (o_text, .inl (ca 0, 120, .inl o_text_d)), (o_number, .inl (ca 0, 240, .inl o_number_d))]) [1, 2, 0] (by decide) rfl
    cases h
    exact hret 10 ls _ hz _ _ hP hD hS rfl dX8_readsNumber_10
theorem mwX8_readsCommand_0 : Cond.fieldLink RX8 22 "SegmentTimesModel" "letter" "[I" ∈ wsX8_readsCommand := List.mem_of_getElem? (i := 1) rfl
theorem mwX8_readsCommand_1 : Cond.fieldLink RX8 214 "SegmentTimesModel" "commands" "I" ∈ wsX8_readsCommand := List.mem_of_getElem? (i := 2) rfl
theorem mwX8_readsCommand_2 : Cond.fieldLink RX8 201 "SegmentTimesModel" "at" "I" ∈ wsX8_readsCommand := List.mem_of_getElem? (i := 3) rfl
theorem inX8_readsCommand_X8 : ∀ w ∈ u_ws RX8 TX8 14, w ∈ wsX8_readsCommand := fun w h => List.mem_cons_of_mem _ (List.mem_append_right _ (h))
theorem kX8_readsCommand : yX8_readsCommand.cls = RX8 ∧ yX8_readsCommand.cls ≠ "java/lang/invoke/MethodHandle" ∧ yX8_readsCommand.cls ≠ "java/lang/invoke/VarHandle" ∧ (parseMethodDescriptor yX8_readsCommand.desc).map (fun d => d.parameters.length) = some 0 := by decide +kernel
set_option maxHeartbeats 4000000 in
set_option maxRecDepth 100000 in
theorem ctX8_readsCommand (l : Launch) (D : va_G) (ca : Nat → ClassId) (o : Nat) (o_s : Nat) (o_saved : Nat) (o_text : Nat) (o_pieceCell : Nat) (o_letter : Nat) (o_number : Nat) (o_before : Nat) (o_savedCount : Int32) (o_textLength : Int32) (o_code : Int32) (o_pieceCount : Int32) (o_at : Int32) (o_commands : Int32) (o_hash : Int64) (o_text_d : Nat → Int32) (o_letter_d : Nat → Int32) (o_number_d : Nat → Int32)  (sz : Nat) (u0 : Int32) (u1 : Int32) (u2 : Int32) (u3 : Nat → Int32) (u4 : Nat → Int32) (hf : fX8_readsCommand o_textLength o_at o_commands o_text_d o_letter_d o_number_d = some (u0, u1, u2, u3, u4)) : MW l yX8_readsCommand wsX8_readsCommand 3 66 D ca [.ref o] sz [(o, .inr (7, [.ref o_s, .ref o_saved, .int o_savedCount, .ref o_text, .int o_textLength, .int o_code, .int o_pieceCount, .ref o_pieceCell, .int o_at, .int o_commands, .ref o_letter, .ref o_number, .ref o_before, .long o_hash])), (o_text, .inl (ca 0, 120, .inl o_text_d)), (o_letter, .inl (ca 0, 60, .inl o_letter_d)), (o_number, .inl (ca 0, 240, .inl o_number_d))] (some (.int u0)) [(o, .inr (7, [.ref o_s, .ref o_saved, .int o_savedCount, .ref o_text, .int o_textLength, .int o_code, .int o_pieceCount, .ref o_pieceCell, .int u1, .int u2, .ref o_letter, .ref o_number, .ref o_before, .long o_hash])), (o_text, .inl (ca 0, 120, .inl o_text_d)), (o_letter, .inl (ca 0, 60, .inl u3)), (o_number, .inl (ca 0, 240, .inl u4))] := by
  refine hdWz (by decide +kernel) rfl (Nat.le_of_ble_eq_true rfl) ?_
  intro p e s m args below meth c A Q hx hb hml hown hts hP hD hK hA hS hret ls hl
  have hown : s.vm.findClass RX8 = some m.cls := hown
  have hl : lv_has ls 3 [(0, .ref o)] := hl
  have h := hf
  unfold fX8_readsCommand at h
  clear hf
  have L40 : ∀ (l1 : Int32) (w_o_commands : Int32) (w_o_letter_d : Nat → Int32) (n : Nat) (l2 : Int32) (w_o_at : Int32) (w_o_number_d : Nat → Int32), lp (fun q => bX8_readsCommand_40 o_textLength o_text_d l1 w_o_commands w_o_letter_d q.1 q.2.1 q.2.2) n (l2, w_o_at, w_o_number_d) = some (u0, u1, u2, u3, u4) → ∀ (H : Heap) (locs : List Loc), va_P D vwCl [(o, .inr (7, [.ref o_s, .ref o_saved, .int o_savedCount, .ref o_text, .int o_textLength, .int o_code, .int o_pieceCount, .ref o_pieceCell, .int w_o_at, .int w_o_commands, .ref o_letter, .ref o_number, .ref o_before, .long o_hash])), (o_text, .inl (ca 0, 120, .inl o_text_d)), (o_letter, .inl (ca 0, 60, .inl w_o_letter_d)), (o_number, .inl (ca 0, 240, .inl w_o_number_d))] H → va_D A [(o, .inr (7, [.ref o_s, .ref o_saved, .int o_savedCount, .ref o_text, .int o_textLength, .int o_code, .int o_pieceCount, .ref o_pieceCell, .int w_o_at, .int w_o_commands, .ref o_letter, .ref o_number, .ref o_before, .long o_hash])), (o_text, .inl (ca 0, 120, .inl o_text_d)), (o_letter, .inl (ca 0, 60, .inl w_o_letter_d)), (o_number, .inl (ca 0, 240, .inl w_o_number_d))] → va_S A s.heap H locs → ∀ ls, lv_has ls 3 [(0, .ref o), (1, .int l1), (2, .int l2)] → W p l e ({ frames := 3, cells := 0, slots := 0, locals := 66 }) s m args below meth c H locs 0 0 Q (F0 m 40 ls []) := by
    intro l1 w_o_commands w_o_letter_d n
    induction n with
    | zero => intro l2 w_o_at w_o_number_d h; exact (lp_0 h).elim
    | succ n ih40 =>
      intro l2 w_o_at w_o_number_d h H locs hP hD hS ls hl
      obtain ⟨q40, h, hq40⟩ := lp_s h
      have h : bX8_readsCommand_40 o_textLength o_text_d l1 w_o_commands w_o_letter_d l2 w_o_at w_o_number_d = some q40 := h
      unfold bX8_readsCommand_40 at h
      refine lv_iload_n hx hb dX8_readsCommand_40 rfl (lv_at hl 2 rfl) ?_
      refine lv_iload_n hx hb dX8_readsCommand_41 rfl (lv_at hl 1 rfl) ?_
      refine lv_icmp_ge (tgt := 61) hx hb dX8_readsCommand_42 (by decide) (fun c1 => ?_) (fun c1 => ?_)
      · have h := ip_s h c1
        have h := xt_s hq40 h
        refine lv_aload_n hx hb dX8_readsCommand_61 rfl (lv_at hl 0 rfl) ?_
        refine lv_dup hx hb dX8_readsCommand_62 rfl ?_
        refine gtF (ci := 7) (v := .int w_o_commands) (C := RX8) (T := TX8) (N := 14) hx hb hts inX8_readsCommand_X8 hown hK hP 0 rfl rfl 9 (by decide) mwX8_readsCommand_1 rfl rfl dX8_readsCommand_63 ?_
        refine lv_iconst (v := (1 : Int32)) hx hb dX8_readsCommand_66 (by decide) ?_
        refine lv_iadd hx hb dX8_readsCommand_67 ?_
        obtain ⟨y2, e_y2, h⟩ := nm_s h
        refine top_i e_y2 ?_
        refine ptI (ci := 7) (v := .int y2) (ty := .int) (C := RX8) (T := TX8) (N := 14) (wn := [(o, .inr (7, [.ref o_s, .ref o_saved, .int o_savedCount, .ref o_text, .int o_textLength, .int o_code, .int o_pieceCount, .ref o_pieceCell, .int w_o_at, .int y2, .ref o_letter, .ref o_number, .ref o_before, .long o_hash])), (o_text, .inl (ca 0, 120, .inl o_text_d)), (o_letter, .inl (ca 0, 60, .inl w_o_letter_d)), (o_number, .inl (ca 0, 240, .inl w_o_number_d))]) hx hb hts inX8_readsCommand_X8 tyX8 tyX8_ok nmX8 hown hK hP hD hS 0 rfl rfl 9 (by decide) mwX8_readsCommand_1 rfl rfl (by decide +kernel) rfl rfl (Nat.le_of_ble_eq_true rfl) rfl dX8_readsCommand_68 (fun H locs hP hD hS => ?_)
        refine lv_aload_n hx hb dX8_readsCommand_71 rfl (lv_at hl 0 rfl) ?_
        refine lv_bipush (v := (59 : Int32)) hx hb dX8_readsCommand_72 (by decide) ?_
        obtain ⟨⟨r3_0, r3_1⟩, h_r3, h⟩ := bd_s h
        have h := up2_s h
        refine clVW (As := [.int (59 : Int32)]) (rest := []) (wr := [(o_letter, .inl (ca 0, 60, .inl w_o_letter_d)), (o_number, .inl (ca 0, 240, .inl w_o_number_d))]) (wn := [(o_letter, .inl (ca 0, 60, .inl w_o_letter_d)), (o_number, .inl (ca 0, 240, .inl w_o_number_d)), (o, .inr (7, [.ref o_s, .ref o_saved, .int o_savedCount, .ref o_text, .int o_textLength, .int o_code, .int o_pieceCount, .ref o_pieceCell, .int r3_1, .int y2, .ref o_letter, .ref o_number, .ref o_before, .long o_hash])), (o_text, .inl (ca 0, 120, .inl o_text_d))]) hx hb hml hown hts gX8_readsCommand_X8_takes rfl 1 kX8_takes ⟨Nat.le_of_ble_eq_true rfl, Nat.le_of_ble_eq_true rfl⟩ (ctX8_takes l D ca o o_s o_saved o_text o_pieceCell o_letter o_number o_before o_savedCount o_textLength o_code o_pieceCount w_o_at y2 o_hash o_text_d (59 : Int32) _ r3_0 r3_1 h_r3) hP hD hS hA hK [0, 1] [2, 3] rfl (by decide) rfl (by decide) (by decide) 0 7 rfl rfl rfl rfl hl.1 rfl (Nat.le_of_ble_eq_true rfl) ⟨Nat.le_of_ble_eq_true rfl, Nat.le_of_ble_eq_true rfl⟩ dX8_readsCommand_74 rfl rfl (fun H locs hP hD hS => ?_)
        obtain ⟨hz, h⟩ := zr_s h
        have hP := hP.sub (ws' := [(o, .inr (7, [.ref o_s, .ref o_saved, .int o_savedCount, .ref o_text, .int o_textLength, .int o_code, .int o_pieceCount, .ref o_pieceCell, .int r3_1, .int y2, .ref o_letter, .ref o_number, .ref o_before, .long o_hash])), (o_text, .inl (ca 0, 120, .inl o_text_d)), (o_letter, .inl (ca 0, 60, .inl w_o_letter_d)), (o_number, .inl (ca 0, 240, .inl w_o_number_d))]) [2, 3, 0, 1] rfl
        have hD := hD.sub (ws' := [(o, .inr (7, [.ref o_s, .ref o_saved, .int o_savedCount, .ref o_text, .int o_textLength, .int o_code, .int o_pieceCount, .ref o_pieceCell, .int r3_1, .int y2, .ref o_letter, .ref o_number, .ref o_before, .long o_hash])), (o_text, .inl (ca 0, 120, .inl o_text_d)), (o_letter, .inl (ca 0, 60, .inl w_o_letter_d)), (o_number, .inl (ca 0, 240, .inl w_o_number_d))]) [2, 3, 0, 1] (by decide) rfl
        cases h
        exact hret 77 ls _ hz _ _ hP hD hS rfl dX8_readsCommand_77
      · have h := in_s h c1
        refine lv_aload_n hx hb dX8_readsCommand_45 rfl (lv_at hl 0 rfl) ?_
        refine lv_iload_n hx hb dX8_readsCommand_46 rfl (lv_at hl 2 rfl) ?_
        obtain ⟨⟨r4_0, r4_1, r4_2⟩, h_r4, h⟩ := bd_s h
        have h := up3_s h
        refine clVW (As := [.int l2]) (rest := []) (wr := [(o_letter, .inl (ca 0, 60, .inl w_o_letter_d))]) (wn := [(o_letter, .inl (ca 0, 60, .inl w_o_letter_d)), (o, .inr (7, [.ref o_s, .ref o_saved, .int o_savedCount, .ref o_text, .int o_textLength, .int o_code, .int o_pieceCount, .ref o_pieceCell, .int r4_1, .int w_o_commands, .ref o_letter, .ref o_number, .ref o_before, .long o_hash])), (o_text, .inl (ca 0, 120, .inl o_text_d)), (o_number, .inl (ca 0, 240, .inl r4_2))]) hx hb hml hown hts gX8_readsCommand_X8_readsNumber rfl 1 kX8_readsNumber ⟨Nat.le_of_ble_eq_true rfl, Nat.le_of_ble_eq_true rfl⟩ (ctX8_readsNumber l D ca o o_s o_saved o_text o_pieceCell o_letter o_number o_before o_savedCount o_textLength o_code o_pieceCount w_o_at w_o_commands o_hash o_text_d w_o_number_d l2 _ r4_0 r4_1 r4_2 h_r4) hP hD hS hA hK [0, 1, 3] [2] rfl (by decide) rfl (by decide) (by decide) 0 7 rfl rfl rfl rfl hl.1 rfl (Nat.le_of_ble_eq_true rfl) ⟨Nat.le_of_ble_eq_true rfl, Nat.le_of_ble_eq_true rfl⟩ dX8_readsCommand_47 rfl rfl (fun H locs hP hD hS => ?_)
        refine lv_if_ne (tgt := 55) hx hb dX8_readsCommand_50 (by decide) (fun c5 => ?_) (fun c5 => ?_)
        · have h := in_s h c5
          obtain ⟨y6, e_y6, h⟩ := nm_s h
          refine lv_iinc (v := y6) (lv' := [(2, .int y6), (0, .ref o), (1, .int l1)]) hx hb dX8_readsCommand_55 hl (k := 2) rfl (by rw [e_y6]; rfl) (by decide) rfl (fun ls hl => ?_)
          refine lv_goto (tgt := 40) hx hb dX8_readsCommand_58 (by decide) ?_
          have hP := hP.sub (ws' := [(o, .inr (7, [.ref o_s, .ref o_saved, .int o_savedCount, .ref o_text, .int o_textLength, .int o_code, .int o_pieceCount, .ref o_pieceCell, .int r4_1, .int w_o_commands, .ref o_letter, .ref o_number, .ref o_before, .long o_hash])), (o_text, .inl (ca 0, 120, .inl o_text_d)), (o_letter, .inl (ca 0, 60, .inl w_o_letter_d)), (o_number, .inl (ca 0, 240, .inl r4_2))]) [1, 2, 0, 3] rfl
          have hD := hD.sub (ws' := [(o, .inr (7, [.ref o_s, .ref o_saved, .int o_savedCount, .ref o_text, .int o_textLength, .int o_code, .int o_pieceCount, .ref o_pieceCell, .int r4_1, .int w_o_commands, .ref o_letter, .ref o_number, .ref o_before, .long o_hash])), (o_text, .inl (ca 0, 120, .inl o_text_d)), (o_letter, .inl (ca 0, 60, .inl w_o_letter_d)), (o_number, .inl (ca 0, 240, .inl r4_2))]) [1, 2, 0, 3] (by decide) rfl
          exact ih40 y6 r4_1 r4_2 (lp_l hq40 h) _ _ hP hD hS ls (lv_sub hl [1, 2, 0] rfl)
        · have h := ip_s h c5
          have h := xt_s hq40 h
          refine lv_iconst (v := (0 : Int32)) hx hb dX8_readsCommand_53 (by decide) ?_
          obtain ⟨hz, h⟩ := zr_s h
          have hP := hP.sub (ws' := [(o, .inr (7, [.ref o_s, .ref o_saved, .int o_savedCount, .ref o_text, .int o_textLength, .int o_code, .int o_pieceCount, .ref o_pieceCell, .int r4_1, .int w_o_commands, .ref o_letter, .ref o_number, .ref o_before, .long o_hash])), (o_text, .inl (ca 0, 120, .inl o_text_d)), (o_letter, .inl (ca 0, 60, .inl w_o_letter_d)), (o_number, .inl (ca 0, 240, .inl r4_2))]) [1, 2, 0, 3] rfl
          have hD := hD.sub (ws' := [(o, .inr (7, [.ref o_s, .ref o_saved, .int o_savedCount, .ref o_text, .int o_textLength, .int o_code, .int o_pieceCount, .ref o_pieceCell, .int r4_1, .int w_o_commands, .ref o_letter, .ref o_number, .ref o_before, .long o_hash])), (o_text, .inl (ca 0, 120, .inl o_text_d)), (o_letter, .inl (ca 0, 60, .inl w_o_letter_d)), (o_number, .inl (ca 0, 240, .inl r4_2))]) [1, 2, 0, 3] (by decide) rfl
          cases h
          exact hret 54 ls _ hz _ _ hP hD hS rfl dX8_readsCommand_54
  refine lv_aload_n hx hb dX8_readsCommand_0 rfl (lv_at hl 0 rfl) ?_
  obtain ⟨r1, h_r1, h⟩ := bd_s h
  refine clVR (As := []) (rest := []) hx hb hml hown hts gX8_readsCommand_X8_here rfl 0 kX8_here ⟨Nat.le_of_ble_eq_true rfl, Nat.le_of_ble_eq_true rfl⟩ (ctX8_here l D ca o o_s o_saved o_text o_pieceCell o_letter o_number o_before o_savedCount o_textLength o_code o_pieceCount o_at o_commands o_hash o_text_d  r1 h_r1) hP hK [0, 1] rfl 0 7 rfl rfl rfl rfl hl.1 rfl (Nat.le_of_ble_eq_true rfl) ⟨Nat.le_of_ble_eq_true rfl, Nat.le_of_ble_eq_true rfl⟩ dX8_readsCommand_1 rfl ?_
  obtain ⟨r2, h_r2, h⟩ := bd_s h
  refine clSR (As := [.int r1]) (rest := []) hx hb hml hown hts gX8_readsCommand_X8_numbersOf rfl 1 kX8_numbersOf.2 ⟨Nat.le_of_ble_eq_true rfl, Nat.le_of_ble_eq_true rfl⟩ (ctX8_numbersOf l D ca   r1 r2 h_r2) hP hK [] rfl rfl hl.1 rfl (Nat.le_of_ble_eq_true rfl) ⟨Nat.le_of_ble_eq_true rfl, Nat.le_of_ble_eq_true rfl⟩ dX8_readsCommand_4 rfl ?_
  refine lv_istore_n (lv' := [(1, .int r2), (0, .ref o)]) hx hb dX8_readsCommand_7 rfl hl (by decide) rfl (fun ls hl => ?_)
  refine lv_iload_n hx hb dX8_readsCommand_8 rfl (lv_at hl 0 rfl) ?_
  refine lv_iconst (v := (-1 : Int32)) hx hb dX8_readsCommand_9 (by decide) ?_
  refine lv_icmp_ne (tgt := 15) hx hb dX8_readsCommand_10 (by decide) (fun c3 => ?_) (fun c3 => ?_)
  · have h := in_s h c3
    refine lv_aload_n hx hb dX8_readsCommand_15 rfl (lv_at hl 1 rfl) ?_
    refine gtF (ci := 7) (v := .ref o_letter) (C := RX8) (T := TX8) (N := 14) hx hb hts inX8_readsCommand_X8 hown hK hP 0 rfl rfl 10 (by decide) mwX8_readsCommand_0 rfl rfl dX8_readsCommand_16 ?_
    refine lv_aload_n hx hb dX8_readsCommand_19 rfl (lv_at hl 1 rfl) ?_
    refine gtF (ci := 7) (v := .int o_commands) (C := RX8) (T := TX8) (N := 14) hx hb hts inX8_readsCommand_X8 hown hK hP 0 rfl rfl 9 (by decide) mwX8_readsCommand_1 rfl rfl dX8_readsCommand_20 ?_
    refine lv_aload_n hx hb dX8_readsCommand_23 rfl (lv_at hl 1 rfl) ?_
    obtain ⟨r4, h_r4, h⟩ := bd_s h
    refine clVR (As := []) (rest := [.int o_commands, .ref o_letter]) hx hb hml hown hts gX8_readsCommand_X8_here rfl 0 kX8_here ⟨Nat.le_of_ble_eq_true rfl, Nat.le_of_ble_eq_true rfl⟩ (ctX8_here l D ca o o_s o_saved o_text o_pieceCell o_letter o_number o_before o_savedCount o_textLength o_code o_pieceCount o_at o_commands o_hash o_text_d  r4 h_r4) hP hK [0, 1] rfl 0 7 rfl rfl rfl rfl hl.1 rfl (Nat.le_of_ble_eq_true rfl) ⟨Nat.le_of_ble_eq_true rfl, Nat.le_of_ble_eq_true rfl⟩ dX8_readsCommand_24 rfl ?_
    obtain ⟨hin, g5, e_g5, h⟩ := wr_s h
    refine stI (wn := [(o, .inr (7, [.ref o_s, .ref o_saved, .int o_savedCount, .ref o_text, .int o_textLength, .int o_code, .int o_pieceCount, .ref o_pieceCell, .int o_at, .int o_commands, .ref o_letter, .ref o_number, .ref o_before, .long o_hash])), (o_text, .inl (ca 0, 120, .inl o_text_d)), (o_letter, .inl (ca 0, 60, .inl g5)), (o_number, .inl (ca 0, 240, .inl o_number_d))]) hx hb hK hP hD hS 2 rfl hin e_g5 rfl dX8_readsCommand_27 (fun H locs hP hD hS => ?_)
    refine lv_aload_n hx hb dX8_readsCommand_28 rfl (lv_at hl 1 rfl) ?_
    refine lv_dup hx hb dX8_readsCommand_29 rfl ?_
    refine gtF (ci := 7) (v := .int o_at) (C := RX8) (T := TX8) (N := 14) hx hb hts inX8_readsCommand_X8 hown hK hP 0 rfl rfl 8 (by decide) mwX8_readsCommand_2 rfl rfl dX8_readsCommand_30 ?_
    refine lv_iconst (v := (1 : Int32)) hx hb dX8_readsCommand_33 (by decide) ?_
    refine lv_iadd hx hb dX8_readsCommand_34 ?_
    obtain ⟨y6, e_y6, h⟩ := nm_s h
    refine top_i e_y6 ?_
    refine ptI (ci := 7) (v := .int y6) (ty := .int) (C := RX8) (T := TX8) (N := 14) (wn := [(o, .inr (7, [.ref o_s, .ref o_saved, .int o_savedCount, .ref o_text, .int o_textLength, .int o_code, .int o_pieceCount, .ref o_pieceCell, .int y6, .int o_commands, .ref o_letter, .ref o_number, .ref o_before, .long o_hash])), (o_text, .inl (ca 0, 120, .inl o_text_d)), (o_letter, .inl (ca 0, 60, .inl g5)), (o_number, .inl (ca 0, 240, .inl o_number_d))]) hx hb hts inX8_readsCommand_X8 tyX8 tyX8_ok nmX8 hown hK hP hD hS 0 rfl rfl 8 (by decide) mwX8_readsCommand_2 rfl rfl (by decide +kernel) rfl rfl (Nat.le_of_ble_eq_true rfl) rfl dX8_readsCommand_35 (fun H locs hP hD hS => ?_)
    refine lv_iconst (v := (0 : Int32)) hx hb dX8_readsCommand_38 (by decide) ?_
    refine lv_istore_n (lv' := [(2, .int (0 : Int32)), (1, .int r2), (0, .ref o)]) hx hb dX8_readsCommand_39 rfl hl (by decide) rfl (fun ls hl => ?_)
    exact L40 r2 o_commands g5 fuel (0 : Int32) y6 o_number_d h _ _ hP hD hS ls (lv_sub hl [2, 1, 0] rfl)
  · have h := ip_s h c3
    refine lv_iconst (v := (0 : Int32)) hx hb dX8_readsCommand_13 (by decide) ?_
    obtain ⟨hz, h⟩ := zr_s h
    cases h
    exact hret 14 ls _ hz _ _ hP hD hS rfl dX8_readsCommand_14
