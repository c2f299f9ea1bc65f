theorem mwX8_thrown_0 : Cond.fieldLink RX8 31 "SegmentTimesModel" "code" "I" ∈ wsX8_thrown := List.mem_of_getElem? (i := 1) rfl
theorem inX8_thrown_X8 : ∀ w ∈ u_ws RX8 TX8 14, w ∈ wsX8_thrown := fun w h => List.mem_cons_of_mem _ (List.mem_append_right _ (h))
theorem kX8_thrown : yX8_thrown.cls = RX8 ∧ yX8_thrown.cls ≠ "java/lang/invoke/MethodHandle" ∧ yX8_thrown.cls ≠ "java/lang/invoke/VarHandle" ∧ (parseMethodDescriptor yX8_thrown.desc).map (fun d => d.parameters.length) = some 0 := by decide +kernel
set_option maxHeartbeats 4000000 in
set_option maxRecDepth 100000 in
theorem ctX8_thrown (l : Launch) (D : va_G) (ca : Nat → ClassId) (o : Nat) (o_s : Nat) (o_saved : Nat) (o_text : Nat) (o_pieceCell : Nat) (o_letter : Nat) (o_number : Nat) (o_before : Nat) (o_savedCount : Int32) (o_textLength : Int32) (o_code : Int32) (o_pieceCount : Int32) (o_at : Int32) (o_commands : Int32) (o_hash : Int64)  (u0 : Int32) (hf : fX8_thrown o_code = some u0) : MR l yX8_thrown wsX8_thrown 0 0 D ca [.ref o] [(o, .inr (7, [.ref o_s, .ref o_saved, .int o_savedCount, .ref o_text, .int o_textLength, .int o_code, .int o_pieceCount, .ref o_pieceCell, .int o_at, .int o_commands, .ref o_letter, .ref o_number, .ref o_before, .long o_hash]))] (some (.int u0)) := by
  refine hdRi (plainFor_of_name (by decide +kernel)) rfl (Nat.le_of_ble_eq_true rfl) ?_
  intro p e s m args below meth c Q hx hb hml hown hts hP hK hret ls hl
  have hown : s.vm.findClass RX8 = some m.cls := hown
  have hl : lv_has ls 1 [(0, .ref o)] := hl
  have h := hf
  unfold fX8_thrown at h
  clear hf
  refine lv_aload_n hx hb dX8_thrown_0 rfl (lv_at hl 0 rfl) ?_
  refine gtF (ci := 7) (v := .int o_code) (C := RX8) (T := TX8) (N := 14) hx hb hts inX8_thrown_X8 hown hK hP 0 rfl rfl 5 (by decide) mwX8_thrown_0 rfl rfl dX8_thrown_1 ?_
  cases h
  exact hret 4 ls _ rfl dX8_thrown_4
theorem mwX8_fails_0 : Cond.fieldLink RX8 31 "SegmentTimesModel" "code" "I" ∈ wsX8_fails := List.mem_of_getElem? (i := 1) rfl
theorem inX8_fails_X8 : ∀ w ∈ u_ws RX8 TX8 14, w ∈ wsX8_fails := fun w h => List.mem_cons_of_mem _ (List.mem_append_right _ (h))
theorem kX8_fails : yX8_fails.cls = RX8 ∧ yX8_fails.cls ≠ "java/lang/invoke/MethodHandle" ∧ yX8_fails.cls ≠ "java/lang/invoke/VarHandle" ∧ (parseMethodDescriptor yX8_fails.desc).map (fun d => d.parameters.length) = some 1 := by decide +kernel
set_option maxHeartbeats 4000000 in
set_option maxRecDepth 100000 in
theorem ctX8_fails (l : Launch) (D : va_G) (ca : Nat → ClassId) (o : Nat) (o_s : Nat) (o_saved : Nat) (o_text : Nat) (o_pieceCell : Nat) (o_letter : Nat) (o_number : Nat) (o_before : Nat) (o_savedCount : Int32) (o_textLength : Int32) (o_code : Int32) (o_pieceCount : Int32) (o_at : Int32) (o_commands : Int32) (o_hash : Int64) (x1 : Int32) (sz : Nat) (u0 : Int32) (u1 : Int32) (hf : fX8_fails o_code x1 = some (u0, u1)) : MW l yX8_fails wsX8_fails 0 0 D ca [.ref o, .int x1] sz [(o, .inr (7, [.ref o_s, .ref o_saved, .int o_savedCount, .ref o_text, .int o_textLength, .int o_code, .int o_pieceCount, .ref o_pieceCell, .int o_at, .int o_commands, .ref o_letter, .ref o_number, .ref o_before, .long o_hash]))] (some (.int u0)) [(o, .inr (7, [.ref o_s, .ref o_saved, .int o_savedCount, .ref o_text, .int o_textLength, .int u1, .int o_pieceCount, .ref o_pieceCell, .int o_at, .int o_commands, .ref o_letter, .ref o_number, .ref o_before, .long o_hash]))] := by
  refine hdWi (by decide +kernel) rfl (Nat.le_of_ble_eq_true rfl) ?_
  intro p e s m args below meth c A Q hx hb hml hown hts hP hD hK hA hS hret ls hl
  have hown : s.vm.findClass RX8 = some m.cls := hown
  have hl : lv_has ls 2 [(0, .ref o), (1, .int x1)] := hl
  have h := hf
  unfold fX8_fails at h
  clear hf
  refine lv_aload_n hx hb dX8_fails_0 rfl (lv_at hl 0 rfl) ?_
  refine lv_iload_n hx hb dX8_fails_1 rfl (lv_at hl 1 rfl) ?_
  refine ptI (ci := 7) (v := .int x1) (ty := .int) (C := RX8) (T := TX8) (N := 14) (wn := [(o, .inr (7, [.ref o_s, .ref o_saved, .int o_savedCount, .ref o_text, .int o_textLength, .int x1, .int o_pieceCount, .ref o_pieceCell, .int o_at, .int o_commands, .ref o_letter, .ref o_number, .ref o_before, .long o_hash]))]) hx hb hts inX8_fails_X8 tyX8 tyX8_ok nmX8 hown hK hP hD hS 0 rfl rfl 5 (by decide) mwX8_fails_0 rfl rfl (by decide +kernel) rfl rfl (Nat.le_of_ble_eq_true rfl) rfl dX8_fails_2 (fun H locs hP hD hS => ?_)
  refine lv_iconst (v := (0 : Int32)) hx hb dX8_fails_5 (by decide) ?_
  cases h
  exact hret 6 ls _ _ _ hP hD hS rfl dX8_fails_6
theorem kX8_in : yX8_in.cls = yX8_in.cls ∧ yX8_in.cls ≠ "java/lang/invoke/MethodHandle" ∧ yX8_in.cls ≠ "java/lang/invoke/VarHandle" ∧ (parseMethodDescriptor yX8_in.desc).map (fun d => d.parameters.length) = some 3 := by decide +kernel
set_option maxHeartbeats 4000000 in
set_option maxRecDepth 100000 in
theorem ctX8_in (l : Launch) (D : va_G) (ca : Nat → ClassId)   (x0 : Int64) (x2 : Int64) (x4 : Int64) (u0 : Int32) (hf : fX8_in x0 x2 x4 = some u0) : MR l yX8_in wsX8_in 0 0 D ca [.long x0, .long x2, .long x4] [] (some (.int u0)) := by
  refine hdRz (plainFor_of_name (by decide +kernel)) rfl (Nat.le_of_ble_eq_true rfl) ?_
  intro p e s m args below meth c Q hx hb hml hown hts hP hK hret ls hl
  have hown : s.vm.findClass RX8 = some m.cls := hown
  have hl : lv_has ls 6 [(0, .long x0), (2, .long x2), (4, .long x4)] := hl
  have h := hf
  unfold fX8_in at h
  clear hf
  refine lv_lload_n hx hb dX8_in_0 rfl (lv_at hl 0 rfl) ?_
  refine lv_lload_n hx hb dX8_in_1 rfl (lv_at hl 1 rfl) ?_
  refine W.lcmp hx hb dX8_in_2 ?_
  refine lv_if_lt (tgt := 17) hx hb dX8_in_3 (by decide) (fun c1 => ?_) (fun c1 => ?_)
  · have h := ip_s h c1
    refine lv_iconst (v := (0 : Int32)) hx hb dX8_in_17 (by decide) ?_
    obtain ⟨hz, h⟩ := zr_s h
    cases h
    exact hret 18 ls _ hz rfl dX8_in_18
  · have h := in_s h c1
    refine lv_lload_n hx hb dX8_in_6 rfl (lv_at hl 0 rfl) ?_
    refine lv_lload hx hb dX8_in_7 (lv_at hl 2 rfl) ?_
    refine W.lcmp hx hb dX8_in_9 ?_
    refine lv_if_gt (tgt := 17) hx hb dX8_in_10 (by decide) (fun c2 => ?_) (fun c2 => ?_)
    · have h := ip_s h c2
      refine lv_iconst (v := (0 : Int32)) hx hb dX8_in_17 (by decide) ?_
      obtain ⟨hz, h⟩ := zr_s h
      cases h
      exact hret 18 ls _ hz rfl dX8_in_18
    · have h := in_s h c2
      refine lv_iconst (v := (1 : Int32)) hx hb dX8_in_13 (by decide) ?_
      refine lv_goto (tgt := 18) hx hb dX8_in_14 (by decide) ?_
      obtain ⟨hz, h⟩ := zr_s h
      cases h
      exact hret 18 ls _ hz rfl dX8_in_18
theorem mwX8_keep_0 : Cond.fieldLink RX8 35 "SegmentTimesModel" "savedCount" "I" ∈ wsX8_keep := List.mem_of_getElem? (i := 1) rfl
theorem mwX8_keep_1 : Cond.fieldLink RX8 13 "SegmentTimesModel" "saved" "[I" ∈ wsX8_keep := List.mem_of_getElem? (i := 2) rfl
theorem mwX8_keep_2 : Cond.fieldLink RX8 7 "SegmentTimesModel" "s" "[I" ∈ wsX8_keep := List.mem_of_getElem? (i := 3) rfl
theorem inX8_keep_X8 : ∀ w ∈ u_ws RX8 TX8 14, w ∈ wsX8_keep := fun w h => List.mem_cons_of_mem _ (List.mem_append_right _ (h))
theorem kX8_keep : yX8_keep.cls = RX8 ∧ yX8_keep.cls ≠ "java/lang/invoke/MethodHandle" ∧ yX8_keep.cls ≠ "java/lang/invoke/VarHandle" ∧ (parseMethodDescriptor yX8_keep.desc).map (fun d => d.parameters.length) = some 0 := by decide +kernel
set_option maxHeartbeats 4000000 in
set_option maxRecDepth 100000 in
theorem ctX8_keep (l : Launch) (D : va_G) (ca : Nat → ClassId) (o : Nat) (o_s : Nat) (o_saved : Nat) (o_text : Nat) (o_pieceCell : Nat) (o_letter : Nat) (o_number : Nat) (o_before : Nat) (o_savedCount : Int32) (o_textLength : Int32) (o_code : Int32) (o_pieceCount : Int32) (o_at : Int32) (o_commands : Int32) (o_hash : Int64) (o_s_d : Nat → Int32) (o_saved_d : Nat → Int32)  (sz : Nat) (u0 : Int32) (u1 : Nat → Int32) (hf : fX8_keep o_savedCount o_s_d o_saved_d = some (u0, u1)) : MW l yX8_keep wsX8_keep 0 0 D ca [.ref o] sz [(o, .inr (7, [.ref o_s, .ref o_saved, .int o_savedCount, .ref o_text, .int o_textLength, .int o_code, .int o_pieceCount, .ref o_pieceCell, .int o_at, .int o_commands, .ref o_letter, .ref o_number, .ref o_before, .long o_hash])), (o_s, .inl (ca 0, 1634, .inl o_s_d)), (o_saved, .inl (ca 0, 6536, .inl o_saved_d))] none [(o, .inr (7, [.ref o_s, .ref o_saved, .int u0, .ref o_text, .int o_textLength, .int o_code, .int o_pieceCount, .ref o_pieceCell, .int o_at, .int o_commands, .ref o_letter, .ref o_number, .ref o_before, .long o_hash])), (o_s, .inl (ca 0, 1634, .inl o_s_d)), (o_saved, .inl (ca 0, 6536, .inl u1))] := by
  refine hdWv (by decide +kernel) rfl (Nat.le_of_ble_eq_true rfl) rfl ?_
  intro p e s m args below meth c A Q hx hb hml hown hts hP hD hK hA hS hret ls hl
  have hown : s.vm.findClass RX8 = some m.cls := hown
  have hl : lv_has ls 2 [(0, .ref o)] := hl
  have h := hf
  unfold fX8_keep at h
  clear hf
  have L51 : ∀ (w_o_savedCount : Int32) (n : Nat) (l1 : Int32) (w_o_saved_d : Nat → Int32), lp (fun q => bX8_keep_51 o_s_d w_o_savedCount q.1 q.2) n (l1, w_o_saved_d) = some (u0, u1) → ∀ (H : Heap) (locs : List Loc), va_P D vwCl [(o, .inr (7, [.ref o_s, .ref o_saved, .int w_o_savedCount, .ref o_text, .int o_textLength, .int o_code, .int o_pieceCount, .ref o_pieceCell, .int o_at, .int o_commands, .ref o_letter, .ref o_number, .ref o_before, .long o_hash])), (o_s, .inl (ca 0, 1634, .inl o_s_d)), (o_saved, .inl (ca 0, 6536, .inl w_o_saved_d))] H → va_D A [(o, .inr (7, [.ref o_s, .ref o_saved, .int w_o_savedCount, .ref o_text, .int o_textLength, .int o_code, .int o_pieceCount, .ref o_pieceCell, .int o_at, .int o_commands, .ref o_letter, .ref o_number, .ref o_before, .long o_hash])), (o_s, .inl (ca 0, 1634, .inl o_s_d)), (o_saved, .inl (ca 0, 6536, .inl w_o_saved_d))] → va_S A s.heap H locs → ∀ ls, lv_has ls 2 [(0, .ref o), (1, .int l1)] → W p l e ({ frames := 0, cells := 0, slots := 0, locals := 0 }) s m args below meth c H locs 0 0 Q (F0 m 51 ls []) := by
    intro w_o_savedCount n
    induction n with
    | zero => intro l1 w_o_saved_d h; exact (lp_0 h).elim
    | succ n ih51 =>
      intro l1 w_o_saved_d h H locs hP hD hS ls hl
      obtain ⟨q51, h, hq51⟩ := lp_s h
      have h : bX8_keep_51 o_s_d w_o_savedCount l1 w_o_saved_d = some q51 := h
      unfold bX8_keep_51 at h
      refine lv_iload_n hx hb dX8_keep_51 rfl (lv_at hl 1 rfl) ?_
      refine lv_sipush (v := (1634 : Int32)) hx hb dX8_keep_52 (by decide) ?_
      refine lv_icmp_ge (tgt := 85) hx hb dX8_keep_55 (by decide) (fun c1 => ?_) (fun c1 => ?_)
      · have h := ip_s h c1
        have h := xt_s hq51 h
        refine lv_aload_n hx hb dX8_keep_85 rfl (lv_at hl 0 rfl) ?_
        refine lv_dup hx hb dX8_keep_86 rfl ?_
        refine gtF (ci := 7) (v := .int w_o_savedCount) (C := RX8) (T := TX8) (N := 14) hx hb hts inX8_keep_X8 hown hK hP 0 rfl rfl 2 (by decide) mwX8_keep_0 rfl rfl dX8_keep_87 ?_
        refine lv_iconst (v := (1 : Int32)) hx hb dX8_keep_90 (by decide) ?_
        refine lv_iadd hx hb dX8_keep_91 ?_
        obtain ⟨y2, e_y2, h⟩ := nm_s h
        refine top_i e_y2 ?_
        refine ptI (ci := 7) (v := .int y2) (ty := .int) (C := RX8) (T := TX8) (N := 14) (wn := [(o, .inr (7, [.ref o_s, .ref o_saved, .int y2, .ref o_text, .int o_textLength, .int o_code, .int o_pieceCount, .ref o_pieceCell, .int o_at, .int o_commands, .ref o_letter, .ref o_number, .ref o_before, .long o_hash])), (o_s, .inl (ca 0, 1634, .inl o_s_d)), (o_saved, .inl (ca 0, 6536, .inl w_o_saved_d))]) hx hb hts inX8_keep_X8 tyX8 tyX8_ok nmX8 hown hK hP hD hS 0 rfl rfl 2 (by decide) mwX8_keep_0 rfl rfl (by decide +kernel) rfl rfl (Nat.le_of_ble_eq_true rfl) rfl dX8_keep_92 (fun H locs hP hD hS => ?_)
        cases h
        exact hret 95 ls _ _ hP hD hS rfl dX8_keep_95
      · have h := in_s h c1
        refine lv_aload_n hx hb dX8_keep_58 rfl (lv_at hl 0 rfl) ?_
        refine gtF (ci := 7) (v := .ref o_saved) (C := RX8) (T := TX8) (N := 14) hx hb hts inX8_keep_X8 hown hK hP 0 rfl rfl 1 (by decide) mwX8_keep_1 rfl rfl dX8_keep_59 ?_
        refine lv_sipush (v := (1634 : Int32)) hx hb dX8_keep_62 (by decide) ?_
        refine lv_aload_n hx hb dX8_keep_65 rfl (lv_at hl 0 rfl) ?_
        refine gtF (ci := 7) (v := .int w_o_savedCount) (C := RX8) (T := TX8) (N := 14) hx hb hts inX8_keep_X8 hown hK hP 0 rfl rfl 2 (by decide) mwX8_keep_0 rfl rfl dX8_keep_66 ?_
        refine lv_imul hx hb dX8_keep_69 ?_
        refine lv_iload_n hx hb dX8_keep_70 rfl (lv_at hl 1 rfl) ?_
        refine lv_iadd hx hb dX8_keep_71 ?_
        refine lv_aload_n hx hb dX8_keep_72 rfl (lv_at hl 0 rfl) ?_
        refine gtF (ci := 7) (v := .ref o_s) (C := RX8) (T := TX8) (N := 14) hx hb hts inX8_keep_X8 hown hK hP 0 rfl rfl 0 (by decide) mwX8_keep_2 rfl rfl dX8_keep_73 ?_
        refine lv_iload_n hx hb dX8_keep_76 rfl (lv_at hl 1 rfl) ?_
        obtain ⟨hin, y3, e_y3, h⟩ := rd_s h
        refine ldI hx hb hK hP 1 rfl hin dX8_keep_77 ?_
        refine top_i e_y3 ?_
        obtain ⟨hin, g4, e_g4, h⟩ := wr_s h
        refine stI (wn := [(o, .inr (7, [.ref o_s, .ref o_saved, .int w_o_savedCount, .ref o_text, .int o_textLength, .int o_code, .int o_pieceCount, .ref o_pieceCell, .int o_at, .int o_commands, .ref o_letter, .ref o_number, .ref o_before, .long o_hash])), (o_s, .inl (ca 0, 1634, .inl o_s_d)), (o_saved, .inl (ca 0, 6536, .inl g4))]) hx hb hK hP hD hS 2 rfl hin e_g4 rfl dX8_keep_78 (fun H locs hP hD hS => ?_)
        obtain ⟨y5, e_y5, h⟩ := nm_s h
        refine lv_iinc (v := y5) (lv' := [(1, .int y5), (0, .ref o)]) hx hb dX8_keep_79 hl (k := 1) rfl (by rw [e_y5]; rfl) (by decide) rfl (fun ls hl => ?_)
        refine lv_goto (tgt := 51) hx hb dX8_keep_82 (by decide) ?_
        exact ih51 y5 g4 (lp_l hq51 h) _ _ hP hD hS ls (lv_sub hl [1, 0] rfl)
  have L10 : ∀ (w_o_savedCount : Int32) (n : Nat) (l1 : Int32) (w_o_saved_d : Nat → Int32), lp (fun q => bX8_keep_10 o_s_d w_o_savedCount q.1 q.2) n (l1, w_o_saved_d) = some (u0, u1) → ∀ (H : Heap) (locs : List Loc), va_P D vwCl [(o, .inr (7, [.ref o_s, .ref o_saved, .int w_o_savedCount, .ref o_text, .int o_textLength, .int o_code, .int o_pieceCount, .ref o_pieceCell, .int o_at, .int o_commands, .ref o_letter, .ref o_number, .ref o_before, .long o_hash])), (o_s, .inl (ca 0, 1634, .inl o_s_d)), (o_saved, .inl (ca 0, 6536, .inl w_o_saved_d))] H → va_D A [(o, .inr (7, [.ref o_s, .ref o_saved, .int w_o_savedCount, .ref o_text, .int o_textLength, .int o_code, .int o_pieceCount, .ref o_pieceCell, .int o_at, .int o_commands, .ref o_letter, .ref o_number, .ref o_before, .long o_hash])), (o_s, .inl (ca 0, 1634, .inl o_s_d)), (o_saved, .inl (ca 0, 6536, .inl w_o_saved_d))] → va_S A s.heap H locs → ∀ ls, lv_has ls 2 [(0, .ref o), (1, .int l1)] → W p l e ({ frames := 0, cells := 0, slots := 0, locals := 0 }) s m args below meth c H locs 0 0 Q (F0 m 10 ls []) := by
    intro w_o_savedCount n
    induction n with
    | zero => intro l1 w_o_saved_d h; exact (lp_0 h).elim
    | succ n ih10 =>
      intro l1 w_o_saved_d h H locs hP hD hS ls hl
      obtain ⟨q10, h, hq10⟩ := lp_s h
      have h : bX8_keep_10 o_s_d w_o_savedCount l1 w_o_saved_d = some q10 := h
      unfold bX8_keep_10 at h
      refine lv_iload_n hx hb dX8_keep_10 rfl (lv_at hl 1 rfl) ?_
      refine lv_sipush (v := (4902 : Int32)) hx hb dX8_keep_11 (by decide) ?_
      refine lv_icmp_ge (tgt := 39) hx hb dX8_keep_14 (by decide) (fun c1 => ?_) (fun c1 => ?_)
      · have h := ip_s h c1
        have h := xt_s hq10 h
        refine lv_aload_n hx hb dX8_keep_39 rfl (lv_at hl 0 rfl) ?_
        refine lv_dup hx hb dX8_keep_40 rfl ?_
        refine gtF (ci := 7) (v := .int w_o_savedCount) (C := RX8) (T := TX8) (N := 14) hx hb hts inX8_keep_X8 hown hK hP 0 rfl rfl 2 (by decide) mwX8_keep_0 rfl rfl dX8_keep_41 ?_
        refine lv_iconst (v := (1 : Int32)) hx hb dX8_keep_44 (by decide) ?_
        refine lv_isub hx hb dX8_keep_45 ?_
        obtain ⟨y2, e_y2, h⟩ := nm_s h
        refine top_i e_y2 ?_
        refine ptI (ci := 7) (v := .int y2) (ty := .int) (C := RX8) (T := TX8) (N := 14) (wn := [(o, .inr (7, [.ref o_s, .ref o_saved, .int y2, .ref o_text, .int o_textLength, .int o_code, .int o_pieceCount, .ref o_pieceCell, .int o_at, .int o_commands, .ref o_letter, .ref o_number, .ref o_before, .long o_hash])), (o_s, .inl (ca 0, 1634, .inl o_s_d)), (o_saved, .inl (ca 0, 6536, .inl w_o_saved_d))]) hx hb hts inX8_keep_X8 tyX8 tyX8_ok nmX8 hown hK hP hD hS 0 rfl rfl 2 (by decide) mwX8_keep_0 rfl rfl (by decide +kernel) rfl rfl (Nat.le_of_ble_eq_true rfl) rfl dX8_keep_46 (fun H locs hP hD hS => ?_)
        refine lv_iconst (v := (0 : Int32)) hx hb dX8_keep_49 (by decide) ?_
        refine lv_istore_n (lv' := [(1, .int (0 : Int32)), (0, .ref o)]) hx hb dX8_keep_50 rfl hl (by decide) rfl (fun ls hl => ?_)
        exact L51 y2 fuel (0 : Int32) w_o_saved_d h _ _ hP hD hS ls (lv_sub hl [1, 0] rfl)
      · have h := in_s h c1
        refine lv_aload_n hx hb dX8_keep_17 rfl (lv_at hl 0 rfl) ?_
        refine gtF (ci := 7) (v := .ref o_saved) (C := RX8) (T := TX8) (N := 14) hx hb hts inX8_keep_X8 hown hK hP 0 rfl rfl 1 (by decide) mwX8_keep_1 rfl rfl dX8_keep_18 ?_
        refine lv_iload_n hx hb dX8_keep_21 rfl (lv_at hl 1 rfl) ?_
        refine lv_aload_n hx hb dX8_keep_22 rfl (lv_at hl 0 rfl) ?_
        refine gtF (ci := 7) (v := .ref o_saved) (C := RX8) (T := TX8) (N := 14) hx hb hts inX8_keep_X8 hown hK hP 0 rfl rfl 1 (by decide) mwX8_keep_1 rfl rfl dX8_keep_23 ?_
        refine lv_iload_n hx hb dX8_keep_26 rfl (lv_at hl 1 rfl) ?_
        refine lv_sipush (v := (1634 : Int32)) hx hb dX8_keep_27 (by decide) ?_
        refine lv_iadd hx hb dX8_keep_30 ?_
        obtain ⟨hin, y3, e_y3, h⟩ := rd_s h
        refine ldI hx hb hK hP 2 rfl hin dX8_keep_31 ?_
        refine top_i e_y3 ?_
        obtain ⟨hin, g4, e_g4, h⟩ := wr_s h
        refine stI (wn := [(o, .inr (7, [.ref o_s, .ref o_saved, .int w_o_savedCount, .ref o_text, .int o_textLength, .int o_code, .int o_pieceCount, .ref o_pieceCell, .int o_at, .int o_commands, .ref o_letter, .ref o_number, .ref o_before, .long o_hash])), (o_s, .inl (ca 0, 1634, .inl o_s_d)), (o_saved, .inl (ca 0, 6536, .inl g4))]) hx hb hK hP hD hS 2 rfl hin e_g4 rfl dX8_keep_32 (fun H locs hP hD hS => ?_)
        obtain ⟨y5, e_y5, h⟩ := nm_s h
        refine lv_iinc (v := y5) (lv' := [(1, .int y5), (0, .ref o)]) hx hb dX8_keep_33 hl (k := 1) rfl (by rw [e_y5]; rfl) (by decide) rfl (fun ls hl => ?_)
        refine lv_goto (tgt := 10) hx hb dX8_keep_36 (by decide) ?_
        exact ih10 y5 g4 (lp_l hq10 h) _ _ hP hD hS ls (lv_sub hl [1, 0] rfl)
  refine lv_aload_n hx hb dX8_keep_0 rfl (lv_at hl 0 rfl) ?_
  refine gtF (ci := 7) (v := .int o_savedCount) (C := RX8) (T := TX8) (N := 14) hx hb hts inX8_keep_X8 hown hK hP 0 rfl rfl 2 (by decide) mwX8_keep_0 rfl rfl dX8_keep_1 ?_
  refine lv_iconst (v := (4 : Int32)) hx hb dX8_keep_4 (by decide) ?_
  refine lv_icmp_ne (tgt := 49) hx hb dX8_keep_5 (by decide) (fun c1 => ?_) (fun c1 => ?_)
  · have h := in_s h c1
    refine lv_iconst (v := (0 : Int32)) hx hb dX8_keep_49 (by decide) ?_
    refine lv_istore_n (lv' := [(1, .int (0 : Int32)), (0, .ref o)]) hx hb dX8_keep_50 rfl hl (by decide) rfl (fun ls hl => ?_)
    exact L51 o_savedCount fuel (0 : Int32) o_saved_d h _ _ hP hD hS ls (lv_sub hl [1, 0] rfl)
  · have h := ip_s h c1
    refine lv_iconst (v := (0 : Int32)) hx hb dX8_keep_8 (by decide) ?_
    refine lv_istore_n (lv' := [(1, .int (0 : Int32)), (0, .ref o)]) hx hb dX8_keep_9 rfl hl (by decide) rfl (fun ls hl => ?_)
    exact L10 o_savedCount fuel (0 : Int32) o_saved_d h _ _ hP hD hS ls (lv_sub hl [1, 0] rfl)
theorem kX8_cell : yX8_cell.cls = yX8_cell.cls ∧ yX8_cell.cls ≠ "java/lang/invoke/MethodHandle" ∧ yX8_cell.cls ≠ "java/lang/invoke/VarHandle" ∧ (parseMethodDescriptor yX8_cell.desc).map (fun d => d.parameters.length) = some 2 := by decide +kernel
set_option maxHeartbeats 4000000 in
set_option maxRecDepth 100000 in
theorem ctX8_cell (l : Launch) (D : va_G) (ca : Nat → ClassId)   (x0 : Int32) (x1 : Int32) (u0 : Int32) (hf : fX8_cell x0 x1 = some u0) : MR l yX8_cell wsX8_cell 0 0 D ca [.int x0, .int x1] [] (some (.int u0)) := by
  refine hdRi (plainFor_of_name (by decide +kernel)) rfl (Nat.le_of_ble_eq_true rfl) ?_
  intro p e s m args below meth c Q hx hb hml hown hts hP hK hret ls hl
  have hown : s.vm.findClass RX8 = some m.cls := hown
  have hl : lv_has ls 2 [(0, .int x0), (1, .int x1)] := hl
  have h := hf
  unfold fX8_cell at h
  clear hf
  refine lv_iconst (v := (2 : Int32)) hx hb dX8_cell_0 (by decide) ?_
  refine lv_bipush (v := (6 : Int32)) hx hb dX8_cell_1 (by decide) ?_
  refine lv_iload_n hx hb dX8_cell_3 rfl (lv_at hl 0 rfl) ?_
  refine lv_imul hx hb dX8_cell_4 ?_
  refine lv_iadd hx hb dX8_cell_5 ?_
  refine lv_iload_n hx hb dX8_cell_6 rfl (lv_at hl 1 rfl) ?_
  refine lv_iadd hx hb dX8_cell_7 ?_
  cases h
  exact hret 8 ls _ rfl dX8_cell_8
theorem mwX8_of_0 : Cond.fieldLink RX8 7 "SegmentTimesModel" "s" "[I" ∈ wsX8_of := List.mem_of_getElem? (i := 1) rfl
theorem inX8_of_X8 : ∀ w ∈ u_ws RX8 TX8 14, w ∈ wsX8_of := fun w h => List.mem_cons_of_mem _ (List.mem_append_right _ (h))
theorem kX8_of : yX8_of.cls = RX8 ∧ yX8_of.cls ≠ "java/lang/invoke/MethodHandle" ∧ yX8_of.cls ≠ "java/lang/invoke/VarHandle" ∧ (parseMethodDescriptor yX8_of.desc).map (fun d => d.parameters.length) = some 2 := by decide +kernel
set_option maxHeartbeats 4000000 in
set_option maxRecDepth 100000 in
theorem ctX8_of (l : Launch) (D : va_G) (ca : Nat → ClassId) (o : Nat) (o_s : Nat) (o_saved : Nat) (o_text : Nat) (o_pieceCell : Nat) (o_letter : Nat) (o_number : Nat) (o_before : Nat) (o_savedCount : Int32) (o_textLength : Int32) (o_code : Int32) (o_pieceCount : Int32) (o_at : Int32) (o_commands : Int32) (o_hash : Int64) (o_s_d : Nat → Int32) (x1 : Int32) (x2 : Int32) (u0 : Int32) (hf : fX8_of o_s_d x1 x2 = some u0) : MR l yX8_of wsX8_of 1 21 D ca [.ref o, .int x1, .int x2] [(o, .inr (7, [.ref o_s, .ref o_saved, .int o_savedCount, .ref o_text, .int o_textLength, .int o_code, .int o_pieceCount, .ref o_pieceCell, .int o_at, .int o_commands, .ref o_letter, .ref o_number, .ref o_before, .long o_hash])), (o_s, .inl (ca 0, 1634, .inl o_s_d))] (some (.int u0)) := by
  refine hdRi (plainFor_of_name (by decide +kernel)) rfl (Nat.le_of_ble_eq_true rfl) ?_
  intro p e s m args below meth c Q hx hb hml hown hts hP hK hret ls hl
  have hown : s.vm.findClass RX8 = some m.cls := hown
  have hl : lv_has ls 3 [(0, .ref o), (1, .int x1), (2, .int x2)] := hl
  have h := hf
  unfold fX8_of at h
  clear hf
  refine lv_aload_n hx hb dX8_of_0 rfl (lv_at hl 0 rfl) ?_
  refine gtF (ci := 7) (v := .ref o_s) (C := RX8) (T := TX8) (N := 14) hx hb hts inX8_of_X8 hown hK hP 0 rfl rfl 0 (by decide) mwX8_of_0 rfl rfl dX8_of_1 ?_
  refine lv_iload_n hx hb dX8_of_4 rfl (lv_at hl 1 rfl) ?_
  refine lv_iload_n hx hb dX8_of_5 rfl (lv_at hl 2 rfl) ?_
  obtain ⟨r1, h_r1, h⟩ := bd_s h
  refine clSR (As := [.int x1, .int x2]) (rest := [.ref o_s]) hx hb hml hown hts gX8_of_X8_cell rfl 2 kX8_cell.2 ⟨Nat.le_of_ble_eq_true rfl, Nat.le_of_ble_eq_true rfl⟩ (ctX8_cell l D ca   x1 x2 r1 h_r1) hP hK [] rfl rfl hl.1 rfl (Nat.le_of_ble_eq_true rfl) ⟨Nat.le_of_ble_eq_true rfl, Nat.le_of_ble_eq_true rfl⟩ dX8_of_6 rfl ?_
  obtain ⟨hin, y2, e_y2, h⟩ := rd_s h
  refine ldI hx hb hK hP 1 rfl hin dX8_of_9 ?_
  refine top_i e_y2 ?_
  cases h
  exact hret 10 ls _ rfl dX8_of_10
theorem mwX8_isSegment_0 : Cond.fieldLink RX8 7 "SegmentTimesModel" "s" "[I" ∈ wsX8_isSegment := List.mem_of_getElem? (i := 1) rfl
theorem inX8_isSegment_X8 : ∀ w ∈ u_ws RX8 TX8 14, w ∈ wsX8_isSegment := fun w h => List.mem_cons_of_mem _ (List.mem_append_right _ (h))
theorem kX8_isSegment : yX8_isSegment.cls = RX8 ∧ yX8_isSegment.cls ≠ "java/lang/invoke/MethodHandle" ∧ yX8_isSegment.cls ≠ "java/lang/invoke/VarHandle" ∧ (parseMethodDescriptor yX8_isSegment.desc).map (fun d => d.parameters.length) = some 1 := by decide +kernel
set_option maxHeartbeats 4000000 in
set_option maxRecDepth 100000 in
theorem ctX8_isSegment (l : Launch) (D : va_G) (ca : Nat → ClassId) (o : Nat) (o_s : Nat) (o_saved : Nat) (o_text : Nat) (o_pieceCell : Nat) (o_letter : Nat) (o_number : Nat) (o_before : Nat) (o_savedCount : Int32) (o_textLength : Int32) (o_code : Int32) (o_pieceCount : Int32) (o_at : Int32) (o_commands : Int32) (o_hash : Int64) (o_s_d : Nat → Int32) (x1 : Int32) (u0 : Int32) (hf : fX8_isSegment o_s_d x1 = some u0) : MR l yX8_isSegment wsX8_isSegment 1 25 D ca [.ref o, .int x1] [(o, .inr (7, [.ref o_s, .ref o_saved, .int o_savedCount, .ref o_text, .int o_textLength, .int o_code, .int o_pieceCount, .ref o_pieceCell, .int o_at, .int o_commands, .ref o_letter, .ref o_number, .ref o_before, .long o_hash])), (o_s, .inl (ca 0, 1634, .inl o_s_d))] (some (.int u0)) := by
  refine hdRz (plainFor_of_name (by decide +kernel)) rfl (Nat.le_of_ble_eq_true rfl) ?_
  intro p e s m args below meth c Q hx hb hml hown hts hP hK hret ls hl
  have hown : s.vm.findClass RX8 = some m.cls := hown
  have hl : lv_has ls 2 [(0, .ref o), (1, .int x1)] := hl
  have h := hf
  unfold fX8_isSegment at h
  clear hf
  refine lv_iload_n hx hb dX8_isSegment_0 rfl (lv_at hl 1 rfl) ?_
  refine lv_i2l (v := (x1).toInt64) hx hb dX8_isSegment_1 rfl ?_
  refine lv_lconst (v := (0 : Int64)) hx hb dX8_isSegment_2 (by decide) ?_
  refine lv_aload_n hx hb dX8_isSegment_3 rfl (lv_at hl 0 rfl) ?_
  refine gtF (ci := 7) (v := .ref o_s) (C := RX8) (T := TX8) (N := 14) hx hb hts inX8_isSegment_X8 hown hK hP 0 rfl rfl 0 (by decide) mwX8_isSegment_0 rfl rfl dX8_isSegment_4 ?_
  refine lv_iconst (v := (0 : Int32)) hx hb dX8_isSegment_7 (by decide) ?_
  obtain ⟨hin, y1, e_y1, h⟩ := rd_s h
  refine ldI hx hb hK hP 1 rfl hin dX8_isSegment_8 ?_
  refine top_i e_y1 ?_
  refine lv_iconst (v := (1 : Int32)) hx hb dX8_isSegment_9 (by decide) ?_
  refine lv_isub hx hb dX8_isSegment_10 ?_
  refine lv_i2l (v := ((y1 - (1 : Int32))).toInt64) hx hb dX8_isSegment_11 rfl ?_
  obtain ⟨r2, h_r2, h⟩ := bd_s h
  refine clSR (As := [.long (x1).toInt64, .long (0 : Int64), .long ((y1 - (1 : Int32))).toInt64]) (rest := []) hx hb hml hown hts gX8_isSegment_X8_in rfl 3 kX8_in.2 ⟨Nat.le_of_ble_eq_true rfl, Nat.le_of_ble_eq_true rfl⟩ (ctX8_in l D ca   ((x1).toInt64) (0 : Int64) (((y1 - (1 : Int32))).toInt64) r2 h_r2) hP hK [] rfl rfl hl.1 rfl (Nat.le_of_ble_eq_true rfl) ⟨Nat.le_of_ble_eq_true rfl, Nat.le_of_ble_eq_true rfl⟩ dX8_isSegment_12 rfl ?_
  obtain ⟨hz, h⟩ := zr_s h
  cases h
  exact hret 15 ls _ hz rfl dX8_isSegment_15
theorem mwX8_isPosition_0 : Cond.constantLong RX8 46 (255) ∈ wsX8_isPosition := List.mem_of_getElem? (i := 1) rfl
theorem kX8_isPosition : yX8_isPosition.cls = yX8_isPosition.cls ∧ yX8_isPosition.cls ≠ "java/lang/invoke/MethodHandle" ∧ yX8_isPosition.cls ≠ "java/lang/invoke/VarHandle" ∧ (parseMethodDescriptor yX8_isPosition.desc).map (fun d => d.parameters.length) = some 1 := by decide +kernel
set_option maxHeartbeats 4000000 in
set_option maxRecDepth 100000 in
theorem ctX8_isPosition (l : Launch) (D : va_G) (ca : Nat → ClassId)   (x0 : Int32) (u0 : Int32) (hf : fX8_isPosition x0 = some u0) : MR l yX8_isPosition wsX8_isPosition 1 25 D ca [.int x0] [] (some (.int u0)) := by
  refine hdRz (plainFor_of_name (by decide +kernel)) rfl (Nat.le_of_ble_eq_true rfl) ?_
  intro p e s m args below meth c Q hx hb hml hown hts hP hK hret ls hl
  have hown : s.vm.findClass RX8 = some m.cls := hown
  have hl : lv_has ls 1 [(0, .int x0)] := hl
  have h := hf
  unfold fX8_isPosition at h
  clear hf
  refine lv_iload_n hx hb dX8_isPosition_0 rfl (lv_at hl 0 rfl) ?_
  refine lv_i2l (v := (x0).toInt64) hx hb dX8_isPosition_1 rfl ?_
  refine lv_lconst (v := (0 : Int64)) hx hb dX8_isPosition_2 (by decide) ?_
  refine lv_ldc2 (v := (255 : Int64)) hx hb hown (hts _ mwX8_isPosition_0) dX8_isPosition_3 ?_
  obtain ⟨r1, h_r1, h⟩ := bd_s h
  refine clSR (As := [.long (x0).toInt64, .long (0 : Int64), .long (255 : Int64)]) (rest := []) hx hb hml hown hts gX8_isPosition_X8_in rfl 3 kX8_in.2 ⟨Nat.le_of_ble_eq_true rfl, Nat.le_of_ble_eq_true rfl⟩ (ctX8_in l D ca   ((x0).toInt64) (0 : Int64) (255 : Int64) r1 h_r1) hP hK [] rfl rfl hl.1 rfl (Nat.le_of_ble_eq_true rfl) ⟨Nat.le_of_ble_eq_true rfl, Nat.le_of_ble_eq_true rfl⟩ dX8_isPosition_6 rfl ?_
  obtain ⟨hz, h⟩ := zr_s h
  cases h
  exact hret 9 ls _ hz rfl dX8_isPosition_9
theorem mwX8_isTick_0 : Cond.constantLong RX8 48 (16384) ∈ wsX8_isTick := List.mem_of_getElem? (i := 1) rfl
theorem kX8_isTick : yX8_isTick.cls = yX8_isTick.cls ∧ yX8_isTick.cls ≠ "java/lang/invoke/MethodHandle" ∧ yX8_isTick.cls ≠ "java/lang/invoke/VarHandle" ∧ (parseMethodDescriptor yX8_isTick.desc).map (fun d => d.parameters.length) = some 1 := by decide +kernel
set_option maxHeartbeats 4000000 in
set_option maxRecDepth 100000 in
theorem ctX8_isTick (l : Launch) (D : va_G) (ca : Nat → ClassId)   (x0 : Int32) (u0 : Int32) (hf : fX8_isTick x0 = some u0) : MR l yX8_isTick wsX8_isTick 1 25 D ca [.int x0] [] (some (.int u0)) := by
  refine hdRz (plainFor_of_name (by decide +kernel)) rfl (Nat.le_of_ble_eq_true rfl) ?_
  intro p e s m args below meth c Q hx hb hml hown hts hP hK hret ls hl
  have hown : s.vm.findClass RX8 = some m.cls := hown
  have hl : lv_has ls 1 [(0, .int x0)] := hl
  have h := hf
  unfold fX8_isTick at h
  clear hf
  refine lv_iload_n hx hb dX8_isTick_0 rfl (lv_at hl 0 rfl) ?_
  refine lv_i2l (v := (x0).toInt64) hx hb dX8_isTick_1 rfl ?_
  refine lv_lconst (v := (0 : Int64)) hx hb dX8_isTick_2 (by decide) ?_
  refine lv_ldc2 (v := (16384 : Int64)) hx hb hown (hts _ mwX8_isTick_0) dX8_isTick_3 ?_
  obtain ⟨r1, h_r1, h⟩ := bd_s h
  refine clSR (As := [.long (x0).toInt64, .long (0 : Int64), .long (16384 : Int64)]) (rest := []) hx hb hml hown hts gX8_isTick_X8_in rfl 3 kX8_in.2 ⟨Nat.le_of_ble_eq_true rfl, Nat.le_of_ble_eq_true rfl⟩ (ctX8_in l D ca   ((x0).toInt64) (0 : Int64) (16384 : Int64) r1 h_r1) hP hK [] rfl rfl hl.1 rfl (Nat.le_of_ble_eq_true rfl) ⟨Nat.le_of_ble_eq_true rfl, Nat.le_of_ble_eq_true rfl⟩ dX8_isTick_6 rfl ?_
  obtain ⟨hz, h⟩ := zr_s h
  cases h
  exact hret 9 ls _ hz rfl dX8_isTick_9
theorem mwX8_isLine_0 : Cond.constantLong RX8 50 (-1000) ∈ wsX8_isLine := List.mem_of_getElem? (i := 1) rfl
theorem mwX8_isLine_1 : Cond.constantLong RX8 52 (1000) ∈ wsX8_isLine := List.mem_of_getElem? (i := 2) rfl
theorem mwX8_isLine_2 : Cond.constantLong RX8 54 (-1000000) ∈ wsX8_isLine := List.mem_of_getElem? (i := 3) rfl
theorem mwX8_isLine_3 : Cond.constantLong RX8 56 (1000000) ∈ wsX8_isLine := List.mem_of_getElem? (i := 4) rfl
theorem kX8_isLine : yX8_isLine.cls = yX8_isLine.cls ∧ yX8_isLine.cls ≠ "java/lang/invoke/MethodHandle" ∧ yX8_isLine.cls ≠ "java/lang/invoke/VarHandle" ∧ (parseMethodDescriptor yX8_isLine.desc).map (fun d => d.parameters.length) = some 2 := by decide +kernel
set_option maxHeartbeats 4000000 in
set_option maxRecDepth 100000 in
theorem ctX8_isLine (l : Launch) (D : va_G) (ca : Nat → ClassId)   (x0 : Int32) (x1 : Int32) (u0 : Int32) (hf : fX8_isLine x0 x1 = some u0) : MR l yX8_isLine wsX8_isLine 1 25 D ca [.int x0, .int x1] [] (some (.int u0)) := by
  refine hdRz (plainFor_of_name (by decide +kernel)) rfl (Nat.le_of_ble_eq_true rfl) ?_
  intro p e s m args below meth c Q hx hb hml hown hts hP hK hret ls hl
  have hown : s.vm.findClass RX8 = some m.cls := hown
  have hl : lv_has ls 2 [(0, .int x0), (1, .int x1)] := hl
  have h := hf
  unfold fX8_isLine at h
  clear hf
  refine lv_iload_n hx hb dX8_isLine_0 rfl (lv_at hl 0 rfl) ?_
  refine lv_i2l (v := (x0).toInt64) hx hb dX8_isLine_1 rfl ?_
  refine lv_ldc2 (v := (-1000 : Int64)) hx hb hown (hts _ mwX8_isLine_0) dX8_isLine_2 ?_
  refine lv_ldc2 (v := (1000 : Int64)) hx hb hown (hts _ mwX8_isLine_1) dX8_isLine_5 ?_
  obtain ⟨r1, h_r1, h⟩ := bd_s h
  refine clSR (As := [.long (x0).toInt64, .long (-1000 : Int64), .long (1000 : Int64)]) (rest := []) hx hb hml hown hts gX8_isLine_X8_in rfl 3 kX8_in.2 ⟨Nat.le_of_ble_eq_true rfl, Nat.le_of_ble_eq_true rfl⟩ (ctX8_in l D ca   ((x0).toInt64) (-1000 : Int64) (1000 : Int64) r1 h_r1) hP hK [] rfl rfl hl.1 rfl (Nat.le_of_ble_eq_true rfl) ⟨Nat.le_of_ble_eq_true rfl, Nat.le_of_ble_eq_true rfl⟩ dX8_isLine_8 rfl ?_
  refine lv_if_eq (tgt := 32) hx hb dX8_isLine_11 (by decide) (fun c2 => ?_) (fun c2 => ?_)
  · have h := ip_s h c2
    refine lv_iconst (v := (0 : Int32)) hx hb dX8_isLine_32 (by decide) ?_
    obtain ⟨hz, h⟩ := zr_s h
    cases h
    exact hret 33 ls _ hz rfl dX8_isLine_33
  · have h := in_s h c2
    refine lv_iload_n hx hb dX8_isLine_14 rfl (lv_at hl 1 rfl) ?_
    refine lv_i2l (v := (x1).toInt64) hx hb dX8_isLine_15 rfl ?_
    refine lv_ldc2 (v := (-1000000 : Int64)) hx hb hown (hts _ mwX8_isLine_2) dX8_isLine_16 ?_
    refine lv_ldc2 (v := (1000000 : Int64)) hx hb hown (hts _ mwX8_isLine_3) dX8_isLine_19 ?_
    obtain ⟨r3, h_r3, h⟩ := bd_s h
    refine clSR (As := [.long (x1).toInt64, .long (-1000000 : Int64), .long (1000000 : Int64)]) (rest := []) hx hb hml hown hts gX8_isLine_X8_in rfl 3 kX8_in.2 ⟨Nat.le_of_ble_eq_true rfl, Nat.le_of_ble_eq_true rfl⟩ (ctX8_in l D ca   ((x1).toInt64) (-1000000 : Int64) (1000000 : Int64) r3 h_r3) hP hK [] rfl rfl hl.1 rfl (Nat.le_of_ble_eq_true rfl) ⟨Nat.le_of_ble_eq_true rfl, Nat.le_of_ble_eq_true rfl⟩ dX8_isLine_22 rfl ?_
    refine lv_if_eq (tgt := 32) hx hb dX8_isLine_25 (by decide) (fun c4 => ?_) (fun c4 => ?_)
    · have h := ip_s h c4
      refine lv_iconst (v := (0 : Int32)) hx hb dX8_isLine_32 (by decide) ?_
      obtain ⟨hz, h⟩ := zr_s h
      cases h
      exact hret 33 ls _ hz rfl dX8_isLine_33
    · have h := in_s h c4
      refine lv_iconst (v := (1 : Int32)) hx hb dX8_isLine_28 (by decide) ?_
      refine lv_goto (tgt := 33) hx hb dX8_isLine_29 (by decide) ?_
      obtain ⟨hz, h⟩ := zr_s h
      cases h
      exact hret 33 ls _ hz rfl dX8_isLine_33
theorem mwX8_put_0 : Cond.fieldLink RX8 7 "SegmentTimesModel" "s" "[I" ∈ wsX8_put := List.mem_of_getElem? (i := 1) rfl
theorem inX8_put_X8 : ∀ w ∈ u_ws RX8 TX8 14, w ∈ wsX8_put := fun w h => List.mem_cons_of_mem _ (List.mem_append_right _ (h))
theorem kX8_put : yX8_put.cls = RX8 ∧ yX8_put.cls ≠ "java/lang/invoke/MethodHandle" ∧ yX8_put.cls ≠ "java/lang/invoke/VarHandle" ∧ (parseMethodDescriptor yX8_put.desc).map (fun d => d.parameters.length) = some 6 := by decide +kernel
set_option maxHeartbeats 4000000 in
set_option maxRecDepth 100000 in
theorem ctX8_put (l : Launch) (D : va_G) (ca : Nat → ClassId) (o : Nat) (o_s : Nat) (o_saved : Nat) (o_text : Nat) (o_pieceCell : Nat) (o_letter : Nat) (o_number : Nat) (o_before : Nat) (o_savedCount : Int32) (o_textLength : Int32) (o_code : Int32) (o_pieceCount : Int32) (o_at : Int32) (o_commands : Int32) (o_hash : Int64) (o_s_d : Nat → Int32) (x1 : Int32) (x2 : Int32) (x3 : Int32) (x4 : Int32) (x5 : Int32) (x6 : Int32) (sz : Nat) (u0 : Int32) (u1 : Nat → Int32) (hf : fX8_put o_s_d x1 x2 x3 x4 x5 x6 = some (u0, u1)) : MW l yX8_put wsX8_put 1 21 D ca [.ref o, .int x1, .int x2, .int x3, .int x4, .int x5, .int x6] sz [(o, .inr (7, [.ref o_s, .ref o_saved, .int o_savedCount, .ref o_text, .int o_textLength, .int o_code, .int o_pieceCount, .ref o_pieceCell, .int o_at, .int o_commands, .ref o_letter, .ref o_number, .ref o_before, .long o_hash])), (o_s, .inl (ca 0, 1634, .inl o_s_d))] (some (.int u0)) [(o, .inr (7, [.ref o_s, .ref o_saved, .int o_savedCount, .ref o_text, .int o_textLength, .int o_code, .int o_pieceCount, .ref o_pieceCell, .int o_at, .int o_commands, .ref o_letter, .ref o_number, .ref o_before, .long o_hash])), (o_s, .inl (ca 0, 1634, .inl u1))] := by
  refine hdWi (by decide +kernel) rfl (Nat.le_of_ble_eq_true rfl) ?_
  intro p e s m args below meth c A Q hx hb hml hown hts hP hD hK hA hS hret ls hl
  have hown : s.vm.findClass RX8 = some m.cls := hown
  have hl : lv_has ls 8 [(0, .ref o), (1, .int x1), (2, .int x2), (3, .int x3), (4, .int x4), (5, .int x5), (6, .int x6)] := hl
  have h := hf
  unfold fX8_put at h
  clear hf
  refine lv_aload_n hx hb dX8_put_0 rfl (lv_at hl 0 rfl) ?_
  refine gtF (ci := 7) (v := .ref o_s) (C := RX8) (T := TX8) (N := 14) hx hb hts inX8_put_X8 hown hK hP 0 rfl rfl 0 (by decide) mwX8_put_0 rfl rfl dX8_put_1 ?_
  refine lv_iconst (v := (0 : Int32)) hx hb dX8_put_4 (by decide) ?_
  obtain ⟨hin, y1, e_y1, h⟩ := rd_s h
  refine ldI hx hb hK hP 1 rfl hin dX8_put_5 ?_
  refine top_i e_y1 ?_
  refine lv_iconst (v := (0 : Int32)) hx hb dX8_put_6 (by decide) ?_
  obtain ⟨r2, h_r2, h⟩ := bd_s h
  refine clSR (As := [.int y1, .int (0 : Int32)]) (rest := []) hx hb hml hown hts gX8_put_X8_cell rfl 2 kX8_cell.2 ⟨Nat.le_of_ble_eq_true rfl, Nat.le_of_ble_eq_true rfl⟩ (ctX8_cell l D ca   y1 (0 : Int32) r2 h_r2) hP hK [] rfl rfl hl.1 rfl (Nat.le_of_ble_eq_true rfl) ⟨Nat.le_of_ble_eq_true rfl, Nat.le_of_ble_eq_true rfl⟩ dX8_put_7 rfl ?_
  refine lv_istore (lv' := [(7, .int r2), (0, .ref o), (1, .int x1), (2, .int x2), (3, .int x3), (4, .int x4), (5, .int x5), (6, .int x6)]) hx hb dX8_put_10 hl (by decide) rfl (fun ls hl => ?_)
  refine lv_aload_n hx hb dX8_put_12 rfl (lv_at hl 1 rfl) ?_
  refine gtF (ci := 7) (v := .ref o_s) (C := RX8) (T := TX8) (N := 14) hx hb hts inX8_put_X8 hown hK hP 0 rfl rfl 0 (by decide) mwX8_put_0 rfl rfl dX8_put_13 ?_
  refine lv_iload hx hb dX8_put_16 (lv_at hl 0 rfl) ?_
  refine lv_iload_n hx hb dX8_put_18 rfl (lv_at hl 2 rfl) ?_
  obtain ⟨hin, g3, e_g3, h⟩ := wr_s h
  refine stI (wn := [(o, .inr (7, [.ref o_s, .ref o_saved, .int o_savedCount, .ref o_text, .int o_textLength, .int o_code, .int o_pieceCount, .ref o_pieceCell, .int o_at, .int o_commands, .ref o_letter, .ref o_number, .ref o_before, .long o_hash])), (o_s, .inl (ca 0, 1634, .inl g3))]) hx hb hK hP hD hS 1 rfl hin e_g3 rfl dX8_put_19 (fun H locs hP hD hS => ?_)
  refine lv_aload_n hx hb dX8_put_20 rfl (lv_at hl 1 rfl) ?_
  refine gtF (ci := 7) (v := .ref o_s) (C := RX8) (T := TX8) (N := 14) hx hb hts inX8_put_X8 hown hK hP 0 rfl rfl 0 (by decide) mwX8_put_0 rfl rfl dX8_put_21 ?_
  refine lv_iload hx hb dX8_put_24 (lv_at hl 0 rfl) ?_
  refine lv_iconst (v := (1 : Int32)) hx hb dX8_put_26 (by decide) ?_
  refine lv_iadd hx hb dX8_put_27 ?_
  refine lv_iload_n hx hb dX8_put_28 rfl (lv_at hl 3 rfl) ?_
  obtain ⟨hin, g4, e_g4, h⟩ := wr_s h
  refine stI (wn := [(o, .inr (7, [.ref o_s, .ref o_saved, .int o_savedCount, .ref o_text, .int o_textLength, .int o_code, .int o_pieceCount, .ref o_pieceCell, .int o_at, .int o_commands, .ref o_letter, .ref o_number, .ref o_before, .long o_hash])), (o_s, .inl (ca 0, 1634, .inl g4))]) hx hb hK hP hD hS 1 rfl hin e_g4 rfl dX8_put_29 (fun H locs hP hD hS => ?_)
  refine lv_aload_n hx hb dX8_put_30 rfl (lv_at hl 1 rfl) ?_
  refine gtF (ci := 7) (v := .ref o_s) (C := RX8) (T := TX8) (N := 14) hx hb hts inX8_put_X8 hown hK hP 0 rfl rfl 0 (by decide) mwX8_put_0 rfl rfl dX8_put_31 ?_
  refine lv_iload hx hb dX8_put_34 (lv_at hl 0 rfl) ?_
  refine lv_iconst (v := (2 : Int32)) hx hb dX8_put_36 (by decide) ?_
  refine lv_iadd hx hb dX8_put_37 ?_
  refine lv_iload_n hx hb dX8_put_38 rfl (lv_at hl 4 rfl) ?_
  obtain ⟨hin, g5, e_g5, h⟩ := wr_s h
  refine stI (wn := [(o, .inr (7, [.ref o_s, .ref o_saved, .int o_savedCount, .ref o_text, .int o_textLength, .int o_code, .int o_pieceCount, .ref o_pieceCell, .int o_at, .int o_commands, .ref o_letter, .ref o_number, .ref o_before, .long o_hash])), (o_s, .inl (ca 0, 1634, .inl g5))]) hx hb hK hP hD hS 1 rfl hin e_g5 rfl dX8_put_39 (fun H locs hP hD hS => ?_)
  refine lv_aload_n hx hb dX8_put_40 rfl (lv_at hl 1 rfl) ?_
  refine gtF (ci := 7) (v := .ref o_s) (C := RX8) (T := TX8) (N := 14) hx hb hts inX8_put_X8 hown hK hP 0 rfl rfl 0 (by decide) mwX8_put_0 rfl rfl dX8_put_41 ?_
  refine lv_iload hx hb dX8_put_44 (lv_at hl 0 rfl) ?_
  refine lv_iconst (v := (3 : Int32)) hx hb dX8_put_46 (by decide) ?_
  refine lv_iadd hx hb dX8_put_47 ?_
  refine lv_iload hx hb dX8_put_48 (lv_at hl 5 rfl) ?_
  obtain ⟨hin, g6, e_g6, h⟩ := wr_s h
  refine stI (wn := [(o, .inr (7, [.ref o_s, .ref o_saved, .int o_savedCount, .ref o_text, .int o_textLength, .int o_code, .int o_pieceCount, .ref o_pieceCell, .int o_at, .int o_commands, .ref o_letter, .ref o_number, .ref o_before, .long o_hash])), (o_s, .inl (ca 0, 1634, .inl g6))]) hx hb hK hP hD hS 1 rfl hin e_g6 rfl dX8_put_50 (fun H locs hP hD hS => ?_)
  refine lv_aload_n hx hb dX8_put_51 rfl (lv_at hl 1 rfl) ?_
  refine gtF (ci := 7) (v := .ref o_s) (C := RX8) (T := TX8) (N := 14) hx hb hts inX8_put_X8 hown hK hP 0 rfl rfl 0 (by decide) mwX8_put_0 rfl rfl dX8_put_52 ?_
  refine lv_iload hx hb dX8_put_55 (lv_at hl 0 rfl) ?_
  refine lv_iconst (v := (4 : Int32)) hx hb dX8_put_57 (by decide) ?_
  refine lv_iadd hx hb dX8_put_58 ?_
  refine lv_iload hx hb dX8_put_59 (lv_at hl 6 rfl) ?_
  obtain ⟨hin, g7, e_g7, h⟩ := wr_s h
  refine stI (wn := [(o, .inr (7, [.ref o_s, .ref o_saved, .int o_savedCount, .ref o_text, .int o_textLength, .int o_code, .int o_pieceCount, .ref o_pieceCell, .int o_at, .int o_commands, .ref o_letter, .ref o_number, .ref o_before, .long o_hash])), (o_s, .inl (ca 0, 1634, .inl g7))]) hx hb hK hP hD hS 1 rfl hin e_g7 rfl dX8_put_61 (fun H locs hP hD hS => ?_)
  refine lv_aload_n hx hb dX8_put_62 rfl (lv_at hl 1 rfl) ?_
  refine gtF (ci := 7) (v := .ref o_s) (C := RX8) (T := TX8) (N := 14) hx hb hts inX8_put_X8 hown hK hP 0 rfl rfl 0 (by decide) mwX8_put_0 rfl rfl dX8_put_63 ?_
  refine lv_iload hx hb dX8_put_66 (lv_at hl 0 rfl) ?_
  refine lv_iconst (v := (5 : Int32)) hx hb dX8_put_68 (by decide) ?_
  refine lv_iadd hx hb dX8_put_69 ?_
  refine lv_iload hx hb dX8_put_70 (lv_at hl 7 rfl) ?_
  obtain ⟨hin, g8, e_g8, h⟩ := wr_s h
  refine stI (wn := [(o, .inr (7, [.ref o_s, .ref o_saved, .int o_savedCount, .ref o_text, .int o_textLength, .int o_code, .int o_pieceCount, .ref o_pieceCell, .int o_at, .int o_commands, .ref o_letter, .ref o_number, .ref o_before, .long o_hash])), (o_s, .inl (ca 0, 1634, .inl g8))]) hx hb hK hP hD hS 1 rfl hin e_g8 rfl dX8_put_72 (fun H locs hP hD hS => ?_)
  refine lv_aload_n hx hb dX8_put_73 rfl (lv_at hl 1 rfl) ?_
  refine gtF (ci := 7) (v := .ref o_s) (C := RX8) (T := TX8) (N := 14) hx hb hts inX8_put_X8 hown hK hP 0 rfl rfl 0 (by decide) mwX8_put_0 rfl rfl dX8_put_74 ?_
  refine lv_iconst (v := (0 : Int32)) hx hb dX8_put_77 (by decide) ?_
  refine lv_dup2_11 hx hb dX8_put_78 rfl rfl ?_
  obtain ⟨hin, y9, e_y9, h⟩ := rd_s h
  refine ldI hx hb hK hP 1 rfl hin dX8_put_79 ?_
  refine top_i e_y9 ?_
  refine lv_iconst (v := (1 : Int32)) hx hb dX8_put_80 (by decide) ?_
  refine lv_iadd hx hb dX8_put_81 ?_
  obtain ⟨hin, g10, e_g10, h⟩ := wr_s h
  refine stI (wn := [(o, .inr (7, [.ref o_s, .ref o_saved, .int o_savedCount, .ref o_text, .int o_textLength, .int o_code, .int o_pieceCount, .ref o_pieceCell, .int o_at, .int o_commands, .ref o_letter, .ref o_number, .ref o_before, .long o_hash])), (o_s, .inl (ca 0, 1634, .inl g10))]) hx hb hK hP hD hS 1 rfl hin e_g10 rfl dX8_put_82 (fun H locs hP hD hS => ?_)
  refine lv_aload_n hx hb dX8_put_83 rfl (lv_at hl 1 rfl) ?_
  refine gtF (ci := 7) (v := .ref o_s) (C := RX8) (T := TX8) (N := 14) hx hb hts inX8_put_X8 hown hK hP 0 rfl rfl 0 (by decide) mwX8_put_0 rfl rfl dX8_put_84 ?_
  refine lv_iconst (v := (0 : Int32)) hx hb dX8_put_87 (by decide) ?_
  obtain ⟨hin, y11, e_y11, h⟩ := rd_s h
  refine ldI hx hb hK hP 1 rfl hin dX8_put_88 ?_
  refine top_i e_y11 ?_
  refine lv_iconst (v := (1 : Int32)) hx hb dX8_put_89 (by decide) ?_
  refine lv_isub hx hb dX8_put_90 ?_
  cases h
  exact hret 91 ls _ _ _ hP hD hS rfl dX8_put_91
theorem kX8_isLive : yX8_isLive.cls = RX8 ∧ yX8_isLive.cls ≠ "java/lang/invoke/MethodHandle" ∧ yX8_isLive.cls ≠ "java/lang/invoke/VarHandle" ∧ (parseMethodDescriptor yX8_isLive.desc).map (fun d => d.parameters.length) = some 2 := by decide +kernel
set_option maxHeartbeats 4000000 in
set_option maxRecDepth 100000 in
theorem ctX8_isLive (l : Launch) (D : va_G) (ca : Nat → ClassId) (o : Nat) (o_s : Nat) (o_saved : Nat) (o_text : Nat) (o_pieceCell : Nat) (o_letter : Nat) (o_number : Nat) (o_before : Nat) (o_savedCount : Int32) (o_textLength : Int32) (o_code : Int32) (o_pieceCount : Int32) (o_at : Int32) (o_commands : Int32) (o_hash : Int64) (o_s_d : Nat → Int32) (x1 : Int32) (x2 : Int32) (u0 : Int32) (hf : fX8_isLive o_s_d x1 x2 = some u0) : MR l yX8_isLive wsX8_isLive 2 43 D ca [.ref o, .int x1, .int x2] [(o, .inr (7, [.ref o_s, .ref o_saved, .int o_savedCount, .ref o_text, .int o_textLength, .int o_code, .int o_pieceCount, .ref o_pieceCell, .int o_at, .int o_commands, .ref o_letter, .ref o_number, .ref o_before, .long o_hash])), (o_s, .inl (ca 0, 1634, .inl o_s_d))] (some (.int u0)) := by
  refine hdRz (plainFor_of_name (by decide +kernel)) rfl (Nat.le_of_ble_eq_true rfl) ?_
  intro p e s m args below meth c Q hx hb hml hown hts hP hK hret ls hl
  have hown : s.vm.findClass RX8 = some m.cls := hown
  have hl : lv_has ls 3 [(0, .ref o), (1, .int x1), (2, .int x2)] := hl
  have h := hf
  unfold fX8_isLive at h
  clear hf
  refine lv_aload_n hx hb dX8_isLive_0 rfl (lv_at hl 0 rfl) ?_
  refine lv_iload_n hx hb dX8_isLive_1 rfl (lv_at hl 1 rfl) ?_
  refine lv_iconst (v := (4 : Int32)) hx hb dX8_isLive_2 (by decide) ?_
  obtain ⟨r1, h_r1, h⟩ := bd_s h
  refine clVR (As := [.int x1, .int (4 : Int32)]) (rest := []) hx hb hml hown hts gX8_isLive_X8_of rfl 2 kX8_of ⟨Nat.le_of_ble_eq_true rfl, Nat.le_of_ble_eq_true rfl⟩ (ctX8_of l D ca o o_s o_saved o_text o_pieceCell o_letter o_number o_before o_savedCount o_textLength o_code o_pieceCount o_at o_commands o_hash o_s_d x1 (4 : Int32) r1 h_r1) hP hK [0, 1] rfl 0 7 rfl rfl rfl rfl hl.1 rfl (Nat.le_of_ble_eq_true rfl) ⟨Nat.le_of_ble_eq_true rfl, Nat.le_of_ble_eq_true rfl⟩ dX8_isLive_3 rfl ?_
  refine lv_iload_n hx hb dX8_isLive_6 rfl (lv_at hl 2 rfl) ?_
  refine lv_icmp_gt (tgt := 24) hx hb dX8_isLive_7 (by decide) (fun c2 => ?_) (fun c2 => ?_)
  · have h := ip_s h c2
    refine lv_iconst (v := (0 : Int32)) hx hb dX8_isLive_24 (by decide) ?_
    obtain ⟨hz, h⟩ := zr_s h
    cases h
    exact hret 25 ls _ hz rfl dX8_isLive_25
  · have h := in_s h c2
    refine lv_iload_n hx hb dX8_isLive_10 rfl (lv_at hl 2 rfl) ?_
    refine lv_aload_n hx hb dX8_isLive_11 rfl (lv_at hl 0 rfl) ?_
    refine lv_iload_n hx hb dX8_isLive_12 rfl (lv_at hl 1 rfl) ?_
    refine lv_iconst (v := (5 : Int32)) hx hb dX8_isLive_13 (by decide) ?_
    obtain ⟨r3, h_r3, h⟩ := bd_s h
    refine clVR (As := [.int x1, .int (5 : Int32)]) (rest := [.int x2]) hx hb hml hown hts gX8_isLive_X8_of rfl 2 kX8_of ⟨Nat.le_of_ble_eq_true rfl, Nat.le_of_ble_eq_true rfl⟩ (ctX8_of l D ca o o_s o_saved o_text o_pieceCell o_letter o_number o_before o_savedCount o_textLength o_code o_pieceCount o_at o_commands o_hash o_s_d x1 (5 : Int32) r3 h_r3) hP hK [0, 1] rfl 0 7 rfl rfl rfl rfl hl.1 rfl (Nat.le_of_ble_eq_true rfl) ⟨Nat.le_of_ble_eq_true rfl, Nat.le_of_ble_eq_true rfl⟩ dX8_isLive_14 rfl ?_
    refine lv_icmp_ge (tgt := 24) hx hb dX8_isLive_17 (by decide) (fun c4 => ?_) (fun c4 => ?_)
    · have h := ip_s h c4
      refine lv_iconst (v := (0 : Int32)) hx hb dX8_isLive_24 (by decide) ?_
      obtain ⟨hz, h⟩ := zr_s h
      cases h
      exact hret 25 ls _ hz rfl dX8_isLive_25
    · have h := in_s h c4
      refine lv_iconst (v := (1 : Int32)) hx hb dX8_isLive_20 (by decide) ?_
      refine lv_goto (tgt := 25) hx hb dX8_isLive_21 (by decide) ?_
      obtain ⟨hz, h⟩ := zr_s h
      cases h
      exact hret 25 ls _ hz rfl dX8_isLive_25
theorem mwX8_isFull_0 : Cond.fieldLink RX8 7 "SegmentTimesModel" "s" "[I" ∈ wsX8_isFull := List.mem_of_getElem? (i := 1) rfl
theorem inX8_isFull_X8 : ∀ w ∈ u_ws RX8 TX8 14, w ∈ wsX8_isFull := fun w h => List.mem_cons_of_mem _ (List.mem_append_right _ (h))
theorem kX8_isFull : yX8_isFull.cls = RX8 ∧ yX8_isFull.cls ≠ "java/lang/invoke/MethodHandle" ∧ yX8_isFull.cls ≠ "java/lang/invoke/VarHandle" ∧ (parseMethodDescriptor yX8_isFull.desc).map (fun d => d.parameters.length) = some 0 := by decide +kernel
set_option maxHeartbeats 4000000 in
set_option maxRecDepth 100000 in
theorem ctX8_isFull (l : Launch) (D : va_G) (ca : Nat → ClassId) (o : Nat) (o_s : Nat) (o_saved : Nat) (o_text : Nat) (o_pieceCell : Nat) (o_letter : Nat) (o_number : Nat) (o_before : Nat) (o_savedCount : Int32) (o_textLength : Int32) (o_code : Int32) (o_pieceCount : Int32) (o_at : Int32) (o_commands : Int32) (o_hash : Int64) (o_s_d : Nat → Int32)  (u0 : Int32) (hf : fX8_isFull o_s_d = some u0) : MR l yX8_isFull wsX8_isFull 0 0 D ca [.ref o] [(o, .inr (7, [.ref o_s, .ref o_saved, .int o_savedCount, .ref o_text, .int o_textLength, .int o_code, .int o_pieceCount, .ref o_pieceCell, .int o_at, .int o_commands, .ref o_letter, .ref o_number, .ref o_before, .long o_hash])), (o_s, .inl (ca 0, 1634, .inl o_s_d))] (some (.int u0)) := by
  refine hdRz (plainFor_of_name (by decide +kernel)) rfl (Nat.le_of_ble_eq_true rfl) ?_
  intro p e s m args below meth c Q hx hb hml hown hts hP hK hret ls hl
  have hown : s.vm.findClass RX8 = some m.cls := hown
  have hl : lv_has ls 1 [(0, .ref o)] := hl
  have h := hf
  unfold fX8_isFull at h
  clear hf
  refine lv_aload_n hx hb dX8_isFull_0 rfl (lv_at hl 0 rfl) ?_
  refine gtF (ci := 7) (v := .ref o_s) (C := RX8) (T := TX8) (N := 14) hx hb hts inX8_isFull_X8 hown hK hP 0 rfl rfl 0 (by decide) mwX8_isFull_0 rfl rfl dX8_isFull_1 ?_
  refine lv_iconst (v := (0 : Int32)) hx hb dX8_isFull_4 (by decide) ?_
  obtain ⟨hin, y1, e_y1, h⟩ := rd_s h
  refine ldI hx hb hK hP 1 rfl hin dX8_isFull_5 ?_
  refine top_i e_y1 ?_
  refine lv_bipush (v := (40 : Int32)) hx hb dX8_isFull_6 (by decide) ?_
  refine lv_icmp_ne (tgt := 15) hx hb dX8_isFull_8 (by decide) (fun c2 => ?_) (fun c2 => ?_)
  · have h := in_s h c2
    refine lv_iconst (v := (0 : Int32)) hx hb dX8_isFull_15 (by decide) ?_
    obtain ⟨hz, h⟩ := zr_s h
    cases h
    exact hret 16 ls _ hz rfl dX8_isFull_16
  · have h := ip_s h c2
    refine lv_iconst (v := (1 : Int32)) hx hb dX8_isFull_11 (by decide) ?_
    refine lv_goto (tgt := 16) hx hb dX8_isFull_12 (by decide) ?_
    obtain ⟨hz, h⟩ := zr_s h
    cases h
    exact hret 16 ls _ hz rfl dX8_isFull_16
theorem kX8_whyNotAdd : yX8_whyNotAdd.cls = RX8 ∧ yX8_whyNotAdd.cls ≠ "java/lang/invoke/MethodHandle" ∧ yX8_whyNotAdd.cls ≠ "java/lang/invoke/VarHandle" ∧ (parseMethodDescriptor yX8_whyNotAdd.desc).map (fun d => d.parameters.length) = some 4 := by decide +kernel
set_option maxHeartbeats 4000000 in
set_option maxRecDepth 100000 in
theorem ctX8_whyNotAdd (l : Launch) (D : va_G) (ca : Nat → ClassId) (o : Nat) (o_s : Nat) (o_saved : Nat) (o_text : Nat) (o_pieceCell : Nat) (o_letter : Nat) (o_number : Nat) (o_before : Nat) (o_savedCount : Int32) (o_textLength : Int32) (o_code : Int32) (o_pieceCount : Int32) (o_at : Int32) (o_commands : Int32) (o_hash : Int64) (o_s_d : Nat → Int32) (x1 : Int32) (x2 : Int32) (x3 : Int32) (x4 : Int32) (u0 : Int32) (hf : fX8_whyNotAdd o_s_d x1 x2 x3 x4 = some u0) : MR l yX8_whyNotAdd wsX8_whyNotAdd 2 46 D ca [.ref o, .int x1, .int x2, .int x3, .int x4] [(o, .inr (7, [.ref o_s, .ref o_saved, .int o_savedCount, .ref o_text, .int o_textLength, .int o_code, .int o_pieceCount, .ref o_pieceCell, .int o_at, .int o_commands, .ref o_letter, .ref o_number, .ref o_before, .long o_hash])), (o_s, .inl (ca 0, 1634, .inl o_s_d))] (some (.int u0)) := by
  refine hdRi (plainFor_of_name (by decide +kernel)) rfl (Nat.le_of_ble_eq_true rfl) ?_
  intro p e s m args below meth c Q hx hb hml hown hts hP hK hret ls hl
  have hown : s.vm.findClass RX8 = some m.cls := hown
  have hl : lv_has ls 6 [(0, .ref o), (1, .int x1), (2, .int x2), (3, .int x3), (4, .int x4)] := hl
  have h := hf
  unfold fX8_whyNotAdd at h
  clear hf
  have J34 : ∀ (s0 : Int32), jX8_whyNotAdd_34 o_s_d s0 = some u0 → ∀ ls, lv_has ls 6 [(0, .ref o)] → W p l e ({ frames := 2, cells := 0, slots := 0, locals := 46 }) s m args below meth c s.heap [] 0 0 Q (F0 m 34 ls [.int s0]) := by
    intro s0 h ls hl
    unfold jX8_whyNotAdd_34 at h
    refine lv_istore (lv' := [(5, .int s0), (0, .ref o)]) hx hb dX8_whyNotAdd_34 hl (by decide) rfl (fun ls hl => ?_)
    refine lv_iload hx hb dX8_whyNotAdd_36 (lv_at hl 0 rfl) ?_
    refine lv_if_ne (tgt := 45) hx hb dX8_whyNotAdd_38 (by decide) (fun c1 => ?_) (fun c1 => ?_)
    · have h := in_s h c1
      refine lv_aload_n hx hb dX8_whyNotAdd_45 rfl (lv_at hl 1 rfl) ?_
      obtain ⟨r2, h_r2, h⟩ := bd_s h
      refine clVR (As := []) (rest := []) hx hb hml hown hts gX8_whyNotAdd_X8_isFull rfl 0 kX8_isFull ⟨Nat.le_of_ble_eq_true rfl, Nat.le_of_ble_eq_true rfl⟩ (ctX8_isFull l D ca o o_s o_saved o_text o_pieceCell o_letter o_number o_before o_savedCount o_textLength o_code o_pieceCount o_at o_commands o_hash o_s_d  r2 h_r2) hP hK [0, 1] rfl 0 7 rfl rfl rfl rfl hl.1 rfl (Nat.le_of_ble_eq_true rfl) ⟨Nat.le_of_ble_eq_true rfl, Nat.le_of_ble_eq_true rfl⟩ dX8_whyNotAdd_46 rfl ?_
      refine lv_if_eq (tgt := 56) hx hb dX8_whyNotAdd_49 (by decide) (fun c3 => ?_) (fun c3 => ?_)
      · have h := ip_s h c3
        refine lv_iconst (v := (0 : Int32)) hx hb dX8_whyNotAdd_56 (by decide) ?_
        cases h
        exact hret 57 ls _ rfl dX8_whyNotAdd_57
      · have h := in_s h c3
        refine lv_iconst (v := (2 : Int32)) hx hb dX8_whyNotAdd_52 (by decide) ?_
        refine lv_goto (tgt := 57) hx hb dX8_whyNotAdd_53 (by decide) ?_
        cases h
        exact hret 57 ls _ rfl dX8_whyNotAdd_57
    · have h := ip_s h c1
      refine lv_iconst (v := (1 : Int32)) hx hb dX8_whyNotAdd_41 (by decide) ?_
      refine lv_goto (tgt := 57) hx hb dX8_whyNotAdd_42 (by decide) ?_
      cases h
      exact hret 57 ls _ rfl dX8_whyNotAdd_57
  have J33 : jX8_whyNotAdd_33 o_s_d  = some u0 → ∀ ls, lv_has ls 6 [(0, .ref o)] → W p l e ({ frames := 2, cells := 0, slots := 0, locals := 46 }) s m args below meth c s.heap [] 0 0 Q (F0 m 33 ls []) := by
    intro  h ls hl
    unfold jX8_whyNotAdd_33 at h
    refine lv_iconst (v := (0 : Int32)) hx hb dX8_whyNotAdd_33 (by decide) ?_
    exact J34 (0 : Int32) h ls (lv_sub hl [0] rfl)
  refine lv_iload_n hx hb dX8_whyNotAdd_0 rfl (lv_at hl 1 rfl) ?_
  refine lv_iload_n hx hb dX8_whyNotAdd_1 rfl (lv_at hl 2 rfl) ?_
  obtain ⟨r1, h_r1, h⟩ := bd_s h
  refine clSR (As := [.int x1, .int x2]) (rest := []) hx hb hml hown hts gX8_whyNotAdd_X8_isLine rfl 2 kX8_isLine.2 ⟨Nat.le_of_ble_eq_true rfl, Nat.le_of_ble_eq_true rfl⟩ (ctX8_isLine l D ca   x1 x2 r1 h_r1) hP hK [] rfl rfl hl.1 rfl (Nat.le_of_ble_eq_true rfl) ⟨Nat.le_of_ble_eq_true rfl, Nat.le_of_ble_eq_true rfl⟩ dX8_whyNotAdd_2 rfl ?_
  refine lv_if_eq (tgt := 33) hx hb dX8_whyNotAdd_5 (by decide) (fun c2 => ?_) (fun c2 => ?_)
  · have h := ip_s h c2
    exact J33  h ls (lv_sub hl [0] rfl)
  · have h := in_s h c2
    refine lv_iload_n hx hb dX8_whyNotAdd_8 rfl (lv_at hl 3 rfl) ?_
    obtain ⟨r4, h_r4, h⟩ := bd_s h
    refine clSR (As := [.int x3]) (rest := []) hx hb hml hown hts gX8_whyNotAdd_X8_isPosition rfl 1 kX8_isPosition.2 ⟨Nat.le_of_ble_eq_true rfl, Nat.le_of_ble_eq_true rfl⟩ (ctX8_isPosition l D ca   x3 r4 h_r4) hP hK [] rfl rfl hl.1 rfl (Nat.le_of_ble_eq_true rfl) ⟨Nat.le_of_ble_eq_true rfl, Nat.le_of_ble_eq_true rfl⟩ dX8_whyNotAdd_9 rfl ?_
    refine lv_if_eq (tgt := 33) hx hb dX8_whyNotAdd_12 (by decide) (fun c5 => ?_) (fun c5 => ?_)
    · have h := ip_s h c5
      exact J33  h ls (lv_sub hl [0] rfl)
    · have h := in_s h c5
      refine lv_iload hx hb dX8_whyNotAdd_15 (lv_at hl 4 rfl) ?_
      obtain ⟨r6, h_r6, h⟩ := bd_s h
      refine clSR (As := [.int x4]) (rest := []) hx hb hml hown hts gX8_whyNotAdd_X8_isPosition rfl 1 kX8_isPosition.2 ⟨Nat.le_of_ble_eq_true rfl, Nat.le_of_ble_eq_true rfl⟩ (ctX8_isPosition l D ca   x4 r6 h_r6) hP hK [] rfl rfl hl.1 rfl (Nat.le_of_ble_eq_true rfl) ⟨Nat.le_of_ble_eq_true rfl, Nat.le_of_ble_eq_true rfl⟩ dX8_whyNotAdd_17 rfl ?_
      refine lv_if_eq (tgt := 33) hx hb dX8_whyNotAdd_20 (by decide) (fun c7 => ?_) (fun c7 => ?_)
      · have h := ip_s h c7
        exact J33  h ls (lv_sub hl [0] rfl)
      · have h := in_s h c7
        refine lv_iload_n hx hb dX8_whyNotAdd_23 rfl (lv_at hl 3 rfl) ?_
        refine lv_iload hx hb dX8_whyNotAdd_24 (lv_at hl 4 rfl) ?_
        refine lv_icmp_gt (tgt := 33) hx hb dX8_whyNotAdd_26 (by decide) (fun c8 => ?_) (fun c8 => ?_)
        · have h := ip_s h c8
          exact J33  h ls (lv_sub hl [0] rfl)
        · have h := in_s h c8
          refine lv_iconst (v := (1 : Int32)) hx hb dX8_whyNotAdd_29 (by decide) ?_
          refine lv_goto (tgt := 34) hx hb dX8_whyNotAdd_30 (by decide) ?_
          exact J34 (1 : Int32) h ls (lv_sub hl [0] rfl)
theorem mwX8_add_0 : Cond.fieldLink RX8 31 "SegmentTimesModel" "code" "I" ∈ wsX8_add := List.mem_of_getElem? (i := 1) rfl
theorem mwX8_add_1 : Cond.fieldLink RX8 7 "SegmentTimesModel" "s" "[I" ∈ wsX8_add := List.mem_of_getElem? (i := 2) rfl
theorem inX8_add_X8 : ∀ w ∈ u_ws RX8 TX8 14, w ∈ wsX8_add := fun w h => List.mem_cons_of_mem _ (List.mem_append_right _ (h))
theorem kX8_add : yX8_add.cls = RX8 ∧ yX8_add.cls ≠ "java/lang/invoke/MethodHandle" ∧ yX8_add.cls ≠ "java/lang/invoke/VarHandle" ∧ (parseMethodDescriptor yX8_add.desc).map (fun d => d.parameters.length) = some 4 := by decide +kernel
set_option maxHeartbeats 4000000 in
set_option maxRecDepth 100000 in
theorem ctX8_add (l : Launch) (D : va_G) (ca : Nat → ClassId) (o : Nat) (o_s : Nat) (o_saved : Nat) (o_text : Nat) (o_pieceCell : Nat) (o_letter : Nat) (o_number : Nat) (o_before : Nat) (o_savedCount : Int32) (o_textLength : Int32) (o_code : Int32) (o_pieceCount : Int32) (o_at : Int32) (o_commands : Int32) (o_hash : Int64) (o_s_d : Nat → Int32) (o_saved_d : Nat → Int32) (x1 : Int32) (x2 : Int32) (x3 : Int32) (x4 : Int32) (sz : Nat) (u0 : Int32) (u1 : Int32) (u2 : Int32) (u3 : Nat → Int32) (u4 : Nat → Int32) (hf : fX8_add o_savedCount o_code o_s_d o_saved_d x1 x2 x3 x4 = some (u0, u1, u2, u3, u4)) : MW l yX8_add wsX8_add 3 71 D ca [.ref o, .int x1, .int x2, .int x3, .int x4] sz [(o, .inr (7, [.ref o_s, .ref o_saved, .int o_savedCount, .ref o_text, .int o_textLength, .int o_code, .int o_pieceCount, .ref o_pieceCell, .int o_at, .int o_commands, .ref o_letter, .ref o_number, .ref o_before, .long o_hash])), (o_s, .inl (ca 0, 1634, .inl o_s_d)), (o_saved, .inl (ca 0, 6536, .inl o_saved_d))] (some (.int u0)) [(o, .inr (7, [.ref o_s, .ref o_saved, .int u1, .ref o_text, .int o_textLength, .int u2, .int o_pieceCount, .ref o_pieceCell, .int o_at, .int o_commands, .ref o_letter, .ref o_number, .ref o_before, .long o_hash])), (o_s, .inl (ca 0, 1634, .inl u3)), (o_saved, .inl (ca 0, 6536, .inl u4))] := by
  refine hdWi (by decide +kernel) rfl (Nat.le_of_ble_eq_true rfl) ?_
  intro p e s m args below meth c A Q hx hb hml hown hts hP hD hK hA hS hret ls hl
  have hown : s.vm.findClass RX8 = some m.cls := hown
  have hl : lv_has ls 5 [(0, .ref o), (1, .int x1), (2, .int x2), (3, .int x3), (4, .int x4)] := hl
  have h := hf
  unfold fX8_add at h
  clear hf
  refine lv_aload_n hx hb dX8_add_0 rfl (lv_at hl 0 rfl) ?_
  refine lv_aload_n hx hb dX8_add_1 rfl (lv_at hl 0 rfl) ?_
  refine lv_iload_n hx hb dX8_add_2 rfl (lv_at hl 1 rfl) ?_
  refine lv_iload_n hx hb dX8_add_3 rfl (lv_at hl 2 rfl) ?_
  refine lv_iload_n hx hb dX8_add_4 rfl (lv_at hl 3 rfl) ?_
  refine lv_iload hx hb dX8_add_5 (lv_at hl 4 rfl) ?_
  obtain ⟨r1, h_r1, h⟩ := bd_s h
  refine clVR (As := [.int x1, .int x2, .int x3, .int x4]) (rest := [.ref o]) hx hb hml hown hts gX8_add_X8_whyNotAdd rfl 4 kX8_whyNotAdd ⟨Nat.le_of_ble_eq_true rfl, Nat.le_of_ble_eq_true rfl⟩ (ctX8_whyNotAdd l D ca o o_s o_saved o_text o_pieceCell o_letter o_number o_before o_savedCount o_textLength o_code o_pieceCount o_at o_commands o_hash o_s_d x1 x2 x3 x4 r1 h_r1) hP hK [0, 1] rfl 0 7 rfl rfl rfl rfl hl.1 rfl (Nat.le_of_ble_eq_true rfl) ⟨Nat.le_of_ble_eq_true rfl, Nat.le_of_ble_eq_true rfl⟩ dX8_add_7 rfl ?_
  refine ptI (ci := 7) (v := .int r1) (ty := .int) (C := RX8) (T := TX8) (N := 14) (wn := [(o, .inr (7, [.ref o_s, .ref o_saved, .int o_savedCount, .ref o_text, .int o_textLength, .int r1, .int o_pieceCount, .ref o_pieceCell, .int o_at, .int o_commands, .ref o_letter, .ref o_number, .ref o_before, .long o_hash])), (o_s, .inl (ca 0, 1634, .inl o_s_d)), (o_saved, .inl (ca 0, 6536, .inl o_saved_d))]) hx hb hts inX8_add_X8 tyX8 tyX8_ok nmX8 hown hK hP hD hS 0 rfl rfl 5 (by decide) mwX8_add_0 rfl rfl (by decide +kernel) rfl rfl (Nat.le_of_ble_eq_true rfl) rfl dX8_add_10 (fun H locs hP hD hS => ?_)
  refine lv_aload_n hx hb dX8_add_13 rfl (lv_at hl 0 rfl) ?_
  refine gtF (ci := 7) (v := .int r1) (C := RX8) (T := TX8) (N := 14) hx hb hts inX8_add_X8 hown hK hP 0 rfl rfl 5 (by decide) mwX8_add_0 rfl rfl dX8_add_14 ?_
  refine lv_if_eq (tgt := 22) hx hb dX8_add_17 (by decide) (fun c2 => ?_) (fun c2 => ?_)
  · have h := ip_s h c2
    refine lv_aload_n hx hb dX8_add_22 rfl (lv_at hl 0 rfl) ?_
    obtain ⟨⟨r3_0, r3_1⟩, h_r3, h⟩ := bd_s h
    have h := up2_s h
    refine clVW (As := []) (rest := []) (wr := []) (wn := [(o, .inr (7, [.ref o_s, .ref o_saved, .int r3_0, .ref o_text, .int o_textLength, .int r1, .int o_pieceCount, .ref o_pieceCell, .int o_at, .int o_commands, .ref o_letter, .ref o_number, .ref o_before, .long o_hash])), (o_s, .inl (ca 0, 1634, .inl o_s_d)), (o_saved, .inl (ca 0, 6536, .inl r3_1))]) hx hb hml hown hts gX8_add_X8_keep rfl 0 kX8_keep ⟨Nat.le_of_ble_eq_true rfl, Nat.le_of_ble_eq_true rfl⟩ (ctX8_keep l D ca o o_s o_saved o_text o_pieceCell o_letter o_number o_before o_savedCount o_textLength r1 o_pieceCount o_at o_commands o_hash o_s_d o_saved_d  _ r3_0 r3_1 h_r3) hP hD hS hA hK [0, 1, 2] [] rfl (by decide) rfl (by decide) (by decide) 0 7 rfl rfl rfl rfl hl.1 rfl (Nat.le_of_ble_eq_true rfl) ⟨Nat.le_of_ble_eq_true rfl, Nat.le_of_ble_eq_true rfl⟩ dX8_add_23 rfl rfl (fun H locs hP hD hS => ?_)
    refine lv_aload_n hx hb dX8_add_26 rfl (lv_at hl 0 rfl) ?_
    refine lv_iload_n hx hb dX8_add_27 rfl (lv_at hl 1 rfl) ?_
    refine lv_iload_n hx hb dX8_add_28 rfl (lv_at hl 2 rfl) ?_
    refine lv_iload_n hx hb dX8_add_29 rfl (lv_at hl 3 rfl) ?_
    refine lv_iload hx hb dX8_add_30 (lv_at hl 4 rfl) ?_
    refine lv_aload_n hx hb dX8_add_32 rfl (lv_at hl 0 rfl) ?_
    refine gtF (ci := 7) (v := .ref o_s) (C := RX8) (T := TX8) (N := 14) hx hb hts inX8_add_X8 hown hK hP 0 rfl rfl 0 (by decide) mwX8_add_1 rfl rfl dX8_add_33 ?_
    refine lv_iconst (v := (1 : Int32)) hx hb dX8_add_36 (by decide) ?_
    obtain ⟨hin, y4, e_y4, h⟩ := rd_s h
    refine ldI hx hb hK hP 1 rfl hin dX8_add_37 ?_
    refine top_i e_y4 ?_
    refine lv_sipush (v := (16384 : Int32)) hx hb dX8_add_38 (by decide) ?_
    obtain ⟨⟨r5_0, r5_1⟩, h_r5, h⟩ := bd_s h
    have h := up2_s h
    refine clVW (As := [.int x1, .int x2, .int x3, .int x4, .int y4, .int (16384 : Int32)]) (rest := []) (wr := [(o_saved, .inl (ca 0, 6536, .inl r3_1))]) (wn := [(o_saved, .inl (ca 0, 6536, .inl r3_1)), (o, .inr (7, [.ref o_s, .ref o_saved, .int r3_0, .ref o_text, .int o_textLength, .int r1, .int o_pieceCount, .ref o_pieceCell, .int o_at, .int o_commands, .ref o_letter, .ref o_number, .ref o_before, .long o_hash])), (o_s, .inl (ca 0, 1634, .inl r5_1))]) hx hb hml hown hts gX8_add_X8_put rfl 6 kX8_put ⟨Nat.le_of_ble_eq_true rfl, Nat.le_of_ble_eq_true rfl⟩ (ctX8_put l D ca o o_s o_saved o_text o_pieceCell o_letter o_number o_before r3_0 o_textLength r1 o_pieceCount o_at o_commands o_hash o_s_d x1 x2 x3 x4 y4 (16384 : Int32) _ r5_0 r5_1 h_r5) hP hD hS hA hK [0, 1] [2] rfl (by decide) rfl (by decide) (by decide) 0 7 rfl rfl rfl rfl hl.1 rfl (Nat.le_of_ble_eq_true rfl) ⟨Nat.le_of_ble_eq_true rfl, Nat.le_of_ble_eq_true rfl⟩ dX8_add_41 rfl rfl (fun H locs hP hD hS => ?_)
    have hP := hP.sub (ws' := [(o, .inr (7, [.ref o_s, .ref o_saved, .int r3_0, .ref o_text, .int o_textLength, .int r1, .int o_pieceCount, .ref o_pieceCell, .int o_at, .int o_commands, .ref o_letter, .ref o_number, .ref o_before, .long o_hash])), (o_s, .inl (ca 0, 1634, .inl r5_1)), (o_saved, .inl (ca 0, 6536, .inl r3_1))]) [1, 2, 0] rfl
    have hD := hD.sub (ws' := [(o, .inr (7, [.ref o_s, .ref o_saved, .int r3_0, .ref o_text, .int o_textLength, .int r1, .int o_pieceCount, .ref o_pieceCell, .int o_at, .int o_commands, .ref o_letter, .ref o_number, .ref o_before, .long o_hash])), (o_s, .inl (ca 0, 1634, .inl r5_1)), (o_saved, .inl (ca 0, 6536, .inl r3_1))]) [1, 2, 0] (by decide) rfl
    cases h
    exact hret 44 ls _ _ _ hP hD hS rfl dX8_add_44
  · have h := in_s h c2
    refine lv_iconst (v := (0 : Int32)) hx hb dX8_add_20 (by decide) ?_
    cases h
    exact hret 21 ls _ _ _ hP hD hS rfl dX8_add_21
theorem mwX8_isValue_0 : Cond.constantLong RX8 54 (-1000000) ∈ wsX8_isValue := List.mem_of_getElem? (i := 1) rfl
theorem mwX8_isValue_1 : Cond.constantLong RX8 56 (1000000) ∈ wsX8_isValue := List.mem_of_getElem? (i := 2) rfl
theorem kX8_isValue : yX8_isValue.cls = yX8_isValue.cls ∧ yX8_isValue.cls ≠ "java/lang/invoke/MethodHandle" ∧ yX8_isValue.cls ≠ "java/lang/invoke/VarHandle" ∧ (parseMethodDescriptor yX8_isValue.desc).map (fun d => d.parameters.length) = some 1 := by decide +kernel
set_option maxHeartbeats 4000000 in
set_option maxRecDepth 100000 in
theorem ctX8_isValue (l : Launch) (D : va_G) (ca : Nat → ClassId)   (x0 : Int32) (u0 : Int32) (hf : fX8_isValue x0 = some u0) : MR l yX8_isValue wsX8_isValue 1 25 D ca [.int x0] [] (some (.int u0)) := by
  refine hdRz (plainFor_of_name (by decide +kernel)) rfl (Nat.le_of_ble_eq_true rfl) ?_
  intro p e s m args below meth c Q hx hb hml hown hts hP hK hret ls hl
  have hown : s.vm.findClass RX8 = some m.cls := hown
  have hl : lv_has ls 1 [(0, .int x0)] := hl
  have h := hf
  unfold fX8_isValue at h
  clear hf
  refine lv_iload_n hx hb dX8_isValue_0 rfl (lv_at hl 0 rfl) ?_
  refine lv_i2l (v := (x0).toInt64) hx hb dX8_isValue_1 rfl ?_
  refine lv_ldc2 (v := (-1000000 : Int64)) hx hb hown (hts _ mwX8_isValue_0) dX8_isValue_2 ?_
  refine lv_ldc2 (v := (1000000 : Int64)) hx hb hown (hts _ mwX8_isValue_1) dX8_isValue_5 ?_
  obtain ⟨r1, h_r1, h⟩ := bd_s h
  refine clSR (As := [.long (x0).toInt64, .long (-1000000 : Int64), .long (1000000 : Int64)]) (rest := []) hx hb hml hown hts gX8_isValue_X8_in rfl 3 kX8_in.2 ⟨Nat.le_of_ble_eq_true rfl, Nat.le_of_ble_eq_true rfl⟩ (ctX8_in l D ca   ((x0).toInt64) (-1000000 : Int64) (1000000 : Int64) r1 h_r1) hP hK [] rfl rfl hl.1 rfl (Nat.le_of_ble_eq_true rfl) ⟨Nat.le_of_ble_eq_true rfl, Nat.le_of_ble_eq_true rfl⟩ dX8_isValue_8 rfl ?_
  obtain ⟨hz, h⟩ := zr_s h
  cases h
  exact hret 11 ls _ hz rfl dX8_isValue_11
theorem mwX8_addThrough_0 : Cond.fieldLink RX8 31 "SegmentTimesModel" "code" "I" ∈ wsX8_addThrough := List.mem_of_getElem? (i := 1) rfl
theorem inX8_addThrough_X8 : ∀ w ∈ u_ws RX8 TX8 14, w ∈ wsX8_addThrough := fun w h => List.mem_cons_of_mem _ (List.mem_append_right _ (h))
theorem kX8_addThrough : yX8_addThrough.cls = RX8 ∧ yX8_addThrough.cls ≠ "java/lang/invoke/MethodHandle" ∧ yX8_addThrough.cls ≠ "java/lang/invoke/VarHandle" ∧ (parseMethodDescriptor yX8_addThrough.desc).map (fun d => d.parameters.length) = some 6 := by decide +kernel
set_option maxHeartbeats 4000000 in
set_option maxRecDepth 100000 in
theorem ctX8_addThrough (l : Launch) (D : va_G) (ca : Nat → ClassId) (o : Nat) (o_s : Nat) (o_saved : Nat) (o_text : Nat) (o_pieceCell : Nat) (o_letter : Nat) (o_number : Nat) (o_before : Nat) (o_savedCount : Int32) (o_textLength : Int32) (o_code : Int32) (o_pieceCount : Int32) (o_at : Int32) (o_commands : Int32) (o_hash : Int64) (o_s_d : Nat → Int32) (o_saved_d : Nat → Int32) (x1 : Int32) (x2 : Int32) (x3 : Int32) (x4 : Int32) (x5 : Int32) (x6 : Int32) (sz : Nat) (u0 : Int32) (u1 : Int32) (u2 : Int32) (u3 : Nat → Int32) (u4 : Nat → Int32) (hf : fX8_addThrough o_savedCount o_code o_s_d o_saved_d x1 x2 x3 x4 x5 x6 = some (u0, u1, u2, u3, u4)) : MW l yX8_addThrough wsX8_addThrough 2 48 D ca [.ref o, .int x1, .int x2, .int x3, .int x4, .int x5, .int x6] sz [(o, .inr (7, [.ref o_s, .ref o_saved, .int o_savedCount, .ref o_text, .int o_textLength, .int o_code, .int o_pieceCount, .ref o_pieceCell, .int o_at, .int o_commands, .ref o_letter, .ref o_number, .ref o_before, .long o_hash])), (o_s, .inl (ca 0, 1634, .inl o_s_d)), (o_saved, .inl (ca 0, 6536, .inl o_saved_d))] (some (.int u0)) [(o, .inr (7, [.ref o_s, .ref o_saved, .int u1, .ref o_text, .int o_textLength, .int u2, .int o_pieceCount, .ref o_pieceCell, .int o_at, .int o_commands, .ref o_letter, .ref o_number, .ref o_before, .long o_hash])), (o_s, .inl (ca 0, 1634, .inl u3)), (o_saved, .inl (ca 0, 6536, .inl u4))] := by
  refine hdWi (by decide +kernel) rfl (Nat.le_of_ble_eq_true rfl) ?_
  intro p e s m args below meth c A Q hx hb hml hown hts hP hD hK hA hS hret ls hl
  have hown : s.vm.findClass RX8 = some m.cls := hown
  have hl : lv_has ls 9 [(0, .ref o), (1, .int x1), (2, .int x2), (3, .int x3), (4, .int x4), (5, .int x5), (6, .int x6)] := hl
  have h := hf
  unfold fX8_addThrough at h
  clear hf
  have J101 : ∀ (w_o_savedCount : Int32) (w_o_code : Int32) (w_o_s_d : Nat → Int32) (w_o_saved_d : Nat → Int32), jX8_addThrough_101  w_o_savedCount w_o_code w_o_s_d w_o_saved_d = some (u0, u1, u2, u3, u4) → ∀ (H : Heap) (locs : List Loc), va_P D vwCl [(o, .inr (7, [.ref o_s, .ref o_saved, .int w_o_savedCount, .ref o_text, .int o_textLength, .int w_o_code, .int o_pieceCount, .ref o_pieceCell, .int o_at, .int o_commands, .ref o_letter, .ref o_number, .ref o_before, .long o_hash])), (o_s, .inl (ca 0, 1634, .inl w_o_s_d)), (o_saved, .inl (ca 0, 6536, .inl w_o_saved_d))] H → va_D A [(o, .inr (7, [.ref o_s, .ref o_saved, .int w_o_savedCount, .ref o_text, .int o_textLength, .int w_o_code, .int o_pieceCount, .ref o_pieceCell, .int o_at, .int o_commands, .ref o_letter, .ref o_number, .ref o_before, .long o_hash])), (o_s, .inl (ca 0, 1634, .inl w_o_s_d)), (o_saved, .inl (ca 0, 6536, .inl w_o_saved_d))] → va_S A s.heap H locs → ∀ ls, lv_has ls 9 [(0, .ref o)] → W p l e ({ frames := 2, cells := 0, slots := 0, locals := 48 }) s m args below meth c H locs 0 0 Q (F0 m 101 ls []) := by
    intro w_o_savedCount w_o_code w_o_s_d w_o_saved_d h H locs hP hD hS ls hl
    unfold jX8_addThrough_101 at h
    refine lv_aload_n hx hb dX8_addThrough_101 rfl (lv_at hl 0 rfl) ?_
    refine lv_iconst (v := (1 : Int32)) hx hb dX8_addThrough_102 (by decide) ?_
    obtain ⟨⟨r1_0, r1_1⟩, h_r1, h⟩ := bd_s h
    have h := up2_s h
    refine clVW (As := [.int (1 : Int32)]) (rest := []) (wr := [(o_s, .inl (ca 0, 1634, .inl w_o_s_d)), (o_saved, .inl (ca 0, 6536, .inl w_o_saved_d))]) (wn := [(o_s, .inl (ca 0, 1634, .inl w_o_s_d)), (o_saved, .inl (ca 0, 6536, .inl w_o_saved_d)), (o, .inr (7, [.ref o_s, .ref o_saved, .int w_o_savedCount, .ref o_text, .int o_textLength, .int r1_1, .int o_pieceCount, .ref o_pieceCell, .int o_at, .int o_commands, .ref o_letter, .ref o_number, .ref o_before, .long o_hash]))]) hx hb hml hown hts gX8_addThrough_X8_fails rfl 1 kX8_fails ⟨Nat.le_of_ble_eq_true rfl, Nat.le_of_ble_eq_true rfl⟩ (ctX8_fails l D ca o o_s o_saved o_text o_pieceCell o_letter o_number o_before w_o_savedCount o_textLength w_o_code o_pieceCount o_at o_commands o_hash (1 : Int32) _ r1_0 r1_1 h_r1) hP hD hS hA hK [0] [1, 2] rfl (by decide) rfl (by decide) (by decide) 0 7 rfl rfl rfl rfl hl.1 rfl (Nat.le_of_ble_eq_true rfl) ⟨Nat.le_of_ble_eq_true rfl, Nat.le_of_ble_eq_true rfl⟩ dX8_addThrough_103 rfl rfl (fun H locs hP hD hS => ?_)
    have hP := hP.sub (ws' := [(o, .inr (7, [.ref o_s, .ref o_saved, .int w_o_savedCount, .ref o_text, .int o_textLength, .int r1_1, .int o_pieceCount, .ref o_pieceCell, .int o_at, .int o_commands, .ref o_letter, .ref o_number, .ref o_before, .long o_hash])), (o_s, .inl (ca 0, 1634, .inl w_o_s_d)), (o_saved, .inl (ca 0, 6536, .inl w_o_saved_d))]) [2, 0, 1] rfl
    have hD := hD.sub (ws' := [(o, .inr (7, [.ref o_s, .ref o_saved, .int w_o_savedCount, .ref o_text, .int o_textLength, .int r1_1, .int o_pieceCount, .ref o_pieceCell, .int o_at, .int o_commands, .ref o_letter, .ref o_number, .ref o_before, .long o_hash])), (o_s, .inl (ca 0, 1634, .inl w_o_s_d)), (o_saved, .inl (ca 0, 6536, .inl w_o_saved_d))]) [2, 0, 1] (by decide) rfl
    cases h
    exact hret 106 ls _ _ _ hP hD hS rfl dX8_addThrough_106
  have J124 : ∀ (s0 : Int32) (w_o_savedCount : Int32) (w_o_code : Int32) (w_o_s_d : Nat → Int32) (w_o_saved_d : Nat → Int32), jX8_addThrough_124 x1 x2 x3 x5 x6 s0 w_o_savedCount w_o_code w_o_s_d w_o_saved_d = some (u0, u1, u2, u3, u4) → ∀ (H : Heap) (locs : List Loc), va_P D vwCl [(o, .inr (7, [.ref o_s, .ref o_saved, .int w_o_savedCount, .ref o_text, .int o_textLength, .int w_o_code, .int o_pieceCount, .ref o_pieceCell, .int o_at, .int o_commands, .ref o_letter, .ref o_number, .ref o_before, .long o_hash])), (o_s, .inl (ca 0, 1634, .inl w_o_s_d)), (o_saved, .inl (ca 0, 6536, .inl w_o_saved_d))] H → va_D A [(o, .inr (7, [.ref o_s, .ref o_saved, .int w_o_savedCount, .ref o_text, .int o_textLength, .int w_o_code, .int o_pieceCount, .ref o_pieceCell, .int o_at, .int o_commands, .ref o_letter, .ref o_number, .ref o_before, .long o_hash])), (o_s, .inl (ca 0, 1634, .inl w_o_s_d)), (o_saved, .inl (ca 0, 6536, .inl w_o_saved_d))] → va_S A s.heap H locs → ∀ ls, lv_has ls 9 [(0, .ref o), (1, .int x1), (2, .int x2), (3, .int x3), (5, .int x5), (6, .int x6)] → W p l e ({ frames := 2, cells := 0, slots := 0, locals := 48 }) s m args below meth c H locs 0 0 Q (F0 m 124 ls [.int s0]) := by
    intro s0 w_o_savedCount w_o_code w_o_s_d w_o_saved_d h H locs hP hD hS ls hl
    unfold jX8_addThrough_124 at h
    refine lv_istore (lv' := [(8, .int s0), (0, .ref o), (1, .int x1), (2, .int x2), (3, .int x3), (5, .int x5), (6, .int x6)]) hx hb dX8_addThrough_124 hl (by decide) rfl (fun ls hl => ?_)
    refine lv_iload hx hb dX8_addThrough_126 (lv_at hl 0 rfl) ?_
    refine lv_iload_n hx hb dX8_addThrough_128 rfl (lv_at hl 3 rfl) ?_
    refine lv_iload hx hb dX8_addThrough_129 (lv_at hl 0 rfl) ?_
    refine lv_iload_n hx hb dX8_addThrough_131 rfl (lv_at hl 2 rfl) ?_
    refine lv_imul hx hb dX8_addThrough_132 ?_
    refine lv_isub hx hb dX8_addThrough_133 ?_
    obtain ⟨r1, h_r1, h⟩ := bd_s h
    refine clSR (As := [.int s0, .int (x2 - (s0 * x1))]) (rest := []) hx hb hml hown hts gX8_addThrough_X8_isLine rfl 2 kX8_isLine.2 ⟨Nat.le_of_ble_eq_true rfl, Nat.le_of_ble_eq_true rfl⟩ (ctX8_isLine l D ca   s0 (x2 - (s0 * x1)) r1 h_r1) hP hK [] rfl rfl hl.1 rfl (Nat.le_of_ble_eq_true rfl) ⟨Nat.le_of_ble_eq_true rfl, Nat.le_of_ble_eq_true rfl⟩ dX8_addThrough_134 rfl ?_
    refine lv_if_ne (tgt := 146) hx hb dX8_addThrough_137 (by decide) (fun c2 => ?_) (fun c2 => ?_)
    · have h := in_s h c2
      refine lv_aload_n hx hb dX8_addThrough_146 rfl (lv_at hl 1 rfl) ?_
      obtain ⟨r3, h_r3, h⟩ := bd_s h
      refine clVR (As := []) (rest := []) hx hb hml hown hts gX8_addThrough_X8_isFull rfl 0 kX8_isFull ⟨Nat.le_of_ble_eq_true rfl, Nat.le_of_ble_eq_true rfl⟩ (ctX8_isFull l D ca o o_s o_saved o_text o_pieceCell o_letter o_number o_before w_o_savedCount o_textLength w_o_code o_pieceCount o_at o_commands o_hash w_o_s_d  r3 h_r3) hP hK [0, 1] rfl 0 7 rfl rfl rfl rfl hl.1 rfl (Nat.le_of_ble_eq_true rfl) ⟨Nat.le_of_ble_eq_true rfl, Nat.le_of_ble_eq_true rfl⟩ dX8_addThrough_147 rfl ?_
      refine lv_if_eq (tgt := 159) hx hb dX8_addThrough_150 (by decide) (fun c4 => ?_) (fun c4 => ?_)
      · have h := ip_s h c4
        refine lv_aload_n hx hb dX8_addThrough_159 rfl (lv_at hl 1 rfl) ?_
        obtain ⟨⟨r5_0, r5_1⟩, h_r5, h⟩ := bd_s h
        have h := up2_s h
        refine clVW (As := []) (rest := []) (wr := []) (wn := [(o, .inr (7, [.ref o_s, .ref o_saved, .int r5_0, .ref o_text, .int o_textLength, .int w_o_code, .int o_pieceCount, .ref o_pieceCell, .int o_at, .int o_commands, .ref o_letter, .ref o_number, .ref o_before, .long o_hash])), (o_s, .inl (ca 0, 1634, .inl w_o_s_d)), (o_saved, .inl (ca 0, 6536, .inl r5_1))]) hx hb hml hown hts gX8_addThrough_X8_keep rfl 0 kX8_keep ⟨Nat.le_of_ble_eq_true rfl, Nat.le_of_ble_eq_true rfl⟩ (ctX8_keep l D ca o o_s o_saved o_text o_pieceCell o_letter o_number o_before w_o_savedCount o_textLength w_o_code o_pieceCount o_at o_commands o_hash w_o_s_d w_o_saved_d  _ r5_0 r5_1 h_r5) hP hD hS hA hK [0, 1, 2] [] rfl (by decide) rfl (by decide) (by decide) 0 7 rfl rfl rfl rfl hl.1 rfl (Nat.le_of_ble_eq_true rfl) ⟨Nat.le_of_ble_eq_true rfl, Nat.le_of_ble_eq_true rfl⟩ dX8_addThrough_160 rfl rfl (fun H locs hP hD hS => ?_)
        refine lv_aload_n hx hb dX8_addThrough_163 rfl (lv_at hl 1 rfl) ?_
        refine lv_iload hx hb dX8_addThrough_164 (lv_at hl 0 rfl) ?_
        refine lv_iload_n hx hb dX8_addThrough_166 rfl (lv_at hl 3 rfl) ?_
        refine lv_iload hx hb dX8_addThrough_167 (lv_at hl 0 rfl) ?_
        refine lv_iload_n hx hb dX8_addThrough_169 rfl (lv_at hl 2 rfl) ?_
        refine lv_imul hx hb dX8_addThrough_170 ?_
        refine lv_isub hx hb dX8_addThrough_171 ?_
        refine lv_iload_n hx hb dX8_addThrough_172 rfl (lv_at hl 2 rfl) ?_
        refine lv_iload_n hx hb dX8_addThrough_173 rfl (lv_at hl 4 rfl) ?_
        refine lv_iload hx hb dX8_addThrough_174 (lv_at hl 5 rfl) ?_
        refine lv_iload hx hb dX8_addThrough_176 (lv_at hl 6 rfl) ?_
        obtain ⟨⟨r6_0, r6_1⟩, h_r6, h⟩ := bd_s h
        have h := up2_s h
        refine clVW (As := [.int s0, .int (x2 - (s0 * x1)), .int x1, .int x3, .int x5, .int x6]) (rest := []) (wr := [(o_saved, .inl (ca 0, 6536, .inl r5_1))]) (wn := [(o_saved, .inl (ca 0, 6536, .inl r5_1)), (o, .inr (7, [.ref o_s, .ref o_saved, .int r5_0, .ref o_text, .int o_textLength, .int w_o_code, .int o_pieceCount, .ref o_pieceCell, .int o_at, .int o_commands, .ref o_letter, .ref o_number, .ref o_before, .long o_hash])), (o_s, .inl (ca 0, 1634, .inl r6_1))]) hx hb hml hown hts gX8_addThrough_X8_put rfl 6 kX8_put ⟨Nat.le_of_ble_eq_true rfl, Nat.le_of_ble_eq_true rfl⟩ (ctX8_put l D ca o o_s o_saved o_text o_pieceCell o_letter o_number o_before r5_0 o_textLength w_o_code o_pieceCount o_at o_commands o_hash w_o_s_d s0 (x2 - (s0 * x1)) x1 x3 x5 x6 _ r6_0 r6_1 h_r6) hP hD hS hA hK [0, 1] [2] rfl (by decide) rfl (by decide) (by decide) 0 7 rfl rfl rfl rfl hl.1 rfl (Nat.le_of_ble_eq_true rfl) ⟨Nat.le_of_ble_eq_true rfl, Nat.le_of_ble_eq_true rfl⟩ dX8_addThrough_178 rfl rfl (fun H locs hP hD hS => ?_)
        have hP := hP.sub (ws' := [(o, .inr (7, [.ref o_s, .ref o_saved, .int r5_0, .ref o_text, .int o_textLength, .int w_o_code, .int o_pieceCount, .ref o_pieceCell, .int o_at, .int o_commands, .ref o_letter, .ref o_number, .ref o_before, .long o_hash])), (o_s, .inl (ca 0, 1634, .inl r6_1)), (o_saved, .inl (ca 0, 6536, .inl r5_1))]) [1, 2, 0] rfl
        have hD := hD.sub (ws' := [(o, .inr (7, [.ref o_s, .ref o_saved, .int r5_0, .ref o_text, .int o_textLength, .int w_o_code, .int o_pieceCount, .ref o_pieceCell, .int o_at, .int o_commands, .ref o_letter, .ref o_number, .ref o_before, .long o_hash])), (o_s, .inl (ca 0, 1634, .inl r6_1)), (o_saved, .inl (ca 0, 6536, .inl r5_1))]) [1, 2, 0] (by decide) rfl
        cases h
        exact hret 181 ls _ _ _ hP hD hS rfl dX8_addThrough_181
      · have h := in_s h c4
        refine lv_aload_n hx hb dX8_addThrough_153 rfl (lv_at hl 1 rfl) ?_
        refine lv_iconst (v := (2 : Int32)) hx hb dX8_addThrough_154 (by decide) ?_
        obtain ⟨⟨r7_0, r7_1⟩, h_r7, h⟩ := bd_s h
        have h := up2_s h
        refine clVW (As := [.int (2 : Int32)]) (rest := []) (wr := [(o_s, .inl (ca 0, 1634, .inl w_o_s_d)), (o_saved, .inl (ca 0, 6536, .inl w_o_saved_d))]) (wn := [(o_s, .inl (ca 0, 1634, .inl w_o_s_d)), (o_saved, .inl (ca 0, 6536, .inl w_o_saved_d)), (o, .inr (7, [.ref o_s, .ref o_saved, .int w_o_savedCount, .ref o_text, .int o_textLength, .int r7_1, .int o_pieceCount, .ref o_pieceCell, .int o_at, .int o_commands, .ref o_letter, .ref o_number, .ref o_before, .long o_hash]))]) hx hb hml hown hts gX8_addThrough_X8_fails rfl 1 kX8_fails ⟨Nat.le_of_ble_eq_true rfl, Nat.le_of_ble_eq_true rfl⟩ (ctX8_fails l D ca o o_s o_saved o_text o_pieceCell o_letter o_number o_before w_o_savedCount o_textLength w_o_code o_pieceCount o_at o_commands o_hash (2 : Int32) _ r7_0 r7_1 h_r7) hP hD hS hA hK [0] [1, 2] rfl (by decide) rfl (by decide) (by decide) 0 7 rfl rfl rfl rfl hl.1 rfl (Nat.le_of_ble_eq_true rfl) ⟨Nat.le_of_ble_eq_true rfl, Nat.le_of_ble_eq_true rfl⟩ dX8_addThrough_155 rfl rfl (fun H locs hP hD hS => ?_)
        have hP := hP.sub (ws' := [(o, .inr (7, [.ref o_s, .ref o_saved, .int w_o_savedCount, .ref o_text, .int o_textLength, .int r7_1, .int o_pieceCount, .ref o_pieceCell, .int o_at, .int o_commands, .ref o_letter, .ref o_number, .ref o_before, .long o_hash])), (o_s, .inl (ca 0, 1634, .inl w_o_s_d)), (o_saved, .inl (ca 0, 6536, .inl w_o_saved_d))]) [2, 0, 1] rfl
        have hD := hD.sub (ws' := [(o, .inr (7, [.ref o_s, .ref o_saved, .int w_o_savedCount, .ref o_text, .int o_textLength, .int r7_1, .int o_pieceCount, .ref o_pieceCell, .int o_at, .int o_commands, .ref o_letter, .ref o_number, .ref o_before, .long o_hash])), (o_s, .inl (ca 0, 1634, .inl w_o_s_d)), (o_saved, .inl (ca 0, 6536, .inl w_o_saved_d))]) [2, 0, 1] (by decide) rfl
        cases h
        exact hret 158 ls _ _ _ hP hD hS rfl dX8_addThrough_158
    · have h := ip_s h c2
      refine lv_aload_n hx hb dX8_addThrough_140 rfl (lv_at hl 1 rfl) ?_
      refine lv_iconst (v := (1 : Int32)) hx hb dX8_addThrough_141 (by decide) ?_
      obtain ⟨⟨r8_0, r8_1⟩, h_r8, h⟩ := bd_s h
      have h := up2_s h
      refine clVW (As := [.int (1 : Int32)]) (rest := []) (wr := [(o_s, .inl (ca 0, 1634, .inl w_o_s_d)), (o_saved, .inl (ca 0, 6536, .inl w_o_saved_d))]) (wn := [(o_s, .inl (ca 0, 1634, .inl w_o_s_d)), (o_saved, .inl (ca 0, 6536, .inl w_o_saved_d)), (o, .inr (7, [.ref o_s, .ref o_saved, .int w_o_savedCount, .ref o_text, .int o_textLength, .int r8_1, .int o_pieceCount, .ref o_pieceCell, .int o_at, .int o_commands, .ref o_letter, .ref o_number, .ref o_before, .long o_hash]))]) hx hb hml hown hts gX8_addThrough_X8_fails rfl 1 kX8_fails ⟨Nat.le_of_ble_eq_true rfl, Nat.le_of_ble_eq_true rfl⟩ (ctX8_fails l D ca o o_s o_saved o_text o_pieceCell o_letter o_number o_before w_o_savedCount o_textLength w_o_code o_pieceCount o_at o_commands o_hash (1 : Int32) _ r8_0 r8_1 h_r8) hP hD hS hA hK [0] [1, 2] rfl (by decide) rfl (by decide) (by decide) 0 7 rfl rfl rfl rfl hl.1 rfl (Nat.le_of_ble_eq_true rfl) ⟨Nat.le_of_ble_eq_true rfl, Nat.le_of_ble_eq_true rfl⟩ dX8_addThrough_142 rfl rfl (fun H locs hP hD hS => ?_)
      have hP := hP.sub (ws' := [(o, .inr (7, [.ref o_s, .ref o_saved, .int w_o_savedCount, .ref o_text, .int o_textLength, .int r8_1, .int o_pieceCount, .ref o_pieceCell, .int o_at, .int o_commands, .ref o_letter, .ref o_number, .ref o_before, .long o_hash])), (o_s, .inl (ca 0, 1634, .inl w_o_s_d)), (o_saved, .inl (ca 0, 6536, .inl w_o_saved_d))]) [2, 0, 1] rfl
      have hD := hD.sub (ws' := [(o, .inr (7, [.ref o_s, .ref o_saved, .int w_o_savedCount, .ref o_text, .int o_textLength, .int r8_1, .int o_pieceCount, .ref o_pieceCell, .int o_at, .int o_commands, .ref o_letter, .ref o_number, .ref o_before, .long o_hash])), (o_s, .inl (ca 0, 1634, .inl w_o_s_d)), (o_saved, .inl (ca 0, 6536, .inl w_o_saved_d))]) [2, 0, 1] (by decide) rfl
      cases h
      exact hret 145 ls _ _ _ hP hD hS rfl dX8_addThrough_145
  have J107 : ∀ (w_o_savedCount : Int32) (w_o_code : Int32) (w_o_s_d : Nat → Int32) (w_o_saved_d : Nat → Int32), jX8_addThrough_107 x1 x2 x3 x4 x5 x6 w_o_savedCount w_o_code w_o_s_d w_o_saved_d = some (u0, u1, u2, u3, u4) → ∀ (H : Heap) (locs : List Loc), va_P D vwCl [(o, .inr (7, [.ref o_s, .ref o_saved, .int w_o_savedCount, .ref o_text, .int o_textLength, .int w_o_code, .int o_pieceCount, .ref o_pieceCell, .int o_at, .int o_commands, .ref o_letter, .ref o_number, .ref o_before, .long o_hash])), (o_s, .inl (ca 0, 1634, .inl w_o_s_d)), (o_saved, .inl (ca 0, 6536, .inl w_o_saved_d))] H → va_D A [(o, .inr (7, [.ref o_s, .ref o_saved, .int w_o_savedCount, .ref o_text, .int o_textLength, .int w_o_code, .int o_pieceCount, .ref o_pieceCell, .int o_at, .int o_commands, .ref o_letter, .ref o_number, .ref o_before, .long o_hash])), (o_s, .inl (ca 0, 1634, .inl w_o_s_d)), (o_saved, .inl (ca 0, 6536, .inl w_o_saved_d))] → va_S A s.heap H locs → ∀ ls, lv_has ls 9 [(0, .ref o), (1, .int x1), (2, .int x2), (3, .int x3), (4, .int x4), (5, .int x5), (6, .int x6)] → W p l e ({ frames := 2, cells := 0, slots := 0, locals := 48 }) s m args below meth c H locs 0 0 Q (F0 m 107 ls []) := by
    intro w_o_savedCount w_o_code w_o_s_d w_o_saved_d h H locs hP hD hS ls hl
    unfold jX8_addThrough_107 at h
    refine lv_iload_n hx hb dX8_addThrough_107 rfl (lv_at hl 1 rfl) ?_
    refine lv_iload_n hx hb dX8_addThrough_108 rfl (lv_at hl 3 rfl) ?_
    refine lv_icmp_ne (tgt := 116) hx hb dX8_addThrough_109 (by decide) (fun c1 => ?_) (fun c1 => ?_)
    · have h := in_s h c1
      refine lv_iload hx hb dX8_addThrough_116 (lv_at hl 4 rfl) ?_
      refine lv_iload_n hx hb dX8_addThrough_118 rfl (lv_at hl 2 rfl) ?_
      refine lv_isub hx hb dX8_addThrough_119 ?_
      refine lv_iload_n hx hb dX8_addThrough_120 rfl (lv_at hl 3 rfl) ?_
      refine lv_iload_n hx hb dX8_addThrough_121 rfl (lv_at hl 1 rfl) ?_
      refine lv_isub hx hb dX8_addThrough_122 ?_
      obtain ⟨hne, h⟩ := dv_s h
      refine lv_idiv hx hb dX8_addThrough_123 hne ?_
      exact J124 ((x4 - x2) / (x3 - x1)) w_o_savedCount w_o_code w_o_s_d w_o_saved_d h _ _ hP hD hS ls (lv_sub hl [0, 1, 2, 3, 5, 6] rfl)
    · have h := ip_s h c1
      refine lv_iconst (v := (0 : Int32)) hx hb dX8_addThrough_112 (by decide) ?_
      refine lv_goto (tgt := 124) hx hb dX8_addThrough_113 (by decide) ?_
      exact J124 (0 : Int32) w_o_savedCount w_o_code w_o_s_d w_o_saved_d h _ _ hP hD hS ls (lv_sub hl [0, 1, 2, 3, 5, 6] rfl)
  have J85 : ∀ (w_o_savedCount : Int32) (w_o_code : Int32) (w_o_s_d : Nat → Int32) (w_o_saved_d : Nat → Int32), jX8_addThrough_85 x1 x2 x3 x4 x5 x6 w_o_savedCount w_o_code w_o_s_d w_o_saved_d = some (u0, u1, u2, u3, u4) → ∀ (H : Heap) (locs : List Loc), va_P D vwCl [(o, .inr (7, [.ref o_s, .ref o_saved, .int w_o_savedCount, .ref o_text, .int o_textLength, .int w_o_code, .int o_pieceCount, .ref o_pieceCell, .int o_at, .int o_commands, .ref o_letter, .ref o_number, .ref o_before, .long o_hash])), (o_s, .inl (ca 0, 1634, .inl w_o_s_d)), (o_saved, .inl (ca 0, 6536, .inl w_o_saved_d))] H → va_D A [(o, .inr (7, [.ref o_s, .ref o_saved, .int w_o_savedCount, .ref o_text, .int o_textLength, .int w_o_code, .int o_pieceCount, .ref o_pieceCell, .int o_at, .int o_commands, .ref o_letter, .ref o_number, .ref o_before, .long o_hash])), (o_s, .inl (ca 0, 1634, .inl w_o_s_d)), (o_saved, .inl (ca 0, 6536, .inl w_o_saved_d))] → va_S A s.heap H locs → ∀ ls, lv_has ls 9 [(0, .ref o), (1, .int x1), (2, .int x2), (3, .int x3), (4, .int x4), (5, .int x5), (6, .int x6)] → W p l e ({ frames := 2, cells := 0, slots := 0, locals := 48 }) s m args below meth c H locs 0 0 Q (F0 m 85 ls []) := by
    intro w_o_savedCount w_o_code w_o_s_d w_o_saved_d h H locs hP hD hS ls hl
    unfold jX8_addThrough_85 at h
    refine lv_iload_n hx hb dX8_addThrough_85 rfl (lv_at hl 1 rfl) ?_
    refine lv_iload_n hx hb dX8_addThrough_86 rfl (lv_at hl 3 rfl) ?_
    refine lv_icmp_ge (tgt := 107) hx hb dX8_addThrough_87 (by decide) (fun c1 => ?_) (fun c1 => ?_)
    · have h := ip_s h c1
      exact J107 w_o_savedCount w_o_code w_o_s_d w_o_saved_d h _ _ hP hD hS ls (lv_sub hl [0, 1, 2, 3, 4, 5, 6] rfl)
    · have h := in_s h c1
      refine lv_iload hx hb dX8_addThrough_90 (lv_at hl 4 rfl) ?_
      refine lv_iload_n hx hb dX8_addThrough_92 rfl (lv_at hl 2 rfl) ?_
      refine lv_isub hx hb dX8_addThrough_93 ?_
      refine lv_iload_n hx hb dX8_addThrough_94 rfl (lv_at hl 3 rfl) ?_
      refine lv_iload_n hx hb dX8_addThrough_95 rfl (lv_at hl 1 rfl) ?_
      refine lv_isub hx hb dX8_addThrough_96 ?_
      obtain ⟨hne, h⟩ := dv_s h
      refine lv_irem hx hb dX8_addThrough_97 hne ?_
      refine lv_if_eq (tgt := 107) hx hb dX8_addThrough_98 (by decide) (fun c9 => ?_) (fun c9 => ?_)
      · have h := ip_s h c9
        exact J107 w_o_savedCount w_o_code w_o_s_d w_o_saved_d h _ _ hP hD hS ls (lv_sub hl [0, 1, 2, 3, 4, 5, 6] rfl)
      · have h := in_s h c9
        exact J101 w_o_savedCount w_o_code w_o_s_d w_o_saved_d h _ _ hP hD hS ls (lv_sub hl [0] rfl)
  have J67 : ∀ (s0 : Int32) (w_o_savedCount : Int32) (w_o_code : Int32) (w_o_s_d : Nat → Int32) (w_o_saved_d : Nat → Int32), jX8_addThrough_67 x1 x2 x3 x4 x5 x6 s0 w_o_savedCount w_o_code w_o_s_d w_o_saved_d = some (u0, u1, u2, u3, u4) → ∀ (H : Heap) (locs : List Loc), va_P D vwCl [(o, .inr (7, [.ref o_s, .ref o_saved, .int w_o_savedCount, .ref o_text, .int o_textLength, .int w_o_code, .int o_pieceCount, .ref o_pieceCell, .int o_at, .int o_commands, .ref o_letter, .ref o_number, .ref o_before, .long o_hash])), (o_s, .inl (ca 0, 1634, .inl w_o_s_d)), (o_saved, .inl (ca 0, 6536, .inl w_o_saved_d))] H → va_D A [(o, .inr (7, [.ref o_s, .ref o_saved, .int w_o_savedCount, .ref o_text, .int o_textLength, .int w_o_code, .int o_pieceCount, .ref o_pieceCell, .int o_at, .int o_commands, .ref o_letter, .ref o_number, .ref o_before, .long o_hash])), (o_s, .inl (ca 0, 1634, .inl w_o_s_d)), (o_saved, .inl (ca 0, 6536, .inl w_o_saved_d))] → va_S A s.heap H locs → ∀ ls, lv_has ls 9 [(0, .ref o), (1, .int x1), (2, .int x2), (3, .int x3), (4, .int x4), (5, .int x5), (6, .int x6)] → W p l e ({ frames := 2, cells := 0, slots := 0, locals := 48 }) s m args below meth c H locs 0 0 Q (F0 m 67 ls [.int s0]) := by
    intro s0 w_o_savedCount w_o_code w_o_s_d w_o_saved_d h H locs hP hD hS ls hl
    unfold jX8_addThrough_67 at h
    refine lv_istore (lv' := [(7, .int s0), (0, .ref o), (1, .int x1), (2, .int x2), (3, .int x3), (4, .int x4), (5, .int x5), (6, .int x6)]) hx hb dX8_addThrough_67 hl (by decide) rfl (fun ls hl => ?_)
    refine lv_iload hx hb dX8_addThrough_69 (lv_at hl 0 rfl) ?_
    refine lv_if_eq (tgt := 101) hx hb dX8_addThrough_71 (by decide) (fun c1 => ?_) (fun c1 => ?_)
    · have h := ip_s h c1
      exact J101 w_o_savedCount w_o_code w_o_s_d w_o_saved_d h _ _ hP hD hS ls (lv_sub hl [1] rfl)
    · have h := in_s h c1
      refine lv_iload_n hx hb dX8_addThrough_74 rfl (lv_at hl 2 rfl) ?_
      refine lv_iload_n hx hb dX8_addThrough_75 rfl (lv_at hl 4 rfl) ?_
      refine lv_icmp_ne (tgt := 85) hx hb dX8_addThrough_76 (by decide) (fun c2 => ?_) (fun c2 => ?_)
      · have h := in_s h c2
        exact J85 w_o_savedCount w_o_code w_o_s_d w_o_saved_d h _ _ hP hD hS ls (lv_sub hl [1, 2, 3, 4, 5, 6, 7] rfl)
      · have h := ip_s h c2
        refine lv_iload_n hx hb dX8_addThrough_79 rfl (lv_at hl 3 rfl) ?_
        refine lv_iload hx hb dX8_addThrough_80 (lv_at hl 5 rfl) ?_
        refine lv_icmp_ne (tgt := 101) hx hb dX8_addThrough_82 (by decide) (fun c10 => ?_) (fun c10 => ?_)
        · have h := in_s h c10
          exact J101 w_o_savedCount w_o_code w_o_s_d w_o_saved_d h _ _ hP hD hS ls (lv_sub hl [1] rfl)
        · have h := ip_s h c10
          exact J85 w_o_savedCount w_o_code w_o_s_d w_o_saved_d h _ _ hP hD hS ls (lv_sub hl [1, 2, 3, 4, 5, 6, 7] rfl)
  have J66 : ∀ (w_o_savedCount : Int32) (w_o_code : Int32) (w_o_s_d : Nat → Int32) (w_o_saved_d : Nat → Int32), jX8_addThrough_66 x1 x2 x3 x4 x5 x6 w_o_savedCount w_o_code w_o_s_d w_o_saved_d = some (u0, u1, u2, u3, u4) → ∀ (H : Heap) (locs : List Loc), va_P D vwCl [(o, .inr (7, [.ref o_s, .ref o_saved, .int w_o_savedCount, .ref o_text, .int o_textLength, .int w_o_code, .int o_pieceCount, .ref o_pieceCell, .int o_at, .int o_commands, .ref o_letter, .ref o_number, .ref o_before, .long o_hash])), (o_s, .inl (ca 0, 1634, .inl w_o_s_d)), (o_saved, .inl (ca 0, 6536, .inl w_o_saved_d))] H → va_D A [(o, .inr (7, [.ref o_s, .ref o_saved, .int w_o_savedCount, .ref o_text, .int o_textLength, .int w_o_code, .int o_pieceCount, .ref o_pieceCell, .int o_at, .int o_commands, .ref o_letter, .ref o_number, .ref o_before, .long o_hash])), (o_s, .inl (ca 0, 1634, .inl w_o_s_d)), (o_saved, .inl (ca 0, 6536, .inl w_o_saved_d))] → va_S A s.heap H locs → ∀ ls, lv_has ls 9 [(0, .ref o), (1, .int x1), (2, .int x2), (3, .int x3), (4, .int x4), (5, .int x5), (6, .int x6)] → W p l e ({ frames := 2, cells := 0, slots := 0, locals := 48 }) s m args below meth c H locs 0 0 Q (F0 m 66 ls []) := by
    intro w_o_savedCount w_o_code w_o_s_d w_o_saved_d h H locs hP hD hS ls hl
    unfold jX8_addThrough_66 at h
    refine lv_iconst (v := (0 : Int32)) hx hb dX8_addThrough_66 (by decide) ?_
    exact J67 (0 : Int32) w_o_savedCount w_o_code w_o_s_d w_o_saved_d h _ _ hP hD hS ls (lv_sub hl [0, 1, 2, 3, 4, 5, 6] rfl)
  refine lv_aload_n hx hb dX8_addThrough_0 rfl (lv_at hl 0 rfl) ?_
  refine lv_iconst (v := (0 : Int32)) hx hb dX8_addThrough_1 (by decide) ?_
  refine ptI (ci := 7) (v := .int (0 : Int32)) (ty := .int) (C := RX8) (T := TX8) (N := 14) (wn := [(o, .inr (7, [.ref o_s, .ref o_saved, .int o_savedCount, .ref o_text, .int o_textLength, .int (0 : Int32), .int o_pieceCount, .ref o_pieceCell, .int o_at, .int o_commands, .ref o_letter, .ref o_number, .ref o_before, .long o_hash])), (o_s, .inl (ca 0, 1634, .inl o_s_d)), (o_saved, .inl (ca 0, 6536, .inl o_saved_d))]) hx hb hts inX8_addThrough_X8 tyX8 tyX8_ok nmX8 hown hK hP hD hS 0 rfl rfl 5 (by decide) mwX8_addThrough_0 rfl rfl (by decide +kernel) rfl rfl (Nat.le_of_ble_eq_true rfl) rfl dX8_addThrough_2 (fun H locs hP hD hS => ?_)
  refine lv_iload_n hx hb dX8_addThrough_5 rfl (lv_at hl 1 rfl) ?_
  obtain ⟨r1, h_r1, h⟩ := bd_s h
  refine clSR (As := [.int x1]) (rest := []) hx hb hml hown hts gX8_addThrough_X8_isPosition rfl 1 kX8_isPosition.2 ⟨Nat.le_of_ble_eq_true rfl, Nat.le_of_ble_eq_true rfl⟩ (ctX8_isPosition l D ca   x1 r1 h_r1) hP hK [] rfl rfl hl.1 rfl (Nat.le_of_ble_eq_true rfl) ⟨Nat.le_of_ble_eq_true rfl, Nat.le_of_ble_eq_true rfl⟩ dX8_addThrough_6 rfl ?_
  refine lv_if_eq (tgt := 66) hx hb dX8_addThrough_9 (by decide) (fun c2 => ?_) (fun c2 => ?_)
  · have h := ip_s h c2
    exact J66 o_savedCount (0 : Int32) o_s_d o_saved_d h _ _ hP hD hS ls (lv_sub hl [0, 1, 2, 3, 4, 5, 6] rfl)
  · have h := in_s h c2
    refine lv_iload_n hx hb dX8_addThrough_12 rfl (lv_at hl 3 rfl) ?_
    obtain ⟨r11, h_r11, h⟩ := bd_s h
    refine clSR (As := [.int x3]) (rest := []) hx hb hml hown hts gX8_addThrough_X8_isPosition rfl 1 kX8_isPosition.2 ⟨Nat.le_of_ble_eq_true rfl, Nat.le_of_ble_eq_true rfl⟩ (ctX8_isPosition l D ca   x3 r11 h_r11) hP hK [] rfl rfl hl.1 rfl (Nat.le_of_ble_eq_true rfl) ⟨Nat.le_of_ble_eq_true rfl, Nat.le_of_ble_eq_true rfl⟩ dX8_addThrough_13 rfl ?_
    refine lv_if_eq (tgt := 66) hx hb dX8_addThrough_16 (by decide) (fun c12 => ?_) (fun c12 => ?_)
    · have h := ip_s h c12
      exact J66 o_savedCount (0 : Int32) o_s_d o_saved_d h _ _ hP hD hS ls (lv_sub hl [0, 1, 2, 3, 4, 5, 6] rfl)
    · have h := in_s h c12
      refine lv_iload_n hx hb dX8_addThrough_19 rfl (lv_at hl 1 rfl) ?_
      refine lv_iload_n hx hb dX8_addThrough_20 rfl (lv_at hl 3 rfl) ?_
      refine lv_icmp_gt (tgt := 66) hx hb dX8_addThrough_21 (by decide) (fun c13 => ?_) (fun c13 => ?_)
      · have h := ip_s h c13
        exact J66 o_savedCount (0 : Int32) o_s_d o_saved_d h _ _ hP hD hS ls (lv_sub hl [0, 1, 2, 3, 4, 5, 6] rfl)
      · have h := in_s h c13
        refine lv_iload_n hx hb dX8_addThrough_24 rfl (lv_at hl 2 rfl) ?_
        obtain ⟨r14, h_r14, h⟩ := bd_s h
        refine clSR (As := [.int x2]) (rest := []) hx hb hml hown hts gX8_addThrough_X8_isValue rfl 1 kX8_isValue.2 ⟨Nat.le_of_ble_eq_true rfl, Nat.le_of_ble_eq_true rfl⟩ (ctX8_isValue l D ca   x2 r14 h_r14) hP hK [] rfl rfl hl.1 rfl (Nat.le_of_ble_eq_true rfl) ⟨Nat.le_of_ble_eq_true rfl, Nat.le_of_ble_eq_true rfl⟩ dX8_addThrough_25 rfl ?_
        refine lv_if_eq (tgt := 66) hx hb dX8_addThrough_28 (by decide) (fun c15 => ?_) (fun c15 => ?_)
        · have h := ip_s h c15
          exact J66 o_savedCount (0 : Int32) o_s_d o_saved_d h _ _ hP hD hS ls (lv_sub hl [0, 1, 2, 3, 4, 5, 6] rfl)
        · have h := in_s h c15
          refine lv_iload hx hb dX8_addThrough_31 (lv_at hl 4 rfl) ?_
          obtain ⟨r16, h_r16, h⟩ := bd_s h
          refine clSR (As := [.int x4]) (rest := []) hx hb hml hown hts gX8_addThrough_X8_isValue rfl 1 kX8_isValue.2 ⟨Nat.le_of_ble_eq_true rfl, Nat.le_of_ble_eq_true rfl⟩ (ctX8_isValue l D ca   x4 r16 h_r16) hP hK [] rfl rfl hl.1 rfl (Nat.le_of_ble_eq_true rfl) ⟨Nat.le_of_ble_eq_true rfl, Nat.le_of_ble_eq_true rfl⟩ dX8_addThrough_33 rfl ?_
          refine lv_if_eq (tgt := 66) hx hb dX8_addThrough_36 (by decide) (fun c17 => ?_) (fun c17 => ?_)
          · have h := ip_s h c17
            exact J66 o_savedCount (0 : Int32) o_s_d o_saved_d h _ _ hP hD hS ls (lv_sub hl [0, 1, 2, 3, 4, 5, 6] rfl)
          · have h := in_s h c17
            refine lv_iload hx hb dX8_addThrough_39 (lv_at hl 5 rfl) ?_
            obtain ⟨r18, h_r18, h⟩ := bd_s h
            refine clSR (As := [.int x5]) (rest := []) hx hb hml hown hts gX8_addThrough_X8_isTick rfl 1 kX8_isTick.2 ⟨Nat.le_of_ble_eq_true rfl, Nat.le_of_ble_eq_true rfl⟩ (ctX8_isTick l D ca   x5 r18 h_r18) hP hK [] rfl rfl hl.1 rfl (Nat.le_of_ble_eq_true rfl) ⟨Nat.le_of_ble_eq_true rfl, Nat.le_of_ble_eq_true rfl⟩ dX8_addThrough_41 rfl ?_
            refine lv_if_eq (tgt := 66) hx hb dX8_addThrough_44 (by decide) (fun c19 => ?_) (fun c19 => ?_)
            · have h := ip_s h c19
              exact J66 o_savedCount (0 : Int32) o_s_d o_saved_d h _ _ hP hD hS ls (lv_sub hl [0, 1, 2, 3, 4, 5, 6] rfl)
            · have h := in_s h c19
              refine lv_iload hx hb dX8_addThrough_47 (lv_at hl 6 rfl) ?_
              obtain ⟨r20, h_r20, h⟩ := bd_s h
              refine clSR (As := [.int x6]) (rest := []) hx hb hml hown hts gX8_addThrough_X8_isTick rfl 1 kX8_isTick.2 ⟨Nat.le_of_ble_eq_true rfl, Nat.le_of_ble_eq_true rfl⟩ (ctX8_isTick l D ca   x6 r20 h_r20) hP hK [] rfl rfl hl.1 rfl (Nat.le_of_ble_eq_true rfl) ⟨Nat.le_of_ble_eq_true rfl, Nat.le_of_ble_eq_true rfl⟩ dX8_addThrough_49 rfl ?_
              refine lv_if_eq (tgt := 66) hx hb dX8_addThrough_52 (by decide) (fun c21 => ?_) (fun c21 => ?_)
              · have h := ip_s h c21
                exact J66 o_savedCount (0 : Int32) o_s_d o_saved_d h _ _ hP hD hS ls (lv_sub hl [0, 1, 2, 3, 4, 5, 6] rfl)
              · have h := in_s h c21
                refine lv_iload hx hb dX8_addThrough_55 (lv_at hl 5 rfl) ?_
                refine lv_iload hx hb dX8_addThrough_57 (lv_at hl 6 rfl) ?_
                refine lv_icmp_gt (tgt := 66) hx hb dX8_addThrough_59 (by decide) (fun c22 => ?_) (fun c22 => ?_)
                · have h := ip_s h c22
                  exact J66 o_savedCount (0 : Int32) o_s_d o_saved_d h _ _ hP hD hS ls (lv_sub hl [0, 1, 2, 3, 4, 5, 6] rfl)
                · have h := in_s h c22
                  refine lv_iconst (v := (1 : Int32)) hx hb dX8_addThrough_62 (by decide) ?_
                  refine lv_goto (tgt := 67) hx hb dX8_addThrough_63 (by decide) ?_
                  exact J67 (1 : Int32) o_savedCount (0 : Int32) o_s_d o_saved_d h _ _ hP hD hS ls (lv_sub hl [0, 1, 2, 3, 4, 5, 6] rfl)
theorem mwX8_whyNotEnd_0 : Cond.fieldLink RX8 7 "SegmentTimesModel" "s" "[I" ∈ wsX8_whyNotEnd := List.mem_of_getElem? (i := 1) rfl
theorem inX8_whyNotEnd_X8 : ∀ w ∈ u_ws RX8 TX8 14, w ∈ wsX8_whyNotEnd := fun w h => List.mem_cons_of_mem _ (List.mem_append_right _ (h))
theorem kX8_whyNotEnd : yX8_whyNotEnd.cls = RX8 ∧ yX8_whyNotEnd.cls ≠ "java/lang/invoke/MethodHandle" ∧ yX8_whyNotEnd.cls ≠ "java/lang/invoke/VarHandle" ∧ (parseMethodDescriptor yX8_whyNotEnd.desc).map (fun d => d.parameters.length) = some 1 := by decide +kernel
set_option maxHeartbeats 4000000 in
set_option maxRecDepth 100000 in
theorem ctX8_whyNotEnd (l : Launch) (D : va_G) (ca : Nat → ClassId) (o : Nat) (o_s : Nat) (o_saved : Nat) (o_text : Nat) (o_pieceCell : Nat) (o_letter : Nat) (o_number : Nat) (o_before : Nat) (o_savedCount : Int32) (o_textLength : Int32) (o_code : Int32) (o_pieceCount : Int32) (o_at : Int32) (o_commands : Int32) (o_hash : Int64) (o_s_d : Nat → Int32) (x1 : Int32) (u0 : Int32) (hf : fX8_whyNotEnd o_s_d x1 = some u0) : MR l yX8_whyNotEnd wsX8_whyNotEnd 3 65 D ca [.ref o, .int x1] [(o, .inr (7, [.ref o_s, .ref o_saved, .int o_savedCount, .ref o_text, .int o_textLength, .int o_code, .int o_pieceCount, .ref o_pieceCell, .int o_at, .int o_commands, .ref o_letter, .ref o_number, .ref o_before, .long o_hash])), (o_s, .inl (ca 0, 1634, .inl o_s_d))] (some (.int u0)) := by
  refine hdRi (plainFor_of_name (by decide +kernel)) rfl (Nat.le_of_ble_eq_true rfl) ?_
  intro p e s m args below meth c Q hx hb hml hown hts hP hK hret ls hl
  have hown : s.vm.findClass RX8 = some m.cls := hown
  have hl : lv_has ls 2 [(0, .ref o), (1, .int x1)] := hl
  have h := hf
  unfold fX8_whyNotEnd at h
  clear hf
  refine lv_aload_n hx hb dX8_whyNotEnd_0 rfl (lv_at hl 0 rfl) ?_
  refine lv_iload_n hx hb dX8_whyNotEnd_1 rfl (lv_at hl 1 rfl) ?_
  obtain ⟨r1, h_r1, h⟩ := bd_s h
  refine clVR (As := [.int x1]) (rest := []) hx hb hml hown hts gX8_whyNotEnd_X8_isSegment rfl 1 kX8_isSegment ⟨Nat.le_of_ble_eq_true rfl, Nat.le_of_ble_eq_true rfl⟩ (ctX8_isSegment l D ca o o_s o_saved o_text o_pieceCell o_letter o_number o_before o_savedCount o_textLength o_code o_pieceCount o_at o_commands o_hash o_s_d x1 r1 h_r1) hP hK [0, 1] rfl 0 7 rfl rfl rfl rfl hl.1 rfl (Nat.le_of_ble_eq_true rfl) ⟨Nat.le_of_ble_eq_true rfl, Nat.le_of_ble_eq_true rfl⟩ dX8_whyNotEnd_2 rfl ?_
  refine lv_if_ne (tgt := 12) hx hb dX8_whyNotEnd_5 (by decide) (fun c2 => ?_) (fun c2 => ?_)
  · have h := in_s h c2
    refine lv_aload_n hx hb dX8_whyNotEnd_12 rfl (lv_at hl 0 rfl) ?_
    refine lv_iload_n hx hb dX8_whyNotEnd_13 rfl (lv_at hl 1 rfl) ?_
    refine lv_aload_n hx hb dX8_whyNotEnd_14 rfl (lv_at hl 0 rfl) ?_
    refine gtF (ci := 7) (v := .ref o_s) (C := RX8) (T := TX8) (N := 14) hx hb hts inX8_whyNotEnd_X8 hown hK hP 0 rfl rfl 0 (by decide) mwX8_whyNotEnd_0 rfl rfl dX8_whyNotEnd_15 ?_
    refine lv_iconst (v := (1 : Int32)) hx hb dX8_whyNotEnd_18 (by decide) ?_
    obtain ⟨hin, y3, e_y3, h⟩ := rd_s h
    refine ldI hx hb hK hP 1 rfl hin dX8_whyNotEnd_19 ?_
    refine top_i e_y3 ?_
    obtain ⟨r4, h_r4, h⟩ := bd_s h
    refine clVR (As := [.int x1, .int y3]) (rest := []) hx hb hml hown hts gX8_whyNotEnd_X8_isLive rfl 2 kX8_isLive ⟨Nat.le_of_ble_eq_true rfl, Nat.le_of_ble_eq_true rfl⟩ (ctX8_isLive l D ca o o_s o_saved o_text o_pieceCell o_letter o_number o_before o_savedCount o_textLength o_code o_pieceCount o_at o_commands o_hash o_s_d x1 y3 r4 h_r4) hP hK [0, 1] rfl 0 7 rfl rfl rfl rfl hl.1 rfl (Nat.le_of_ble_eq_true rfl) ⟨Nat.le_of_ble_eq_true rfl, Nat.le_of_ble_eq_true rfl⟩ dX8_whyNotEnd_20 rfl ?_
    refine lv_if_eq (tgt := 30) hx hb dX8_whyNotEnd_23 (by decide) (fun c5 => ?_) (fun c5 => ?_)
    · have h := ip_s h c5
      refine lv_iconst (v := (2 : Int32)) hx hb dX8_whyNotEnd_30 (by decide) ?_
      cases h
      exact hret 31 ls _ rfl dX8_whyNotEnd_31
    · have h := in_s h c5
      refine lv_iconst (v := (0 : Int32)) hx hb dX8_whyNotEnd_26 (by decide) ?_
      refine lv_goto (tgt := 31) hx hb dX8_whyNotEnd_27 (by decide) ?_
      cases h
      exact hret 31 ls _ rfl dX8_whyNotEnd_31
  · have h := ip_s h c2
    refine lv_iconst (v := (1 : Int32)) hx hb dX8_whyNotEnd_8 (by decide) ?_
    refine lv_goto (tgt := 31) hx hb dX8_whyNotEnd_9 (by decide) ?_
    cases h
    exact hret 31 ls _ rfl dX8_whyNotEnd_31
