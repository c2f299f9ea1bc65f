theorem mwX8_below_0 : Cond.fieldLink RX8 31 "SegmentTimesModel" "code" "I" ∈ wsX8_below := List.mem_of_getElem? (i := 1) rfl
theorem mwX8_below_1 : Cond.fieldLink RX8 7 "SegmentTimesModel" "s" "[I" ∈ wsX8_below := List.mem_of_getElem? (i := 2) rfl
theorem inX8_below_X8 : ∀ w ∈ u_ws RX8 TX8 14, w ∈ wsX8_below := fun w h => List.mem_cons_of_mem _ (List.mem_append_right _ (h))
theorem kX8_below : yX8_below.cls = RX8 ∧ yX8_below.cls ≠ "java/lang/invoke/MethodHandle" ∧ yX8_below.cls ≠ "java/lang/invoke/VarHandle" ∧ (parseMethodDescriptor yX8_below.desc).map (fun d => d.parameters.length) = some 3 := by decide +kernel
set_option maxHeartbeats 4000000 in
set_option maxRecDepth 100000 in
theorem ctX8_below (l : Launch) (D : va_G) (ca : Nat → ClassId) (o : Nat) (o_s : Nat) (o_saved : Nat) (o_text : Nat) (o_pieceCell : Nat) (o_letter : Nat) (o_number : Nat) (o_before : Nat) (o_savedCount : Int32) (o_textLength : Int32) (o_code : Int32) (o_pieceCount : Int32) (o_at : Int32) (o_commands : Int32) (o_hash : Int64) (o_s_d : Nat → Int32) (x1 : Int32) (x2 : Int32) (x3 : Int64) (sz : Nat) (u0 : Int32) (u1 : Int32) (hf : fX8_below o_code o_s_d x1 x2 x3 = some (u0, u1)) : MW l yX8_below wsX8_below 4 88 D ca [.ref o, .int x1, .int x2, .long x3] sz [(o, .inr (7, [.ref o_s, .ref o_saved, .int o_savedCount, .ref o_text, .int o_textLength, .int o_code, .int o_pieceCount, .ref o_pieceCell, .int o_at, .int o_commands, .ref o_letter, .ref o_number, .ref o_before, .long o_hash])), (o_s, .inl (ca 0, 1634, .inl o_s_d))] (some (.int u0)) [(o, .inr (7, [.ref o_s, .ref o_saved, .int o_savedCount, .ref o_text, .int o_textLength, .int u1, .int o_pieceCount, .ref o_pieceCell, .int o_at, .int o_commands, .ref o_letter, .ref o_number, .ref o_before, .long o_hash])), (o_s, .inl (ca 0, 1634, .inl o_s_d))] := by
  refine hdWi (by decide +kernel) rfl (Nat.le_of_ble_eq_true rfl) ?_
  intro p e s m args below meth c A Q hx hb hml hown hts hP hD hK hA hS hret ls hl
  have hown : s.vm.findClass RX8 = some m.cls := hown
  have hl : lv_has ls 7 [(0, .ref o), (1, .int x1), (2, .int x2), (3, .long x3)] := hl
  have h := hf
  unfold fX8_below at h
  clear hf
  have L25 : ∀ (w_o_code : Int32) (n : Nat) (l5 : Int32) (l6 : Int32), lp (fun q => bX8_below_25 o_s_d x1 x2 x3 w_o_code q.1 q.2) n (l5, l6) = some (u0, u1) → ∀ (H : Heap) (locs : List Loc), va_P D vwCl [(o, .inr (7, [.ref o_s, .ref o_saved, .int o_savedCount, .ref o_text, .int o_textLength, .int w_o_code, .int o_pieceCount, .ref o_pieceCell, .int o_at, .int o_commands, .ref o_letter, .ref o_number, .ref o_before, .long o_hash])), (o_s, .inl (ca 0, 1634, .inl o_s_d))] H → va_D A [(o, .inr (7, [.ref o_s, .ref o_saved, .int o_savedCount, .ref o_text, .int o_textLength, .int w_o_code, .int o_pieceCount, .ref o_pieceCell, .int o_at, .int o_commands, .ref o_letter, .ref o_number, .ref o_before, .long o_hash])), (o_s, .inl (ca 0, 1634, .inl o_s_d))] → va_S A s.heap H locs → ∀ ls, lv_has ls 7 [(0, .ref o), (1, .int x1), (2, .int x2), (3, .long x3), (5, .int l5), (6, .int l6)] → W p l e ({ frames := 4, cells := 0, slots := 0, locals := 88 }) s m args below meth c H locs 0 0 Q (F0 m 25 ls []) := by
    intro w_o_code n
    induction n with
    | zero => intro l5 l6 h; exact (lp_0 h).elim
    | succ n ih25 =>
      intro l5 l6 h H locs hP hD hS ls hl
      obtain ⟨q25, h, hq25⟩ := lp_s h
      have h : bX8_below_25 o_s_d x1 x2 x3 w_o_code l5 l6 = some q25 := h
      unfold bX8_below_25 at h
      have J66 : ∀ (l6 : Int32) (s0 : Int32), jX8_below_66  l6 s0 = some q25 → ∀ (H : Heap) (locs : List Loc), va_P D vwCl [(o, .inr (7, [.ref o_s, .ref o_saved, .int o_savedCount, .ref o_text, .int o_textLength, .int w_o_code, .int o_pieceCount, .ref o_pieceCell, .int o_at, .int o_commands, .ref o_letter, .ref o_number, .ref o_before, .long o_hash])), (o_s, .inl (ca 0, 1634, .inl o_s_d))] H → va_D A [(o, .inr (7, [.ref o_s, .ref o_saved, .int o_savedCount, .ref o_text, .int o_textLength, .int w_o_code, .int o_pieceCount, .ref o_pieceCell, .int o_at, .int o_commands, .ref o_letter, .ref o_number, .ref o_before, .long o_hash])), (o_s, .inl (ca 0, 1634, .inl o_s_d))] → va_S A s.heap H locs → ∀ ls, lv_has ls 7 [(0, .ref o), (1, .int x1), (2, .int x2), (3, .long x3), (6, .int l6)] → W p l e ({ frames := 4, cells := 0, slots := 0, locals := 88 }) s m args below meth c H locs 0 0 Q (F0 m 66 ls [.int s0]) := by
        intro l6 s0 h H locs hP hD hS ls hl
        unfold jX8_below_66 at h
        refine lv_iconst (v := (0 : Int32)) hx hb dX8_below_66 (by decide) ?_
        refine lv_iadd hx hb dX8_below_67 ?_
        obtain ⟨y1, e_y1, h⟩ := nm_s h
        refine top_i e_y1 ?_
        refine lv_istore (lv' := [(5, .int y1), (0, .ref o), (1, .int x1), (2, .int x2), (3, .long x3), (6, .int l6)]) hx hb dX8_below_68 hl (by decide) rfl (fun ls hl => ?_)
        obtain ⟨y2, e_y2, h⟩ := nm_s h
        refine lv_iinc (v := y2) (lv' := [(6, .int y2), (5, .int y1), (0, .ref o), (1, .int x1), (2, .int x2), (3, .long x3)]) hx hb dX8_below_70 hl (k := 5) rfl (by rw [e_y2]; rfl) (by decide) rfl (fun ls hl => ?_)
        refine lv_goto (tgt := 25) hx hb dX8_below_73 (by decide) ?_
        exact ih25 y1 y2 (lp_l hq25 h) _ _ hP hD hS ls (lv_sub hl [2, 3, 4, 5, 1, 0] rfl)
      refine lv_iload hx hb dX8_below_25 (lv_at hl 5 rfl) ?_
      refine lv_aload_n hx hb dX8_below_27 rfl (lv_at hl 0 rfl) ?_
      refine gtF (ci := 7) (v := .ref o_s) (C := RX8) (T := TX8) (N := 14) hx hb hts inX8_below_X8 hown hK hP 0 rfl rfl 0 (by decide) mwX8_below_1 rfl rfl dX8_below_28 ?_
      refine lv_iconst (v := (0 : Int32)) hx hb dX8_below_31 (by decide) ?_
      obtain ⟨hin, y1, e_y1, h⟩ := rd_s h
      refine ldI hx hb hK hP 1 rfl hin dX8_below_32 ?_
      refine top_i e_y1 ?_
      refine lv_icmp_ge (tgt := 76) hx hb dX8_below_33 (by decide) (fun c2 => ?_) (fun c2 => ?_)
      · have h := ip_s h c2
        have h := xt_s hq25 h
        refine lv_iload hx hb dX8_below_76 (lv_at hl 4 rfl) ?_
        cases h
        exact hret 78 ls _ _ _ hP hD hS rfl dX8_below_78
      · have h := in_s h c2
        refine lv_iload hx hb dX8_below_36 (lv_at hl 4 rfl) ?_
        refine lv_aload_n hx hb dX8_below_38 rfl (lv_at hl 0 rfl) ?_
        refine lv_iload hx hb dX8_below_39 (lv_at hl 5 rfl) ?_
        refine lv_iload_n hx hb dX8_below_41 rfl (lv_at hl 1 rfl) ?_
        refine lv_iload_n hx hb dX8_below_42 rfl (lv_at hl 2 rfl) ?_
        obtain ⟨r3, h_r3, h⟩ := bd_s h
        refine clVR (As := [.int l6, .int x1, .int x2]) (rest := [.int l5]) hx hb hml hown hts gX8_below_X8_isThere rfl 3 kX8_isThere ⟨Nat.le_of_ble_eq_true rfl, Nat.le_of_ble_eq_true rfl⟩ (ctX8_isThere l D ca o o_s o_saved o_text o_pieceCell o_letter o_number o_before o_savedCount o_textLength w_o_code o_pieceCount o_at o_commands o_hash o_s_d l6 x1 x2 r3 h_r3) hP hK [0, 1] rfl 0 7 rfl rfl rfl rfl hl.1 rfl (Nat.le_of_ble_eq_true rfl) ⟨Nat.le_of_ble_eq_true rfl, Nat.le_of_ble_eq_true rfl⟩ dX8_below_43 rfl ?_
        refine lv_if_eq (tgt := 66) hx hb dX8_below_46 (by decide) (fun c4 => ?_) (fun c4 => ?_)
        · have h := ip_s h c4
          exact J66 l6 l5 h _ _ hP hD hS ls (lv_sub hl [0, 1, 2, 3, 5] rfl)
        · have h := in_s h c4
          refine lv_aload_n hx hb dX8_below_49 rfl (lv_at hl 0 rfl) ?_
          refine lv_iload hx hb dX8_below_50 (lv_at hl 5 rfl) ?_
          refine lv_iload_n hx hb dX8_below_52 rfl (lv_at hl 1 rfl) ?_
          obtain ⟨r5, h_r5, h⟩ := bd_s h
          refine clVR (As := [.int l6, .int x1]) (rest := [.int l5]) hx hb hml hown hts gX8_below_X8_valueAt rfl 2 kX8_valueAt ⟨Nat.le_of_ble_eq_true rfl, Nat.le_of_ble_eq_true rfl⟩ (ctX8_valueAt l D ca o o_s o_saved o_text o_pieceCell o_letter o_number o_before o_savedCount o_textLength w_o_code o_pieceCount o_at o_commands o_hash o_s_d l6 x1 r5 h_r5) hP hK [0, 1] rfl 0 7 rfl rfl rfl rfl hl.1 rfl (Nat.le_of_ble_eq_true rfl) ⟨Nat.le_of_ble_eq_true rfl, Nat.le_of_ble_eq_true rfl⟩ dX8_below_53 rfl ?_
          refine lv_i2l (v := (r5).toInt64) hx hb dX8_below_56 rfl ?_
          refine lv_lload_n hx hb dX8_below_57 rfl (lv_at hl 3 rfl) ?_
          refine W.lcmp hx hb dX8_below_58 ?_
          refine lv_if_ge (tgt := 66) hx hb dX8_below_59 (by decide) (fun c6 => ?_) (fun c6 => ?_)
          · have h := ip_s h c6
            exact J66 l6 l5 h _ _ hP hD hS ls (lv_sub hl [0, 1, 2, 3, 5] rfl)
          · have h := in_s h c6
            refine lv_iconst (v := (1 : Int32)) hx hb dX8_below_62 (by decide) ?_
            refine lv_goto (tgt := 67) hx hb dX8_below_63 (by decide) ?_
            refine lv_iadd hx hb dX8_below_67 ?_
            obtain ⟨y7, e_y7, h⟩ := nm_s h
            refine top_i e_y7 ?_
            refine lv_istore (lv' := [(5, .int y7), (0, .ref o), (1, .int x1), (2, .int x2), (3, .long x3), (6, .int l6)]) hx hb dX8_below_68 hl (by decide) rfl (fun ls hl => ?_)
            obtain ⟨y8, e_y8, h⟩ := nm_s h
            refine lv_iinc (v := y8) (lv' := [(6, .int y8), (5, .int y7), (0, .ref o), (1, .int x1), (2, .int x2), (3, .long x3)]) hx hb dX8_below_70 hl (k := 5) rfl (by rw [e_y8]; rfl) (by decide) rfl (fun ls hl => ?_)
            refine lv_goto (tgt := 25) hx hb dX8_below_73 (by decide) ?_
            exact ih25 y7 y8 (lp_l hq25 h) _ _ hP hD hS ls (lv_sub hl [2, 3, 4, 5, 1, 0] rfl)
  refine lv_aload_n hx hb dX8_below_0 rfl (lv_at hl 0 rfl) ?_
  refine lv_iconst (v := (0 : Int32)) hx hb dX8_below_1 (by decide) ?_
  refine ptI (ci := 7) (v := .int (0 : Int32)) (ty := .int) (C := RX8) (T := TX8) (N := 14) (wn := [(o, .inr (7, [.ref o_s, .ref o_saved, .int o_savedCount, .ref o_text, .int o_textLength, .int (0 : Int32), .int o_pieceCount, .ref o_pieceCell, .int o_at, .int o_commands, .ref o_letter, .ref o_number, .ref o_before, .long o_hash])), (o_s, .inl (ca 0, 1634, .inl o_s_d))]) hx hb hts inX8_below_X8 tyX8 tyX8_ok nmX8 hown hK hP hD hS 0 rfl rfl 5 (by decide) mwX8_below_0 rfl rfl (by decide +kernel) rfl rfl (Nat.le_of_ble_eq_true rfl) rfl dX8_below_2 (fun H locs hP hD hS => ?_)
  refine lv_iload_n hx hb dX8_below_5 rfl (lv_at hl 1 rfl) ?_
  refine lv_iload_n hx hb dX8_below_6 rfl (lv_at hl 2 rfl) ?_
  obtain ⟨r1, h_r1, h⟩ := bd_s h
  refine clSR (As := [.int x1, .int x2]) (rest := []) hx hb hml hown hts gX8_below_X8_isPlace rfl 2 kX8_isPlace.2 ⟨Nat.le_of_ble_eq_true rfl, Nat.le_of_ble_eq_true rfl⟩ (ctX8_isPlace l D ca   x1 x2 r1 h_r1) hP hK [] rfl rfl hl.1 rfl (Nat.le_of_ble_eq_true rfl) ⟨Nat.le_of_ble_eq_true rfl, Nat.le_of_ble_eq_true rfl⟩ dX8_below_7 rfl ?_
  refine lv_if_ne (tgt := 19) hx hb dX8_below_10 (by decide) (fun c2 => ?_) (fun c2 => ?_)
  · have h := in_s h c2
    refine lv_iconst (v := (0 : Int32)) hx hb dX8_below_19 (by decide) ?_
    refine lv_istore (lv' := [(5, .int (0 : Int32)), (0, .ref o), (1, .int x1), (2, .int x2), (3, .long x3)]) hx hb dX8_below_20 hl (by decide) rfl (fun ls hl => ?_)
    refine lv_iconst (v := (0 : Int32)) hx hb dX8_below_22 (by decide) ?_
    refine lv_istore (lv' := [(6, .int (0 : Int32)), (5, .int (0 : Int32)), (0, .ref o), (1, .int x1), (2, .int x2), (3, .long x3)]) hx hb dX8_below_23 hl (by decide) rfl (fun ls hl => ?_)
    exact L25 (0 : Int32) fuel (0 : Int32) (0 : Int32) h _ _ hP hD hS ls (lv_sub hl [2, 3, 4, 5, 1, 0] rfl)
  · have h := ip_s h c2
    refine lv_aload_n hx hb dX8_below_13 rfl (lv_at hl 0 rfl) ?_
    refine lv_iconst (v := (1 : Int32)) hx hb dX8_below_14 (by decide) ?_
    obtain ⟨⟨r9_0, r9_1⟩, h_r9, h⟩ := bd_s h
    have h := up2_s h
    refine clVW (As := [.int (1 : Int32)]) (rest := []) (wr := [(o_s, .inl (ca 0, 1634, .inl o_s_d))]) (wn := [(o_s, .inl (ca 0, 1634, .inl o_s_d)), (o, .inr (7, [.ref o_s, .ref o_saved, .int o_savedCount, .ref o_text, .int o_textLength, .int r9_1, .int o_pieceCount, .ref o_pieceCell, .int o_at, .int o_commands, .ref o_letter, .ref o_number, .ref o_before, .long o_hash]))]) hx hb hml hown hts gX8_below_X8_fails rfl 1 kX8_fails ⟨Nat.le_of_ble_eq_true rfl, Nat.le_of_ble_eq_true rfl⟩ (ctX8_fails l D ca o o_s o_saved o_text o_pieceCell o_letter o_number o_before o_savedCount o_textLength (0 : Int32) o_pieceCount o_at o_commands o_hash (1 : Int32) _ r9_0 r9_1 h_r9) hP hD hS hA hK [0] [1] rfl (by decide) rfl (by decide) (by decide) 0 7 rfl rfl rfl rfl hl.1 rfl (Nat.le_of_ble_eq_true rfl) ⟨Nat.le_of_ble_eq_true rfl, Nat.le_of_ble_eq_true rfl⟩ dX8_below_15 rfl rfl (fun H locs hP hD hS => ?_)
    have hP := hP.sub (ws' := [(o, .inr (7, [.ref o_s, .ref o_saved, .int o_savedCount, .ref o_text, .int o_textLength, .int r9_1, .int o_pieceCount, .ref o_pieceCell, .int o_at, .int o_commands, .ref o_letter, .ref o_number, .ref o_before, .long o_hash])), (o_s, .inl (ca 0, 1634, .inl o_s_d))]) [1, 0] rfl
    have hD := hD.sub (ws' := [(o, .inr (7, [.ref o_s, .ref o_saved, .int o_savedCount, .ref o_text, .int o_textLength, .int r9_1, .int o_pieceCount, .ref o_pieceCell, .int o_at, .int o_commands, .ref o_letter, .ref o_number, .ref o_before, .long o_hash])), (o_s, .inl (ca 0, 1634, .inl o_s_d))]) [1, 0] (by decide) rfl
    cases h
    exact hret 18 ls _ _ _ hP hD hS rfl dX8_below_18
theorem mwX8_overtakes_0 : Cond.fieldLink RX8 31 "SegmentTimesModel" "code" "I" ∈ wsX8_overtakes := List.mem_of_getElem? (i := 1) rfl
theorem inX8_overtakes_X8 : ∀ w ∈ u_ws RX8 TX8 14, w ∈ wsX8_overtakes := fun w h => List.mem_cons_of_mem _ (List.mem_append_right _ (h))
theorem kX8_overtakes : yX8_overtakes.cls = RX8 ∧ yX8_overtakes.cls ≠ "java/lang/invoke/MethodHandle" ∧ yX8_overtakes.cls ≠ "java/lang/invoke/VarHandle" ∧ (parseMethodDescriptor yX8_overtakes.desc).map (fun d => d.parameters.length) = some 2 := by decide +kernel
set_option maxHeartbeats 4000000 in
set_option maxRecDepth 100000 in
theorem ctX8_overtakes (l : Launch) (D : va_G) (ca : Nat → ClassId) (o : Nat) (o_s : Nat) (o_saved : Nat) (o_text : Nat) (o_pieceCell : Nat) (o_letter : Nat) (o_number : Nat) (o_before : Nat) (o_savedCount : Int32) (o_textLength : Int32) (o_code : Int32) (o_pieceCount : Int32) (o_at : Int32) (o_commands : Int32) (o_hash : Int64) (o_s_d : Nat → Int32) (x1 : Int32) (x2 : Int32) (sz : Nat) (u0 : Int32) (u1 : Int32) (hf : fX8_overtakes o_code o_s_d x1 x2 = some (u0, u1)) : MW l yX8_overtakes wsX8_overtakes 3 65 D ca [.ref o, .int x1, .int x2] sz [(o, .inr (7, [.ref o_s, .ref o_saved, .int o_savedCount, .ref o_text, .int o_textLength, .int o_code, .int o_pieceCount, .ref o_pieceCell, .int o_at, .int o_commands, .ref o_letter, .ref o_number, .ref o_before, .long o_hash])), (o_s, .inl (ca 0, 1634, .inl o_s_d))] (some (.int u0)) [(o, .inr (7, [.ref o_s, .ref o_saved, .int o_savedCount, .ref o_text, .int o_textLength, .int u1, .int o_pieceCount, .ref o_pieceCell, .int o_at, .int o_commands, .ref o_letter, .ref o_number, .ref o_before, .long o_hash])), (o_s, .inl (ca 0, 1634, .inl o_s_d))] := by
  refine hdWi (by decide +kernel) rfl (Nat.le_of_ble_eq_true rfl) ?_
  intro p e s m args below meth c A Q hx hb hml hown hts hP hD hK hA hS hret ls hl
  have hown : s.vm.findClass RX8 = some m.cls := hown
  have hl : lv_has ls 5 [(0, .ref o), (1, .int x1), (2, .int x2)] := hl
  have h := hf
  unfold fX8_overtakes at h
  clear hf
  have J21 : ∀ (w_o_code : Int32), jX8_overtakes_21  w_o_code = some (u0, u1) → ∀ (H : Heap) (locs : List Loc), va_P D vwCl [(o, .inr (7, [.ref o_s, .ref o_saved, .int o_savedCount, .ref o_text, .int o_textLength, .int w_o_code, .int o_pieceCount, .ref o_pieceCell, .int o_at, .int o_commands, .ref o_letter, .ref o_number, .ref o_before, .long o_hash])), (o_s, .inl (ca 0, 1634, .inl o_s_d))] H → va_D A [(o, .inr (7, [.ref o_s, .ref o_saved, .int o_savedCount, .ref o_text, .int o_textLength, .int w_o_code, .int o_pieceCount, .ref o_pieceCell, .int o_at, .int o_commands, .ref o_letter, .ref o_number, .ref o_before, .long o_hash])), (o_s, .inl (ca 0, 1634, .inl o_s_d))] → va_S A s.heap H locs → ∀ ls, lv_has ls 5 [(0, .ref o)] → W p l e ({ frames := 3, cells := 0, slots := 0, locals := 65 }) s m args below meth c H locs 0 0 Q (F0 m 21 ls []) := by
    intro w_o_code h H locs hP hD hS ls hl
    unfold jX8_overtakes_21 at h
    refine lv_aload_n hx hb dX8_overtakes_21 rfl (lv_at hl 0 rfl) ?_
    refine lv_iconst (v := (1 : Int32)) hx hb dX8_overtakes_22 (by decide) ?_
    obtain ⟨⟨r1_0, r1_1⟩, h_r1, h⟩ := bd_s h
    have h := up2_s h
    refine clVW (As := [.int (1 : Int32)]) (rest := []) (wr := [(o_s, .inl (ca 0, 1634, .inl o_s_d))]) (wn := [(o_s, .inl (ca 0, 1634, .inl o_s_d)), (o, .inr (7, [.ref o_s, .ref o_saved, .int o_savedCount, .ref o_text, .int o_textLength, .int r1_1, .int o_pieceCount, .ref o_pieceCell, .int o_at, .int o_commands, .ref o_letter, .ref o_number, .ref o_before, .long o_hash]))]) hx hb hml hown hts gX8_overtakes_X8_fails rfl 1 kX8_fails ⟨Nat.le_of_ble_eq_true rfl, Nat.le_of_ble_eq_true rfl⟩ (ctX8_fails l D ca o o_s o_saved o_text o_pieceCell o_letter o_number o_before o_savedCount o_textLength w_o_code o_pieceCount o_at o_commands o_hash (1 : Int32) _ r1_0 r1_1 h_r1) hP hD hS hA hK [0] [1] rfl (by decide) rfl (by decide) (by decide) 0 7 rfl rfl rfl rfl hl.1 rfl (Nat.le_of_ble_eq_true rfl) ⟨Nat.le_of_ble_eq_true rfl, Nat.le_of_ble_eq_true rfl⟩ dX8_overtakes_23 rfl rfl (fun H locs hP hD hS => ?_)
    have hP := hP.sub (ws' := [(o, .inr (7, [.ref o_s, .ref o_saved, .int o_savedCount, .ref o_text, .int o_textLength, .int r1_1, .int o_pieceCount, .ref o_pieceCell, .int o_at, .int o_commands, .ref o_letter, .ref o_number, .ref o_before, .long o_hash])), (o_s, .inl (ca 0, 1634, .inl o_s_d))]) [1, 0] rfl
    have hD := hD.sub (ws' := [(o, .inr (7, [.ref o_s, .ref o_saved, .int o_savedCount, .ref o_text, .int o_textLength, .int r1_1, .int o_pieceCount, .ref o_pieceCell, .int o_at, .int o_commands, .ref o_letter, .ref o_number, .ref o_before, .long o_hash])), (o_s, .inl (ca 0, 1634, .inl o_s_d))]) [1, 0] (by decide) rfl
    cases h
    exact hret 26 ls _ _ _ hP hD hS rfl dX8_overtakes_26
  have L29 : ∀ (w_o_code : Int32) (n : Nat) (l3 : Int32), lp (fun q => bX8_overtakes_29 o_s_d x1 x2 w_o_code q) n l3 = some (u0, u1) → ∀ (H : Heap) (locs : List Loc), va_P D vwCl [(o, .inr (7, [.ref o_s, .ref o_saved, .int o_savedCount, .ref o_text, .int o_textLength, .int w_o_code, .int o_pieceCount, .ref o_pieceCell, .int o_at, .int o_commands, .ref o_letter, .ref o_number, .ref o_before, .long o_hash])), (o_s, .inl (ca 0, 1634, .inl o_s_d))] H → va_D A [(o, .inr (7, [.ref o_s, .ref o_saved, .int o_savedCount, .ref o_text, .int o_textLength, .int w_o_code, .int o_pieceCount, .ref o_pieceCell, .int o_at, .int o_commands, .ref o_letter, .ref o_number, .ref o_before, .long o_hash])), (o_s, .inl (ca 0, 1634, .inl o_s_d))] → va_S A s.heap H locs → ∀ ls, lv_has ls 5 [(0, .ref o), (1, .int x1), (2, .int x2), (3, .int l3)] → W p l e ({ frames := 3, cells := 0, slots := 0, locals := 65 }) s m args below meth c H locs 0 0 Q (F0 m 29 ls []) := by
    intro w_o_code n
    induction n with
    | zero => intro l3 h; exact (lp_0 h).elim
    | succ n ih29 =>
      intro l3 h H locs hP hD hS ls hl
      obtain ⟨q29, h, hq29⟩ := lp_s h
      have h : bX8_overtakes_29 o_s_d x1 x2 w_o_code l3 = some q29 := h
      unfold bX8_overtakes_29 at h
      have J85 : ∀ (l3 : Int32) (s0 : Int32), jX8_overtakes_85 o_s_d x1 x2 w_o_code l3 s0 = some q29 → ∀ (H : Heap) (locs : List Loc), va_P D vwCl [(o, .inr (7, [.ref o_s, .ref o_saved, .int o_savedCount, .ref o_text, .int o_textLength, .int w_o_code, .int o_pieceCount, .ref o_pieceCell, .int o_at, .int o_commands, .ref o_letter, .ref o_number, .ref o_before, .long o_hash])), (o_s, .inl (ca 0, 1634, .inl o_s_d))] H → va_D A [(o, .inr (7, [.ref o_s, .ref o_saved, .int o_savedCount, .ref o_text, .int o_textLength, .int w_o_code, .int o_pieceCount, .ref o_pieceCell, .int o_at, .int o_commands, .ref o_letter, .ref o_number, .ref o_before, .long o_hash])), (o_s, .inl (ca 0, 1634, .inl o_s_d))] → va_S A s.heap H locs → ∀ ls, lv_has ls 5 [(0, .ref o), (1, .int x1), (2, .int x2), (3, .int l3)] → W p l e ({ frames := 3, cells := 0, slots := 0, locals := 65 }) s m args below meth c H locs 0 0 Q (F0 m 85 ls [.int s0]) := by
        intro l3 s0 h H locs hP hD hS ls hl
        unfold jX8_overtakes_85 at h
        refine lv_istore (lv' := [(4, .int s0), (0, .ref o), (1, .int x1), (2, .int x2), (3, .int l3)]) hx hb dX8_overtakes_85 hl (by decide) rfl (fun ls hl => ?_)
        refine lv_iload hx hb dX8_overtakes_87 (lv_at hl 0 rfl) ?_
        refine lv_if_eq (tgt := 109) hx hb dX8_overtakes_89 (by decide) (fun c1 => ?_) (fun c1 => ?_)
        · have h := ip_s h c1
          obtain ⟨y2, e_y2, h⟩ := nm_s h
          refine lv_iinc (v := y2) (lv' := [(3, .int y2), (4, .int s0), (0, .ref o), (1, .int x1), (2, .int x2)]) hx hb dX8_overtakes_109 hl (k := 4) rfl (by rw [e_y2]; rfl) (by decide) rfl (fun ls hl => ?_)
          refine lv_goto (tgt := 29) hx hb dX8_overtakes_112 (by decide) ?_
          exact ih29 y2 (lp_l hq29 h) _ _ hP hD hS ls (lv_sub hl [2, 3, 4, 0] rfl)
        · have h := in_s h c1
          refine lv_aload_n hx hb dX8_overtakes_92 rfl (lv_at hl 1 rfl) ?_
          refine lv_iload_n hx hb dX8_overtakes_93 rfl (lv_at hl 3 rfl) ?_
          refine lv_iload_n hx hb dX8_overtakes_94 rfl (lv_at hl 4 rfl) ?_
          obtain ⟨r3, h_r3, h⟩ := bd_s h
          refine clVR (As := [.int x2, .int l3]) (rest := []) hx hb hml hown hts gX8_overtakes_X8_valueAt rfl 2 kX8_valueAt ⟨Nat.le_of_ble_eq_true rfl, Nat.le_of_ble_eq_true rfl⟩ (ctX8_valueAt l D ca o o_s o_saved o_text o_pieceCell o_letter o_number o_before o_savedCount o_textLength w_o_code o_pieceCount o_at o_commands o_hash o_s_d x2 l3 r3 h_r3) hP hK [0, 1] rfl 0 7 rfl rfl rfl rfl hl.1 rfl (Nat.le_of_ble_eq_true rfl) ⟨Nat.le_of_ble_eq_true rfl, Nat.le_of_ble_eq_true rfl⟩ dX8_overtakes_95 rfl ?_
          refine lv_aload_n hx hb dX8_overtakes_98 rfl (lv_at hl 1 rfl) ?_
          refine lv_iload_n hx hb dX8_overtakes_99 rfl (lv_at hl 2 rfl) ?_
          refine lv_iload_n hx hb dX8_overtakes_100 rfl (lv_at hl 4 rfl) ?_
          obtain ⟨r4, h_r4, h⟩ := bd_s h
          refine clVR (As := [.int x1, .int l3]) (rest := [.int r3]) hx hb hml hown hts gX8_overtakes_X8_valueAt rfl 2 kX8_valueAt ⟨Nat.le_of_ble_eq_true rfl, Nat.le_of_ble_eq_true rfl⟩ (ctX8_valueAt l D ca o o_s o_saved o_text o_pieceCell o_letter o_number o_before o_savedCount o_textLength w_o_code o_pieceCount o_at o_commands o_hash o_s_d x1 l3 r4 h_r4) hP hK [0, 1] rfl 0 7 rfl rfl rfl rfl hl.1 rfl (Nat.le_of_ble_eq_true rfl) ⟨Nat.le_of_ble_eq_true rfl, Nat.le_of_ble_eq_true rfl⟩ dX8_overtakes_101 rfl ?_
          refine lv_icmp_ge (tgt := 109) hx hb dX8_overtakes_104 (by decide) (fun c5 => ?_) (fun c5 => ?_)
          · have h := ip_s h c5
            obtain ⟨y6, e_y6, h⟩ := nm_s h
            refine lv_iinc (v := y6) (lv' := [(3, .int y6), (4, .int s0), (0, .ref o), (1, .int x1), (2, .int x2)]) hx hb dX8_overtakes_109 hl (k := 4) rfl (by rw [e_y6]; rfl) (by decide) rfl (fun ls hl => ?_)
            refine lv_goto (tgt := 29) hx hb dX8_overtakes_112 (by decide) ?_
            exact ih29 y6 (lp_l hq29 h) _ _ hP hD hS ls (lv_sub hl [2, 3, 4, 0] rfl)
          · have h := in_s h c5
            have h := xt_s hq29 h
            refine lv_iload_n hx hb dX8_overtakes_107 rfl (lv_at hl 4 rfl) ?_
            cases h
            exact hret 108 ls _ _ _ hP hD hS rfl dX8_overtakes_108
      have J84 : ∀ (l3 : Int32), jX8_overtakes_84 o_s_d x1 x2 w_o_code l3 = some q29 → ∀ (H : Heap) (locs : List Loc), va_P D vwCl [(o, .inr (7, [.ref o_s, .ref o_saved, .int o_savedCount, .ref o_text, .int o_textLength, .int w_o_code, .int o_pieceCount, .ref o_pieceCell, .int o_at, .int o_commands, .ref o_letter, .ref o_number, .ref o_before, .long o_hash])), (o_s, .inl (ca 0, 1634, .inl o_s_d))] H → va_D A [(o, .inr (7, [.ref o_s, .ref o_saved, .int o_savedCount, .ref o_text, .int o_textLength, .int w_o_code, .int o_pieceCount, .ref o_pieceCell, .int o_at, .int o_commands, .ref o_letter, .ref o_number, .ref o_before, .long o_hash])), (o_s, .inl (ca 0, 1634, .inl o_s_d))] → va_S A s.heap H locs → ∀ ls, lv_has ls 5 [(0, .ref o), (1, .int x1), (2, .int x2), (3, .int l3)] → W p l e ({ frames := 3, cells := 0, slots := 0, locals := 65 }) s m args below meth c H locs 0 0 Q (F0 m 84 ls []) := by
        intro l3 h H locs hP hD hS ls hl
        unfold jX8_overtakes_84 at h
        refine lv_iconst (v := (0 : Int32)) hx hb dX8_overtakes_84 (by decide) ?_
        exact J85 l3 (0 : Int32) h _ _ hP hD hS ls (lv_sub hl [0, 1, 2, 3] rfl)
      refine lv_iload_n hx hb dX8_overtakes_29 rfl (lv_at hl 3 rfl) ?_
      refine lv_sipush (v := (255 : Int32)) hx hb dX8_overtakes_30 (by decide) ?_
      refine lv_icmp_gt (tgt := 115) hx hb dX8_overtakes_33 (by decide) (fun c1 => ?_) (fun c1 => ?_)
      · have h := ip_s h c1
        have h := xt_s hq29 h
        refine lv_iconst (v := (-1 : Int32)) hx hb dX8_overtakes_115 (by decide) ?_
        cases h
        exact hret 116 ls _ _ _ hP hD hS rfl dX8_overtakes_116
      · have h := in_s h c1
        refine lv_iload_n hx hb dX8_overtakes_36 rfl (lv_at hl 3 rfl) ?_
        refine lv_i2l (v := (l3).toInt64) hx hb dX8_overtakes_37 rfl ?_
        refine lv_aload_n hx hb dX8_overtakes_38 rfl (lv_at hl 0 rfl) ?_
        refine lv_iload_n hx hb dX8_overtakes_39 rfl (lv_at hl 1 rfl) ?_
        refine lv_iconst (v := (2 : Int32)) hx hb dX8_overtakes_40 (by decide) ?_
        obtain ⟨r2, h_r2, h⟩ := bd_s h
        refine clVR (As := [.int x1, .int (2 : Int32)]) (rest := [.long (l3).toInt64]) hx hb hml hown hts gX8_overtakes_X8_of rfl 2 kX8_of ⟨Nat.le_of_ble_eq_true rfl, Nat.le_of_ble_eq_true rfl⟩ (ctX8_of l D ca o o_s o_saved o_text o_pieceCell o_letter o_number o_before o_savedCount o_textLength w_o_code o_pieceCount o_at o_commands o_hash o_s_d x1 (2 : Int32) r2 h_r2) hP hK [0, 1] rfl 0 7 rfl rfl rfl rfl hl.1 rfl (Nat.le_of_ble_eq_true rfl) ⟨Nat.le_of_ble_eq_true rfl, Nat.le_of_ble_eq_true rfl⟩ dX8_overtakes_41 rfl ?_
        refine lv_i2l (v := (r2).toInt64) hx hb dX8_overtakes_44 rfl ?_
        refine lv_aload_n hx hb dX8_overtakes_45 rfl (lv_at hl 0 rfl) ?_
        refine lv_iload_n hx hb dX8_overtakes_46 rfl (lv_at hl 1 rfl) ?_
        refine lv_iconst (v := (3 : Int32)) hx hb dX8_overtakes_47 (by decide) ?_
        obtain ⟨r3, h_r3, h⟩ := bd_s h
        refine clVR (As := [.int x1, .int (3 : Int32)]) (rest := [.long (r2).toInt64, .long (l3).toInt64]) hx hb hml hown hts gX8_overtakes_X8_of rfl 2 kX8_of ⟨Nat.le_of_ble_eq_true rfl, Nat.le_of_ble_eq_true rfl⟩ (ctX8_of l D ca o o_s o_saved o_text o_pieceCell o_letter o_number o_before o_savedCount o_textLength w_o_code o_pieceCount o_at o_commands o_hash o_s_d x1 (3 : Int32) r3 h_r3) hP hK [0, 1] rfl 0 7 rfl rfl rfl rfl hl.1 rfl (Nat.le_of_ble_eq_true rfl) ⟨Nat.le_of_ble_eq_true rfl, Nat.le_of_ble_eq_true rfl⟩ dX8_overtakes_48 rfl ?_
        refine lv_i2l (v := (r3).toInt64) hx hb dX8_overtakes_51 rfl ?_
        obtain ⟨r4, h_r4, h⟩ := bd_s h
        refine clSR (As := [.long (l3).toInt64, .long (r2).toInt64, .long (r3).toInt64]) (rest := []) hx hb hml hown hts gX8_overtakes_X8_in rfl 3 kX8_in.2 ⟨Nat.le_of_ble_eq_true rfl, Nat.le_of_ble_eq_true rfl⟩ (ctX8_in l D ca   ((l3).toInt64) ((r2).toInt64) ((r3).toInt64) r4 h_r4) hP hK [] rfl rfl hl.1 rfl (Nat.le_of_ble_eq_true rfl) ⟨Nat.le_of_ble_eq_true rfl, Nat.le_of_ble_eq_true rfl⟩ dX8_overtakes_52 rfl ?_
        refine lv_if_eq (tgt := 84) hx hb dX8_overtakes_55 (by decide) (fun c5 => ?_) (fun c5 => ?_)
        · have h := ip_s h c5
          exact J84 l3 h _ _ hP hD hS ls (lv_sub hl [0, 1, 2, 3] rfl)
        · have h := in_s h c5
          refine lv_iload_n hx hb dX8_overtakes_58 rfl (lv_at hl 3 rfl) ?_
          refine lv_i2l (v := (l3).toInt64) hx hb dX8_overtakes_59 rfl ?_
          refine lv_aload_n hx hb dX8_overtakes_60 rfl (lv_at hl 0 rfl) ?_
          refine lv_iload_n hx hb dX8_overtakes_61 rfl (lv_at hl 2 rfl) ?_
          refine lv_iconst (v := (2 : Int32)) hx hb dX8_overtakes_62 (by decide) ?_
          obtain ⟨r7, h_r7, h⟩ := bd_s h
          refine clVR (As := [.int x2, .int (2 : Int32)]) (rest := [.long (l3).toInt64]) hx hb hml hown hts gX8_overtakes_X8_of rfl 2 kX8_of ⟨Nat.le_of_ble_eq_true rfl, Nat.le_of_ble_eq_true rfl⟩ (ctX8_of l D ca o o_s o_saved o_text o_pieceCell o_letter o_number o_before o_savedCount o_textLength w_o_code o_pieceCount o_at o_commands o_hash o_s_d x2 (2 : Int32) r7 h_r7) hP hK [0, 1] rfl 0 7 rfl rfl rfl rfl hl.1 rfl (Nat.le_of_ble_eq_true rfl) ⟨Nat.le_of_ble_eq_true rfl, Nat.le_of_ble_eq_true rfl⟩ dX8_overtakes_63 rfl ?_
          refine lv_i2l (v := (r7).toInt64) hx hb dX8_overtakes_66 rfl ?_
          refine lv_aload_n hx hb dX8_overtakes_67 rfl (lv_at hl 0 rfl) ?_
          refine lv_iload_n hx hb dX8_overtakes_68 rfl (lv_at hl 2 rfl) ?_
          refine lv_iconst (v := (3 : Int32)) hx hb dX8_overtakes_69 (by decide) ?_
          obtain ⟨r8, h_r8, h⟩ := bd_s h
          refine clVR (As := [.int x2, .int (3 : Int32)]) (rest := [.long (r7).toInt64, .long (l3).toInt64]) hx hb hml hown hts gX8_overtakes_X8_of rfl 2 kX8_of ⟨Nat.le_of_ble_eq_true rfl, Nat.le_of_ble_eq_true rfl⟩ (ctX8_of l D ca o o_s o_saved o_text o_pieceCell o_letter o_number o_before o_savedCount o_textLength w_o_code o_pieceCount o_at o_commands o_hash o_s_d x2 (3 : Int32) r8 h_r8) hP hK [0, 1] rfl 0 7 rfl rfl rfl rfl hl.1 rfl (Nat.le_of_ble_eq_true rfl) ⟨Nat.le_of_ble_eq_true rfl, Nat.le_of_ble_eq_true rfl⟩ dX8_overtakes_70 rfl ?_
          refine lv_i2l (v := (r8).toInt64) hx hb dX8_overtakes_73 rfl ?_
          obtain ⟨r9, h_r9, h⟩ := bd_s h
          refine clSR (As := [.long (l3).toInt64, .long (r7).toInt64, .long (r8).toInt64]) (rest := []) hx hb hml hown hts gX8_overtakes_X8_in rfl 3 kX8_in.2 ⟨Nat.le_of_ble_eq_true rfl, Nat.le_of_ble_eq_true rfl⟩ (ctX8_in l D ca   ((l3).toInt64) ((r7).toInt64) ((r8).toInt64) r9 h_r9) hP hK [] rfl rfl hl.1 rfl (Nat.le_of_ble_eq_true rfl) ⟨Nat.le_of_ble_eq_true rfl, Nat.le_of_ble_eq_true rfl⟩ dX8_overtakes_74 rfl ?_
          refine lv_if_eq (tgt := 84) hx hb dX8_overtakes_77 (by decide) (fun c10 => ?_) (fun c10 => ?_)
          · have h := ip_s h c10
            exact J84 l3 h _ _ hP hD hS ls (lv_sub hl [0, 1, 2, 3] rfl)
          · have h := in_s h c10
            refine lv_iconst (v := (1 : Int32)) hx hb dX8_overtakes_80 (by decide) ?_
            refine lv_goto (tgt := 85) hx hb dX8_overtakes_81 (by decide) ?_
            exact J85 l3 (1 : Int32) h _ _ hP hD hS ls (lv_sub hl [0, 1, 2, 3] rfl)
  refine lv_aload_n hx hb dX8_overtakes_0 rfl (lv_at hl 0 rfl) ?_
  refine lv_iconst (v := (0 : Int32)) hx hb dX8_overtakes_1 (by decide) ?_
  refine ptI (ci := 7) (v := .int (0 : Int32)) (ty := .int) (C := RX8) (T := TX8) (N := 14) (wn := [(o, .inr (7, [.ref o_s, .ref o_saved, .int o_savedCount, .ref o_text, .int o_textLength, .int (0 : Int32), .int o_pieceCount, .ref o_pieceCell, .int o_at, .int o_commands, .ref o_letter, .ref o_number, .ref o_before, .long o_hash])), (o_s, .inl (ca 0, 1634, .inl o_s_d))]) hx hb hts inX8_overtakes_X8 tyX8 tyX8_ok nmX8 hown hK hP hD hS 0 rfl rfl 5 (by decide) mwX8_overtakes_0 rfl rfl (by decide +kernel) rfl rfl (Nat.le_of_ble_eq_true rfl) rfl dX8_overtakes_2 (fun H locs hP hD hS => ?_)
  refine lv_aload_n hx hb dX8_overtakes_5 rfl (lv_at hl 0 rfl) ?_
  refine lv_iload_n hx hb dX8_overtakes_6 rfl (lv_at hl 1 rfl) ?_
  obtain ⟨r1, h_r1, h⟩ := bd_s h
  refine clVR (As := [.int x1]) (rest := []) hx hb hml hown hts gX8_overtakes_X8_isSegment rfl 1 kX8_isSegment ⟨Nat.le_of_ble_eq_true rfl, Nat.le_of_ble_eq_true rfl⟩ (ctX8_isSegment l D ca o o_s o_saved o_text o_pieceCell o_letter o_number o_before o_savedCount o_textLength (0 : Int32) o_pieceCount o_at o_commands o_hash o_s_d x1 r1 h_r1) hP hK [0, 1] rfl 0 7 rfl rfl rfl rfl hl.1 rfl (Nat.le_of_ble_eq_true rfl) ⟨Nat.le_of_ble_eq_true rfl, Nat.le_of_ble_eq_true rfl⟩ dX8_overtakes_7 rfl ?_
  refine lv_if_eq (tgt := 21) hx hb dX8_overtakes_10 (by decide) (fun c2 => ?_) (fun c2 => ?_)
  · have h := ip_s h c2
    exact J21 (0 : Int32) h _ _ hP hD hS ls (lv_sub hl [0] rfl)
  · have h := in_s h c2
    refine lv_aload_n hx hb dX8_overtakes_13 rfl (lv_at hl 0 rfl) ?_
    refine lv_iload_n hx hb dX8_overtakes_14 rfl (lv_at hl 2 rfl) ?_
    obtain ⟨r3, h_r3, h⟩ := bd_s h
    refine clVR (As := [.int x2]) (rest := []) hx hb hml hown hts gX8_overtakes_X8_isSegment rfl 1 kX8_isSegment ⟨Nat.le_of_ble_eq_true rfl, Nat.le_of_ble_eq_true rfl⟩ (ctX8_isSegment l D ca o o_s o_saved o_text o_pieceCell o_letter o_number o_before o_savedCount o_textLength (0 : Int32) o_pieceCount o_at o_commands o_hash o_s_d x2 r3 h_r3) hP hK [0, 1] rfl 0 7 rfl rfl rfl rfl hl.1 rfl (Nat.le_of_ble_eq_true rfl) ⟨Nat.le_of_ble_eq_true rfl, Nat.le_of_ble_eq_true rfl⟩ dX8_overtakes_15 rfl ?_
    refine lv_if_ne (tgt := 27) hx hb dX8_overtakes_18 (by decide) (fun c4 => ?_) (fun c4 => ?_)
    · have h := in_s h c4
      refine lv_iconst (v := (0 : Int32)) hx hb dX8_overtakes_27 (by decide) ?_
      refine lv_istore_n (lv' := [(3, .int (0 : Int32)), (0, .ref o), (1, .int x1), (2, .int x2)]) hx hb dX8_overtakes_28 rfl hl (by decide) rfl (fun ls hl => ?_)
      exact L29 (0 : Int32) fuel (0 : Int32) h _ _ hP hD hS ls (lv_sub hl [1, 2, 3, 0] rfl)
    · have h := ip_s h c4
      exact J21 (0 : Int32) h _ _ hP hD hS ls (lv_sub hl [0] rfl)
theorem mwX8_layPieces_0 : Cond.fieldLink RX8 139 "SegmentTimesModel" "pieceCount" "I" ∈ wsX8_layPieces := List.mem_of_getElem? (i := 1) rfl
theorem mwX8_layPieces_1 : Cond.fieldLink RX8 19 "SegmentTimesModel" "pieceCell" "[I" ∈ wsX8_layPieces := List.mem_of_getElem? (i := 2) rfl
theorem inX8_layPieces_X8 : ∀ w ∈ u_ws RX8 TX8 14, w ∈ wsX8_layPieces := fun w h => List.mem_cons_of_mem _ (List.mem_append_right _ (h))
theorem kX8_layPieces : yX8_layPieces.cls = RX8 ∧ yX8_layPieces.cls ≠ "java/lang/invoke/MethodHandle" ∧ yX8_layPieces.cls ≠ "java/lang/invoke/VarHandle" ∧ (parseMethodDescriptor yX8_layPieces.desc).map (fun d => d.parameters.length) = some 1 := by decide +kernel
set_option maxHeartbeats 4000000 in
set_option maxRecDepth 100000 in
theorem ctX8_layPieces (l : Launch) (D : va_G) (ca : Nat → ClassId) (o : Nat) (o_s : Nat) (o_saved : Nat) (o_text : Nat) (o_pieceCell : Nat) (o_letter : Nat) (o_number : Nat) (o_before : Nat) (o_savedCount : Int32) (o_textLength : Int32) (o_code : Int32) (o_pieceCount : Int32) (o_at : Int32) (o_commands : Int32) (o_hash : Int64) (o_s_d : Nat → Int32) (o_pieceCell_d : Nat → Int32) (x1 : Int32) (sz : Nat) (u0 : Int32) (u1 : Nat → Int32) (hf : fX8_layPieces o_pieceCount o_s_d o_pieceCell_d x1 = some (u0, u1)) : MW l yX8_layPieces wsX8_layPieces 5 114 D ca [.ref o, .int x1] sz [(o, .inr (7, [.ref o_s, .ref o_saved, .int o_savedCount, .ref o_text, .int o_textLength, .int o_code, .int o_pieceCount, .ref o_pieceCell, .int o_at, .int o_commands, .ref o_letter, .ref o_number, .ref o_before, .long o_hash])), (o_s, .inl (ca 0, 1634, .inl o_s_d)), (o_pieceCell, .inl (ca 0, 768, .inl o_pieceCell_d))] none [(o, .inr (7, [.ref o_s, .ref o_saved, .int o_savedCount, .ref o_text, .int o_textLength, .int o_code, .int u0, .ref o_pieceCell, .int o_at, .int o_commands, .ref o_letter, .ref o_number, .ref o_before, .long o_hash])), (o_s, .inl (ca 0, 1634, .inl o_s_d)), (o_pieceCell, .inl (ca 0, 768, .inl u1))] := by
  refine hdWv (by decide +kernel) rfl (Nat.le_of_ble_eq_true rfl) rfl ?_
  intro p e s m args below meth c A Q hx hb hml hown hts hP hD hK hA hS hret ls hl
  have hown : s.vm.findClass RX8 = some m.cls := hown
  have hl : lv_has ls 5 [(0, .ref o), (1, .int x1)] := hl
  have h := hf
  unfold fX8_layPieces at h
  clear hf
  have L7 : ∀  (n : Nat) (l2 : Int32) (w_o_pieceCount : Int32) (w_o_pieceCell_d : Nat → Int32), lp (fun q => bX8_layPieces_7 o_s_d x1  q.1 q.2.1 q.2.2) n (l2, w_o_pieceCount, w_o_pieceCell_d) = some (u0, u1) → ∀ (H : Heap) (locs : List Loc), va_P D vwCl [(o, .inr (7, [.ref o_s, .ref o_saved, .int o_savedCount, .ref o_text, .int o_textLength, .int o_code, .int w_o_pieceCount, .ref o_pieceCell, .int o_at, .int o_commands, .ref o_letter, .ref o_number, .ref o_before, .long o_hash])), (o_s, .inl (ca 0, 1634, .inl o_s_d)), (o_pieceCell, .inl (ca 0, 768, .inl w_o_pieceCell_d))] H → va_D A [(o, .inr (7, [.ref o_s, .ref o_saved, .int o_savedCount, .ref o_text, .int o_textLength, .int o_code, .int w_o_pieceCount, .ref o_pieceCell, .int o_at, .int o_commands, .ref o_letter, .ref o_number, .ref o_before, .long o_hash])), (o_s, .inl (ca 0, 1634, .inl o_s_d)), (o_pieceCell, .inl (ca 0, 768, .inl w_o_pieceCell_d))] → va_S A s.heap H locs → ∀ ls, lv_has ls 5 [(0, .ref o), (1, .int x1), (2, .int l2)] → W p l e ({ frames := 5, cells := 0, slots := 0, locals := 114 }) s m args below meth c H locs 0 0 Q (F0 m 7 ls []) := by
    intro  n
    induction n with
    | zero => intro l2 w_o_pieceCount w_o_pieceCell_d h; exact (lp_0 h).elim
    | succ n ih7 =>
      intro l2 w_o_pieceCount w_o_pieceCell_d h H locs hP hD hS ls hl
      obtain ⟨q7, h, hq7⟩ := lp_s h
      have h : bX8_layPieces_7 o_s_d x1  l2 w_o_pieceCount w_o_pieceCell_d = some q7 := h
      unfold bX8_layPieces_7 at h
      have J64 : ∀ (l2 : Int32) (l3 : Int32) (l4 : Int32) (w_o_pieceCount : Int32) (w_o_pieceCell_d : Nat → Int32), jX8_layPieces_64  l2 l3 l4 w_o_pieceCount w_o_pieceCell_d = some q7 → ∀ (H : Heap) (locs : List Loc), va_P D vwCl [(o, .inr (7, [.ref o_s, .ref o_saved, .int o_savedCount, .ref o_text, .int o_textLength, .int o_code, .int w_o_pieceCount, .ref o_pieceCell, .int o_at, .int o_commands, .ref o_letter, .ref o_number, .ref o_before, .long o_hash])), (o_s, .inl (ca 0, 1634, .inl o_s_d)), (o_pieceCell, .inl (ca 0, 768, .inl w_o_pieceCell_d))] H → va_D A [(o, .inr (7, [.ref o_s, .ref o_saved, .int o_savedCount, .ref o_text, .int o_textLength, .int o_code, .int w_o_pieceCount, .ref o_pieceCell, .int o_at, .int o_commands, .ref o_letter, .ref o_number, .ref o_before, .long o_hash])), (o_s, .inl (ca 0, 1634, .inl o_s_d)), (o_pieceCell, .inl (ca 0, 768, .inl w_o_pieceCell_d))] → va_S A s.heap H locs → ∀ ls, lv_has ls 5 [(0, .ref o), (1, .int x1), (2, .int l2), (3, .int l3), (4, .int l4)] → W p l e ({ frames := 5, cells := 0, slots := 0, locals := 114 }) s m args below meth c H locs 0 0 Q (F0 m 64 ls []) := by
        intro l2 l3 l4 w_o_pieceCount w_o_pieceCell_d h H locs hP hD hS ls hl
        unfold jX8_layPieces_64 at h
        refine lv_aload_n hx hb dX8_layPieces_64 rfl (lv_at hl 0 rfl) ?_
        refine gtF (ci := 7) (v := .ref o_pieceCell) (C := RX8) (T := TX8) (N := 14) hx hb hts inX8_layPieces_X8 hown hK hP 0 rfl rfl 7 (by decide) mwX8_layPieces_1 rfl rfl dX8_layPieces_65 ?_
        refine lv_iload hx hb dX8_layPieces_68 (lv_at hl 4 rfl) ?_
        refine lv_iconst (v := (3 : Int32)) hx hb dX8_layPieces_70 (by decide) ?_
        refine lv_iadd hx hb dX8_layPieces_71 ?_
        refine lv_iload_n hx hb dX8_layPieces_72 rfl (lv_at hl 2 rfl) ?_
        obtain ⟨hin, g1, e_g1, h⟩ := wr_s h
        refine stI (wn := [(o, .inr (7, [.ref o_s, .ref o_saved, .int o_savedCount, .ref o_text, .int o_textLength, .int o_code, .int w_o_pieceCount, .ref o_pieceCell, .int o_at, .int o_commands, .ref o_letter, .ref o_number, .ref o_before, .long o_hash])), (o_s, .inl (ca 0, 1634, .inl o_s_d)), (o_pieceCell, .inl (ca 0, 768, .inl g1))]) hx hb hK hP hD hS 2 rfl hin e_g1 rfl dX8_layPieces_73 (fun H locs hP hD hS => ?_)
        refine lv_aload_n hx hb dX8_layPieces_74 rfl (lv_at hl 0 rfl) ?_
        refine gtF (ci := 7) (v := .ref o_pieceCell) (C := RX8) (T := TX8) (N := 14) hx hb hts inX8_layPieces_X8 hown hK hP 0 rfl rfl 7 (by decide) mwX8_layPieces_1 rfl rfl dX8_layPieces_75 ?_
        refine lv_iload hx hb dX8_layPieces_78 (lv_at hl 4 rfl) ?_
        refine lv_iconst (v := (4 : Int32)) hx hb dX8_layPieces_80 (by decide) ?_
        refine lv_iadd hx hb dX8_layPieces_81 ?_
        refine lv_iload_n hx hb dX8_layPieces_82 rfl (lv_at hl 2 rfl) ?_
        obtain ⟨hin, g2, e_g2, h⟩ := wr_s h
        refine stI (wn := [(o, .inr (7, [.ref o_s, .ref o_saved, .int o_savedCount, .ref o_text, .int o_textLength, .int o_code, .int w_o_pieceCount, .ref o_pieceCell, .int o_at, .int o_commands, .ref o_letter, .ref o_number, .ref o_before, .long o_hash])), (o_s, .inl (ca 0, 1634, .inl o_s_d)), (o_pieceCell, .inl (ca 0, 768, .inl g2))]) hx hb hK hP hD hS 2 rfl hin e_g2 rfl dX8_layPieces_83 (fun H locs hP hD hS => ?_)
        refine lv_aload_n hx hb dX8_layPieces_84 rfl (lv_at hl 0 rfl) ?_
        refine gtF (ci := 7) (v := .ref o_pieceCell) (C := RX8) (T := TX8) (N := 14) hx hb hts inX8_layPieces_X8 hown hK hP 0 rfl rfl 7 (by decide) mwX8_layPieces_1 rfl rfl dX8_layPieces_85 ?_
        refine lv_iload hx hb dX8_layPieces_88 (lv_at hl 4 rfl) ?_
        refine lv_iconst (v := (5 : Int32)) hx hb dX8_layPieces_90 (by decide) ?_
        refine lv_iadd hx hb dX8_layPieces_91 ?_
        refine lv_iload_n hx hb dX8_layPieces_92 rfl (lv_at hl 3 rfl) ?_
        obtain ⟨hin, g3, e_g3, h⟩ := wr_s h
        refine stI (wn := [(o, .inr (7, [.ref o_s, .ref o_saved, .int o_savedCount, .ref o_text, .int o_textLength, .int o_code, .int w_o_pieceCount, .ref o_pieceCell, .int o_at, .int o_commands, .ref o_letter, .ref o_number, .ref o_before, .long o_hash])), (o_s, .inl (ca 0, 1634, .inl o_s_d)), (o_pieceCell, .inl (ca 0, 768, .inl g3))]) hx hb hK hP hD hS 2 rfl hin e_g3 rfl dX8_layPieces_93 (fun H locs hP hD hS => ?_)
        refine lv_aload_n hx hb dX8_layPieces_94 rfl (lv_at hl 0 rfl) ?_
        refine lv_dup hx hb dX8_layPieces_95 rfl ?_
        refine gtF (ci := 7) (v := .int w_o_pieceCount) (C := RX8) (T := TX8) (N := 14) hx hb hts inX8_layPieces_X8 hown hK hP 0 rfl rfl 6 (by decide) mwX8_layPieces_0 rfl rfl dX8_layPieces_96 ?_
        refine lv_iconst (v := (1 : Int32)) hx hb dX8_layPieces_99 (by decide) ?_
        refine lv_iadd hx hb dX8_layPieces_100 ?_
        obtain ⟨y4, e_y4, h⟩ := nm_s h
        refine top_i e_y4 ?_
        refine ptI (ci := 7) (v := .int y4) (ty := .int) (C := RX8) (T := TX8) (N := 14) (wn := [(o, .inr (7, [.ref o_s, .ref o_saved, .int o_savedCount, .ref o_text, .int o_textLength, .int o_code, .int y4, .ref o_pieceCell, .int o_at, .int o_commands, .ref o_letter, .ref o_number, .ref o_before, .long o_hash])), (o_s, .inl (ca 0, 1634, .inl o_s_d)), (o_pieceCell, .inl (ca 0, 768, .inl g3))]) hx hb hts inX8_layPieces_X8 tyX8 tyX8_ok nmX8 hown hK hP hD hS 0 rfl rfl 6 (by decide) mwX8_layPieces_0 rfl rfl (by decide +kernel) rfl rfl (Nat.le_of_ble_eq_true rfl) rfl dX8_layPieces_101 (fun H locs hP hD hS => ?_)
        obtain ⟨y5, e_y5, h⟩ := nm_s h
        refine lv_iinc (v := y5) (lv' := [(2, .int y5), (0, .ref o), (1, .int x1), (3, .int l3), (4, .int l4)]) hx hb dX8_layPieces_104 hl (k := 2) rfl (by rw [e_y5]; rfl) (by decide) rfl (fun ls hl => ?_)
        refine lv_goto (tgt := 7) hx hb dX8_layPieces_107 (by decide) ?_
        exact ih7 y5 y4 g3 (lp_l hq7 h) _ _ hP hD hS ls (lv_sub hl [1, 2, 0] rfl)
      refine lv_iload_n hx hb dX8_layPieces_7 rfl (lv_at hl 2 rfl) ?_
      refine lv_sipush (v := (255 : Int32)) hx hb dX8_layPieces_8 (by decide) ?_
      refine lv_icmp_gt (tgt := 110) hx hb dX8_layPieces_11 (by decide) (fun c1 => ?_) (fun c1 => ?_)
      · have h := ip_s h c1
        have h := xt_s hq7 h
        cases h
        exact hret 110 ls _ _ hP hD hS rfl dX8_layPieces_110
      · have h := in_s h c1
        refine lv_aload_n hx hb dX8_layPieces_14 rfl (lv_at hl 0 rfl) ?_
        refine lv_iload_n hx hb dX8_layPieces_15 rfl (lv_at hl 2 rfl) ?_
        refine lv_iload_n hx hb dX8_layPieces_16 rfl (lv_at hl 1 rfl) ?_
        obtain ⟨r2, h_r2, h⟩ := bd_s h
        refine clVR (As := [.int l2, .int x1]) (rest := []) hx hb hml hown hts gX8_layPieces_X8_firstAt rfl 2 kX8_firstAt ⟨Nat.le_of_ble_eq_true rfl, Nat.le_of_ble_eq_true rfl⟩ (ctX8_firstAt l D ca o o_s o_saved o_text o_pieceCell o_letter o_number o_before o_savedCount o_textLength o_code w_o_pieceCount o_at o_commands o_hash o_s_d l2 x1 r2 h_r2) hP hK [0, 1] rfl 0 7 rfl rfl rfl rfl hl.1 rfl (Nat.le_of_ble_eq_true rfl) ⟨Nat.le_of_ble_eq_true rfl, Nat.le_of_ble_eq_true rfl⟩ dX8_layPieces_17 rfl ?_
        refine lv_istore_n (lv' := [(3, .int r2), (0, .ref o), (1, .int x1), (2, .int l2)]) hx hb dX8_layPieces_20 rfl hl (by decide) rfl (fun ls hl => ?_)
        refine lv_iconst (v := (3 : Int32)) hx hb dX8_layPieces_21 (by decide) ?_
        refine lv_aload_n hx hb dX8_layPieces_22 rfl (lv_at hl 1 rfl) ?_
        refine gtF (ci := 7) (v := .int w_o_pieceCount) (C := RX8) (T := TX8) (N := 14) hx hb hts inX8_layPieces_X8 hown hK hP 0 rfl rfl 6 (by decide) mwX8_layPieces_0 rfl rfl dX8_layPieces_23 ?_
        refine lv_iconst (v := (1 : Int32)) hx hb dX8_layPieces_26 (by decide) ?_
        refine lv_isub hx hb dX8_layPieces_27 ?_
        refine lv_imul hx hb dX8_layPieces_28 ?_
        obtain ⟨y3, e_y3, h⟩ := nm_s h
        refine top_i e_y3 ?_
        refine lv_istore (lv' := [(4, .int y3), (3, .int r2), (0, .ref o), (1, .int x1), (2, .int l2)]) hx hb dX8_layPieces_29 hl (by decide) rfl (fun ls hl => ?_)
        refine lv_aload_n hx hb dX8_layPieces_31 rfl (lv_at hl 2 rfl) ?_
        refine gtF (ci := 7) (v := .int w_o_pieceCount) (C := RX8) (T := TX8) (N := 14) hx hb hts inX8_layPieces_X8 hown hK hP 0 rfl rfl 6 (by decide) mwX8_layPieces_0 rfl rfl dX8_layPieces_32 ?_
        refine lv_if_le (tgt := 64) hx hb dX8_layPieces_35 (by decide) (fun c4 => ?_) (fun c4 => ?_)
        · have h := ip_s h c4
          exact J64 l2 r2 y3 w_o_pieceCount w_o_pieceCell_d h _ _ hP hD hS ls (lv_sub hl [2, 3, 4, 1, 0] rfl)
        · have h := in_s h c4
          refine lv_aload_n hx hb dX8_layPieces_38 rfl (lv_at hl 2 rfl) ?_
          refine gtF (ci := 7) (v := .ref o_pieceCell) (C := RX8) (T := TX8) (N := 14) hx hb hts inX8_layPieces_X8 hown hK hP 0 rfl rfl 7 (by decide) mwX8_layPieces_1 rfl rfl dX8_layPieces_39 ?_
          refine lv_iload hx hb dX8_layPieces_42 (lv_at hl 0 rfl) ?_
          refine lv_iconst (v := (2 : Int32)) hx hb dX8_layPieces_44 (by decide) ?_
          refine lv_iadd hx hb dX8_layPieces_45 ?_
          obtain ⟨hin, y6, e_y6, h⟩ := rd_s h
          refine ldI hx hb hK hP 2 rfl hin dX8_layPieces_46 ?_
          refine top_i e_y6 ?_
          refine lv_iload_n hx hb dX8_layPieces_47 rfl (lv_at hl 1 rfl) ?_
          refine lv_icmp_ne (tgt := 64) hx hb dX8_layPieces_48 (by decide) (fun c7 => ?_) (fun c7 => ?_)
          · have h := in_s h c7
            exact J64 l2 r2 y3 w_o_pieceCount w_o_pieceCell_d h _ _ hP hD hS ls (lv_sub hl [2, 3, 4, 1, 0] rfl)
          · have h := ip_s h c7
            refine lv_aload_n hx hb dX8_layPieces_51 rfl (lv_at hl 2 rfl) ?_
            refine gtF (ci := 7) (v := .ref o_pieceCell) (C := RX8) (T := TX8) (N := 14) hx hb hts inX8_layPieces_X8 hown hK hP 0 rfl rfl 7 (by decide) mwX8_layPieces_1 rfl rfl dX8_layPieces_52 ?_
            refine lv_iload hx hb dX8_layPieces_55 (lv_at hl 0 rfl) ?_
            refine lv_iconst (v := (1 : Int32)) hx hb dX8_layPieces_57 (by decide) ?_
            refine lv_iadd hx hb dX8_layPieces_58 ?_
            refine lv_iload_n hx hb dX8_layPieces_59 rfl (lv_at hl 4 rfl) ?_
            obtain ⟨hin, g8, e_g8, h⟩ := wr_s h
            refine stI (wn := [(o, .inr (7, [.ref o_s, .ref o_saved, .int o_savedCount, .ref o_text, .int o_textLength, .int o_code, .int w_o_pieceCount, .ref o_pieceCell, .int o_at, .int o_commands, .ref o_letter, .ref o_number, .ref o_before, .long o_hash])), (o_s, .inl (ca 0, 1634, .inl o_s_d)), (o_pieceCell, .inl (ca 0, 768, .inl g8))]) hx hb hK hP hD hS 2 rfl hin e_g8 rfl dX8_layPieces_60 (fun H locs hP hD hS => ?_)
            refine lv_goto (tgt := 104) hx hb dX8_layPieces_61 (by decide) ?_
            obtain ⟨y9, e_y9, h⟩ := nm_s h
            refine lv_iinc (v := y9) (lv' := [(2, .int y9), (4, .int y3), (3, .int r2), (0, .ref o), (1, .int x1)]) hx hb dX8_layPieces_104 hl (k := 4) rfl (by rw [e_y9]; rfl) (by decide) rfl (fun ls hl => ?_)
            refine lv_goto (tgt := 7) hx hb dX8_layPieces_107 (by decide) ?_
            exact ih7 y9 w_o_pieceCount g8 (lp_l hq7 h) _ _ hP hD hS ls (lv_sub hl [3, 4, 0] rfl)
  refine lv_aload_n hx hb dX8_layPieces_0 rfl (lv_at hl 0 rfl) ?_
  refine lv_iconst (v := (0 : Int32)) hx hb dX8_layPieces_1 (by decide) ?_
  refine ptI (ci := 7) (v := .int (0 : Int32)) (ty := .int) (C := RX8) (T := TX8) (N := 14) (wn := [(o, .inr (7, [.ref o_s, .ref o_saved, .int o_savedCount, .ref o_text, .int o_textLength, .int o_code, .int (0 : Int32), .ref o_pieceCell, .int o_at, .int o_commands, .ref o_letter, .ref o_number, .ref o_before, .long o_hash])), (o_s, .inl (ca 0, 1634, .inl o_s_d)), (o_pieceCell, .inl (ca 0, 768, .inl o_pieceCell_d))]) hx hb hts inX8_layPieces_X8 tyX8 tyX8_ok nmX8 hown hK hP hD hS 0 rfl rfl 6 (by decide) mwX8_layPieces_0 rfl rfl (by decide +kernel) rfl rfl (Nat.le_of_ble_eq_true rfl) rfl dX8_layPieces_2 (fun H locs hP hD hS => ?_)
  refine lv_iconst (v := (0 : Int32)) hx hb dX8_layPieces_5 (by decide) ?_
  refine lv_istore_n (lv' := [(2, .int (0 : Int32)), (0, .ref o), (1, .int x1)]) hx hb dX8_layPieces_6 rfl hl (by decide) rfl (fun ls hl => ?_)
  exact L7  fuel (0 : Int32) (0 : Int32) o_pieceCell_d h _ _ hP hD hS ls (lv_sub hl [1, 2, 0] rfl)
theorem mwX8_pieces_0 : Cond.fieldLink RX8 31 "SegmentTimesModel" "code" "I" ∈ wsX8_pieces := List.mem_of_getElem? (i := 1) rfl
theorem mwX8_pieces_1 : Cond.fieldLink RX8 139 "SegmentTimesModel" "pieceCount" "I" ∈ wsX8_pieces := List.mem_of_getElem? (i := 2) rfl
theorem inX8_pieces_X8 : ∀ w ∈ u_ws RX8 TX8 14, w ∈ wsX8_pieces := fun w h => List.mem_cons_of_mem _ (List.mem_append_right _ (h))
theorem kX8_pieces : yX8_pieces.cls = RX8 ∧ yX8_pieces.cls ≠ "java/lang/invoke/MethodHandle" ∧ yX8_pieces.cls ≠ "java/lang/invoke/VarHandle" ∧ (parseMethodDescriptor yX8_pieces.desc).map (fun d => d.parameters.length) = some 1 := by decide +kernel
set_option maxHeartbeats 4000000 in
set_option maxRecDepth 100000 in
theorem ctX8_pieces (l : Launch) (D : va_G) (ca : Nat → ClassId) (o : Nat) (o_s : Nat) (o_saved : Nat) (o_text : Nat) (o_pieceCell : Nat) (o_letter : Nat) (o_number : Nat) (o_before : Nat) (o_savedCount : Int32) (o_textLength : Int32) (o_code : Int32) (o_pieceCount : Int32) (o_at : Int32) (o_commands : Int32) (o_hash : Int64) (o_s_d : Nat → Int32) (o_pieceCell_d : Nat → Int32) (x1 : Int32) (sz : Nat) (u0 : Int32) (u1 : Int32) (u2 : Int32) (u3 : Nat → Int32) (hf : fX8_pieces o_code o_pieceCount o_s_d o_pieceCell_d x1 = some (u0, u1, u2, u3)) : MW l yX8_pieces wsX8_pieces 6 138 D ca [.ref o, .int x1] sz [(o, .inr (7, [.ref o_s, .ref o_saved, .int o_savedCount, .ref o_text, .int o_textLength, .int o_code, .int o_pieceCount, .ref o_pieceCell, .int o_at, .int o_commands, .ref o_letter, .ref o_number, .ref o_before, .long o_hash])), (o_s, .inl (ca 0, 1634, .inl o_s_d)), (o_pieceCell, .inl (ca 0, 768, .inl o_pieceCell_d))] (some (.int u0)) [(o, .inr (7, [.ref o_s, .ref o_saved, .int o_savedCount, .ref o_text, .int o_textLength, .int u1, .int u2, .ref o_pieceCell, .int o_at, .int o_commands, .ref o_letter, .ref o_number, .ref o_before, .long o_hash])), (o_s, .inl (ca 0, 1634, .inl o_s_d)), (o_pieceCell, .inl (ca 0, 768, .inl u3))] := by
  refine hdWi (by decide +kernel) rfl (Nat.le_of_ble_eq_true rfl) ?_
  intro p e s m args below meth c A Q hx hb hml hown hts hP hD hK hA hS hret ls hl
  have hown : s.vm.findClass RX8 = some m.cls := hown
  have hl : lv_has ls 2 [(0, .ref o), (1, .int x1)] := hl
  have h := hf
  unfold fX8_pieces at h
  clear hf
  refine lv_aload_n hx hb dX8_pieces_0 rfl (lv_at hl 0 rfl) ?_
  refine lv_iconst (v := (0 : Int32)) hx hb dX8_pieces_1 (by decide) ?_
  refine ptI (ci := 7) (v := .int (0 : Int32)) (ty := .int) (C := RX8) (T := TX8) (N := 14) (wn := [(o, .inr (7, [.ref o_s, .ref o_saved, .int o_savedCount, .ref o_text, .int o_textLength, .int (0 : Int32), .int o_pieceCount, .ref o_pieceCell, .int o_at, .int o_commands, .ref o_letter, .ref o_number, .ref o_before, .long o_hash])), (o_s, .inl (ca 0, 1634, .inl o_s_d)), (o_pieceCell, .inl (ca 0, 768, .inl o_pieceCell_d))]) hx hb hts inX8_pieces_X8 tyX8 tyX8_ok nmX8 hown hK hP hD hS 0 rfl rfl 5 (by decide) mwX8_pieces_0 rfl rfl (by decide +kernel) rfl rfl (Nat.le_of_ble_eq_true rfl) rfl dX8_pieces_2 (fun H locs hP hD hS => ?_)
  refine lv_iload_n hx hb dX8_pieces_5 rfl (lv_at hl 1 rfl) ?_
  obtain ⟨r1, h_r1, h⟩ := bd_s h
  refine clSR (As := [.int x1]) (rest := []) hx hb hml hown hts gX8_pieces_X8_isTick rfl 1 kX8_isTick.2 ⟨Nat.le_of_ble_eq_true rfl, Nat.le_of_ble_eq_true rfl⟩ (ctX8_isTick l D ca   x1 r1 h_r1) hP hK [] rfl rfl hl.1 rfl (Nat.le_of_ble_eq_true rfl) ⟨Nat.le_of_ble_eq_true rfl, Nat.le_of_ble_eq_true rfl⟩ dX8_pieces_6 rfl ?_
  refine lv_if_ne (tgt := 18) hx hb dX8_pieces_9 (by decide) (fun c2 => ?_) (fun c2 => ?_)
  · have h := in_s h c2
    refine lv_aload_n hx hb dX8_pieces_18 rfl (lv_at hl 0 rfl) ?_
    refine lv_iload_n hx hb dX8_pieces_19 rfl (lv_at hl 1 rfl) ?_
    obtain ⟨⟨r3_0, r3_1⟩, h_r3, h⟩ := bd_s h
    have h := up2_s h
    refine clVW (As := [.int x1]) (rest := []) (wr := []) (wn := [(o, .inr (7, [.ref o_s, .ref o_saved, .int o_savedCount, .ref o_text, .int o_textLength, .int (0 : Int32), .int r3_0, .ref o_pieceCell, .int o_at, .int o_commands, .ref o_letter, .ref o_number, .ref o_before, .long o_hash])), (o_s, .inl (ca 0, 1634, .inl o_s_d)), (o_pieceCell, .inl (ca 0, 768, .inl r3_1))]) hx hb hml hown hts gX8_pieces_X8_layPieces rfl 1 kX8_layPieces ⟨Nat.le_of_ble_eq_true rfl, Nat.le_of_ble_eq_true rfl⟩ (ctX8_layPieces l D ca o o_s o_saved o_text o_pieceCell o_letter o_number o_before o_savedCount o_textLength (0 : Int32) o_pieceCount o_at o_commands o_hash o_s_d o_pieceCell_d x1 _ r3_0 r3_1 h_r3) hP hD hS hA hK [0, 1, 2] [] rfl (by decide) rfl (by decide) (by decide) 0 7 rfl rfl rfl rfl hl.1 rfl (Nat.le_of_ble_eq_true rfl) ⟨Nat.le_of_ble_eq_true rfl, Nat.le_of_ble_eq_true rfl⟩ dX8_pieces_20 rfl rfl (fun H locs hP hD hS => ?_)
    refine lv_aload_n hx hb dX8_pieces_23 rfl (lv_at hl 0 rfl) ?_
    refine gtF (ci := 7) (v := .int r3_0) (C := RX8) (T := TX8) (N := 14) hx hb hts inX8_pieces_X8 hown hK hP 0 rfl rfl 6 (by decide) mwX8_pieces_1 rfl rfl dX8_pieces_24 ?_
    cases h
    exact hret 27 ls _ _ _ hP hD hS rfl dX8_pieces_27
  · have h := ip_s h c2
    refine lv_aload_n hx hb dX8_pieces_12 rfl (lv_at hl 0 rfl) ?_
    refine lv_iconst (v := (1 : Int32)) hx hb dX8_pieces_13 (by decide) ?_
    obtain ⟨⟨r4_0, r4_1⟩, h_r4, h⟩ := bd_s h
    have h := up2_s h
    refine clVW (As := [.int (1 : Int32)]) (rest := []) (wr := [(o_s, .inl (ca 0, 1634, .inl o_s_d)), (o_pieceCell, .inl (ca 0, 768, .inl o_pieceCell_d))]) (wn := [(o_s, .inl (ca 0, 1634, .inl o_s_d)), (o_pieceCell, .inl (ca 0, 768, .inl o_pieceCell_d)), (o, .inr (7, [.ref o_s, .ref o_saved, .int o_savedCount, .ref o_text, .int o_textLength, .int r4_1, .int o_pieceCount, .ref o_pieceCell, .int o_at, .int o_commands, .ref o_letter, .ref o_number, .ref o_before, .long o_hash]))]) hx hb hml hown hts gX8_pieces_X8_fails rfl 1 kX8_fails ⟨Nat.le_of_ble_eq_true rfl, Nat.le_of_ble_eq_true rfl⟩ (ctX8_fails l D ca o o_s o_saved o_text o_pieceCell o_letter o_number o_before o_savedCount o_textLength (0 : Int32) o_pieceCount o_at o_commands o_hash (1 : Int32) _ r4_0 r4_1 h_r4) hP hD hS hA hK [0] [1, 2] rfl (by decide) rfl (by decide) (by decide) 0 7 rfl rfl rfl rfl hl.1 rfl (Nat.le_of_ble_eq_true rfl) ⟨Nat.le_of_ble_eq_true rfl, Nat.le_of_ble_eq_true rfl⟩ dX8_pieces_14 rfl rfl (fun H locs hP hD hS => ?_)
    have hP := hP.sub (ws' := [(o, .inr (7, [.ref o_s, .ref o_saved, .int o_savedCount, .ref o_text, .int o_textLength, .int r4_1, .int o_pieceCount, .ref o_pieceCell, .int o_at, .int o_commands, .ref o_letter, .ref o_number, .ref o_before, .long o_hash])), (o_s, .inl (ca 0, 1634, .inl o_s_d)), (o_pieceCell, .inl (ca 0, 768, .inl o_pieceCell_d))]) [2, 0, 1] rfl
    have hD := hD.sub (ws' := [(o, .inr (7, [.ref o_s, .ref o_saved, .int o_savedCount, .ref o_text, .int o_textLength, .int r4_1, .int o_pieceCount, .ref o_pieceCell, .int o_at, .int o_commands, .ref o_letter, .ref o_number, .ref o_before, .long o_hash])), (o_s, .inl (ca 0, 1634, .inl o_s_d)), (o_pieceCell, .inl (ca 0, 768, .inl o_pieceCell_d))]) [2, 0, 1] (by decide) rfl
    cases h
    exact hret 17 ls _ _ _ hP hD hS rfl dX8_pieces_17
theorem mwX8_piece_0 : Cond.fieldLink RX8 31 "SegmentTimesModel" "code" "I" ∈ wsX8_piece := List.mem_of_getElem? (i := 1) rfl
theorem mwX8_piece_1 : Cond.constantLong RX8 146 (2) ∈ wsX8_piece := List.mem_of_getElem? (i := 2) rfl
theorem mwX8_piece_2 : Cond.fieldLink RX8 139 "SegmentTimesModel" "pieceCount" "I" ∈ wsX8_piece := List.mem_of_getElem? (i := 3) rfl
theorem mwX8_piece_3 : Cond.fieldLink RX8 19 "SegmentTimesModel" "pieceCell" "[I" ∈ wsX8_piece := List.mem_of_getElem? (i := 4) rfl
theorem inX8_piece_X8 : ∀ w ∈ u_ws RX8 TX8 14, w ∈ wsX8_piece := fun w h => List.mem_cons_of_mem _ (List.mem_append_right _ (h))
theorem kX8_piece : yX8_piece.cls = RX8 ∧ yX8_piece.cls ≠ "java/lang/invoke/MethodHandle" ∧ yX8_piece.cls ≠ "java/lang/invoke/VarHandle" ∧ (parseMethodDescriptor yX8_piece.desc).map (fun d => d.parameters.length) = some 3 := by decide +kernel
set_option maxHeartbeats 4000000 in
set_option maxRecDepth 100000 in
theorem ctX8_piece (l : Launch) (D : va_G) (ca : Nat → ClassId) (o : Nat) (o_s : Nat) (o_saved : Nat) (o_text : Nat) (o_pieceCell : Nat) (o_letter : Nat) (o_number : Nat) (o_before : Nat) (o_savedCount : Int32) (o_textLength : Int32) (o_code : Int32) (o_pieceCount : Int32) (o_at : Int32) (o_commands : Int32) (o_hash : Int64) (o_s_d : Nat → Int32) (o_pieceCell_d : Nat → Int32) (x1 : Int32) (x2 : Int32) (x3 : Int32) (sz : Nat) (u0 : Int32) (u1 : Int32) (u2 : Int32) (u3 : Nat → Int32) (hf : fX8_piece o_code o_pieceCount o_s_d o_pieceCell_d x1 x2 x3 = some (u0, u1, u2, u3)) : MW l yX8_piece wsX8_piece 6 138 D ca [.ref o, .int x1, .int x2, .int x3] sz [(o, .inr (7, [.ref o_s, .ref o_saved, .int o_savedCount, .ref o_text, .int o_textLength, .int o_code, .int o_pieceCount, .ref o_pieceCell, .int o_at, .int o_commands, .ref o_letter, .ref o_number, .ref o_before, .long o_hash])), (o_s, .inl (ca 0, 1634, .inl o_s_d)), (o_pieceCell, .inl (ca 0, 768, .inl o_pieceCell_d))] (some (.int u0)) [(o, .inr (7, [.ref o_s, .ref o_saved, .int o_savedCount, .ref o_text, .int o_textLength, .int u1, .int u2, .ref o_pieceCell, .int o_at, .int o_commands, .ref o_letter, .ref o_number, .ref o_before, .long o_hash])), (o_s, .inl (ca 0, 1634, .inl o_s_d)), (o_pieceCell, .inl (ca 0, 768, .inl u3))] := by
  refine hdWi (by decide +kernel) rfl (Nat.le_of_ble_eq_true rfl) ?_
  intro p e s m args below meth c A Q hx hb hml hown hts hP hD hK hA hS hret ls hl
  have hown : s.vm.findClass RX8 = some m.cls := hown
  have hl : lv_has ls 4 [(0, .ref o), (1, .int x1), (2, .int x2), (3, .int x3)] := hl
  have h := hf
  unfold fX8_piece at h
  clear hf
  have J24 : ∀ (w_o_code : Int32) (w_o_pieceCount : Int32) (w_o_pieceCell_d : Nat → Int32), jX8_piece_24  w_o_code w_o_pieceCount w_o_pieceCell_d = some (u0, u1, u2, u3) → ∀ (H : Heap) (locs : List Loc), va_P D vwCl [(o, .inr (7, [.ref o_s, .ref o_saved, .int o_savedCount, .ref o_text, .int o_textLength, .int w_o_code, .int w_o_pieceCount, .ref o_pieceCell, .int o_at, .int o_commands, .ref o_letter, .ref o_number, .ref o_before, .long o_hash])), (o_s, .inl (ca 0, 1634, .inl o_s_d)), (o_pieceCell, .inl (ca 0, 768, .inl w_o_pieceCell_d))] H → va_D A [(o, .inr (7, [.ref o_s, .ref o_saved, .int o_savedCount, .ref o_text, .int o_textLength, .int w_o_code, .int w_o_pieceCount, .ref o_pieceCell, .int o_at, .int o_commands, .ref o_letter, .ref o_number, .ref o_before, .long o_hash])), (o_s, .inl (ca 0, 1634, .inl o_s_d)), (o_pieceCell, .inl (ca 0, 768, .inl w_o_pieceCell_d))] → va_S A s.heap H locs → ∀ ls, lv_has ls 4 [(0, .ref o)] → W p l e ({ frames := 6, cells := 0, slots := 0, locals := 138 }) s m args below meth c H locs 0 0 Q (F0 m 24 ls []) := by
    intro w_o_code w_o_pieceCount w_o_pieceCell_d h H locs hP hD hS ls hl
    unfold jX8_piece_24 at h
    refine lv_aload_n hx hb dX8_piece_24 rfl (lv_at hl 0 rfl) ?_
    refine lv_iconst (v := (1 : Int32)) hx hb dX8_piece_25 (by decide) ?_
    obtain ⟨⟨r1_0, r1_1⟩, h_r1, h⟩ := bd_s h
    have h := up2_s h
    refine clVW (As := [.int (1 : Int32)]) (rest := []) (wr := [(o_s, .inl (ca 0, 1634, .inl o_s_d)), (o_pieceCell, .inl (ca 0, 768, .inl w_o_pieceCell_d))]) (wn := [(o_s, .inl (ca 0, 1634, .inl o_s_d)), (o_pieceCell, .inl (ca 0, 768, .inl w_o_pieceCell_d)), (o, .inr (7, [.ref o_s, .ref o_saved, .int o_savedCount, .ref o_text, .int o_textLength, .int r1_1, .int w_o_pieceCount, .ref o_pieceCell, .int o_at, .int o_commands, .ref o_letter, .ref o_number, .ref o_before, .long o_hash]))]) hx hb hml hown hts gX8_piece_X8_fails rfl 1 kX8_fails ⟨Nat.le_of_ble_eq_true rfl, Nat.le_of_ble_eq_true rfl⟩ (ctX8_fails l D ca o o_s o_saved o_text o_pieceCell o_letter o_number o_before o_savedCount o_textLength w_o_code w_o_pieceCount o_at o_commands o_hash (1 : Int32) _ r1_0 r1_1 h_r1) hP hD hS hA hK [0] [1, 2] rfl (by decide) rfl (by decide) (by decide) 0 7 rfl rfl rfl rfl hl.1 rfl (Nat.le_of_ble_eq_true rfl) ⟨Nat.le_of_ble_eq_true rfl, Nat.le_of_ble_eq_true rfl⟩ dX8_piece_26 rfl rfl (fun H locs hP hD hS => ?_)
    have hP := hP.sub (ws' := [(o, .inr (7, [.ref o_s, .ref o_saved, .int o_savedCount, .ref o_text, .int o_textLength, .int r1_1, .int w_o_pieceCount, .ref o_pieceCell, .int o_at, .int o_commands, .ref o_letter, .ref o_number, .ref o_before, .long o_hash])), (o_s, .inl (ca 0, 1634, .inl o_s_d)), (o_pieceCell, .inl (ca 0, 768, .inl w_o_pieceCell_d))]) [2, 0, 1] rfl
    have hD := hD.sub (ws' := [(o, .inr (7, [.ref o_s, .ref o_saved, .int o_savedCount, .ref o_text, .int o_textLength, .int r1_1, .int w_o_pieceCount, .ref o_pieceCell, .int o_at, .int o_commands, .ref o_letter, .ref o_number, .ref o_before, .long o_hash])), (o_s, .inl (ca 0, 1634, .inl o_s_d)), (o_pieceCell, .inl (ca 0, 768, .inl w_o_pieceCell_d))]) [2, 0, 1] (by decide) rfl
    cases h
    exact hret 29 ls _ _ _ hP hD hS rfl dX8_piece_29
  refine lv_aload_n hx hb dX8_piece_0 rfl (lv_at hl 0 rfl) ?_
  refine lv_iconst (v := (0 : Int32)) hx hb dX8_piece_1 (by decide) ?_
  refine ptI (ci := 7) (v := .int (0 : Int32)) (ty := .int) (C := RX8) (T := TX8) (N := 14) (wn := [(o, .inr (7, [.ref o_s, .ref o_saved, .int o_savedCount, .ref o_text, .int o_textLength, .int (0 : Int32), .int o_pieceCount, .ref o_pieceCell, .int o_at, .int o_commands, .ref o_letter, .ref o_number, .ref o_before, .long o_hash])), (o_s, .inl (ca 0, 1634, .inl o_s_d)), (o_pieceCell, .inl (ca 0, 768, .inl o_pieceCell_d))]) hx hb hts inX8_piece_X8 tyX8 tyX8_ok nmX8 hown hK hP hD hS 0 rfl rfl 5 (by decide) mwX8_piece_0 rfl rfl (by decide +kernel) rfl rfl (Nat.le_of_ble_eq_true rfl) rfl dX8_piece_2 (fun H locs hP hD hS => ?_)
  refine lv_iload_n hx hb dX8_piece_5 rfl (lv_at hl 1 rfl) ?_
  obtain ⟨r1, h_r1, h⟩ := bd_s h
  refine clSR (As := [.int x1]) (rest := []) hx hb hml hown hts gX8_piece_X8_isTick rfl 1 kX8_isTick.2 ⟨Nat.le_of_ble_eq_true rfl, Nat.le_of_ble_eq_true rfl⟩ (ctX8_isTick l D ca   x1 r1 h_r1) hP hK [] rfl rfl hl.1 rfl (Nat.le_of_ble_eq_true rfl) ⟨Nat.le_of_ble_eq_true rfl, Nat.le_of_ble_eq_true rfl⟩ dX8_piece_6 rfl ?_
  refine lv_if_eq (tgt := 24) hx hb dX8_piece_9 (by decide) (fun c2 => ?_) (fun c2 => ?_)
  · have h := ip_s h c2
    exact J24 (0 : Int32) o_pieceCount o_pieceCell_d h _ _ hP hD hS ls (lv_sub hl [0] rfl)
  · have h := in_s h c2
    refine lv_iload_n hx hb dX8_piece_12 rfl (lv_at hl 3 rfl) ?_
    refine lv_i2l (v := (x3).toInt64) hx hb dX8_piece_13 rfl ?_
    refine lv_lconst (v := (0 : Int64)) hx hb dX8_piece_14 (by decide) ?_
    refine lv_ldc2 (v := (2 : Int64)) hx hb hown (hts _ mwX8_piece_1) dX8_piece_15 ?_
    obtain ⟨r3, h_r3, h⟩ := bd_s h
    refine clSR (As := [.long (x3).toInt64, .long (0 : Int64), .long (2 : Int64)]) (rest := []) hx hb hml hown hts gX8_piece_X8_in rfl 3 kX8_in.2 ⟨Nat.le_of_ble_eq_true rfl, Nat.le_of_ble_eq_true rfl⟩ (ctX8_in l D ca   ((x3).toInt64) (0 : Int64) (2 : Int64) r3 h_r3) hP hK [] rfl rfl hl.1 rfl (Nat.le_of_ble_eq_true rfl) ⟨Nat.le_of_ble_eq_true rfl, Nat.le_of_ble_eq_true rfl⟩ dX8_piece_18 rfl ?_
    refine lv_if_ne (tgt := 30) hx hb dX8_piece_21 (by decide) (fun c4 => ?_) (fun c4 => ?_)
    · have h := in_s h c4
      refine lv_aload_n hx hb dX8_piece_30 rfl (lv_at hl 0 rfl) ?_
      refine lv_iload_n hx hb dX8_piece_31 rfl (lv_at hl 1 rfl) ?_
      obtain ⟨⟨r5_0, r5_1⟩, h_r5, h⟩ := bd_s h
      have h := up2_s h
      refine clVW (As := [.int x1]) (rest := []) (wr := []) (wn := [(o, .inr (7, [.ref o_s, .ref o_saved, .int o_savedCount, .ref o_text, .int o_textLength, .int (0 : Int32), .int r5_0, .ref o_pieceCell, .int o_at, .int o_commands, .ref o_letter, .ref o_number, .ref o_before, .long o_hash])), (o_s, .inl (ca 0, 1634, .inl o_s_d)), (o_pieceCell, .inl (ca 0, 768, .inl r5_1))]) hx hb hml hown hts gX8_piece_X8_layPieces rfl 1 kX8_layPieces ⟨Nat.le_of_ble_eq_true rfl, Nat.le_of_ble_eq_true rfl⟩ (ctX8_layPieces l D ca o o_s o_saved o_text o_pieceCell o_letter o_number o_before o_savedCount o_textLength (0 : Int32) o_pieceCount o_at o_commands o_hash o_s_d o_pieceCell_d x1 _ r5_0 r5_1 h_r5) hP hD hS hA hK [0, 1, 2] [] rfl (by decide) rfl (by decide) (by decide) 0 7 rfl rfl rfl rfl hl.1 rfl (Nat.le_of_ble_eq_true rfl) ⟨Nat.le_of_ble_eq_true rfl, Nat.le_of_ble_eq_true rfl⟩ dX8_piece_32 rfl rfl (fun H locs hP hD hS => ?_)
      refine lv_iload_n hx hb dX8_piece_35 rfl (lv_at hl 2 rfl) ?_
      refine lv_i2l (v := (x2).toInt64) hx hb dX8_piece_36 rfl ?_
      refine lv_lconst (v := (0 : Int64)) hx hb dX8_piece_37 (by decide) ?_
      refine lv_aload_n hx hb dX8_piece_38 rfl (lv_at hl 0 rfl) ?_
      refine gtF (ci := 7) (v := .int r5_0) (C := RX8) (T := TX8) (N := 14) hx hb hts inX8_piece_X8 hown hK hP 0 rfl rfl 6 (by decide) mwX8_piece_2 rfl rfl dX8_piece_39 ?_
      refine lv_iconst (v := (1 : Int32)) hx hb dX8_piece_42 (by decide) ?_
      refine lv_isub hx hb dX8_piece_43 ?_
      refine lv_i2l (v := ((r5_0 - (1 : Int32))).toInt64) hx hb dX8_piece_44 rfl ?_
      obtain ⟨r6, h_r6, h⟩ := bd_s h
      refine clSR (As := [.long (x2).toInt64, .long (0 : Int64), .long ((r5_0 - (1 : Int32))).toInt64]) (rest := []) hx hb hml hown hts gX8_piece_X8_in rfl 3 kX8_in.2 ⟨Nat.le_of_ble_eq_true rfl, Nat.le_of_ble_eq_true rfl⟩ (ctX8_in l D ca   ((x2).toInt64) (0 : Int64) (((r5_0 - (1 : Int32))).toInt64) r6 h_r6) hP hK [] rfl rfl hl.1 rfl (Nat.le_of_ble_eq_true rfl) ⟨Nat.le_of_ble_eq_true rfl, Nat.le_of_ble_eq_true rfl⟩ dX8_piece_45 rfl ?_
      refine lv_if_eq (tgt := 64) hx hb dX8_piece_48 (by decide) (fun c7 => ?_) (fun c7 => ?_)
      · have h := ip_s h c7
        refine lv_aload_n hx hb dX8_piece_64 rfl (lv_at hl 0 rfl) ?_
        refine lv_iconst (v := (2 : Int32)) hx hb dX8_piece_65 (by decide) ?_
        obtain ⟨⟨r8_0, r8_1⟩, h_r8, h⟩ := bd_s h
        have h := up2_s h
        refine clVW (As := [.int (2 : Int32)]) (rest := []) (wr := [(o_s, .inl (ca 0, 1634, .inl o_s_d)), (o_pieceCell, .inl (ca 0, 768, .inl r5_1))]) (wn := [(o_s, .inl (ca 0, 1634, .inl o_s_d)), (o_pieceCell, .inl (ca 0, 768, .inl r5_1)), (o, .inr (7, [.ref o_s, .ref o_saved, .int o_savedCount, .ref o_text, .int o_textLength, .int r8_1, .int r5_0, .ref o_pieceCell, .int o_at, .int o_commands, .ref o_letter, .ref o_number, .ref o_before, .long o_hash]))]) hx hb hml hown hts gX8_piece_X8_fails rfl 1 kX8_fails ⟨Nat.le_of_ble_eq_true rfl, Nat.le_of_ble_eq_true rfl⟩ (ctX8_fails l D ca o o_s o_saved o_text o_pieceCell o_letter o_number o_before o_savedCount o_textLength (0 : Int32) r5_0 o_at o_commands o_hash (2 : Int32) _ r8_0 r8_1 h_r8) hP hD hS hA hK [0] [1, 2] rfl (by decide) rfl (by decide) (by decide) 0 7 rfl rfl rfl rfl hl.1 rfl (Nat.le_of_ble_eq_true rfl) ⟨Nat.le_of_ble_eq_true rfl, Nat.le_of_ble_eq_true rfl⟩ dX8_piece_66 rfl rfl (fun H locs hP hD hS => ?_)
        have hP := hP.sub (ws' := [(o, .inr (7, [.ref o_s, .ref o_saved, .int o_savedCount, .ref o_text, .int o_textLength, .int r8_1, .int r5_0, .ref o_pieceCell, .int o_at, .int o_commands, .ref o_letter, .ref o_number, .ref o_before, .long o_hash])), (o_s, .inl (ca 0, 1634, .inl o_s_d)), (o_pieceCell, .inl (ca 0, 768, .inl r5_1))]) [2, 0, 1] rfl
        have hD := hD.sub (ws' := [(o, .inr (7, [.ref o_s, .ref o_saved, .int o_savedCount, .ref o_text, .int o_textLength, .int r8_1, .int r5_0, .ref o_pieceCell, .int o_at, .int o_commands, .ref o_letter, .ref o_number, .ref o_before, .long o_hash])), (o_s, .inl (ca 0, 1634, .inl o_s_d)), (o_pieceCell, .inl (ca 0, 768, .inl r5_1))]) [2, 0, 1] (by decide) rfl
        cases h
        exact hret 69 ls _ _ _ hP hD hS rfl dX8_piece_69
      · have h := in_s h c7
        refine lv_aload_n hx hb dX8_piece_51 rfl (lv_at hl 0 rfl) ?_
        refine gtF (ci := 7) (v := .ref o_pieceCell) (C := RX8) (T := TX8) (N := 14) hx hb hts inX8_piece_X8 hown hK hP 0 rfl rfl 7 (by decide) mwX8_piece_3 rfl rfl dX8_piece_52 ?_
        refine lv_iconst (v := (3 : Int32)) hx hb dX8_piece_55 (by decide) ?_
        refine lv_iload_n hx hb dX8_piece_56 rfl (lv_at hl 2 rfl) ?_
        refine lv_imul hx hb dX8_piece_57 ?_
        refine lv_iload_n hx hb dX8_piece_58 rfl (lv_at hl 3 rfl) ?_
        refine lv_iadd hx hb dX8_piece_59 ?_
        obtain ⟨hin, y9, e_y9, h⟩ := rd_s h
        refine ldI hx hb hK hP 2 rfl hin dX8_piece_60 ?_
        refine top_i e_y9 ?_
        refine lv_goto (tgt := 69) hx hb dX8_piece_61 (by decide) ?_
        cases h
        exact hret 69 ls _ _ _ hP hD hS rfl dX8_piece_69
    · have h := ip_s h c4
      exact J24 (0 : Int32) o_pieceCount o_pieceCell_d h _ _ hP hD hS ls (lv_sub hl [0] rfl)
theorem kX8_sumOf : yX8_sumOf.cls = RX8 ∧ yX8_sumOf.cls ≠ "java/lang/invoke/MethodHandle" ∧ yX8_sumOf.cls ≠ "java/lang/invoke/VarHandle" ∧ (parseMethodDescriptor yX8_sumOf.desc).map (fun d => d.parameters.length) = some 3 := by decide +kernel
set_option maxHeartbeats 4000000 in
set_option maxRecDepth 100000 in
theorem ctX8_sumOf (l : Launch) (D : va_G) (ca : Nat → ClassId) (o : Nat) (o_s : Nat) (o_saved : Nat) (o_text : Nat) (o_pieceCell : Nat) (o_letter : Nat) (o_number : Nat) (o_before : Nat) (o_savedCount : Int32) (o_textLength : Int32) (o_code : Int32) (o_pieceCount : Int32) (o_at : Int32) (o_commands : Int32) (o_hash : Int64) (o_s_d : Nat → Int32) (x1 : Int32) (x2 : Int32) (x3 : Int32) (u0 : Int64) (hf : fX8_sumOf o_s_d x1 x2 x3 = some u0) : MR l yX8_sumOf wsX8_sumOf 5 114 D ca [.ref o, .int x1, .int x2, .int x3] [(o, .inr (7, [.ref o_s, .ref o_saved, .int o_savedCount, .ref o_text, .int o_textLength, .int o_code, .int o_pieceCount, .ref o_pieceCell, .int o_at, .int o_commands, .ref o_letter, .ref o_number, .ref o_before, .long o_hash])), (o_s, .inl (ca 0, 1634, .inl o_s_d))] (some (.long u0)) := by
  refine hdRl (plainFor_of_name (by decide +kernel)) rfl (Nat.le_of_ble_eq_true rfl) ?_
  intro p e s m args below meth c Q hx hb hml hown hts hP hK hret ls hl
  have hown : s.vm.findClass RX8 = some m.cls := hown
  have hl : lv_has ls 8 [(0, .ref o), (1, .int x1), (2, .int x2), (3, .int x3)] := hl
  have h := hf
  unfold fX8_sumOf at h
  clear hf
  have L6 : ∀  (n : Nat) (l4 : Int64) (l6 : Int32), lp (fun q => bX8_sumOf_6 o_s_d x1 x3  q.1 q.2) n (l4, l6) = some u0 → ∀ ls, lv_has ls 8 [(0, .ref o), (1, .int x1), (3, .int x3), (4, .long l4), (6, .int l6)] → W p l e ({ frames := 5, cells := 0, slots := 0, locals := 114 }) s m args below meth c s.heap [] 0 0 Q (F0 m 6 ls []) := by
    intro  n
    induction n with
    | zero => intro l4 l6 h; exact (lp_0 h).elim
    | succ n ih6 =>
      intro l4 l6 h ls hl
      obtain ⟨q6, h, hq6⟩ := lp_s h
      have h : bX8_sumOf_6 o_s_d x1 x3  l4 l6 = some q6 := h
      unfold bX8_sumOf_6 at h
      refine lv_iload hx hb dX8_sumOf_6 (lv_at hl 4 rfl) ?_
      refine lv_iload_n hx hb dX8_sumOf_8 rfl (lv_at hl 2 rfl) ?_
      refine lv_icmp_gt (tgt := 51) hx hb dX8_sumOf_9 (by decide) (fun c1 => ?_) (fun c1 => ?_)
      · have h := ip_s h c1
        have h := xt_s hq6 h
        refine lv_lload hx hb dX8_sumOf_51 (lv_at hl 3 rfl) ?_
        cases h
        exact hret 53 ls _ rfl dX8_sumOf_53
      · have h := in_s h c1
        refine lv_aload_n hx hb dX8_sumOf_12 rfl (lv_at hl 0 rfl) ?_
        refine lv_iload hx hb dX8_sumOf_13 (lv_at hl 4 rfl) ?_
        refine lv_iload_n hx hb dX8_sumOf_15 rfl (lv_at hl 1 rfl) ?_
        obtain ⟨r2, h_r2, h⟩ := bd_s h
        refine clVR (As := [.int l6, .int x1]) (rest := []) hx hb hml hown hts gX8_sumOf_X8_firstAt rfl 2 kX8_firstAt ⟨Nat.le_of_ble_eq_true rfl, Nat.le_of_ble_eq_true rfl⟩ (ctX8_firstAt l D ca o o_s o_saved o_text o_pieceCell o_letter o_number o_before o_savedCount o_textLength o_code o_pieceCount o_at o_commands o_hash o_s_d l6 x1 r2 h_r2) hP hK [0, 1] rfl 0 7 rfl rfl rfl rfl hl.1 rfl (Nat.le_of_ble_eq_true rfl) ⟨Nat.le_of_ble_eq_true rfl, Nat.le_of_ble_eq_true rfl⟩ dX8_sumOf_16 rfl ?_
        refine lv_istore (lv' := [(7, .int r2), (0, .ref o), (1, .int x1), (3, .int x3), (4, .long l4), (6, .int l6)]) hx hb dX8_sumOf_19 hl (by decide) rfl (fun ls hl => ?_)
        refine lv_lload hx hb dX8_sumOf_21 (lv_at hl 4 rfl) ?_
        refine lv_iload hx hb dX8_sumOf_23 (lv_at hl 0 rfl) ?_
        refine lv_iconst (v := (-1 : Int32)) hx hb dX8_sumOf_25 (by decide) ?_
        refine lv_icmp_ne (tgt := 33) hx hb dX8_sumOf_26 (by decide) (fun c3 => ?_) (fun c3 => ?_)
        · have h := in_s h c3
          refine lv_aload_n hx hb dX8_sumOf_33 rfl (lv_at hl 1 rfl) ?_
          refine lv_iload hx hb dX8_sumOf_34 (lv_at hl 0 rfl) ?_
          refine lv_iload hx hb dX8_sumOf_36 (lv_at hl 5 rfl) ?_
          obtain ⟨r4, h_r4, h⟩ := bd_s h
          refine clVR (As := [.int r2, .int l6]) (rest := [.long l4]) hx hb hml hown hts gX8_sumOf_X8_valueAt rfl 2 kX8_valueAt ⟨Nat.le_of_ble_eq_true rfl, Nat.le_of_ble_eq_true rfl⟩ (ctX8_valueAt l D ca o o_s o_saved o_text o_pieceCell o_letter o_number o_before o_savedCount o_textLength o_code o_pieceCount o_at o_commands o_hash o_s_d r2 l6 r4 h_r4) hP hK [0, 1] rfl 0 7 rfl rfl rfl rfl hl.1 rfl (Nat.le_of_ble_eq_true rfl) ⟨Nat.le_of_ble_eq_true rfl, Nat.le_of_ble_eq_true rfl⟩ dX8_sumOf_38 rfl ?_
          refine lv_i2l (v := (r4).toInt64) hx hb dX8_sumOf_41 rfl ?_
          refine lv_ladd hx hb dX8_sumOf_42 ?_
          obtain ⟨y5, e_y5, h⟩ := nm_s h
          refine top_l e_y5 ?_
          refine lv_lstore (lv' := [(4, .long y5), (7, .int r2), (0, .ref o), (1, .int x1), (3, .int x3), (6, .int l6)]) hx hb dX8_sumOf_43 hl (by decide) rfl (fun ls hl => ?_)
          obtain ⟨y6, e_y6, h⟩ := nm_s h
          refine lv_iinc (v := y6) (lv' := [(6, .int y6), (4, .long y5), (7, .int r2), (0, .ref o), (1, .int x1), (3, .int x3)]) hx hb dX8_sumOf_45 hl (k := 5) rfl (by rw [e_y6]; rfl) (by decide) rfl (fun ls hl => ?_)
          refine lv_goto (tgt := 6) hx hb dX8_sumOf_48 (by decide) ?_
          exact ih6 y5 y6 (lp_l hq6 h) ls (lv_sub hl [3, 4, 5, 1, 0] rfl)
        · have h := ip_s h c3
          refine lv_lconst (v := (0 : Int64)) hx hb dX8_sumOf_29 (by decide) ?_
          refine lv_goto (tgt := 42) hx hb dX8_sumOf_30 (by decide) ?_
          refine lv_ladd hx hb dX8_sumOf_42 ?_
          obtain ⟨y7, e_y7, h⟩ := nm_s h
          refine top_l e_y7 ?_
          refine lv_lstore (lv' := [(4, .long y7), (7, .int r2), (0, .ref o), (1, .int x1), (3, .int x3), (6, .int l6)]) hx hb dX8_sumOf_43 hl (by decide) rfl (fun ls hl => ?_)
          obtain ⟨y8, e_y8, h⟩ := nm_s h
          refine lv_iinc (v := y8) (lv' := [(6, .int y8), (4, .long y7), (7, .int r2), (0, .ref o), (1, .int x1), (3, .int x3)]) hx hb dX8_sumOf_45 hl (k := 5) rfl (by rw [e_y8]; rfl) (by decide) rfl (fun ls hl => ?_)
          refine lv_goto (tgt := 6) hx hb dX8_sumOf_48 (by decide) ?_
          exact ih6 y7 y8 (lp_l hq6 h) ls (lv_sub hl [3, 4, 5, 1, 0] rfl)
  refine lv_lconst (v := (0 : Int64)) hx hb dX8_sumOf_0 (by decide) ?_
  refine lv_lstore (lv' := [(4, .long (0 : Int64)), (0, .ref o), (1, .int x1), (2, .int x2), (3, .int x3)]) hx hb dX8_sumOf_1 hl (by decide) rfl (fun ls hl => ?_)
  refine lv_iload_n hx hb dX8_sumOf_3 rfl (lv_at hl 3 rfl) ?_
  refine lv_istore (lv' := [(6, .int x2), (4, .long (0 : Int64)), (0, .ref o), (1, .int x1), (2, .int x2), (3, .int x3)]) hx hb dX8_sumOf_4 hl (by decide) rfl (fun ls hl => ?_)
  exact L6  fuel (0 : Int64) x2 h ls (lv_sub hl [2, 3, 5, 1, 0] rfl)
theorem mwX8_sum_0 : Cond.fieldLink RX8 31 "SegmentTimesModel" "code" "I" ∈ wsX8_sum := List.mem_of_getElem? (i := 1) rfl
theorem inX8_sum_X8 : ∀ w ∈ u_ws RX8 TX8 14, w ∈ wsX8_sum := fun w h => List.mem_cons_of_mem _ (List.mem_append_right _ (h))
theorem kX8_sum : yX8_sum.cls = RX8 ∧ yX8_sum.cls ≠ "java/lang/invoke/MethodHandle" ∧ yX8_sum.cls ≠ "java/lang/invoke/VarHandle" ∧ (parseMethodDescriptor yX8_sum.desc).map (fun d => d.parameters.length) = some 3 := by decide +kernel
set_option maxHeartbeats 4000000 in
set_option maxRecDepth 100000 in
theorem ctX8_sum (l : Launch) (D : va_G) (ca : Nat → ClassId) (o : Nat) (o_s : Nat) (o_saved : Nat) (o_text : Nat) (o_pieceCell : Nat) (o_letter : Nat) (o_number : Nat) (o_before : Nat) (o_savedCount : Int32) (o_textLength : Int32) (o_code : Int32) (o_pieceCount : Int32) (o_at : Int32) (o_commands : Int32) (o_hash : Int64) (o_s_d : Nat → Int32) (x1 : Int32) (x2 : Int32) (x3 : Int32) (sz : Nat) (u0 : Int64) (u1 : Int32) (hf : fX8_sum o_code o_s_d x1 x2 x3 = some (u0, u1)) : MW l yX8_sum wsX8_sum 6 141 D ca [.ref o, .int x1, .int x2, .int x3] sz [(o, .inr (7, [.ref o_s, .ref o_saved, .int o_savedCount, .ref o_text, .int o_textLength, .int o_code, .int o_pieceCount, .ref o_pieceCell, .int o_at, .int o_commands, .ref o_letter, .ref o_number, .ref o_before, .long o_hash])), (o_s, .inl (ca 0, 1634, .inl o_s_d))] (some (.long u0)) [(o, .inr (7, [.ref o_s, .ref o_saved, .int o_savedCount, .ref o_text, .int o_textLength, .int u1, .int o_pieceCount, .ref o_pieceCell, .int o_at, .int o_commands, .ref o_letter, .ref o_number, .ref o_before, .long o_hash])), (o_s, .inl (ca 0, 1634, .inl o_s_d))] := by
  refine hdWl (by decide +kernel) rfl (Nat.le_of_ble_eq_true rfl) ?_
  intro p e s m args below meth c A Q hx hb hml hown hts hP hD hK hA hS hret ls hl
  have hown : s.vm.findClass RX8 = some m.cls := hown
  have hl : lv_has ls 4 [(0, .ref o), (1, .int x1), (2, .int x2), (3, .int x3)] := hl
  have h := hf
  unfold fX8_sum at h
  clear hf
  have J41 : ∀ (w_o_code : Int32), jX8_sum_41  w_o_code = some (u0, u1) → ∀ (H : Heap) (locs : List Loc), va_P D vwCl [(o, .inr (7, [.ref o_s, .ref o_saved, .int o_savedCount, .ref o_text, .int o_textLength, .int w_o_code, .int o_pieceCount, .ref o_pieceCell, .int o_at, .int o_commands, .ref o_letter, .ref o_number, .ref o_before, .long o_hash])), (o_s, .inl (ca 0, 1634, .inl o_s_d))] H → va_D A [(o, .inr (7, [.ref o_s, .ref o_saved, .int o_savedCount, .ref o_text, .int o_textLength, .int w_o_code, .int o_pieceCount, .ref o_pieceCell, .int o_at, .int o_commands, .ref o_letter, .ref o_number, .ref o_before, .long o_hash])), (o_s, .inl (ca 0, 1634, .inl o_s_d))] → va_S A s.heap H locs → ∀ ls, lv_has ls 4 [(0, .ref o)] → W p l e ({ frames := 6, cells := 0, slots := 0, locals := 141 }) s m args below meth c H locs 0 0 Q (F0 m 41 ls []) := by
    intro w_o_code h H locs hP hD hS ls hl
    unfold jX8_sum_41 at h
    refine lv_aload_n hx hb dX8_sum_41 rfl (lv_at hl 0 rfl) ?_
    refine lv_iconst (v := (1 : Int32)) hx hb dX8_sum_42 (by decide) ?_
    obtain ⟨⟨r1_0, r1_1⟩, h_r1, h⟩ := bd_s h
    have h := up2_s h
    refine clVW (As := [.int (1 : Int32)]) (rest := []) (wr := [(o_s, .inl (ca 0, 1634, .inl o_s_d))]) (wn := [(o_s, .inl (ca 0, 1634, .inl o_s_d)), (o, .inr (7, [.ref o_s, .ref o_saved, .int o_savedCount, .ref o_text, .int o_textLength, .int r1_1, .int o_pieceCount, .ref o_pieceCell, .int o_at, .int o_commands, .ref o_letter, .ref o_number, .ref o_before, .long o_hash]))]) hx hb hml hown hts gX8_sum_X8_fails rfl 1 kX8_fails ⟨Nat.le_of_ble_eq_true rfl, Nat.le_of_ble_eq_true rfl⟩ (ctX8_fails l D ca o o_s o_saved o_text o_pieceCell o_letter o_number o_before o_savedCount o_textLength w_o_code o_pieceCount o_at o_commands o_hash (1 : Int32) _ r1_0 r1_1 h_r1) hP hD hS hA hK [0] [1] rfl (by decide) rfl (by decide) (by decide) 0 7 rfl rfl rfl rfl hl.1 rfl (Nat.le_of_ble_eq_true rfl) ⟨Nat.le_of_ble_eq_true rfl, Nat.le_of_ble_eq_true rfl⟩ dX8_sum_43 rfl rfl (fun H locs hP hD hS => ?_)
    refine lv_i2l (v := (r1_0).toInt64) hx hb dX8_sum_46 rfl ?_
    have hP := hP.sub (ws' := [(o, .inr (7, [.ref o_s, .ref o_saved, .int o_savedCount, .ref o_text, .int o_textLength, .int r1_1, .int o_pieceCount, .ref o_pieceCell, .int o_at, .int o_commands, .ref o_letter, .ref o_number, .ref o_before, .long o_hash])), (o_s, .inl (ca 0, 1634, .inl o_s_d))]) [1, 0] rfl
    have hD := hD.sub (ws' := [(o, .inr (7, [.ref o_s, .ref o_saved, .int o_savedCount, .ref o_text, .int o_textLength, .int r1_1, .int o_pieceCount, .ref o_pieceCell, .int o_at, .int o_commands, .ref o_letter, .ref o_number, .ref o_before, .long o_hash])), (o_s, .inl (ca 0, 1634, .inl o_s_d))]) [1, 0] (by decide) rfl
    cases h
    exact hret 47 ls _ _ _ hP hD hS rfl dX8_sum_47
  refine lv_aload_n hx hb dX8_sum_0 rfl (lv_at hl 0 rfl) ?_
  refine lv_iconst (v := (0 : Int32)) hx hb dX8_sum_1 (by decide) ?_
  refine ptI (ci := 7) (v := .int (0 : Int32)) (ty := .int) (C := RX8) (T := TX8) (N := 14) (wn := [(o, .inr (7, [.ref o_s, .ref o_saved, .int o_savedCount, .ref o_text, .int o_textLength, .int (0 : Int32), .int o_pieceCount, .ref o_pieceCell, .int o_at, .int o_commands, .ref o_letter, .ref o_number, .ref o_before, .long o_hash])), (o_s, .inl (ca 0, 1634, .inl o_s_d))]) hx hb hts inX8_sum_X8 tyX8 tyX8_ok nmX8 hown hK hP hD hS 0 rfl rfl 5 (by decide) mwX8_sum_0 rfl rfl (by decide +kernel) rfl rfl (Nat.le_of_ble_eq_true rfl) rfl dX8_sum_2 (fun H locs hP hD hS => ?_)
  refine lv_iload_n hx hb dX8_sum_5 rfl (lv_at hl 1 rfl) ?_
  obtain ⟨r1, h_r1, h⟩ := bd_s h
  refine clSR (As := [.int x1]) (rest := []) hx hb hml hown hts gX8_sum_X8_isTick rfl 1 kX8_isTick.2 ⟨Nat.le_of_ble_eq_true rfl, Nat.le_of_ble_eq_true rfl⟩ (ctX8_isTick l D ca   x1 r1 h_r1) hP hK [] rfl rfl hl.1 rfl (Nat.le_of_ble_eq_true rfl) ⟨Nat.le_of_ble_eq_true rfl, Nat.le_of_ble_eq_true rfl⟩ dX8_sum_6 rfl ?_
  refine lv_if_eq (tgt := 41) hx hb dX8_sum_9 (by decide) (fun c2 => ?_) (fun c2 => ?_)
  · have h := ip_s h c2
    exact J41 (0 : Int32) h _ _ hP hD hS ls (lv_sub hl [0] rfl)
  · have h := in_s h c2
    refine lv_iload_n hx hb dX8_sum_12 rfl (lv_at hl 2 rfl) ?_
    obtain ⟨r3, h_r3, h⟩ := bd_s h
    refine clSR (As := [.int x2]) (rest := []) hx hb hml hown hts gX8_sum_X8_isPosition rfl 1 kX8_isPosition.2 ⟨Nat.le_of_ble_eq_true rfl, Nat.le_of_ble_eq_true rfl⟩ (ctX8_isPosition l D ca   x2 r3 h_r3) hP hK [] rfl rfl hl.1 rfl (Nat.le_of_ble_eq_true rfl) ⟨Nat.le_of_ble_eq_true rfl, Nat.le_of_ble_eq_true rfl⟩ dX8_sum_13 rfl ?_
    refine lv_if_eq (tgt := 41) hx hb dX8_sum_16 (by decide) (fun c4 => ?_) (fun c4 => ?_)
    · have h := ip_s h c4
      exact J41 (0 : Int32) h _ _ hP hD hS ls (lv_sub hl [0] rfl)
    · have h := in_s h c4
      refine lv_iload_n hx hb dX8_sum_19 rfl (lv_at hl 3 rfl) ?_
      obtain ⟨r5, h_r5, h⟩ := bd_s h
      refine clSR (As := [.int x3]) (rest := []) hx hb hml hown hts gX8_sum_X8_isPosition rfl 1 kX8_isPosition.2 ⟨Nat.le_of_ble_eq_true rfl, Nat.le_of_ble_eq_true rfl⟩ (ctX8_isPosition l D ca   x3 r5 h_r5) hP hK [] rfl rfl hl.1 rfl (Nat.le_of_ble_eq_true rfl) ⟨Nat.le_of_ble_eq_true rfl, Nat.le_of_ble_eq_true rfl⟩ dX8_sum_20 rfl ?_
      refine lv_if_eq (tgt := 41) hx hb dX8_sum_23 (by decide) (fun c6 => ?_) (fun c6 => ?_)
      · have h := ip_s h c6
        exact J41 (0 : Int32) h _ _ hP hD hS ls (lv_sub hl [0] rfl)
      · have h := in_s h c6
        refine lv_iload_n hx hb dX8_sum_26 rfl (lv_at hl 2 rfl) ?_
        refine lv_iload_n hx hb dX8_sum_27 rfl (lv_at hl 3 rfl) ?_
        refine lv_icmp_gt (tgt := 41) hx hb dX8_sum_28 (by decide) (fun c7 => ?_) (fun c7 => ?_)
        · have h := ip_s h c7
          exact J41 (0 : Int32) h _ _ hP hD hS ls (lv_sub hl [0] rfl)
        · have h := in_s h c7
          refine lv_aload_n hx hb dX8_sum_31 rfl (lv_at hl 0 rfl) ?_
          refine lv_iload_n hx hb dX8_sum_32 rfl (lv_at hl 1 rfl) ?_
          refine lv_iload_n hx hb dX8_sum_33 rfl (lv_at hl 2 rfl) ?_
          refine lv_iload_n hx hb dX8_sum_34 rfl (lv_at hl 3 rfl) ?_
          obtain ⟨r8, h_r8, h⟩ := bd_s h
          refine clVR (As := [.int x1, .int x2, .int x3]) (rest := []) hx hb hml hown hts gX8_sum_X8_sumOf rfl 3 kX8_sumOf ⟨Nat.le_of_ble_eq_true rfl, Nat.le_of_ble_eq_true rfl⟩ (ctX8_sumOf l D ca o o_s o_saved o_text o_pieceCell o_letter o_number o_before o_savedCount o_textLength (0 : Int32) o_pieceCount o_at o_commands o_hash o_s_d x1 x2 x3 r8 h_r8) hP hK [0, 1] rfl 0 7 rfl rfl rfl rfl hl.1 rfl (Nat.le_of_ble_eq_true rfl) ⟨Nat.le_of_ble_eq_true rfl, Nat.le_of_ble_eq_true rfl⟩ dX8_sum_35 rfl ?_
          refine lv_goto (tgt := 47) hx hb dX8_sum_38 (by decide) ?_
          cases h
          exact hret 47 ls _ _ _ hP hD hS rfl dX8_sum_47
theorem kX8_visibleAt : yX8_visibleAt.cls = RX8 ∧ yX8_visibleAt.cls ≠ "java/lang/invoke/MethodHandle" ∧ yX8_visibleAt.cls ≠ "java/lang/invoke/VarHandle" ∧ (parseMethodDescriptor yX8_visibleAt.desc).map (fun d => d.parameters.length) = some 2 := by decide +kernel
set_option maxHeartbeats 4000000 in
set_option maxRecDepth 100000 in
theorem ctX8_visibleAt (l : Launch) (D : va_G) (ca : Nat → ClassId) (o : Nat) (o_s : Nat) (o_saved : Nat) (o_text : Nat) (o_pieceCell : Nat) (o_letter : Nat) (o_number : Nat) (o_before : Nat) (o_savedCount : Int32) (o_textLength : Int32) (o_code : Int32) (o_pieceCount : Int32) (o_at : Int32) (o_commands : Int32) (o_hash : Int64) (o_s_d : Nat → Int32) (x1 : Int32) (x2 : Int32) (u0 : Int32) (hf : fX8_visibleAt o_s_d x1 x2 = some u0) : MR l yX8_visibleAt wsX8_visibleAt 5 114 D ca [.ref o, .int x1, .int x2] [(o, .inr (7, [.ref o_s, .ref o_saved, .int o_savedCount, .ref o_text, .int o_textLength, .int o_code, .int o_pieceCount, .ref o_pieceCell, .int o_at, .int o_commands, .ref o_letter, .ref o_number, .ref o_before, .long o_hash])), (o_s, .inl (ca 0, 1634, .inl o_s_d))] (some (.int u0)) := by
  refine hdRi (plainFor_of_name (by decide +kernel)) rfl (Nat.le_of_ble_eq_true rfl) ?_
  intro p e s m args below meth c Q hx hb hml hown hts hP hK hret ls hl
  have hown : s.vm.findClass RX8 = some m.cls := hown
  have hl : lv_has ls 5 [(0, .ref o), (1, .int x1), (2, .int x2)] := hl
  have h := hf
  unfold fX8_visibleAt at h
  clear hf
  have L5 : ∀  (n : Nat) (l3 : Int32) (l4 : Int32), lp (fun q => bX8_visibleAt_5 o_s_d x1 x2  q.1 q.2) n (l3, l4) = some u0 → ∀ ls, lv_has ls 5 [(0, .ref o), (1, .int x1), (2, .int x2), (3, .int l3), (4, .int l4)] → W p l e ({ frames := 5, cells := 0, slots := 0, locals := 114 }) s m args below meth c s.heap [] 0 0 Q (F0 m 5 ls []) := by
    intro  n
    induction n with
    | zero => intro l3 l4 h; exact (lp_0 h).elim
    | succ n ih5 =>
      intro l3 l4 h ls hl
      obtain ⟨q5, h, hq5⟩ := lp_s h
      have h : bX8_visibleAt_5 o_s_d x1 x2  l3 l4 = some q5 := h
      unfold bX8_visibleAt_5 at h
      refine lv_iload hx hb dX8_visibleAt_5 (lv_at hl 4 rfl) ?_
      refine lv_sipush (v := (255 : Int32)) hx hb dX8_visibleAt_7 (by decide) ?_
      refine lv_icmp_gt (tgt := 38) hx hb dX8_visibleAt_10 (by decide) (fun c1 => ?_) (fun c1 => ?_)
      · have h := ip_s h c1
        have h := xt_s hq5 h
        refine lv_iload_n hx hb dX8_visibleAt_38 rfl (lv_at hl 3 rfl) ?_
        cases h
        exact hret 39 ls _ rfl dX8_visibleAt_39
      · have h := in_s h c1
        refine lv_iload_n hx hb dX8_visibleAt_13 rfl (lv_at hl 3 rfl) ?_
        refine lv_aload_n hx hb dX8_visibleAt_14 rfl (lv_at hl 0 rfl) ?_
        refine lv_iload hx hb dX8_visibleAt_15 (lv_at hl 4 rfl) ?_
        refine lv_iload_n hx hb dX8_visibleAt_17 rfl (lv_at hl 2 rfl) ?_
        obtain ⟨r2, h_r2, h⟩ := bd_s h
        refine clVR (As := [.int l4, .int x2]) (rest := [.int l3]) hx hb hml hown hts gX8_visibleAt_X8_firstAt rfl 2 kX8_firstAt ⟨Nat.le_of_ble_eq_true rfl, Nat.le_of_ble_eq_true rfl⟩ (ctX8_firstAt l D ca o o_s o_saved o_text o_pieceCell o_letter o_number o_before o_savedCount o_textLength o_code o_pieceCount o_at o_commands o_hash o_s_d l4 x2 r2 h_r2) hP hK [0, 1] rfl 0 7 rfl rfl rfl rfl hl.1 rfl (Nat.le_of_ble_eq_true rfl) ⟨Nat.le_of_ble_eq_true rfl, Nat.le_of_ble_eq_true rfl⟩ dX8_visibleAt_18 rfl ?_
        refine lv_iload_n hx hb dX8_visibleAt_21 rfl (lv_at hl 1 rfl) ?_
        refine lv_icmp_ne (tgt := 29) hx hb dX8_visibleAt_22 (by decide) (fun c3 => ?_) (fun c3 => ?_)
        · have h := in_s h c3
          refine lv_iconst (v := (0 : Int32)) hx hb dX8_visibleAt_29 (by decide) ?_
          refine lv_iadd hx hb dX8_visibleAt_30 ?_
          obtain ⟨y4, e_y4, h⟩ := nm_s h
          refine top_i e_y4 ?_
          refine lv_istore_n (lv' := [(3, .int y4), (0, .ref o), (1, .int x1), (2, .int x2), (4, .int l4)]) hx hb dX8_visibleAt_31 rfl hl (by decide) rfl (fun ls hl => ?_)
          obtain ⟨y5, e_y5, h⟩ := nm_s h
          refine lv_iinc (v := y5) (lv' := [(4, .int y5), (3, .int y4), (0, .ref o), (1, .int x1), (2, .int x2)]) hx hb dX8_visibleAt_32 hl (k := 4) rfl (by rw [e_y5]; rfl) (by decide) rfl (fun ls hl => ?_)
          refine lv_goto (tgt := 5) hx hb dX8_visibleAt_35 (by decide) ?_
          exact ih5 y4 y5 (lp_l hq5 h) ls (lv_sub hl [2, 3, 4, 1, 0] rfl)
        · have h := ip_s h c3
          refine lv_iconst (v := (1 : Int32)) hx hb dX8_visibleAt_25 (by decide) ?_
          refine lv_goto (tgt := 30) hx hb dX8_visibleAt_26 (by decide) ?_
          refine lv_iadd hx hb dX8_visibleAt_30 ?_
          obtain ⟨y6, e_y6, h⟩ := nm_s h
          refine top_i e_y6 ?_
          refine lv_istore_n (lv' := [(3, .int y6), (0, .ref o), (1, .int x1), (2, .int x2), (4, .int l4)]) hx hb dX8_visibleAt_31 rfl hl (by decide) rfl (fun ls hl => ?_)
          obtain ⟨y7, e_y7, h⟩ := nm_s h
          refine lv_iinc (v := y7) (lv' := [(4, .int y7), (3, .int y6), (0, .ref o), (1, .int x1), (2, .int x2)]) hx hb dX8_visibleAt_32 hl (k := 4) rfl (by rw [e_y7]; rfl) (by decide) rfl (fun ls hl => ?_)
          refine lv_goto (tgt := 5) hx hb dX8_visibleAt_35 (by decide) ?_
          exact ih5 y6 y7 (lp_l hq5 h) ls (lv_sub hl [2, 3, 4, 1, 0] rfl)
  refine lv_iconst (v := (0 : Int32)) hx hb dX8_visibleAt_0 (by decide) ?_
  refine lv_istore_n (lv' := [(3, .int (0 : Int32)), (0, .ref o), (1, .int x1), (2, .int x2)]) hx hb dX8_visibleAt_1 rfl hl (by decide) rfl (fun ls hl => ?_)
  refine lv_iconst (v := (0 : Int32)) hx hb dX8_visibleAt_2 (by decide) ?_
  refine lv_istore (lv' := [(4, .int (0 : Int32)), (3, .int (0 : Int32)), (0, .ref o), (1, .int x1), (2, .int x2)]) hx hb dX8_visibleAt_3 hl (by decide) rfl (fun ls hl => ?_)
  exact L5  fuel (0 : Int32) (0 : Int32) h ls (lv_sub hl [2, 3, 4, 1, 0] rfl)
theorem mwX8_visible_0 : Cond.fieldLink RX8 31 "SegmentTimesModel" "code" "I" ∈ wsX8_visible := List.mem_of_getElem? (i := 1) rfl
theorem inX8_visible_X8 : ∀ w ∈ u_ws RX8 TX8 14, w ∈ wsX8_visible := fun w h => List.mem_cons_of_mem _ (List.mem_append_right _ (h))
theorem kX8_visible : yX8_visible.cls = RX8 ∧ yX8_visible.cls ≠ "java/lang/invoke/MethodHandle" ∧ yX8_visible.cls ≠ "java/lang/invoke/VarHandle" ∧ (parseMethodDescriptor yX8_visible.desc).map (fun d => d.parameters.length) = some 2 := by decide +kernel
set_option maxHeartbeats 4000000 in
set_option maxRecDepth 100000 in
theorem ctX8_visible (l : Launch) (D : va_G) (ca : Nat → ClassId) (o : Nat) (o_s : Nat) (o_saved : Nat) (o_text : Nat) (o_pieceCell : Nat) (o_letter : Nat) (o_number : Nat) (o_before : Nat) (o_savedCount : Int32) (o_textLength : Int32) (o_code : Int32) (o_pieceCount : Int32) (o_at : Int32) (o_commands : Int32) (o_hash : Int64) (o_s_d : Nat → Int32) (x1 : Int32) (x2 : Int32) (sz : Nat) (u0 : Int32) (u1 : Int32) (hf : fX8_visible o_code o_s_d x1 x2 = some (u0, u1)) : MW l yX8_visible wsX8_visible 6 138 D ca [.ref o, .int x1, .int x2] sz [(o, .inr (7, [.ref o_s, .ref o_saved, .int o_savedCount, .ref o_text, .int o_textLength, .int o_code, .int o_pieceCount, .ref o_pieceCell, .int o_at, .int o_commands, .ref o_letter, .ref o_number, .ref o_before, .long o_hash])), (o_s, .inl (ca 0, 1634, .inl o_s_d))] (some (.int u0)) [(o, .inr (7, [.ref o_s, .ref o_saved, .int o_savedCount, .ref o_text, .int o_textLength, .int u1, .int o_pieceCount, .ref o_pieceCell, .int o_at, .int o_commands, .ref o_letter, .ref o_number, .ref o_before, .long o_hash])), (o_s, .inl (ca 0, 1634, .inl o_s_d))] := by
  refine hdWi (by decide +kernel) rfl (Nat.le_of_ble_eq_true rfl) ?_
  intro p e s m args below meth c A Q hx hb hml hown hts hP hD hK hA hS hret ls hl
  have hown : s.vm.findClass RX8 = some m.cls := hown
  have hl : lv_has ls 3 [(0, .ref o), (1, .int x1), (2, .int x2)] := hl
  have h := hf
  unfold fX8_visible at h
  clear hf
  refine lv_aload_n hx hb dX8_visible_0 rfl (lv_at hl 0 rfl) ?_
  refine lv_iconst (v := (0 : Int32)) hx hb dX8_visible_1 (by decide) ?_
  refine ptI (ci := 7) (v := .int (0 : Int32)) (ty := .int) (C := RX8) (T := TX8) (N := 14) (wn := [(o, .inr (7, [.ref o_s, .ref o_saved, .int o_savedCount, .ref o_text, .int o_textLength, .int (0 : Int32), .int o_pieceCount, .ref o_pieceCell, .int o_at, .int o_commands, .ref o_letter, .ref o_number, .ref o_before, .long o_hash])), (o_s, .inl (ca 0, 1634, .inl o_s_d))]) hx hb hts inX8_visible_X8 tyX8 tyX8_ok nmX8 hown hK hP hD hS 0 rfl rfl 5 (by decide) mwX8_visible_0 rfl rfl (by decide +kernel) rfl rfl (Nat.le_of_ble_eq_true rfl) rfl dX8_visible_2 (fun H locs hP hD hS => ?_)
  refine lv_aload_n hx hb dX8_visible_5 rfl (lv_at hl 0 rfl) ?_
  refine lv_iload_n hx hb dX8_visible_6 rfl (lv_at hl 1 rfl) ?_
  obtain ⟨r1, h_r1, h⟩ := bd_s h
  refine clVR (As := [.int x1]) (rest := []) hx hb hml hown hts gX8_visible_X8_isSegment rfl 1 kX8_isSegment ⟨Nat.le_of_ble_eq_true rfl, Nat.le_of_ble_eq_true rfl⟩ (ctX8_isSegment l D ca o o_s o_saved o_text o_pieceCell o_letter o_number o_before o_savedCount o_textLength (0 : Int32) o_pieceCount o_at o_commands o_hash o_s_d x1 r1 h_r1) hP hK [0, 1] rfl 0 7 rfl rfl rfl rfl hl.1 rfl (Nat.le_of_ble_eq_true rfl) ⟨Nat.le_of_ble_eq_true rfl, Nat.le_of_ble_eq_true rfl⟩ dX8_visible_7 rfl ?_
  refine lv_if_ne (tgt := 19) hx hb dX8_visible_10 (by decide) (fun c2 => ?_) (fun c2 => ?_)
  · have h := in_s h c2
    refine lv_iload_n hx hb dX8_visible_19 rfl (lv_at hl 2 rfl) ?_
    obtain ⟨r3, h_r3, h⟩ := bd_s h
    refine clSR (As := [.int x2]) (rest := []) hx hb hml hown hts gX8_visible_X8_isTick rfl 1 kX8_isTick.2 ⟨Nat.le_of_ble_eq_true rfl, Nat.le_of_ble_eq_true rfl⟩ (ctX8_isTick l D ca   x2 r3 h_r3) hP hK [] rfl rfl hl.1 rfl (Nat.le_of_ble_eq_true rfl) ⟨Nat.le_of_ble_eq_true rfl, Nat.le_of_ble_eq_true rfl⟩ dX8_visible_20 rfl ?_
    refine lv_if_eq (tgt := 35) hx hb dX8_visible_23 (by decide) (fun c4 => ?_) (fun c4 => ?_)
    · have h := ip_s h c4
      refine lv_aload_n hx hb dX8_visible_35 rfl (lv_at hl 0 rfl) ?_
      refine lv_iconst (v := (2 : Int32)) hx hb dX8_visible_36 (by decide) ?_
      obtain ⟨⟨r5_0, r5_1⟩, h_r5, h⟩ := bd_s h
      have h := up2_s h
      refine clVW (As := [.int (2 : Int32)]) (rest := []) (wr := [(o_s, .inl (ca 0, 1634, .inl o_s_d))]) (wn := [(o_s, .inl (ca 0, 1634, .inl o_s_d)), (o, .inr (7, [.ref o_s, .ref o_saved, .int o_savedCount, .ref o_text, .int o_textLength, .int r5_1, .int o_pieceCount, .ref o_pieceCell, .int o_at, .int o_commands, .ref o_letter, .ref o_number, .ref o_before, .long o_hash]))]) hx hb hml hown hts gX8_visible_X8_fails rfl 1 kX8_fails ⟨Nat.le_of_ble_eq_true rfl, Nat.le_of_ble_eq_true rfl⟩ (ctX8_fails l D ca o o_s o_saved o_text o_pieceCell o_letter o_number o_before o_savedCount o_textLength (0 : Int32) o_pieceCount o_at o_commands o_hash (2 : Int32) _ r5_0 r5_1 h_r5) hP hD hS hA hK [0] [1] rfl (by decide) rfl (by decide) (by decide) 0 7 rfl rfl rfl rfl hl.1 rfl (Nat.le_of_ble_eq_true rfl) ⟨Nat.le_of_ble_eq_true rfl, Nat.le_of_ble_eq_true rfl⟩ dX8_visible_37 rfl rfl (fun H locs hP hD hS => ?_)
      have hP := hP.sub (ws' := [(o, .inr (7, [.ref o_s, .ref o_saved, .int o_savedCount, .ref o_text, .int o_textLength, .int r5_1, .int o_pieceCount, .ref o_pieceCell, .int o_at, .int o_commands, .ref o_letter, .ref o_number, .ref o_before, .long o_hash])), (o_s, .inl (ca 0, 1634, .inl o_s_d))]) [1, 0] rfl
      have hD := hD.sub (ws' := [(o, .inr (7, [.ref o_s, .ref o_saved, .int o_savedCount, .ref o_text, .int o_textLength, .int r5_1, .int o_pieceCount, .ref o_pieceCell, .int o_at, .int o_commands, .ref o_letter, .ref o_number, .ref o_before, .long o_hash])), (o_s, .inl (ca 0, 1634, .inl o_s_d))]) [1, 0] (by decide) rfl
      cases h
      exact hret 40 ls _ _ _ hP hD hS rfl dX8_visible_40
    · have h := in_s h c4
      refine lv_aload_n hx hb dX8_visible_26 rfl (lv_at hl 0 rfl) ?_
      refine lv_iload_n hx hb dX8_visible_27 rfl (lv_at hl 1 rfl) ?_
      refine lv_iload_n hx hb dX8_visible_28 rfl (lv_at hl 2 rfl) ?_
      obtain ⟨r6, h_r6, h⟩ := bd_s h
      refine clVR (As := [.int x1, .int x2]) (rest := []) hx hb hml hown hts gX8_visible_X8_visibleAt rfl 2 kX8_visibleAt ⟨Nat.le_of_ble_eq_true rfl, Nat.le_of_ble_eq_true rfl⟩ (ctX8_visibleAt l D ca o o_s o_saved o_text o_pieceCell o_letter o_number o_before o_savedCount o_textLength (0 : Int32) o_pieceCount o_at o_commands o_hash o_s_d x1 x2 r6 h_r6) hP hK [0, 1] rfl 0 7 rfl rfl rfl rfl hl.1 rfl (Nat.le_of_ble_eq_true rfl) ⟨Nat.le_of_ble_eq_true rfl, Nat.le_of_ble_eq_true rfl⟩ dX8_visible_29 rfl ?_
      refine lv_goto (tgt := 40) hx hb dX8_visible_32 (by decide) ?_
      cases h
      exact hret 40 ls _ _ _ hP hD hS rfl dX8_visible_40
  · have h := ip_s h c2
    refine lv_aload_n hx hb dX8_visible_13 rfl (lv_at hl 0 rfl) ?_
    refine lv_iconst (v := (1 : Int32)) hx hb dX8_visible_14 (by decide) ?_
    obtain ⟨⟨r7_0, r7_1⟩, h_r7, h⟩ := bd_s h
    have h := up2_s h
    refine clVW (As := [.int (1 : Int32)]) (rest := []) (wr := [(o_s, .inl (ca 0, 1634, .inl o_s_d))]) (wn := [(o_s, .inl (ca 0, 1634, .inl o_s_d)), (o, .inr (7, [.ref o_s, .ref o_saved, .int o_savedCount, .ref o_text, .int o_textLength, .int r7_1, .int o_pieceCount, .ref o_pieceCell, .int o_at, .int o_commands, .ref o_letter, .ref o_number, .ref o_before, .long o_hash]))]) hx hb hml hown hts gX8_visible_X8_fails rfl 1 kX8_fails ⟨Nat.le_of_ble_eq_true rfl, Nat.le_of_ble_eq_true rfl⟩ (ctX8_fails l D ca o o_s o_saved o_text o_pieceCell o_letter o_number o_before o_savedCount o_textLength (0 : Int32) o_pieceCount o_at o_commands o_hash (1 : Int32) _ r7_0 r7_1 h_r7) hP hD hS hA hK [0] [1] rfl (by decide) rfl (by decide) (by decide) 0 7 rfl rfl rfl rfl hl.1 rfl (Nat.le_of_ble_eq_true rfl) ⟨Nat.le_of_ble_eq_true rfl, Nat.le_of_ble_eq_true rfl⟩ dX8_visible_15 rfl rfl (fun H locs hP hD hS => ?_)
    have hP := hP.sub (ws' := [(o, .inr (7, [.ref o_s, .ref o_saved, .int o_savedCount, .ref o_text, .int o_textLength, .int r7_1, .int o_pieceCount, .ref o_pieceCell, .int o_at, .int o_commands, .ref o_letter, .ref o_number, .ref o_before, .long o_hash])), (o_s, .inl (ca 0, 1634, .inl o_s_d))]) [1, 0] rfl
    have hD := hD.sub (ws' := [(o, .inr (7, [.ref o_s, .ref o_saved, .int o_savedCount, .ref o_text, .int o_textLength, .int r7_1, .int o_pieceCount, .ref o_pieceCell, .int o_at, .int o_commands, .ref o_letter, .ref o_number, .ref o_before, .long o_hash])), (o_s, .inl (ca 0, 1634, .inl o_s_d))]) [1, 0] (by decide) rfl
    cases h
    exact hret 18 ls _ _ _ hP hD hS rfl dX8_visible_18
theorem mwX8_hidden_0 : Cond.fieldLink RX8 31 "SegmentTimesModel" "code" "I" ∈ wsX8_hidden := List.mem_of_getElem? (i := 1) rfl
theorem mwX8_hidden_1 : Cond.fieldLink RX8 7 "SegmentTimesModel" "s" "[I" ∈ wsX8_hidden := List.mem_of_getElem? (i := 2) rfl
theorem mwX8_hidden_2 : Cond.fieldLink RX8 139 "SegmentTimesModel" "pieceCount" "I" ∈ wsX8_hidden := List.mem_of_getElem? (i := 3) rfl
theorem mwX8_hidden_3 : Cond.fieldLink RX8 19 "SegmentTimesModel" "pieceCell" "[I" ∈ wsX8_hidden := List.mem_of_getElem? (i := 4) rfl
theorem inX8_hidden_X8 : ∀ w ∈ u_ws RX8 TX8 14, w ∈ wsX8_hidden := fun w h => List.mem_cons_of_mem _ (List.mem_append_right _ (h))
theorem kX8_hidden : yX8_hidden.cls = RX8 ∧ yX8_hidden.cls ≠ "java/lang/invoke/MethodHandle" ∧ yX8_hidden.cls ≠ "java/lang/invoke/VarHandle" ∧ (parseMethodDescriptor yX8_hidden.desc).map (fun d => d.parameters.length) = some 1 := by decide +kernel
set_option maxHeartbeats 4000000 in
set_option maxRecDepth 100000 in
theorem ctX8_hidden (l : Launch) (D : va_G) (ca : Nat → ClassId) (o : Nat) (o_s : Nat) (o_saved : Nat) (o_text : Nat) (o_pieceCell : Nat) (o_letter : Nat) (o_number : Nat) (o_before : Nat) (o_savedCount : Int32) (o_textLength : Int32) (o_code : Int32) (o_pieceCount : Int32) (o_at : Int32) (o_commands : Int32) (o_hash : Int64) (o_s_d : Nat → Int32) (o_pieceCell_d : Nat → Int32) (x1 : Int32) (sz : Nat) (u0 : Int32) (u1 : Int32) (u2 : Int32) (u3 : Nat → Int32) (hf : fX8_hidden o_code o_pieceCount o_s_d o_pieceCell_d x1 = some (u0, u1, u2, u3)) : MW l yX8_hidden wsX8_hidden 6 138 D ca [.ref o, .int x1] sz [(o, .inr (7, [.ref o_s, .ref o_saved, .int o_savedCount, .ref o_text, .int o_textLength, .int o_code, .int o_pieceCount, .ref o_pieceCell, .int o_at, .int o_commands, .ref o_letter, .ref o_number, .ref o_before, .long o_hash])), (o_s, .inl (ca 0, 1634, .inl o_s_d)), (o_pieceCell, .inl (ca 0, 768, .inl o_pieceCell_d))] (some (.int u0)) [(o, .inr (7, [.ref o_s, .ref o_saved, .int o_savedCount, .ref o_text, .int o_textLength, .int u1, .int u2, .ref o_pieceCell, .int o_at, .int o_commands, .ref o_letter, .ref o_number, .ref o_before, .long o_hash])), (o_s, .inl (ca 0, 1634, .inl o_s_d)), (o_pieceCell, .inl (ca 0, 768, .inl u3))] := by
  refine hdWi (by decide +kernel) rfl (Nat.le_of_ble_eq_true rfl) ?_
  intro p e s m args below meth c A Q hx hb hml hown hts hP hD hK hA hS hret ls hl
  have hown : s.vm.findClass RX8 = some m.cls := hown
  have hl : lv_has ls 6 [(0, .ref o), (1, .int x1)] := hl
  have h := hf
  unfold fX8_hidden at h
  clear hf
  have L27 : ∀ (w_o_code : Int32) (w_o_pieceCount : Int32) (w_o_pieceCell_d : Nat → Int32) (n : Nat) (l2 : Int32) (l3 : Int32), lp (fun q => bX8_hidden_27 o_s_d x1 w_o_code w_o_pieceCount w_o_pieceCell_d q.1 q.2) n (l2, l3) = some (u0, u1, u2, u3) → ∀ (H : Heap) (locs : List Loc), va_P D vwCl [(o, .inr (7, [.ref o_s, .ref o_saved, .int o_savedCount, .ref o_text, .int o_textLength, .int w_o_code, .int w_o_pieceCount, .ref o_pieceCell, .int o_at, .int o_commands, .ref o_letter, .ref o_number, .ref o_before, .long o_hash])), (o_s, .inl (ca 0, 1634, .inl o_s_d)), (o_pieceCell, .inl (ca 0, 768, .inl w_o_pieceCell_d))] H → va_D A [(o, .inr (7, [.ref o_s, .ref o_saved, .int o_savedCount, .ref o_text, .int o_textLength, .int w_o_code, .int w_o_pieceCount, .ref o_pieceCell, .int o_at, .int o_commands, .ref o_letter, .ref o_number, .ref o_before, .long o_hash])), (o_s, .inl (ca 0, 1634, .inl o_s_d)), (o_pieceCell, .inl (ca 0, 768, .inl w_o_pieceCell_d))] → va_S A s.heap H locs → ∀ ls, lv_has ls 6 [(0, .ref o), (1, .int x1), (2, .int l2), (3, .int l3)] → W p l e ({ frames := 6, cells := 0, slots := 0, locals := 138 }) s m args below meth c H locs 0 0 Q (F0 m 27 ls []) := by
    intro w_o_code w_o_pieceCount w_o_pieceCell_d n
    induction n with
    | zero => intro l2 l3 h; exact (lp_0 h).elim
    | succ n ih27 =>
      intro l2 l3 h H locs hP hD hS ls hl
      obtain ⟨q27, h, hq27⟩ := lp_s h
      have h : bX8_hidden_27 o_s_d x1 w_o_code w_o_pieceCount w_o_pieceCell_d l2 l3 = some q27 := h
      unfold bX8_hidden_27 at h
      have L48 : ∀ (l2 : Int32) (l3 : Int32) (n : Nat) (l4 : Int32) (l5 : Int32), lp (fun q => bX8_hidden_48 w_o_pieceCount w_o_pieceCell_d l2 l3 q.1 q.2) n (l4, l5) = some q27 → ∀ (H : Heap) (locs : List Loc), va_P D vwCl [(o, .inr (7, [.ref o_s, .ref o_saved, .int o_savedCount, .ref o_text, .int o_textLength, .int w_o_code, .int w_o_pieceCount, .ref o_pieceCell, .int o_at, .int o_commands, .ref o_letter, .ref o_number, .ref o_before, .long o_hash])), (o_s, .inl (ca 0, 1634, .inl o_s_d)), (o_pieceCell, .inl (ca 0, 768, .inl w_o_pieceCell_d))] H → va_D A [(o, .inr (7, [.ref o_s, .ref o_saved, .int o_savedCount, .ref o_text, .int o_textLength, .int w_o_code, .int w_o_pieceCount, .ref o_pieceCell, .int o_at, .int o_commands, .ref o_letter, .ref o_number, .ref o_before, .long o_hash])), (o_s, .inl (ca 0, 1634, .inl o_s_d)), (o_pieceCell, .inl (ca 0, 768, .inl w_o_pieceCell_d))] → va_S A s.heap H locs → ∀ ls, lv_has ls 6 [(0, .ref o), (1, .int x1), (2, .int l2), (3, .int l3), (4, .int l4), (5, .int l5)] → W p l e ({ frames := 6, cells := 0, slots := 0, locals := 138 }) s m args below meth c H locs 0 0 Q (F0 m 48 ls []) := by
        intro l2 l3 n
        induction n with
        | zero => intro l4 l5 h; exact (lp_0 h).elim
        | succ n ih48 =>
          intro l4 l5 h H locs hP hD hS ls hl
          obtain ⟨q48, h, hq48⟩ := lp_s h
          have h : bX8_hidden_48 w_o_pieceCount w_o_pieceCell_d l2 l3 l4 l5 = some q48 := h
          unfold bX8_hidden_48 at h
          refine lv_iload hx hb dX8_hidden_48 (lv_at hl 5 rfl) ?_
          refine lv_aload_n hx hb dX8_hidden_50 rfl (lv_at hl 0 rfl) ?_
          refine gtF (ci := 7) (v := .int w_o_pieceCount) (C := RX8) (T := TX8) (N := 14) hx hb hts inX8_hidden_X8 hown hK hP 0 rfl rfl 6 (by decide) mwX8_hidden_2 rfl rfl dX8_hidden_51 ?_
          refine lv_icmp_ge (tgt := 90) hx hb dX8_hidden_54 (by decide) (fun c1 => ?_) (fun c1 => ?_)
          · have h := ip_s h c1
            have h := xt_s hq48 h
            refine lv_iload_n hx hb dX8_hidden_90 rfl (lv_at hl 2 rfl) ?_
            refine lv_iload hx hb dX8_hidden_91 (lv_at hl 4 rfl) ?_
            refine lv_if_eq (tgt := 100) hx hb dX8_hidden_93 (by decide) (fun c2 => ?_) (fun c2 => ?_)
            · have h := ip_s h c2
              refine lv_iconst (v := (0 : Int32)) hx hb dX8_hidden_100 (by decide) ?_
              refine lv_iadd hx hb dX8_hidden_101 ?_
              obtain ⟨y3, e_y3, h⟩ := nm_s h
              refine top_i e_y3 ?_
              refine lv_istore_n (lv' := [(2, .int y3), (0, .ref o), (1, .int x1), (3, .int l3), (4, .int l4), (5, .int l5)]) hx hb dX8_hidden_102 rfl hl (by decide) rfl (fun ls hl => ?_)
              obtain ⟨y4, e_y4, h⟩ := nm_s h
              refine lv_iinc (v := y4) (lv' := [(3, .int y4), (2, .int y3), (0, .ref o), (1, .int x1), (4, .int l4), (5, .int l5)]) hx hb dX8_hidden_103 hl (k := 3) rfl (by rw [e_y4]; rfl) (by decide) rfl (fun ls hl => ?_)
              refine lv_goto (tgt := 27) hx hb dX8_hidden_106 (by decide) ?_
              exact ih27 y3 y4 (lp_l hq27 h) _ _ hP hD hS ls (lv_sub hl [2, 3, 1, 0] rfl)
            · have h := in_s h c2
              refine lv_iconst (v := (1 : Int32)) hx hb dX8_hidden_96 (by decide) ?_
              refine lv_goto (tgt := 101) hx hb dX8_hidden_97 (by decide) ?_
              refine lv_iadd hx hb dX8_hidden_101 ?_
              obtain ⟨y5, e_y5, h⟩ := nm_s h
              refine top_i e_y5 ?_
              refine lv_istore_n (lv' := [(2, .int y5), (0, .ref o), (1, .int x1), (3, .int l3), (4, .int l4), (5, .int l5)]) hx hb dX8_hidden_102 rfl hl (by decide) rfl (fun ls hl => ?_)
              obtain ⟨y6, e_y6, h⟩ := nm_s h
              refine lv_iinc (v := y6) (lv' := [(3, .int y6), (2, .int y5), (0, .ref o), (1, .int x1), (4, .int l4), (5, .int l5)]) hx hb dX8_hidden_103 hl (k := 3) rfl (by rw [e_y6]; rfl) (by decide) rfl (fun ls hl => ?_)
              refine lv_goto (tgt := 27) hx hb dX8_hidden_106 (by decide) ?_
              exact ih27 y5 y6 (lp_l hq27 h) _ _ hP hD hS ls (lv_sub hl [2, 3, 1, 0] rfl)
          · have h := in_s h c1
            refine lv_iload hx hb dX8_hidden_57 (lv_at hl 4 rfl) ?_
            refine lv_if_eq (tgt := 81) hx hb dX8_hidden_59 (by decide) (fun c7 => ?_) (fun c7 => ?_)
            · have h := ip_s h c7
              refine lv_iconst (v := (0 : Int32)) hx hb dX8_hidden_81 (by decide) ?_
              refine lv_istore (lv' := [(4, .int (0 : Int32)), (0, .ref o), (1, .int x1), (2, .int l2), (3, .int l3), (5, .int l5)]) hx hb dX8_hidden_82 hl (by decide) rfl (fun ls hl => ?_)
              obtain ⟨y8, e_y8, h⟩ := nm_s h
              refine lv_iinc (v := y8) (lv' := [(5, .int y8), (4, .int (0 : Int32)), (0, .ref o), (1, .int x1), (2, .int l2), (3, .int l3)]) hx hb dX8_hidden_84 hl (k := 5) rfl (by rw [e_y8]; rfl) (by decide) rfl (fun ls hl => ?_)
              refine lv_goto (tgt := 48) hx hb dX8_hidden_87 (by decide) ?_
              exact ih48 (0 : Int32) y8 (lp_l hq48 h) _ _ hP hD hS ls (lv_sub hl [2, 3, 4, 5, 1, 0] rfl)
            · have h := in_s h c7
              refine lv_aload_n hx hb dX8_hidden_62 rfl (lv_at hl 0 rfl) ?_
              refine gtF (ci := 7) (v := .ref o_pieceCell) (C := RX8) (T := TX8) (N := 14) hx hb hts inX8_hidden_X8 hown hK hP 0 rfl rfl 7 (by decide) mwX8_hidden_3 rfl rfl dX8_hidden_63 ?_
              refine lv_iconst (v := (3 : Int32)) hx hb dX8_hidden_66 (by decide) ?_
              refine lv_iload hx hb dX8_hidden_67 (lv_at hl 5 rfl) ?_
              refine lv_imul hx hb dX8_hidden_69 ?_
              refine lv_iconst (v := (2 : Int32)) hx hb dX8_hidden_70 (by decide) ?_
              refine lv_iadd hx hb dX8_hidden_71 ?_
              obtain ⟨hin, y9, e_y9, h⟩ := rd_s h
              refine ldI hx hb hK hP 2 rfl hin dX8_hidden_72 ?_
              refine top_i e_y9 ?_
              refine lv_iload_n hx hb dX8_hidden_73 rfl (lv_at hl 3 rfl) ?_
              refine lv_icmp_eq (tgt := 81) hx hb dX8_hidden_74 (by decide) (fun c10 => ?_) (fun c10 => ?_)
              · have h := ip_s h c10
                refine lv_iconst (v := (0 : Int32)) hx hb dX8_hidden_81 (by decide) ?_
                refine lv_istore (lv' := [(4, .int (0 : Int32)), (0, .ref o), (1, .int x1), (2, .int l2), (3, .int l3), (5, .int l5)]) hx hb dX8_hidden_82 hl (by decide) rfl (fun ls hl => ?_)
                obtain ⟨y11, e_y11, h⟩ := nm_s h
                refine lv_iinc (v := y11) (lv' := [(5, .int y11), (4, .int (0 : Int32)), (0, .ref o), (1, .int x1), (2, .int l2), (3, .int l3)]) hx hb dX8_hidden_84 hl (k := 5) rfl (by rw [e_y11]; rfl) (by decide) rfl (fun ls hl => ?_)
                refine lv_goto (tgt := 48) hx hb dX8_hidden_87 (by decide) ?_
                exact ih48 (0 : Int32) y11 (lp_l hq48 h) _ _ hP hD hS ls (lv_sub hl [2, 3, 4, 5, 1, 0] rfl)
              · have h := in_s h c10
                refine lv_iconst (v := (1 : Int32)) hx hb dX8_hidden_77 (by decide) ?_
                refine lv_goto (tgt := 82) hx hb dX8_hidden_78 (by decide) ?_
                refine lv_istore (lv' := [(4, .int (1 : Int32)), (0, .ref o), (1, .int x1), (2, .int l2), (3, .int l3), (5, .int l5)]) hx hb dX8_hidden_82 hl (by decide) rfl (fun ls hl => ?_)
                obtain ⟨y12, e_y12, h⟩ := nm_s h
                refine lv_iinc (v := y12) (lv' := [(5, .int y12), (4, .int (1 : Int32)), (0, .ref o), (1, .int x1), (2, .int l2), (3, .int l3)]) hx hb dX8_hidden_84 hl (k := 5) rfl (by rw [e_y12]; rfl) (by decide) rfl (fun ls hl => ?_)
                refine lv_goto (tgt := 48) hx hb dX8_hidden_87 (by decide) ?_
                exact ih48 (1 : Int32) y12 (lp_l hq48 h) _ _ hP hD hS ls (lv_sub hl [2, 3, 4, 5, 1, 0] rfl)
      refine lv_iload_n hx hb dX8_hidden_27 rfl (lv_at hl 3 rfl) ?_
      refine lv_aload_n hx hb dX8_hidden_28 rfl (lv_at hl 0 rfl) ?_
      refine gtF (ci := 7) (v := .ref o_s) (C := RX8) (T := TX8) (N := 14) hx hb hts inX8_hidden_X8 hown hK hP 0 rfl rfl 0 (by decide) mwX8_hidden_1 rfl rfl dX8_hidden_29 ?_
      refine lv_iconst (v := (0 : Int32)) hx hb dX8_hidden_32 (by decide) ?_
      obtain ⟨hin, y1, e_y1, h⟩ := rd_s h
      refine ldI hx hb hK hP 1 rfl hin dX8_hidden_33 ?_
      refine top_i e_y1 ?_
      refine lv_icmp_ge (tgt := 109) hx hb dX8_hidden_34 (by decide) (fun c2 => ?_) (fun c2 => ?_)
      · have h := ip_s h c2
        have h := xt_s hq27 h
        refine lv_iload_n hx hb dX8_hidden_109 rfl (lv_at hl 2 rfl) ?_
        cases h
        exact hret 110 ls _ _ _ hP hD hS rfl dX8_hidden_110
      · have h := in_s h c2
        refine lv_aload_n hx hb dX8_hidden_37 rfl (lv_at hl 0 rfl) ?_
        refine lv_iload_n hx hb dX8_hidden_38 rfl (lv_at hl 3 rfl) ?_
        refine lv_iload_n hx hb dX8_hidden_39 rfl (lv_at hl 1 rfl) ?_
        obtain ⟨r3, h_r3, h⟩ := bd_s h
        refine clVR (As := [.int l3, .int x1]) (rest := []) hx hb hml hown hts gX8_hidden_X8_isLive rfl 2 kX8_isLive ⟨Nat.le_of_ble_eq_true rfl, Nat.le_of_ble_eq_true rfl⟩ (ctX8_isLive l D ca o o_s o_saved o_text o_pieceCell o_letter o_number o_before o_savedCount o_textLength w_o_code w_o_pieceCount o_at o_commands o_hash o_s_d l3 x1 r3 h_r3) hP hK [0, 1] rfl 0 7 rfl rfl rfl rfl hl.1 rfl (Nat.le_of_ble_eq_true rfl) ⟨Nat.le_of_ble_eq_true rfl, Nat.le_of_ble_eq_true rfl⟩ dX8_hidden_40 rfl ?_
        refine lv_istore (lv' := [(4, .int r3), (0, .ref o), (1, .int x1), (2, .int l2), (3, .int l3)]) hx hb dX8_hidden_43 hl (by decide) rfl (fun ls hl => ?_)
        refine lv_iconst (v := (0 : Int32)) hx hb dX8_hidden_45 (by decide) ?_
        refine lv_istore (lv' := [(5, .int (0 : Int32)), (4, .int r3), (0, .ref o), (1, .int x1), (2, .int l2), (3, .int l3)]) hx hb dX8_hidden_46 hl (by decide) rfl (fun ls hl => ?_)
        exact L48 l2 l3 fuel r3 (0 : Int32) h _ _ hP hD hS ls (lv_sub hl [2, 3, 4, 5, 1, 0] rfl)
  refine lv_aload_n hx hb dX8_hidden_0 rfl (lv_at hl 0 rfl) ?_
  refine lv_iconst (v := (0 : Int32)) hx hb dX8_hidden_1 (by decide) ?_
  refine ptI (ci := 7) (v := .int (0 : Int32)) (ty := .int) (C := RX8) (T := TX8) (N := 14) (wn := [(o, .inr (7, [.ref o_s, .ref o_saved, .int o_savedCount, .ref o_text, .int o_textLength, .int (0 : Int32), .int o_pieceCount, .ref o_pieceCell, .int o_at, .int o_commands, .ref o_letter, .ref o_number, .ref o_before, .long o_hash])), (o_s, .inl (ca 0, 1634, .inl o_s_d)), (o_pieceCell, .inl (ca 0, 768, .inl o_pieceCell_d))]) hx hb hts inX8_hidden_X8 tyX8 tyX8_ok nmX8 hown hK hP hD hS 0 rfl rfl 5 (by decide) mwX8_hidden_0 rfl rfl (by decide +kernel) rfl rfl (Nat.le_of_ble_eq_true rfl) rfl dX8_hidden_2 (fun H locs hP hD hS => ?_)
  refine lv_iload_n hx hb dX8_hidden_5 rfl (lv_at hl 1 rfl) ?_
  obtain ⟨r1, h_r1, h⟩ := bd_s h
  refine clSR (As := [.int x1]) (rest := []) hx hb hml hown hts gX8_hidden_X8_isTick rfl 1 kX8_isTick.2 ⟨Nat.le_of_ble_eq_true rfl, Nat.le_of_ble_eq_true rfl⟩ (ctX8_isTick l D ca   x1 r1 h_r1) hP hK [] rfl rfl hl.1 rfl (Nat.le_of_ble_eq_true rfl) ⟨Nat.le_of_ble_eq_true rfl, Nat.le_of_ble_eq_true rfl⟩ dX8_hidden_6 rfl ?_
  refine lv_if_ne (tgt := 18) hx hb dX8_hidden_9 (by decide) (fun c2 => ?_) (fun c2 => ?_)
  · have h := in_s h c2
    refine lv_aload_n hx hb dX8_hidden_18 rfl (lv_at hl 0 rfl) ?_
    refine lv_iload_n hx hb dX8_hidden_19 rfl (lv_at hl 1 rfl) ?_
    obtain ⟨⟨r3_0, r3_1⟩, h_r3, h⟩ := bd_s h
    have h := up2_s h
    refine clVW (As := [.int x1]) (rest := []) (wr := []) (wn := [(o, .inr (7, [.ref o_s, .ref o_saved, .int o_savedCount, .ref o_text, .int o_textLength, .int (0 : Int32), .int r3_0, .ref o_pieceCell, .int o_at, .int o_commands, .ref o_letter, .ref o_number, .ref o_before, .long o_hash])), (o_s, .inl (ca 0, 1634, .inl o_s_d)), (o_pieceCell, .inl (ca 0, 768, .inl r3_1))]) hx hb hml hown hts gX8_hidden_X8_layPieces rfl 1 kX8_layPieces ⟨Nat.le_of_ble_eq_true rfl, Nat.le_of_ble_eq_true rfl⟩ (ctX8_layPieces l D ca o o_s o_saved o_text o_pieceCell o_letter o_number o_before o_savedCount o_textLength (0 : Int32) o_pieceCount o_at o_commands o_hash o_s_d o_pieceCell_d x1 _ r3_0 r3_1 h_r3) hP hD hS hA hK [0, 1, 2] [] rfl (by decide) rfl (by decide) (by decide) 0 7 rfl rfl rfl rfl hl.1 rfl (Nat.le_of_ble_eq_true rfl) ⟨Nat.le_of_ble_eq_true rfl, Nat.le_of_ble_eq_true rfl⟩ dX8_hidden_20 rfl rfl (fun H locs hP hD hS => ?_)
    refine lv_iconst (v := (0 : Int32)) hx hb dX8_hidden_23 (by decide) ?_
    refine lv_istore_n (lv' := [(2, .int (0 : Int32)), (0, .ref o), (1, .int x1)]) hx hb dX8_hidden_24 rfl hl (by decide) rfl (fun ls hl => ?_)
    refine lv_iconst (v := (0 : Int32)) hx hb dX8_hidden_25 (by decide) ?_
    refine lv_istore_n (lv' := [(3, .int (0 : Int32)), (2, .int (0 : Int32)), (0, .ref o), (1, .int x1)]) hx hb dX8_hidden_26 rfl hl (by decide) rfl (fun ls hl => ?_)
    exact L27 (0 : Int32) r3_0 r3_1 fuel (0 : Int32) (0 : Int32) h _ _ hP hD hS ls (lv_sub hl [2, 3, 1, 0] rfl)
  · have h := ip_s h c2
    refine lv_aload_n hx hb dX8_hidden_12 rfl (lv_at hl 0 rfl) ?_
    refine lv_iconst (v := (1 : Int32)) hx hb dX8_hidden_13 (by decide) ?_
    obtain ⟨⟨r13_0, r13_1⟩, h_r13, h⟩ := bd_s h
    have h := up2_s h
    refine clVW (As := [.int (1 : Int32)]) (rest := []) (wr := [(o_s, .inl (ca 0, 1634, .inl o_s_d)), (o_pieceCell, .inl (ca 0, 768, .inl o_pieceCell_d))]) (wn := [(o_s, .inl (ca 0, 1634, .inl o_s_d)), (o_pieceCell, .inl (ca 0, 768, .inl o_pieceCell_d)), (o, .inr (7, [.ref o_s, .ref o_saved, .int o_savedCount, .ref o_text, .int o_textLength, .int r13_1, .int o_pieceCount, .ref o_pieceCell, .int o_at, .int o_commands, .ref o_letter, .ref o_number, .ref o_before, .long o_hash]))]) hx hb hml hown hts gX8_hidden_X8_fails rfl 1 kX8_fails ⟨Nat.le_of_ble_eq_true rfl, Nat.le_of_ble_eq_true rfl⟩ (ctX8_fails l D ca o o_s o_saved o_text o_pieceCell o_letter o_number o_before o_savedCount o_textLength (0 : Int32) o_pieceCount o_at o_commands o_hash (1 : Int32) _ r13_0 r13_1 h_r13) hP hD hS hA hK [0] [1, 2] rfl (by decide) rfl (by decide) (by decide) 0 7 rfl rfl rfl rfl hl.1 rfl (Nat.le_of_ble_eq_true rfl) ⟨Nat.le_of_ble_eq_true rfl, Nat.le_of_ble_eq_true rfl⟩ dX8_hidden_14 rfl rfl (fun H locs hP hD hS => ?_)
    have hP := hP.sub (ws' := [(o, .inr (7, [.ref o_s, .ref o_saved, .int o_savedCount, .ref o_text, .int o_textLength, .int r13_1, .int o_pieceCount, .ref o_pieceCell, .int o_at, .int o_commands, .ref o_letter, .ref o_number, .ref o_before, .long o_hash])), (o_s, .inl (ca 0, 1634, .inl o_s_d)), (o_pieceCell, .inl (ca 0, 768, .inl o_pieceCell_d))]) [2, 0, 1] rfl
    have hD := hD.sub (ws' := [(o, .inr (7, [.ref o_s, .ref o_saved, .int o_savedCount, .ref o_text, .int o_textLength, .int r13_1, .int o_pieceCount, .ref o_pieceCell, .int o_at, .int o_commands, .ref o_letter, .ref o_number, .ref o_before, .long o_hash])), (o_s, .inl (ca 0, 1634, .inl o_s_d)), (o_pieceCell, .inl (ca 0, 768, .inl o_pieceCell_d))]) [2, 0, 1] (by decide) rfl
    cases h
    exact hret 17 ls _ _ _ hP hD hS rfl dX8_hidden_17
