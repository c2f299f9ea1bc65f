theorem kX8_lengthAt : yX8_lengthAt.cls = yX8_lengthAt.cls ∧ yX8_lengthAt.cls ≠ "java/lang/invoke/MethodHandle" ∧ yX8_lengthAt.cls ≠ "java/lang/invoke/VarHandle" ∧ (parseMethodDescriptor yX8_lengthAt.desc).map (fun d => d.parameters.length) = some 2 := by decide +kernel
set_option maxHeartbeats 4000000 in
set_option maxRecDepth 100000 in
theorem ctX8_lengthAt (l : Launch) (D : va_G) (ca : Nat → ClassId)   (x0 : Int32) (x1 : Int32) (u0 : Int32) (hf : fX8_lengthAt x0 x1 = some u0) : MR l yX8_lengthAt wsX8_lengthAt 0 0 D ca [.int x0, .int x1] [] (some (.int u0)) := by
  refine hdRi (plainFor_of_name (by decide +kernel)) rfl (Nat.le_of_ble_eq_true rfl) ?_
  intro p e s m args below meth c Q hx hb hml hown hts hP hK hret ls hl
  have hown : s.vm.findClass RX8 = some m.cls := hown
  have hl : lv_has ls 3 [(0, .int x0), (1, .int x1)] := hl
  have h := hf
  unfold fX8_lengthAt at h
  clear hf
  have L2 : ∀  (n : Nat) (l2 : Int32), lp (fun q => bX8_lengthAt_2 x0 x1  q) n l2 = some u0 → ∀ ls, lv_has ls 3 [(0, .int x0), (1, .int x1), (2, .int l2)] → W p l e ({ frames := 0, cells := 0, slots := 0, locals := 0 }) s m args below meth c s.heap [] 0 0 Q (F0 m 2 ls []) := by
    intro  n
    induction n with
    | zero => intro l2 h; exact (lp_0 h).elim
    | succ n ih2 =>
      intro l2 h ls hl
      obtain ⟨q2, h, hq2⟩ := lp_s h
      have h : bX8_lengthAt_2 x0 x1  l2 = some q2 := h
      unfold bX8_lengthAt_2 at h
      refine lv_iload_n hx hb dX8_lengthAt_2 rfl (lv_at hl 0 rfl) ?_
      refine lv_iconst (v := (2 : Int32)) hx hb dX8_lengthAt_3 (by decide) ?_
      refine lv_iload_n hx hb dX8_lengthAt_4 rfl (lv_at hl 2 rfl) ?_
      refine lv_imul hx hb dX8_lengthAt_5 ?_
      obtain ⟨hne, h⟩ := dv_s h
      refine lv_irem hx hb dX8_lengthAt_6 hne ?_
      refine lv_if_ne (tgt := 26) hx hb dX8_lengthAt_7 (by decide) (fun c1 => ?_) (fun c1 => ?_)
      · have h := in_s h c1
        have h := xt_s hq2 h
        refine lv_iload_n hx hb dX8_lengthAt_26 rfl (lv_at hl 2 rfl) ?_
        cases h
        exact hret 27 ls _ rfl dX8_lengthAt_27
      · have h := ip_s h c1
        refine lv_iload_n hx hb dX8_lengthAt_10 rfl (lv_at hl 0 rfl) ?_
        refine lv_iconst (v := (2 : Int32)) hx hb dX8_lengthAt_11 (by decide) ?_
        refine lv_iload_n hx hb dX8_lengthAt_12 rfl (lv_at hl 2 rfl) ?_
        refine lv_imul hx hb dX8_lengthAt_13 ?_
        refine lv_iadd hx hb dX8_lengthAt_14 ?_
        refine lv_iload_n hx hb dX8_lengthAt_15 rfl (lv_at hl 1 rfl) ?_
        refine lv_icmp_gt (tgt := 26) hx hb dX8_lengthAt_16 (by decide) (fun c2 => ?_) (fun c2 => ?_)
        · have h := ip_s h c2
          have h := xt_s hq2 h
          refine lv_iload_n hx hb dX8_lengthAt_26 rfl (lv_at hl 2 rfl) ?_
          cases h
          exact hret 27 ls _ rfl dX8_lengthAt_27
        · have h := in_s h c2
          refine lv_iload_n hx hb dX8_lengthAt_19 rfl (lv_at hl 2 rfl) ?_
          refine lv_iconst (v := (2 : Int32)) hx hb dX8_lengthAt_20 (by decide) ?_
          refine lv_imul hx hb dX8_lengthAt_21 ?_
          obtain ⟨y3, e_y3, h⟩ := nm_s h
          refine top_i e_y3 ?_
          refine lv_istore_n (lv' := [(2, .int y3), (0, .int x0), (1, .int x1)]) hx hb dX8_lengthAt_22 rfl hl (by decide) rfl (fun ls hl => ?_)
          refine lv_goto (tgt := 2) hx hb dX8_lengthAt_23 (by decide) ?_
          exact ih2 y3 (lp_l hq2 h) ls (lv_sub hl [1, 2, 0] rfl)
  refine lv_iconst (v := (1 : Int32)) hx hb dX8_lengthAt_0 (by decide) ?_
  refine lv_istore_n (lv' := [(2, .int (1 : Int32)), (0, .int x0), (1, .int x1)]) hx hb dX8_lengthAt_1 rfl hl (by decide) rfl (fun ls hl => ?_)
  exact L2  fuel (1 : Int32) h ls (lv_sub hl [1, 2, 0] rfl)
theorem kX8_intervalCount : yX8_intervalCount.cls = RX8 ∧ yX8_intervalCount.cls ≠ "java/lang/invoke/MethodHandle" ∧ yX8_intervalCount.cls ≠ "java/lang/invoke/VarHandle" ∧ (parseMethodDescriptor yX8_intervalCount.desc).map (fun d => d.parameters.length) = some 1 := by decide +kernel
set_option maxHeartbeats 4000000 in
set_option maxRecDepth 100000 in
theorem ctX8_intervalCount (l : Launch) (D : va_G) (ca : Nat → ClassId) (o : Nat) (o_s : Nat) (o_saved : Nat) (o_text : Nat) (o_pieceCell : Nat) (o_letter : Nat) (o_number : Nat) (o_before : Nat) (o_savedCount : Int32) (o_textLength : Int32) (o_code : Int32) (o_pieceCount : Int32) (o_at : Int32) (o_commands : Int32) (o_hash : Int64) (o_s_d : Nat → Int32) (x1 : Int32) (u0 : Int32) (hf : fX8_intervalCount o_s_d x1 = some u0) : MR l yX8_intervalCount wsX8_intervalCount 2 43 D ca [.ref o, .int x1] [(o, .inr (7, [.ref o_s, .ref o_saved, .int o_savedCount, .ref o_text, .int o_textLength, .int o_code, .int o_pieceCount, .ref o_pieceCell, .int o_at, .int o_commands, .ref o_letter, .ref o_number, .ref o_before, .long o_hash])), (o_s, .inl (ca 0, 1634, .inl o_s_d))] (some (.int u0)) := by
  refine hdRi (plainFor_of_name (by decide +kernel)) rfl (Nat.le_of_ble_eq_true rfl) ?_
  intro p e s m args below meth c Q hx hb hml hown hts hP hK hret ls hl
  have hown : s.vm.findClass RX8 = some m.cls := hown
  have hl : lv_has ls 4 [(0, .ref o), (1, .int x1)] := hl
  have h := hf
  unfold fX8_intervalCount at h
  clear hf
  have L9 : ∀  (n : Nat) (l2 : Int32) (l3 : Int32), lp (fun q => bX8_intervalCount_9 o_s_d x1  q.1 q.2) n (l2, l3) = some u0 → ∀ ls, lv_has ls 4 [(0, .ref o), (1, .int x1), (2, .int l2), (3, .int l3)] → W p l e ({ frames := 2, cells := 0, slots := 0, locals := 43 }) s m args below meth c s.heap [] 0 0 Q (F0 m 9 ls []) := by
    intro  n
    induction n with
    | zero => intro l2 l3 h; exact (lp_0 h).elim
    | succ n ih9 =>
      intro l2 l3 h ls hl
      obtain ⟨q9, h, hq9⟩ := lp_s h
      have h : bX8_intervalCount_9 o_s_d x1  l2 l3 = some q9 := h
      unfold bX8_intervalCount_9 at h
      refine lv_iload_n hx hb dX8_intervalCount_9 rfl (lv_at hl 3 rfl) ?_
      refine lv_aload_n hx hb dX8_intervalCount_10 rfl (lv_at hl 0 rfl) ?_
      refine lv_iload_n hx hb dX8_intervalCount_11 rfl (lv_at hl 1 rfl) ?_
      refine lv_iconst (v := (5 : Int32)) hx hb dX8_intervalCount_12 (by decide) ?_
      obtain ⟨r1, h_r1, h⟩ := bd_s h
      refine clVR (As := [.int x1, .int (5 : Int32)]) (rest := [.int l3]) hx hb hml hown hts gX8_intervalCount_X8_of rfl 2 kX8_of ⟨Nat.le_of_ble_eq_true rfl, Nat.le_of_ble_eq_true rfl⟩ (ctX8_of l D ca o o_s o_saved o_text o_pieceCell o_letter o_number o_before o_savedCount o_textLength o_code o_pieceCount o_at o_commands o_hash o_s_d x1 (5 : Int32) r1 h_r1) hP hK [0, 1] rfl 0 7 rfl rfl rfl rfl hl.1 rfl (Nat.le_of_ble_eq_true rfl) ⟨Nat.le_of_ble_eq_true rfl, Nat.le_of_ble_eq_true rfl⟩ dX8_intervalCount_13 rfl ?_
      refine lv_icmp_ge (tgt := 38) hx hb dX8_intervalCount_16 (by decide) (fun c2 => ?_) (fun c2 => ?_)
      · have h := ip_s h c2
        have h := xt_s hq9 h
        refine lv_iload_n hx hb dX8_intervalCount_38 rfl (lv_at hl 2 rfl) ?_
        cases h
        exact hret 39 ls _ rfl dX8_intervalCount_39
      · have h := in_s h c2
        refine lv_iload_n hx hb dX8_intervalCount_19 rfl (lv_at hl 3 rfl) ?_
        refine lv_iload_n hx hb dX8_intervalCount_20 rfl (lv_at hl 3 rfl) ?_
        refine lv_aload_n hx hb dX8_intervalCount_21 rfl (lv_at hl 0 rfl) ?_
        refine lv_iload_n hx hb dX8_intervalCount_22 rfl (lv_at hl 1 rfl) ?_
        refine lv_iconst (v := (5 : Int32)) hx hb dX8_intervalCount_23 (by decide) ?_
        obtain ⟨r3, h_r3, h⟩ := bd_s h
        refine clVR (As := [.int x1, .int (5 : Int32)]) (rest := [.int l3, .int l3]) hx hb hml hown hts gX8_intervalCount_X8_of rfl 2 kX8_of ⟨Nat.le_of_ble_eq_true rfl, Nat.le_of_ble_eq_true rfl⟩ (ctX8_of l D ca o o_s o_saved o_text o_pieceCell o_letter o_number o_before o_savedCount o_textLength o_code o_pieceCount o_at o_commands o_hash o_s_d x1 (5 : Int32) r3 h_r3) hP hK [0, 1] rfl 0 7 rfl rfl rfl rfl hl.1 rfl (Nat.le_of_ble_eq_true rfl) ⟨Nat.le_of_ble_eq_true rfl, Nat.le_of_ble_eq_true rfl⟩ dX8_intervalCount_24 rfl ?_
        obtain ⟨r4, h_r4, h⟩ := bd_s h
        refine clSR (As := [.int l3, .int r3]) (rest := [.int l3]) hx hb hml hown hts gX8_intervalCount_X8_lengthAt rfl 2 kX8_lengthAt.2 ⟨Nat.le_of_ble_eq_true rfl, Nat.le_of_ble_eq_true rfl⟩ (ctX8_lengthAt l D ca   l3 r3 r4 h_r4) hP hK [] rfl rfl hl.1 rfl (Nat.le_of_ble_eq_true rfl) ⟨Nat.le_of_ble_eq_true rfl, Nat.le_of_ble_eq_true rfl⟩ dX8_intervalCount_27 rfl ?_
        refine lv_iadd hx hb dX8_intervalCount_30 ?_
        obtain ⟨y5, e_y5, h⟩ := nm_s h
        refine top_i e_y5 ?_
        refine lv_istore_n (lv' := [(3, .int y5), (0, .ref o), (1, .int x1), (2, .int l2)]) hx hb dX8_intervalCount_31 rfl hl (by decide) rfl (fun ls hl => ?_)
        obtain ⟨y6, e_y6, h⟩ := nm_s h
        refine lv_iinc (v := y6) (lv' := [(2, .int y6), (3, .int y5), (0, .ref o), (1, .int x1)]) hx hb dX8_intervalCount_32 hl (k := 3) rfl (by rw [e_y6]; rfl) (by decide) rfl (fun ls hl => ?_)
        refine lv_goto (tgt := 9) hx hb dX8_intervalCount_35 (by decide) ?_
        exact ih9 y6 y5 (lp_l hq9 h) ls (lv_sub hl [2, 3, 0, 1] rfl)
  refine lv_iconst (v := (0 : Int32)) hx hb dX8_intervalCount_0 (by decide) ?_
  refine lv_istore_n (lv' := [(2, .int (0 : Int32)), (0, .ref o), (1, .int x1)]) hx hb dX8_intervalCount_1 rfl hl (by decide) rfl (fun ls hl => ?_)
  refine lv_aload_n hx hb dX8_intervalCount_2 rfl (lv_at hl 1 rfl) ?_
  refine lv_iload_n hx hb dX8_intervalCount_3 rfl (lv_at hl 2 rfl) ?_
  refine lv_iconst (v := (4 : Int32)) hx hb dX8_intervalCount_4 (by decide) ?_
  obtain ⟨r1, h_r1, h⟩ := bd_s h
  refine clVR (As := [.int x1, .int (4 : Int32)]) (rest := []) hx hb hml hown hts gX8_intervalCount_X8_of rfl 2 kX8_of ⟨Nat.le_of_ble_eq_true rfl, Nat.le_of_ble_eq_true rfl⟩ (ctX8_of l D ca o o_s o_saved o_text o_pieceCell o_letter o_number o_before o_savedCount o_textLength o_code o_pieceCount o_at o_commands o_hash o_s_d x1 (4 : Int32) r1 h_r1) hP hK [0, 1] rfl 0 7 rfl rfl rfl rfl hl.1 rfl (Nat.le_of_ble_eq_true rfl) ⟨Nat.le_of_ble_eq_true rfl, Nat.le_of_ble_eq_true rfl⟩ dX8_intervalCount_5 rfl ?_
  refine lv_istore_n (lv' := [(3, .int r1), (2, .int (0 : Int32)), (0, .ref o), (1, .int x1)]) hx hb dX8_intervalCount_8 rfl hl (by decide) rfl (fun ls hl => ?_)
  exact L9  fuel (0 : Int32) r1 h ls (lv_sub hl [2, 3, 1, 0] rfl)
theorem mwX8_intervals_0 : Cond.fieldLink RX8 31 "SegmentTimesModel" "code" "I" ∈ wsX8_intervals := List.mem_of_getElem? (i := 1) rfl
theorem inX8_intervals_X8 : ∀ w ∈ u_ws RX8 TX8 14, w ∈ wsX8_intervals := fun w h => List.mem_cons_of_mem _ (List.mem_append_right _ (h))
theorem kX8_intervals : yX8_intervals.cls = RX8 ∧ yX8_intervals.cls ≠ "java/lang/invoke/MethodHandle" ∧ yX8_intervals.cls ≠ "java/lang/invoke/VarHandle" ∧ (parseMethodDescriptor yX8_intervals.desc).map (fun d => d.parameters.length) = some 1 := by decide +kernel
set_option maxHeartbeats 4000000 in
set_option maxRecDepth 100000 in
theorem ctX8_intervals (l : Launch) (D : va_G) (ca : Nat → ClassId) (o : Nat) (o_s : Nat) (o_saved : Nat) (o_text : Nat) (o_pieceCell : Nat) (o_letter : Nat) (o_number : Nat) (o_before : Nat) (o_savedCount : Int32) (o_textLength : Int32) (o_code : Int32) (o_pieceCount : Int32) (o_at : Int32) (o_commands : Int32) (o_hash : Int64) (o_s_d : Nat → Int32) (x1 : Int32) (sz : Nat) (u0 : Int32) (u1 : Int32) (hf : fX8_intervals o_code o_s_d x1 = some (u0, u1)) : MW l yX8_intervals wsX8_intervals 3 66 D ca [.ref o, .int x1] sz [(o, .inr (7, [.ref o_s, .ref o_saved, .int o_savedCount, .ref o_text, .int o_textLength, .int o_code, .int o_pieceCount, .ref o_pieceCell, .int o_at, .int o_commands, .ref o_letter, .ref o_number, .ref o_before, .long o_hash])), (o_s, .inl (ca 0, 1634, .inl o_s_d))] (some (.int u0)) [(o, .inr (7, [.ref o_s, .ref o_saved, .int o_savedCount, .ref o_text, .int o_textLength, .int u1, .int o_pieceCount, .ref o_pieceCell, .int o_at, .int o_commands, .ref o_letter, .ref o_number, .ref o_before, .long o_hash])), (o_s, .inl (ca 0, 1634, .inl o_s_d))] := by
  refine hdWi (by decide +kernel) rfl (Nat.le_of_ble_eq_true rfl) ?_
  intro p e s m args below meth c A Q hx hb hml hown hts hP hD hK hA hS hret ls hl
  have hown : s.vm.findClass RX8 = some m.cls := hown
  have hl : lv_has ls 2 [(0, .ref o), (1, .int x1)] := hl
  have h := hf
  unfold fX8_intervals at h
  clear hf
  refine lv_aload_n hx hb dX8_intervals_0 rfl (lv_at hl 0 rfl) ?_
  refine lv_iconst (v := (0 : Int32)) hx hb dX8_intervals_1 (by decide) ?_
  refine ptI (ci := 7) (v := .int (0 : Int32)) (ty := .int) (C := RX8) (T := TX8) (N := 14) (wn := [(o, .inr (7, [.ref o_s, .ref o_saved, .int o_savedCount, .ref o_text, .int o_textLength, .int (0 : Int32), .int o_pieceCount, .ref o_pieceCell, .int o_at, .int o_commands, .ref o_letter, .ref o_number, .ref o_before, .long o_hash])), (o_s, .inl (ca 0, 1634, .inl o_s_d))]) hx hb hts inX8_intervals_X8 tyX8 tyX8_ok nmX8 hown hK hP hD hS 0 rfl rfl 5 (by decide) mwX8_intervals_0 rfl rfl (by decide +kernel) rfl rfl (Nat.le_of_ble_eq_true rfl) rfl dX8_intervals_2 (fun H locs hP hD hS => ?_)
  refine lv_aload_n hx hb dX8_intervals_5 rfl (lv_at hl 0 rfl) ?_
  refine lv_iload_n hx hb dX8_intervals_6 rfl (lv_at hl 1 rfl) ?_
  obtain ⟨r1, h_r1, h⟩ := bd_s h
  refine clVR (As := [.int x1]) (rest := []) hx hb hml hown hts gX8_intervals_X8_isSegment rfl 1 kX8_isSegment ⟨Nat.le_of_ble_eq_true rfl, Nat.le_of_ble_eq_true rfl⟩ (ctX8_isSegment l D ca o o_s o_saved o_text o_pieceCell o_letter o_number o_before o_savedCount o_textLength (0 : Int32) o_pieceCount o_at o_commands o_hash o_s_d x1 r1 h_r1) hP hK [0, 1] rfl 0 7 rfl rfl rfl rfl hl.1 rfl (Nat.le_of_ble_eq_true rfl) ⟨Nat.le_of_ble_eq_true rfl, Nat.le_of_ble_eq_true rfl⟩ dX8_intervals_7 rfl ?_
  refine lv_if_eq (tgt := 21) hx hb dX8_intervals_10 (by decide) (fun c2 => ?_) (fun c2 => ?_)
  · have h := ip_s h c2
    refine lv_aload_n hx hb dX8_intervals_21 rfl (lv_at hl 0 rfl) ?_
    refine lv_iconst (v := (1 : Int32)) hx hb dX8_intervals_22 (by decide) ?_
    obtain ⟨⟨r3_0, r3_1⟩, h_r3, h⟩ := bd_s h
    have h := up2_s h
    refine clVW (As := [.int (1 : Int32)]) (rest := []) (wr := [(o_s, .inl (ca 0, 1634, .inl o_s_d))]) (wn := [(o_s, .inl (ca 0, 1634, .inl o_s_d)), (o, .inr (7, [.ref o_s, .ref o_saved, .int o_savedCount, .ref o_text, .int o_textLength, .int r3_1, .int o_pieceCount, .ref o_pieceCell, .int o_at, .int o_commands, .ref o_letter, .ref o_number, .ref o_before, .long o_hash]))]) hx hb hml hown hts gX8_intervals_X8_fails rfl 1 kX8_fails ⟨Nat.le_of_ble_eq_true rfl, Nat.le_of_ble_eq_true rfl⟩ (ctX8_fails l D ca o o_s o_saved o_text o_pieceCell o_letter o_number o_before o_savedCount o_textLength (0 : Int32) o_pieceCount o_at o_commands o_hash (1 : Int32) _ r3_0 r3_1 h_r3) hP hD hS hA hK [0] [1] rfl (by decide) rfl (by decide) (by decide) 0 7 rfl rfl rfl rfl hl.1 rfl (Nat.le_of_ble_eq_true rfl) ⟨Nat.le_of_ble_eq_true rfl, Nat.le_of_ble_eq_true rfl⟩ dX8_intervals_23 rfl rfl (fun H locs hP hD hS => ?_)
    have hP := hP.sub (ws' := [(o, .inr (7, [.ref o_s, .ref o_saved, .int o_savedCount, .ref o_text, .int o_textLength, .int r3_1, .int o_pieceCount, .ref o_pieceCell, .int o_at, .int o_commands, .ref o_letter, .ref o_number, .ref o_before, .long o_hash])), (o_s, .inl (ca 0, 1634, .inl o_s_d))]) [1, 0] rfl
    have hD := hD.sub (ws' := [(o, .inr (7, [.ref o_s, .ref o_saved, .int o_savedCount, .ref o_text, .int o_textLength, .int r3_1, .int o_pieceCount, .ref o_pieceCell, .int o_at, .int o_commands, .ref o_letter, .ref o_number, .ref o_before, .long o_hash])), (o_s, .inl (ca 0, 1634, .inl o_s_d))]) [1, 0] (by decide) rfl
    cases h
    exact hret 26 ls _ _ _ hP hD hS rfl dX8_intervals_26
  · have h := in_s h c2
    refine lv_aload_n hx hb dX8_intervals_13 rfl (lv_at hl 0 rfl) ?_
    refine lv_iload_n hx hb dX8_intervals_14 rfl (lv_at hl 1 rfl) ?_
    obtain ⟨r4, h_r4, h⟩ := bd_s h
    refine clVR (As := [.int x1]) (rest := []) hx hb hml hown hts gX8_intervals_X8_intervalCount rfl 1 kX8_intervalCount ⟨Nat.le_of_ble_eq_true rfl, Nat.le_of_ble_eq_true rfl⟩ (ctX8_intervalCount l D ca o o_s o_saved o_text o_pieceCell o_letter o_number o_before o_savedCount o_textLength (0 : Int32) o_pieceCount o_at o_commands o_hash o_s_d x1 r4 h_r4) hP hK [0, 1] rfl 0 7 rfl rfl rfl rfl hl.1 rfl (Nat.le_of_ble_eq_true rfl) ⟨Nat.le_of_ble_eq_true rfl, Nat.le_of_ble_eq_true rfl⟩ dX8_intervals_15 rfl ?_
    refine lv_goto (tgt := 26) hx hb dX8_intervals_18 (by decide) ?_
    cases h
    exact hret 26 ls _ _ _ hP hD hS rfl dX8_intervals_26
theorem mwX8_interval_0 : Cond.fieldLink RX8 31 "SegmentTimesModel" "code" "I" ∈ wsX8_interval := List.mem_of_getElem? (i := 1) rfl
theorem inX8_interval_X8 : ∀ w ∈ u_ws RX8 TX8 14, w ∈ wsX8_interval := fun w h => List.mem_cons_of_mem _ (List.mem_append_right _ (h))
theorem kX8_interval : yX8_interval.cls = RX8 ∧ yX8_interval.cls ≠ "java/lang/invoke/MethodHandle" ∧ yX8_interval.cls ≠ "java/lang/invoke/VarHandle" ∧ (parseMethodDescriptor yX8_interval.desc).map (fun d => d.parameters.length) = some 3 := by decide +kernel
set_option maxHeartbeats 4000000 in
set_option maxRecDepth 100000 in
theorem ctX8_interval (l : Launch) (D : va_G) (ca : Nat → ClassId) (o : Nat) (o_s : Nat) (o_saved : Nat) (o_text : Nat) (o_pieceCell : Nat) (o_letter : Nat) (o_number : Nat) (o_before : Nat) (o_savedCount : Int32) (o_textLength : Int32) (o_code : Int32) (o_pieceCount : Int32) (o_at : Int32) (o_commands : Int32) (o_hash : Int64) (o_s_d : Nat → Int32) (x1 : Int32) (x2 : Int32) (x3 : Int32) (sz : Nat) (u0 : Int32) (u1 : Int32) (hf : fX8_interval o_code o_s_d x1 x2 x3 = some (u0, u1)) : MW l yX8_interval wsX8_interval 3 66 D ca [.ref o, .int x1, .int x2, .int x3] sz [(o, .inr (7, [.ref o_s, .ref o_saved, .int o_savedCount, .ref o_text, .int o_textLength, .int o_code, .int o_pieceCount, .ref o_pieceCell, .int o_at, .int o_commands, .ref o_letter, .ref o_number, .ref o_before, .long o_hash])), (o_s, .inl (ca 0, 1634, .inl o_s_d))] (some (.int u0)) [(o, .inr (7, [.ref o_s, .ref o_saved, .int o_savedCount, .ref o_text, .int o_textLength, .int u1, .int o_pieceCount, .ref o_pieceCell, .int o_at, .int o_commands, .ref o_letter, .ref o_number, .ref o_before, .long o_hash])), (o_s, .inl (ca 0, 1634, .inl o_s_d))] := by
  refine hdWi (by decide +kernel) rfl (Nat.le_of_ble_eq_true rfl) ?_
  intro p e s m args below meth c A Q hx hb hml hown hts hP hD hK hA hS hret ls hl
  have hown : s.vm.findClass RX8 = some m.cls := hown
  have hl : lv_has ls 7 [(0, .ref o), (1, .int x1), (2, .int x2), (3, .int x3)] := hl
  have h := hf
  unfold fX8_interval at h
  clear hf
  have J30 : ∀ (w_o_code : Int32), jX8_interval_30  w_o_code = some (u0, u1) → ∀ (H : Heap) (locs : List Loc), va_P D vwCl [(o, .inr (7, [.ref o_s, .ref o_saved, .int o_savedCount, .ref o_text, .int o_textLength, .int w_o_code, .int o_pieceCount, .ref o_pieceCell, .int o_at, .int o_commands, .ref o_letter, .ref o_number, .ref o_before, .long o_hash])), (o_s, .inl (ca 0, 1634, .inl o_s_d))] H → va_D A [(o, .inr (7, [.ref o_s, .ref o_saved, .int o_savedCount, .ref o_text, .int o_textLength, .int w_o_code, .int o_pieceCount, .ref o_pieceCell, .int o_at, .int o_commands, .ref o_letter, .ref o_number, .ref o_before, .long o_hash])), (o_s, .inl (ca 0, 1634, .inl o_s_d))] → va_S A s.heap H locs → ∀ ls, lv_has ls 7 [(0, .ref o)] → W p l e ({ frames := 3, cells := 0, slots := 0, locals := 66 }) s m args below meth c H locs 0 0 Q (F0 m 30 ls []) := by
    intro w_o_code h H locs hP hD hS ls hl
    unfold jX8_interval_30 at h
    refine lv_aload_n hx hb dX8_interval_30 rfl (lv_at hl 0 rfl) ?_
    refine lv_iconst (v := (1 : Int32)) hx hb dX8_interval_31 (by decide) ?_
    obtain ⟨⟨r1_0, r1_1⟩, h_r1, h⟩ := bd_s h
    have h := up2_s h
    refine clVW (As := [.int (1 : Int32)]) (rest := []) (wr := [(o_s, .inl (ca 0, 1634, .inl o_s_d))]) (wn := [(o_s, .inl (ca 0, 1634, .inl o_s_d)), (o, .inr (7, [.ref o_s, .ref o_saved, .int o_savedCount, .ref o_text, .int o_textLength, .int r1_1, .int o_pieceCount, .ref o_pieceCell, .int o_at, .int o_commands, .ref o_letter, .ref o_number, .ref o_before, .long o_hash]))]) hx hb hml hown hts gX8_interval_X8_fails rfl 1 kX8_fails ⟨Nat.le_of_ble_eq_true rfl, Nat.le_of_ble_eq_true rfl⟩ (ctX8_fails l D ca o o_s o_saved o_text o_pieceCell o_letter o_number o_before o_savedCount o_textLength w_o_code o_pieceCount o_at o_commands o_hash (1 : Int32) _ r1_0 r1_1 h_r1) hP hD hS hA hK [0] [1] rfl (by decide) rfl (by decide) (by decide) 0 7 rfl rfl rfl rfl hl.1 rfl (Nat.le_of_ble_eq_true rfl) ⟨Nat.le_of_ble_eq_true rfl, Nat.le_of_ble_eq_true rfl⟩ dX8_interval_32 rfl rfl (fun H locs hP hD hS => ?_)
    have hP := hP.sub (ws' := [(o, .inr (7, [.ref o_s, .ref o_saved, .int o_savedCount, .ref o_text, .int o_textLength, .int r1_1, .int o_pieceCount, .ref o_pieceCell, .int o_at, .int o_commands, .ref o_letter, .ref o_number, .ref o_before, .long o_hash])), (o_s, .inl (ca 0, 1634, .inl o_s_d))]) [1, 0] rfl
    have hD := hD.sub (ws' := [(o, .inr (7, [.ref o_s, .ref o_saved, .int o_savedCount, .ref o_text, .int o_textLength, .int r1_1, .int o_pieceCount, .ref o_pieceCell, .int o_at, .int o_commands, .ref o_letter, .ref o_number, .ref o_before, .long o_hash])), (o_s, .inl (ca 0, 1634, .inl o_s_d))]) [1, 0] (by decide) rfl
    cases h
    exact hret 35 ls _ _ _ hP hD hS rfl dX8_interval_35
  have L60 : ∀ (w_o_code : Int32) (n : Nat) (l4 : Int32) (l5 : Int32) (l6 : Int32), lp (fun q => bX8_interval_60 o_s_d x1 x2 x3 w_o_code q.1 q.2.1 q.2.2) n (l4, l5, l6) = some (u0, u1) → ∀ (H : Heap) (locs : List Loc), va_P D vwCl [(o, .inr (7, [.ref o_s, .ref o_saved, .int o_savedCount, .ref o_text, .int o_textLength, .int w_o_code, .int o_pieceCount, .ref o_pieceCell, .int o_at, .int o_commands, .ref o_letter, .ref o_number, .ref o_before, .long o_hash])), (o_s, .inl (ca 0, 1634, .inl o_s_d))] H → va_D A [(o, .inr (7, [.ref o_s, .ref o_saved, .int o_savedCount, .ref o_text, .int o_textLength, .int w_o_code, .int o_pieceCount, .ref o_pieceCell, .int o_at, .int o_commands, .ref o_letter, .ref o_number, .ref o_before, .long o_hash])), (o_s, .inl (ca 0, 1634, .inl o_s_d))] → va_S A s.heap H locs → ∀ ls, lv_has ls 7 [(0, .ref o), (1, .int x1), (2, .int x2), (3, .int x3), (4, .int l4), (5, .int l5), (6, .int l6)] → W p l e ({ frames := 3, cells := 0, slots := 0, locals := 66 }) s m args below meth c H locs 0 0 Q (F0 m 60 ls []) := by
    intro w_o_code n
    induction n with
    | zero => intro l4 l5 l6 h; exact (lp_0 h).elim
    | succ n ih60 =>
      intro l4 l5 l6 h H locs hP hD hS ls hl
      obtain ⟨q60, h, hq60⟩ := lp_s h
      have h : bX8_interval_60 o_s_d x1 x2 x3 w_o_code l4 l5 l6 = some q60 := h
      unfold bX8_interval_60 at h
      refine lv_iload hx hb dX8_interval_60 (lv_at hl 6 rfl) ?_
      refine lv_iload_n hx hb dX8_interval_62 rfl (lv_at hl 2 rfl) ?_
      refine lv_icmp_ge (tgt := 92) hx hb dX8_interval_63 (by decide) (fun c1 => ?_) (fun c1 => ?_)
      · have h := ip_s h c1
        have h := xt_s hq60 h
        refine lv_iload_n hx hb dX8_interval_92 rfl (lv_at hl 3 rfl) ?_
        refine lv_if_eq (tgt := 101) hx hb dX8_interval_93 (by decide) (fun c2 => ?_) (fun c2 => ?_)
        · have h := ip_s h c2
          refine lv_iload hx hb dX8_interval_101 (lv_at hl 4 rfl) ?_
          cases h
          exact hret 103 ls _ _ _ hP hD hS rfl dX8_interval_103
        · have h := in_s h c2
          refine lv_iload hx hb dX8_interval_96 (lv_at hl 5 rfl) ?_
          refine lv_goto (tgt := 103) hx hb dX8_interval_98 (by decide) ?_
          cases h
          exact hret 103 ls _ _ _ hP hD hS rfl dX8_interval_103
      · have h := in_s h c1
        refine lv_iload hx hb dX8_interval_66 (lv_at hl 4 rfl) ?_
        refine lv_iload hx hb dX8_interval_68 (lv_at hl 5 rfl) ?_
        refine lv_iadd hx hb dX8_interval_70 ?_
        obtain ⟨y3, e_y3, h⟩ := nm_s h
        refine top_i e_y3 ?_
        refine lv_istore (lv' := [(4, .int y3), (0, .ref o), (1, .int x1), (2, .int x2), (3, .int x3), (5, .int l5), (6, .int l6)]) hx hb dX8_interval_71 hl (by decide) rfl (fun ls hl => ?_)
        refine lv_iload hx hb dX8_interval_73 (lv_at hl 0 rfl) ?_
        refine lv_aload_n hx hb dX8_interval_75 rfl (lv_at hl 1 rfl) ?_
        refine lv_iload_n hx hb dX8_interval_76 rfl (lv_at hl 2 rfl) ?_
        refine lv_iconst (v := (5 : Int32)) hx hb dX8_interval_77 (by decide) ?_
        obtain ⟨r4, h_r4, h⟩ := bd_s h
        refine clVR (As := [.int x1, .int (5 : Int32)]) (rest := [.int y3]) hx hb hml hown hts gX8_interval_X8_of rfl 2 kX8_of ⟨Nat.le_of_ble_eq_true rfl, Nat.le_of_ble_eq_true rfl⟩ (ctX8_of l D ca o o_s o_saved o_text o_pieceCell o_letter o_number o_before o_savedCount o_textLength w_o_code o_pieceCount o_at o_commands o_hash o_s_d x1 (5 : Int32) r4 h_r4) hP hK [0, 1] rfl 0 7 rfl rfl rfl rfl hl.1 rfl (Nat.le_of_ble_eq_true rfl) ⟨Nat.le_of_ble_eq_true rfl, Nat.le_of_ble_eq_true rfl⟩ dX8_interval_78 rfl ?_
        obtain ⟨r5, h_r5, h⟩ := bd_s h
        refine clSR (As := [.int y3, .int r4]) (rest := []) hx hb hml hown hts gX8_interval_X8_lengthAt rfl 2 kX8_lengthAt.2 ⟨Nat.le_of_ble_eq_true rfl, Nat.le_of_ble_eq_true rfl⟩ (ctX8_lengthAt l D ca   y3 r4 r5 h_r5) hP hK [] rfl rfl hl.1 rfl (Nat.le_of_ble_eq_true rfl) ⟨Nat.le_of_ble_eq_true rfl, Nat.le_of_ble_eq_true rfl⟩ dX8_interval_81 rfl ?_
        refine lv_istore (lv' := [(5, .int r5), (4, .int y3), (0, .ref o), (1, .int x1), (2, .int x2), (3, .int x3), (6, .int l6)]) hx hb dX8_interval_84 hl (by decide) rfl (fun ls hl => ?_)
        obtain ⟨y6, e_y6, h⟩ := nm_s h
        refine lv_iinc (v := y6) (lv' := [(6, .int y6), (5, .int r5), (4, .int y3), (0, .ref o), (1, .int x1), (2, .int x2), (3, .int x3)]) hx hb dX8_interval_86 hl (k := 6) rfl (by rw [e_y6]; rfl) (by decide) rfl (fun ls hl => ?_)
        refine lv_goto (tgt := 60) hx hb dX8_interval_89 (by decide) ?_
        exact ih60 y3 r5 y6 (lp_l hq60 h) _ _ hP hD hS ls (lv_sub hl [3, 4, 5, 6, 2, 1, 0] rfl)
  refine lv_aload_n hx hb dX8_interval_0 rfl (lv_at hl 0 rfl) ?_
  refine lv_iconst (v := (0 : Int32)) hx hb dX8_interval_1 (by decide) ?_
  refine ptI (ci := 7) (v := .int (0 : Int32)) (ty := .int) (C := RX8) (T := TX8) (N := 14) (wn := [(o, .inr (7, [.ref o_s, .ref o_saved, .int o_savedCount, .ref o_text, .int o_textLength, .int (0 : Int32), .int o_pieceCount, .ref o_pieceCell, .int o_at, .int o_commands, .ref o_letter, .ref o_number, .ref o_before, .long o_hash])), (o_s, .inl (ca 0, 1634, .inl o_s_d))]) hx hb hts inX8_interval_X8 tyX8 tyX8_ok nmX8 hown hK hP hD hS 0 rfl rfl 5 (by decide) mwX8_interval_0 rfl rfl (by decide +kernel) rfl rfl (Nat.le_of_ble_eq_true rfl) rfl dX8_interval_2 (fun H locs hP hD hS => ?_)
  refine lv_aload_n hx hb dX8_interval_5 rfl (lv_at hl 0 rfl) ?_
  refine lv_iload_n hx hb dX8_interval_6 rfl (lv_at hl 1 rfl) ?_
  obtain ⟨r1, h_r1, h⟩ := bd_s h
  refine clVR (As := [.int x1]) (rest := []) hx hb hml hown hts gX8_interval_X8_isSegment rfl 1 kX8_isSegment ⟨Nat.le_of_ble_eq_true rfl, Nat.le_of_ble_eq_true rfl⟩ (ctX8_isSegment l D ca o o_s o_saved o_text o_pieceCell o_letter o_number o_before o_savedCount o_textLength (0 : Int32) o_pieceCount o_at o_commands o_hash o_s_d x1 r1 h_r1) hP hK [0, 1] rfl 0 7 rfl rfl rfl rfl hl.1 rfl (Nat.le_of_ble_eq_true rfl) ⟨Nat.le_of_ble_eq_true rfl, Nat.le_of_ble_eq_true rfl⟩ dX8_interval_7 rfl ?_
  refine lv_if_eq (tgt := 30) hx hb dX8_interval_10 (by decide) (fun c2 => ?_) (fun c2 => ?_)
  · have h := ip_s h c2
    exact J30 (0 : Int32) h _ _ hP hD hS ls (lv_sub hl [0] rfl)
  · have h := in_s h c2
    refine lv_iload_n hx hb dX8_interval_13 rfl (lv_at hl 2 rfl) ?_
    refine lv_i2l (v := (x2).toInt64) hx hb dX8_interval_14 rfl ?_
    refine lv_lconst (v := (0 : Int64)) hx hb dX8_interval_15 (by decide) ?_
    refine lv_aload_n hx hb dX8_interval_16 rfl (lv_at hl 0 rfl) ?_
    refine lv_iload_n hx hb dX8_interval_17 rfl (lv_at hl 1 rfl) ?_
    obtain ⟨r3, h_r3, h⟩ := bd_s h
    refine clVR (As := [.int x1]) (rest := [.long (0 : Int64), .long (x2).toInt64]) hx hb hml hown hts gX8_interval_X8_intervalCount rfl 1 kX8_intervalCount ⟨Nat.le_of_ble_eq_true rfl, Nat.le_of_ble_eq_true rfl⟩ (ctX8_intervalCount l D ca o o_s o_saved o_text o_pieceCell o_letter o_number o_before o_savedCount o_textLength (0 : Int32) o_pieceCount o_at o_commands o_hash o_s_d x1 r3 h_r3) hP hK [0, 1] rfl 0 7 rfl rfl rfl rfl hl.1 rfl (Nat.le_of_ble_eq_true rfl) ⟨Nat.le_of_ble_eq_true rfl, Nat.le_of_ble_eq_true rfl⟩ dX8_interval_18 rfl ?_
    refine lv_iconst (v := (1 : Int32)) hx hb dX8_interval_21 (by decide) ?_
    refine lv_isub hx hb dX8_interval_22 ?_
    refine lv_i2l (v := ((r3 - (1 : Int32))).toInt64) hx hb dX8_interval_23 rfl ?_
    obtain ⟨r4, h_r4, h⟩ := bd_s h
    refine clSR (As := [.long (x2).toInt64, .long (0 : Int64), .long ((r3 - (1 : Int32))).toInt64]) (rest := []) hx hb hml hown hts gX8_interval_X8_in rfl 3 kX8_in.2 ⟨Nat.le_of_ble_eq_true rfl, Nat.le_of_ble_eq_true rfl⟩ (ctX8_in l D ca   ((x2).toInt64) (0 : Int64) (((r3 - (1 : Int32))).toInt64) r4 h_r4) hP hK [] rfl rfl hl.1 rfl (Nat.le_of_ble_eq_true rfl) ⟨Nat.le_of_ble_eq_true rfl, Nat.le_of_ble_eq_true rfl⟩ dX8_interval_24 rfl ?_
    refine lv_if_ne (tgt := 36) hx hb dX8_interval_27 (by decide) (fun c5 => ?_) (fun c5 => ?_)
    · have h := in_s h c5
      refine lv_aload_n hx hb dX8_interval_36 rfl (lv_at hl 0 rfl) ?_
      refine lv_iload_n hx hb dX8_interval_37 rfl (lv_at hl 1 rfl) ?_
      refine lv_iconst (v := (4 : Int32)) hx hb dX8_interval_38 (by decide) ?_
      obtain ⟨r6, h_r6, h⟩ := bd_s h
      refine clVR (As := [.int x1, .int (4 : Int32)]) (rest := []) hx hb hml hown hts gX8_interval_X8_of rfl 2 kX8_of ⟨Nat.le_of_ble_eq_true rfl, Nat.le_of_ble_eq_true rfl⟩ (ctX8_of l D ca o o_s o_saved o_text o_pieceCell o_letter o_number o_before o_savedCount o_textLength (0 : Int32) o_pieceCount o_at o_commands o_hash o_s_d x1 (4 : Int32) r6 h_r6) hP hK [0, 1] rfl 0 7 rfl rfl rfl rfl hl.1 rfl (Nat.le_of_ble_eq_true rfl) ⟨Nat.le_of_ble_eq_true rfl, Nat.le_of_ble_eq_true rfl⟩ dX8_interval_39 rfl ?_
      refine lv_istore (lv' := [(4, .int r6), (0, .ref o), (1, .int x1), (2, .int x2), (3, .int x3)]) hx hb dX8_interval_42 hl (by decide) rfl (fun ls hl => ?_)
      refine lv_iload hx hb dX8_interval_44 (lv_at hl 0 rfl) ?_
      refine lv_aload_n hx hb dX8_interval_46 rfl (lv_at hl 1 rfl) ?_
      refine lv_iload_n hx hb dX8_interval_47 rfl (lv_at hl 2 rfl) ?_
      refine lv_iconst (v := (5 : Int32)) hx hb dX8_interval_48 (by decide) ?_
      obtain ⟨r7, h_r7, h⟩ := bd_s h
      refine clVR (As := [.int x1, .int (5 : Int32)]) (rest := [.int r6]) hx hb hml hown hts gX8_interval_X8_of rfl 2 kX8_of ⟨Nat.le_of_ble_eq_true rfl, Nat.le_of_ble_eq_true rfl⟩ (ctX8_of l D ca o o_s o_saved o_text o_pieceCell o_letter o_number o_before o_savedCount o_textLength (0 : Int32) o_pieceCount o_at o_commands o_hash o_s_d x1 (5 : Int32) r7 h_r7) hP hK [0, 1] rfl 0 7 rfl rfl rfl rfl hl.1 rfl (Nat.le_of_ble_eq_true rfl) ⟨Nat.le_of_ble_eq_true rfl, Nat.le_of_ble_eq_true rfl⟩ dX8_interval_49 rfl ?_
      obtain ⟨r8, h_r8, h⟩ := bd_s h
      refine clSR (As := [.int r6, .int r7]) (rest := []) hx hb hml hown hts gX8_interval_X8_lengthAt rfl 2 kX8_lengthAt.2 ⟨Nat.le_of_ble_eq_true rfl, Nat.le_of_ble_eq_true rfl⟩ (ctX8_lengthAt l D ca   r6 r7 r8 h_r8) hP hK [] rfl rfl hl.1 rfl (Nat.le_of_ble_eq_true rfl) ⟨Nat.le_of_ble_eq_true rfl, Nat.le_of_ble_eq_true rfl⟩ dX8_interval_52 rfl ?_
      refine lv_istore (lv' := [(5, .int r8), (4, .int r6), (0, .ref o), (1, .int x1), (2, .int x2), (3, .int x3)]) hx hb dX8_interval_55 hl (by decide) rfl (fun ls hl => ?_)
      refine lv_iconst (v := (0 : Int32)) hx hb dX8_interval_57 (by decide) ?_
      refine lv_istore (lv' := [(6, .int (0 : Int32)), (5, .int r8), (4, .int r6), (0, .ref o), (1, .int x1), (2, .int x2), (3, .int x3)]) hx hb dX8_interval_58 hl (by decide) rfl (fun ls hl => ?_)
      exact L60 (0 : Int32) fuel r6 r8 (0 : Int32) h _ _ hP hD hS ls (lv_sub hl [3, 4, 5, 6, 2, 1, 0] rfl)
    · have h := ip_s h c5
      exact J30 (0 : Int32) h _ _ hP hD hS ls (lv_sub hl [0] rfl)
theorem kX8_isHolder : yX8_isHolder.cls = RX8 ∧ yX8_isHolder.cls ≠ "java/lang/invoke/MethodHandle" ∧ yX8_isHolder.cls ≠ "java/lang/invoke/VarHandle" ∧ (parseMethodDescriptor yX8_isHolder.desc).map (fun d => d.parameters.length) = some 3 := by decide +kernel
set_option maxHeartbeats 4000000 in
set_option maxRecDepth 100000 in
theorem ctX8_isHolder (l : Launch) (D : va_G) (ca : Nat → ClassId) (o : Nat) (o_s : Nat) (o_saved : Nat) (o_text : Nat) (o_pieceCell : Nat) (o_letter : Nat) (o_number : Nat) (o_before : Nat) (o_savedCount : Int32) (o_textLength : Int32) (o_code : Int32) (o_pieceCount : Int32) (o_at : Int32) (o_commands : Int32) (o_hash : Int64) (o_s_d : Nat → Int32) (x1 : Int32) (x2 : Int32) (x3 : Int32) (u0 : Int32) (hf : fX8_isHolder o_s_d x1 x2 x3 = some u0) : MR l yX8_isHolder wsX8_isHolder 2 43 D ca [.ref o, .int x1, .int x2, .int x3] [(o, .inr (7, [.ref o_s, .ref o_saved, .int o_savedCount, .ref o_text, .int o_textLength, .int o_code, .int o_pieceCount, .ref o_pieceCell, .int o_at, .int o_commands, .ref o_letter, .ref o_number, .ref o_before, .long o_hash])), (o_s, .inl (ca 0, 1634, .inl o_s_d))] (some (.int u0)) := by
  refine hdRz (plainFor_of_name (by decide +kernel)) rfl (Nat.le_of_ble_eq_true rfl) ?_
  intro p e s m args below meth c Q hx hb hml hown hts hP hK hret ls hl
  have hown : s.vm.findClass RX8 = some m.cls := hown
  have hl : lv_has ls 5 [(0, .ref o), (1, .int x1), (2, .int x2), (3, .int x3)] := hl
  have h := hf
  unfold fX8_isHolder at h
  clear hf
  have J44 : ∀ (l4 : Int32), jX8_isHolder_44 o_s_d x1 x2 x3 l4 = some u0 → ∀ ls, lv_has ls 5 [(0, .ref o), (1, .int x1), (2, .int x2), (3, .int x3), (4, .int l4)] → W p l e ({ frames := 2, cells := 0, slots := 0, locals := 43 }) s m args below meth c s.heap [] 0 0 Q (F0 m 44 ls []) := by
    intro l4 h ls hl
    unfold jX8_isHolder_44 at h
    refine lv_iload hx hb dX8_isHolder_44 (lv_at hl 4 rfl) ?_
    refine lv_aload_n hx hb dX8_isHolder_46 rfl (lv_at hl 0 rfl) ?_
    refine lv_iload_n hx hb dX8_isHolder_47 rfl (lv_at hl 1 rfl) ?_
    refine lv_iconst (v := (5 : Int32)) hx hb dX8_isHolder_48 (by decide) ?_
    obtain ⟨r1, h_r1, h⟩ := bd_s h
    refine clVR (As := [.int x1, .int (5 : Int32)]) (rest := [.int l4]) hx hb hml hown hts gX8_isHolder_X8_of rfl 2 kX8_of ⟨Nat.le_of_ble_eq_true rfl, Nat.le_of_ble_eq_true rfl⟩ (ctX8_of l D ca o o_s o_saved o_text o_pieceCell o_letter o_number o_before o_savedCount o_textLength o_code o_pieceCount o_at o_commands o_hash o_s_d x1 (5 : Int32) r1 h_r1) hP hK [0, 1] rfl 0 7 rfl rfl rfl rfl hl.1 rfl (Nat.le_of_ble_eq_true rfl) ⟨Nat.le_of_ble_eq_true rfl, Nat.le_of_ble_eq_true rfl⟩ dX8_isHolder_49 rfl ?_
    refine lv_icmp_ge (tgt := 80) hx hb dX8_isHolder_52 (by decide) (fun c2 => ?_) (fun c2 => ?_)
    · have h := ip_s h c2
      refine lv_iconst (v := (0 : Int32)) hx hb dX8_isHolder_80 (by decide) ?_
      obtain ⟨hz, h⟩ := zr_s h
      cases h
      exact hret 81 ls _ hz rfl dX8_isHolder_81
    · have h := in_s h c2
      refine lv_iload hx hb dX8_isHolder_55 (lv_at hl 4 rfl) ?_
      refine lv_iload_n hx hb dX8_isHolder_57 rfl (lv_at hl 2 rfl) ?_
      refine lv_icmp_ne (tgt := 80) hx hb dX8_isHolder_58 (by decide) (fun c3 => ?_) (fun c3 => ?_)
      · have h := in_s h c3
        refine lv_iconst (v := (0 : Int32)) hx hb dX8_isHolder_80 (by decide) ?_
        obtain ⟨hz, h⟩ := zr_s h
        cases h
        exact hret 81 ls _ hz rfl dX8_isHolder_81
      · have h := ip_s h c3
        refine lv_iload hx hb dX8_isHolder_61 (lv_at hl 4 rfl) ?_
        refine lv_aload_n hx hb dX8_isHolder_63 rfl (lv_at hl 0 rfl) ?_
        refine lv_iload_n hx hb dX8_isHolder_64 rfl (lv_at hl 1 rfl) ?_
        refine lv_iconst (v := (5 : Int32)) hx hb dX8_isHolder_65 (by decide) ?_
        obtain ⟨r4, h_r4, h⟩ := bd_s h
        refine clVR (As := [.int x1, .int (5 : Int32)]) (rest := [.int l4]) hx hb hml hown hts gX8_isHolder_X8_of rfl 2 kX8_of ⟨Nat.le_of_ble_eq_true rfl, Nat.le_of_ble_eq_true rfl⟩ (ctX8_of l D ca o o_s o_saved o_text o_pieceCell o_letter o_number o_before o_savedCount o_textLength o_code o_pieceCount o_at o_commands o_hash o_s_d x1 (5 : Int32) r4 h_r4) hP hK [0, 1] rfl 0 7 rfl rfl rfl rfl hl.1 rfl (Nat.le_of_ble_eq_true rfl) ⟨Nat.le_of_ble_eq_true rfl, Nat.le_of_ble_eq_true rfl⟩ dX8_isHolder_66 rfl ?_
        obtain ⟨r5, h_r5, h⟩ := bd_s h
        refine clSR (As := [.int l4, .int r4]) (rest := []) hx hb hml hown hts gX8_isHolder_X8_lengthAt rfl 2 kX8_lengthAt.2 ⟨Nat.le_of_ble_eq_true rfl, Nat.le_of_ble_eq_true rfl⟩ (ctX8_lengthAt l D ca   l4 r4 r5 h_r5) hP hK [] rfl rfl hl.1 rfl (Nat.le_of_ble_eq_true rfl) ⟨Nat.le_of_ble_eq_true rfl, Nat.le_of_ble_eq_true rfl⟩ dX8_isHolder_69 rfl ?_
        refine lv_iload_n hx hb dX8_isHolder_72 rfl (lv_at hl 3 rfl) ?_
        refine lv_icmp_ne (tgt := 80) hx hb dX8_isHolder_73 (by decide) (fun c6 => ?_) (fun c6 => ?_)
        · have h := in_s h c6
          refine lv_iconst (v := (0 : Int32)) hx hb dX8_isHolder_80 (by decide) ?_
          obtain ⟨hz, h⟩ := zr_s h
          cases h
          exact hret 81 ls _ hz rfl dX8_isHolder_81
        · have h := ip_s h c6
          refine lv_iconst (v := (1 : Int32)) hx hb dX8_isHolder_76 (by decide) ?_
          refine lv_goto (tgt := 81) hx hb dX8_isHolder_77 (by decide) ?_
          obtain ⟨hz, h⟩ := zr_s h
          cases h
          exact hret 81 ls _ hz rfl dX8_isHolder_81
  have L8 : ∀  (n : Nat) (l4 : Int32), lp (fun q => bX8_isHolder_8 o_s_d x1 x2 x3  q) n l4 = some u0 → ∀ ls, lv_has ls 5 [(0, .ref o), (1, .int x1), (2, .int x2), (3, .int x3), (4, .int l4)] → W p l e ({ frames := 2, cells := 0, slots := 0, locals := 43 }) s m args below meth c s.heap [] 0 0 Q (F0 m 8 ls []) := by
    intro  n
    induction n with
    | zero => intro l4 h; exact (lp_0 h).elim
    | succ n ih8 =>
      intro l4 h ls hl
      obtain ⟨q8, h, hq8⟩ := lp_s h
      have h : bX8_isHolder_8 o_s_d x1 x2 x3  l4 = some q8 := h
      unfold bX8_isHolder_8 at h
      refine lv_iload hx hb dX8_isHolder_8 (lv_at hl 4 rfl) ?_
      refine lv_aload_n hx hb dX8_isHolder_10 rfl (lv_at hl 0 rfl) ?_
      refine lv_iload_n hx hb dX8_isHolder_11 rfl (lv_at hl 1 rfl) ?_
      refine lv_iconst (v := (5 : Int32)) hx hb dX8_isHolder_12 (by decide) ?_
      obtain ⟨r1, h_r1, h⟩ := bd_s h
      refine clVR (As := [.int x1, .int (5 : Int32)]) (rest := [.int l4]) hx hb hml hown hts gX8_isHolder_X8_of rfl 2 kX8_of ⟨Nat.le_of_ble_eq_true rfl, Nat.le_of_ble_eq_true rfl⟩ (ctX8_of l D ca o o_s o_saved o_text o_pieceCell o_letter o_number o_before o_savedCount o_textLength o_code o_pieceCount o_at o_commands o_hash o_s_d x1 (5 : Int32) r1 h_r1) hP hK [0, 1] rfl 0 7 rfl rfl rfl rfl hl.1 rfl (Nat.le_of_ble_eq_true rfl) ⟨Nat.le_of_ble_eq_true rfl, Nat.le_of_ble_eq_true rfl⟩ dX8_isHolder_13 rfl ?_
      refine lv_icmp_ge (tgt := 44) hx hb dX8_isHolder_16 (by decide) (fun c2 => ?_) (fun c2 => ?_)
      · have h := ip_s h c2
        have h := xt_s hq8 h
        exact J44 l4 h ls (lv_sub hl [0, 1, 2, 3, 4] rfl)
      · have h := in_s h c2
        refine lv_iload hx hb dX8_isHolder_19 (lv_at hl 4 rfl) ?_
        refine lv_iload_n hx hb dX8_isHolder_21 rfl (lv_at hl 2 rfl) ?_
        refine lv_icmp_ge (tgt := 44) hx hb dX8_isHolder_22 (by decide) (fun c7 => ?_) (fun c7 => ?_)
        · have h := ip_s h c7
          have h := xt_s hq8 h
          exact J44 l4 h ls (lv_sub hl [0, 1, 2, 3, 4] rfl)
        · have h := in_s h c7
          refine lv_iload hx hb dX8_isHolder_25 (lv_at hl 4 rfl) ?_
          refine lv_iload hx hb dX8_isHolder_27 (lv_at hl 4 rfl) ?_
          refine lv_aload_n hx hb dX8_isHolder_29 rfl (lv_at hl 0 rfl) ?_
          refine lv_iload_n hx hb dX8_isHolder_30 rfl (lv_at hl 1 rfl) ?_
          refine lv_iconst (v := (5 : Int32)) hx hb dX8_isHolder_31 (by decide) ?_
          obtain ⟨r8, h_r8, h⟩ := bd_s h
          refine clVR (As := [.int x1, .int (5 : Int32)]) (rest := [.int l4, .int l4]) hx hb hml hown hts gX8_isHolder_X8_of rfl 2 kX8_of ⟨Nat.le_of_ble_eq_true rfl, Nat.le_of_ble_eq_true rfl⟩ (ctX8_of l D ca o o_s o_saved o_text o_pieceCell o_letter o_number o_before o_savedCount o_textLength o_code o_pieceCount o_at o_commands o_hash o_s_d x1 (5 : Int32) r8 h_r8) hP hK [0, 1] rfl 0 7 rfl rfl rfl rfl hl.1 rfl (Nat.le_of_ble_eq_true rfl) ⟨Nat.le_of_ble_eq_true rfl, Nat.le_of_ble_eq_true rfl⟩ dX8_isHolder_32 rfl ?_
          obtain ⟨r9, h_r9, h⟩ := bd_s h
          refine clSR (As := [.int l4, .int r8]) (rest := [.int l4]) hx hb hml hown hts gX8_isHolder_X8_lengthAt rfl 2 kX8_lengthAt.2 ⟨Nat.le_of_ble_eq_true rfl, Nat.le_of_ble_eq_true rfl⟩ (ctX8_lengthAt l D ca   l4 r8 r9 h_r9) hP hK [] rfl rfl hl.1 rfl (Nat.le_of_ble_eq_true rfl) ⟨Nat.le_of_ble_eq_true rfl, Nat.le_of_ble_eq_true rfl⟩ dX8_isHolder_35 rfl ?_
          refine lv_iadd hx hb dX8_isHolder_38 ?_
          obtain ⟨y10, e_y10, h⟩ := nm_s h
          refine top_i e_y10 ?_
          refine lv_istore (lv' := [(4, .int y10), (0, .ref o), (1, .int x1), (2, .int x2), (3, .int x3)]) hx hb dX8_isHolder_39 hl (by decide) rfl (fun ls hl => ?_)
          refine lv_goto (tgt := 8) hx hb dX8_isHolder_41 (by decide) ?_
          exact ih8 y10 (lp_l hq8 h) ls (lv_sub hl [1, 2, 3, 4, 0] rfl)
  refine lv_aload_n hx hb dX8_isHolder_0 rfl (lv_at hl 0 rfl) ?_
  refine lv_iload_n hx hb dX8_isHolder_1 rfl (lv_at hl 1 rfl) ?_
  refine lv_iconst (v := (4 : Int32)) hx hb dX8_isHolder_2 (by decide) ?_
  obtain ⟨r1, h_r1, h⟩ := bd_s h
  refine clVR (As := [.int x1, .int (4 : Int32)]) (rest := []) hx hb hml hown hts gX8_isHolder_X8_of rfl 2 kX8_of ⟨Nat.le_of_ble_eq_true rfl, Nat.le_of_ble_eq_true rfl⟩ (ctX8_of l D ca o o_s o_saved o_text o_pieceCell o_letter o_number o_before o_savedCount o_textLength o_code o_pieceCount o_at o_commands o_hash o_s_d x1 (4 : Int32) r1 h_r1) hP hK [0, 1] rfl 0 7 rfl rfl rfl rfl hl.1 rfl (Nat.le_of_ble_eq_true rfl) ⟨Nat.le_of_ble_eq_true rfl, Nat.le_of_ble_eq_true rfl⟩ dX8_isHolder_3 rfl ?_
  refine lv_istore (lv' := [(4, .int r1), (0, .ref o), (1, .int x1), (2, .int x2), (3, .int x3)]) hx hb dX8_isHolder_6 hl (by decide) rfl (fun ls hl => ?_)
  exact L8  fuel r1 h ls (lv_sub hl [1, 2, 3, 4, 0] rfl)
theorem mwX8_holders_0 : Cond.fieldLink RX8 31 "SegmentTimesModel" "code" "I" ∈ wsX8_holders := List.mem_of_getElem? (i := 1) rfl
theorem mwX8_holders_1 : Cond.constantLong RX8 48 (16384) ∈ wsX8_holders := List.mem_of_getElem? (i := 2) rfl
theorem mwX8_holders_2 : Cond.fieldLink RX8 7 "SegmentTimesModel" "s" "[I" ∈ wsX8_holders := List.mem_of_getElem? (i := 3) rfl
theorem inX8_holders_X8 : ∀ w ∈ u_ws RX8 TX8 14, w ∈ wsX8_holders := fun w h => List.mem_cons_of_mem _ (List.mem_append_right _ (h))
theorem kX8_holders : yX8_holders.cls = RX8 ∧ yX8_holders.cls ≠ "java/lang/invoke/MethodHandle" ∧ yX8_holders.cls ≠ "java/lang/invoke/VarHandle" ∧ (parseMethodDescriptor yX8_holders.desc).map (fun d => d.parameters.length) = some 2 := by decide +kernel
set_option maxHeartbeats 4000000 in
set_option maxRecDepth 100000 in
theorem ctX8_holders (l : Launch) (D : va_G) (ca : Nat → ClassId) (o : Nat) (o_s : Nat) (o_saved : Nat) (o_text : Nat) (o_pieceCell : Nat) (o_letter : Nat) (o_number : Nat) (o_before : Nat) (o_savedCount : Int32) (o_textLength : Int32) (o_code : Int32) (o_pieceCount : Int32) (o_at : Int32) (o_commands : Int32) (o_hash : Int64) (o_s_d : Nat → Int32) (x1 : Int32) (x2 : Int32) (sz : Nat) (u0 : Int32) (u1 : Int32) (hf : fX8_holders o_code o_s_d x1 x2 = some (u0, u1)) : MW l yX8_holders wsX8_holders 3 67 D ca [.ref o, .int x1, .int x2] sz [(o, .inr (7, [.ref o_s, .ref o_saved, .int o_savedCount, .ref o_text, .int o_textLength, .int o_code, .int o_pieceCount, .ref o_pieceCell, .int o_at, .int o_commands, .ref o_letter, .ref o_number, .ref o_before, .long o_hash])), (o_s, .inl (ca 0, 1634, .inl o_s_d))] (some (.int u0)) [(o, .inr (7, [.ref o_s, .ref o_saved, .int o_savedCount, .ref o_text, .int o_textLength, .int u1, .int o_pieceCount, .ref o_pieceCell, .int o_at, .int o_commands, .ref o_letter, .ref o_number, .ref o_before, .long o_hash])), (o_s, .inl (ca 0, 1634, .inl o_s_d))] := by
  refine hdWi (by decide +kernel) rfl (Nat.le_of_ble_eq_true rfl) ?_
  intro p e s m args below meth c A Q hx hb hml hown hts hP hD hK hA hS hret ls hl
  have hown : s.vm.findClass RX8 = some m.cls := hown
  have hl : lv_has ls 6 [(0, .ref o), (1, .int x1), (2, .int x2)] := hl
  have h := hf
  unfold fX8_holders at h
  clear hf
  have J56 : ∀ (w_o_code : Int32), jX8_holders_56  w_o_code = some (u0, u1) → ∀ (H : Heap) (locs : List Loc), va_P D vwCl [(o, .inr (7, [.ref o_s, .ref o_saved, .int o_savedCount, .ref o_text, .int o_textLength, .int w_o_code, .int o_pieceCount, .ref o_pieceCell, .int o_at, .int o_commands, .ref o_letter, .ref o_number, .ref o_before, .long o_hash])), (o_s, .inl (ca 0, 1634, .inl o_s_d))] H → va_D A [(o, .inr (7, [.ref o_s, .ref o_saved, .int o_savedCount, .ref o_text, .int o_textLength, .int w_o_code, .int o_pieceCount, .ref o_pieceCell, .int o_at, .int o_commands, .ref o_letter, .ref o_number, .ref o_before, .long o_hash])), (o_s, .inl (ca 0, 1634, .inl o_s_d))] → va_S A s.heap H locs → ∀ ls, lv_has ls 6 [(0, .ref o)] → W p l e ({ frames := 3, cells := 0, slots := 0, locals := 67 }) s m args below meth c H locs 0 0 Q (F0 m 56 ls []) := by
    intro w_o_code h H locs hP hD hS ls hl
    unfold jX8_holders_56 at h
    refine lv_aload_n hx hb dX8_holders_56 rfl (lv_at hl 0 rfl) ?_
    refine lv_iconst (v := (1 : Int32)) hx hb dX8_holders_57 (by decide) ?_
    obtain ⟨⟨r1_0, r1_1⟩, h_r1, h⟩ := bd_s h
    have h := up2_s h
    refine clVW (As := [.int (1 : Int32)]) (rest := []) (wr := [(o_s, .inl (ca 0, 1634, .inl o_s_d))]) (wn := [(o_s, .inl (ca 0, 1634, .inl o_s_d)), (o, .inr (7, [.ref o_s, .ref o_saved, .int o_savedCount, .ref o_text, .int o_textLength, .int r1_1, .int o_pieceCount, .ref o_pieceCell, .int o_at, .int o_commands, .ref o_letter, .ref o_number, .ref o_before, .long o_hash]))]) hx hb hml hown hts gX8_holders_X8_fails rfl 1 kX8_fails ⟨Nat.le_of_ble_eq_true rfl, Nat.le_of_ble_eq_true rfl⟩ (ctX8_fails l D ca o o_s o_saved o_text o_pieceCell o_letter o_number o_before o_savedCount o_textLength w_o_code o_pieceCount o_at o_commands o_hash (1 : Int32) _ r1_0 r1_1 h_r1) hP hD hS hA hK [0] [1] rfl (by decide) rfl (by decide) (by decide) 0 7 rfl rfl rfl rfl hl.1 rfl (Nat.le_of_ble_eq_true rfl) ⟨Nat.le_of_ble_eq_true rfl, Nat.le_of_ble_eq_true rfl⟩ dX8_holders_58 rfl rfl (fun H locs hP hD hS => ?_)
    have hP := hP.sub (ws' := [(o, .inr (7, [.ref o_s, .ref o_saved, .int o_savedCount, .ref o_text, .int o_textLength, .int r1_1, .int o_pieceCount, .ref o_pieceCell, .int o_at, .int o_commands, .ref o_letter, .ref o_number, .ref o_before, .long o_hash])), (o_s, .inl (ca 0, 1634, .inl o_s_d))]) [1, 0] rfl
    have hD := hD.sub (ws' := [(o, .inr (7, [.ref o_s, .ref o_saved, .int o_savedCount, .ref o_text, .int o_textLength, .int r1_1, .int o_pieceCount, .ref o_pieceCell, .int o_at, .int o_commands, .ref o_letter, .ref o_number, .ref o_before, .long o_hash])), (o_s, .inl (ca 0, 1634, .inl o_s_d))]) [1, 0] (by decide) rfl
    cases h
    exact hret 61 ls _ _ _ hP hD hS rfl dX8_holders_61
  have L68 : ∀ (w_o_code : Int32) (n : Nat) (l4 : Int32) (l5 : Int32), lp (fun q => bX8_holders_68 o_s_d x1 x2 w_o_code q.1 q.2) n (l4, l5) = some (u0, u1) → ∀ (H : Heap) (locs : List Loc), va_P D vwCl [(o, .inr (7, [.ref o_s, .ref o_saved, .int o_savedCount, .ref o_text, .int o_textLength, .int w_o_code, .int o_pieceCount, .ref o_pieceCell, .int o_at, .int o_commands, .ref o_letter, .ref o_number, .ref o_before, .long o_hash])), (o_s, .inl (ca 0, 1634, .inl o_s_d))] H → va_D A [(o, .inr (7, [.ref o_s, .ref o_saved, .int o_savedCount, .ref o_text, .int o_textLength, .int w_o_code, .int o_pieceCount, .ref o_pieceCell, .int o_at, .int o_commands, .ref o_letter, .ref o_number, .ref o_before, .long o_hash])), (o_s, .inl (ca 0, 1634, .inl o_s_d))] → va_S A s.heap H locs → ∀ ls, lv_has ls 6 [(0, .ref o), (1, .int x1), (2, .int x2), (4, .int l4), (5, .int l5)] → W p l e ({ frames := 3, cells := 0, slots := 0, locals := 67 }) s m args below meth c H locs 0 0 Q (F0 m 68 ls []) := by
    intro w_o_code n
    induction n with
    | zero => intro l4 l5 h; exact (lp_0 h).elim
    | succ n ih68 =>
      intro l4 l5 h H locs hP hD hS ls hl
      obtain ⟨q68, h, hq68⟩ := lp_s h
      have h : bX8_holders_68 o_s_d x1 x2 w_o_code l4 l5 = some q68 := h
      unfold bX8_holders_68 at h
      refine lv_iload hx hb dX8_holders_68 (lv_at hl 4 rfl) ?_
      refine lv_aload_n hx hb dX8_holders_70 rfl (lv_at hl 0 rfl) ?_
      refine gtF (ci := 7) (v := .ref o_s) (C := RX8) (T := TX8) (N := 14) hx hb hts inX8_holders_X8 hown hK hP 0 rfl rfl 0 (by decide) mwX8_holders_2 rfl rfl dX8_holders_71 ?_
      refine lv_iconst (v := (0 : Int32)) hx hb dX8_holders_74 (by decide) ?_
      obtain ⟨hin, y1, e_y1, h⟩ := rd_s h
      refine ldI hx hb hK hP 1 rfl hin dX8_holders_75 ?_
      refine top_i e_y1 ?_
      refine lv_icmp_ge (tgt := 106) hx hb dX8_holders_76 (by decide) (fun c2 => ?_) (fun c2 => ?_)
      · have h := ip_s h c2
        have h := xt_s hq68 h
        refine lv_iload hx hb dX8_holders_106 (lv_at hl 3 rfl) ?_
        cases h
        exact hret 108 ls _ _ _ hP hD hS rfl dX8_holders_108
      · have h := in_s h c2
        refine lv_iload hx hb dX8_holders_79 (lv_at hl 3 rfl) ?_
        refine lv_aload_n hx hb dX8_holders_81 rfl (lv_at hl 0 rfl) ?_
        refine lv_iload hx hb dX8_holders_82 (lv_at hl 4 rfl) ?_
        refine lv_iload_n hx hb dX8_holders_84 rfl (lv_at hl 1 rfl) ?_
        refine lv_iload_n hx hb dX8_holders_85 rfl (lv_at hl 2 rfl) ?_
        obtain ⟨r3, h_r3, h⟩ := bd_s h
        refine clVR (As := [.int l5, .int x1, .int x2]) (rest := [.int l4]) hx hb hml hown hts gX8_holders_X8_isHolder rfl 3 kX8_isHolder ⟨Nat.le_of_ble_eq_true rfl, Nat.le_of_ble_eq_true rfl⟩ (ctX8_isHolder l D ca o o_s o_saved o_text o_pieceCell o_letter o_number o_before o_savedCount o_textLength w_o_code o_pieceCount o_at o_commands o_hash o_s_d l5 x1 x2 r3 h_r3) hP hK [0, 1] rfl 0 7 rfl rfl rfl rfl hl.1 rfl (Nat.le_of_ble_eq_true rfl) ⟨Nat.le_of_ble_eq_true rfl, Nat.le_of_ble_eq_true rfl⟩ dX8_holders_86 rfl ?_
        refine lv_if_eq (tgt := 96) hx hb dX8_holders_89 (by decide) (fun c4 => ?_) (fun c4 => ?_)
        · have h := ip_s h c4
          refine lv_iconst (v := (0 : Int32)) hx hb dX8_holders_96 (by decide) ?_
          refine lv_iadd hx hb dX8_holders_97 ?_
          obtain ⟨y5, e_y5, h⟩ := nm_s h
          refine top_i e_y5 ?_
          refine lv_istore (lv' := [(4, .int y5), (0, .ref o), (1, .int x1), (2, .int x2), (5, .int l5)]) hx hb dX8_holders_98 hl (by decide) rfl (fun ls hl => ?_)
          obtain ⟨y6, e_y6, h⟩ := nm_s h
          refine lv_iinc (v := y6) (lv' := [(5, .int y6), (4, .int y5), (0, .ref o), (1, .int x1), (2, .int x2)]) hx hb dX8_holders_100 hl (k := 4) rfl (by rw [e_y6]; rfl) (by decide) rfl (fun ls hl => ?_)
          refine lv_goto (tgt := 68) hx hb dX8_holders_103 (by decide) ?_
          exact ih68 y5 y6 (lp_l hq68 h) _ _ hP hD hS ls (lv_sub hl [2, 3, 4, 1, 0] rfl)
        · have h := in_s h c4
          refine lv_iconst (v := (1 : Int32)) hx hb dX8_holders_92 (by decide) ?_
          refine lv_goto (tgt := 97) hx hb dX8_holders_93 (by decide) ?_
          refine lv_iadd hx hb dX8_holders_97 ?_
          obtain ⟨y7, e_y7, h⟩ := nm_s h
          refine top_i e_y7 ?_
          refine lv_istore (lv' := [(4, .int y7), (0, .ref o), (1, .int x1), (2, .int x2), (5, .int l5)]) hx hb dX8_holders_98 hl (by decide) rfl (fun ls hl => ?_)
          obtain ⟨y8, e_y8, h⟩ := nm_s h
          refine lv_iinc (v := y8) (lv' := [(5, .int y8), (4, .int y7), (0, .ref o), (1, .int x1), (2, .int x2)]) hx hb dX8_holders_100 hl (k := 4) rfl (by rw [e_y8]; rfl) (by decide) rfl (fun ls hl => ?_)
          refine lv_goto (tgt := 68) hx hb dX8_holders_103 (by decide) ?_
          exact ih68 y7 y8 (lp_l hq68 h) _ _ hP hD hS ls (lv_sub hl [2, 3, 4, 1, 0] rfl)
  have J45 : ∀ (s0 : Int32) (w_o_code : Int32), jX8_holders_45 o_s_d x1 x2 s0 w_o_code = some (u0, u1) → ∀ (H : Heap) (locs : List Loc), va_P D vwCl [(o, .inr (7, [.ref o_s, .ref o_saved, .int o_savedCount, .ref o_text, .int o_textLength, .int w_o_code, .int o_pieceCount, .ref o_pieceCell, .int o_at, .int o_commands, .ref o_letter, .ref o_number, .ref o_before, .long o_hash])), (o_s, .inl (ca 0, 1634, .inl o_s_d))] H → va_D A [(o, .inr (7, [.ref o_s, .ref o_saved, .int o_savedCount, .ref o_text, .int o_textLength, .int w_o_code, .int o_pieceCount, .ref o_pieceCell, .int o_at, .int o_commands, .ref o_letter, .ref o_number, .ref o_before, .long o_hash])), (o_s, .inl (ca 0, 1634, .inl o_s_d))] → va_S A s.heap H locs → ∀ ls, lv_has ls 6 [(0, .ref o), (1, .int x1), (2, .int x2)] → W p l e ({ frames := 3, cells := 0, slots := 0, locals := 67 }) s m args below meth c H locs 0 0 Q (F0 m 45 ls [.int s0]) := by
    intro s0 w_o_code h H locs hP hD hS ls hl
    unfold jX8_holders_45 at h
    refine lv_istore_n (lv' := [(3, .int s0), (0, .ref o), (1, .int x1), (2, .int x2)]) hx hb dX8_holders_45 rfl hl (by decide) rfl (fun ls hl => ?_)
    refine lv_iload_n hx hb dX8_holders_46 rfl (lv_at hl 0 rfl) ?_
    refine lv_if_eq (tgt := 56) hx hb dX8_holders_47 (by decide) (fun c1 => ?_) (fun c1 => ?_)
    · have h := ip_s h c1
      exact J56 w_o_code h _ _ hP hD hS ls (lv_sub hl [1] rfl)
    · have h := in_s h c1
      refine lv_iload_n hx hb dX8_holders_50 rfl (lv_at hl 2 rfl) ?_
      refine lv_iload_n hx hb dX8_holders_51 rfl (lv_at hl 3 rfl) ?_
      obtain ⟨hne, h⟩ := dv_s h
      refine lv_irem hx hb dX8_holders_52 hne ?_
      refine lv_if_eq (tgt := 62) hx hb dX8_holders_53 (by decide) (fun c2 => ?_) (fun c2 => ?_)
      · have h := ip_s h c2
        refine lv_iconst (v := (0 : Int32)) hx hb dX8_holders_62 (by decide) ?_
        refine lv_istore (lv' := [(4, .int (0 : Int32)), (3, .int s0), (0, .ref o), (1, .int x1), (2, .int x2)]) hx hb dX8_holders_63 hl (by decide) rfl (fun ls hl => ?_)
        refine lv_iconst (v := (0 : Int32)) hx hb dX8_holders_65 (by decide) ?_
        refine lv_istore (lv' := [(5, .int (0 : Int32)), (4, .int (0 : Int32)), (3, .int s0), (0, .ref o), (1, .int x1), (2, .int x2)]) hx hb dX8_holders_66 hl (by decide) rfl (fun ls hl => ?_)
        exact L68 w_o_code fuel (0 : Int32) (0 : Int32) h _ _ hP hD hS ls (lv_sub hl [3, 4, 5, 1, 0] rfl)
      · have h := in_s h c2
        exact J56 w_o_code h _ _ hP hD hS ls (lv_sub hl [1] rfl)
  have J44 : ∀ (w_o_code : Int32), jX8_holders_44 o_s_d x1 x2 w_o_code = some (u0, u1) → ∀ (H : Heap) (locs : List Loc), va_P D vwCl [(o, .inr (7, [.ref o_s, .ref o_saved, .int o_savedCount, .ref o_text, .int o_textLength, .int w_o_code, .int o_pieceCount, .ref o_pieceCell, .int o_at, .int o_commands, .ref o_letter, .ref o_number, .ref o_before, .long o_hash])), (o_s, .inl (ca 0, 1634, .inl o_s_d))] H → va_D A [(o, .inr (7, [.ref o_s, .ref o_saved, .int o_savedCount, .ref o_text, .int o_textLength, .int w_o_code, .int o_pieceCount, .ref o_pieceCell, .int o_at, .int o_commands, .ref o_letter, .ref o_number, .ref o_before, .long o_hash])), (o_s, .inl (ca 0, 1634, .inl o_s_d))] → va_S A s.heap H locs → ∀ ls, lv_has ls 6 [(0, .ref o), (1, .int x1), (2, .int x2)] → W p l e ({ frames := 3, cells := 0, slots := 0, locals := 67 }) s m args below meth c H locs 0 0 Q (F0 m 44 ls []) := by
    intro w_o_code h H locs hP hD hS ls hl
    unfold jX8_holders_44 at h
    refine lv_iconst (v := (0 : Int32)) hx hb dX8_holders_44 (by decide) ?_
    exact J45 (0 : Int32) w_o_code h _ _ hP hD hS ls (lv_sub hl [0, 1, 2] rfl)
  refine lv_aload_n hx hb dX8_holders_0 rfl (lv_at hl 0 rfl) ?_
  refine lv_iconst (v := (0 : Int32)) hx hb dX8_holders_1 (by decide) ?_
  refine ptI (ci := 7) (v := .int (0 : Int32)) (ty := .int) (C := RX8) (T := TX8) (N := 14) (wn := [(o, .inr (7, [.ref o_s, .ref o_saved, .int o_savedCount, .ref o_text, .int o_textLength, .int (0 : Int32), .int o_pieceCount, .ref o_pieceCell, .int o_at, .int o_commands, .ref o_letter, .ref o_number, .ref o_before, .long o_hash])), (o_s, .inl (ca 0, 1634, .inl o_s_d))]) hx hb hts inX8_holders_X8 tyX8 tyX8_ok nmX8 hown hK hP hD hS 0 rfl rfl 5 (by decide) mwX8_holders_0 rfl rfl (by decide +kernel) rfl rfl (Nat.le_of_ble_eq_true rfl) rfl dX8_holders_2 (fun H locs hP hD hS => ?_)
  refine lv_iload_n hx hb dX8_holders_5 rfl (lv_at hl 2 rfl) ?_
  refine lv_i2l (v := (x2).toInt64) hx hb dX8_holders_6 rfl ?_
  refine lv_lconst (v := (1 : Int64)) hx hb dX8_holders_7 (by decide) ?_
  refine lv_ldc2 (v := (16384 : Int64)) hx hb hown (hts _ mwX8_holders_1) dX8_holders_8 ?_
  obtain ⟨r1, h_r1, h⟩ := bd_s h
  refine clSR (As := [.long (x2).toInt64, .long (1 : Int64), .long (16384 : Int64)]) (rest := []) hx hb hml hown hts gX8_holders_X8_in rfl 3 kX8_in.2 ⟨Nat.le_of_ble_eq_true rfl, Nat.le_of_ble_eq_true rfl⟩ (ctX8_in l D ca   ((x2).toInt64) (1 : Int64) (16384 : Int64) r1 h_r1) hP hK [] rfl rfl hl.1 rfl (Nat.le_of_ble_eq_true rfl) ⟨Nat.le_of_ble_eq_true rfl, Nat.le_of_ble_eq_true rfl⟩ dX8_holders_11 rfl ?_
  refine lv_if_eq (tgt := 44) hx hb dX8_holders_14 (by decide) (fun c2 => ?_) (fun c2 => ?_)
  · have h := ip_s h c2
    exact J44 (0 : Int32) h _ _ hP hD hS ls (lv_sub hl [0, 1, 2] rfl)
  · have h := in_s h c2
    refine lv_iload_n hx hb dX8_holders_17 rfl (lv_at hl 2 rfl) ?_
    refine lv_iload_n hx hb dX8_holders_18 rfl (lv_at hl 2 rfl) ?_
    refine lv_iconst (v := (1 : Int32)) hx hb dX8_holders_19 (by decide) ?_
    refine lv_isub hx hb dX8_holders_20 ?_
    refine lv_iand hx hb dX8_holders_21 ?_
    refine lv_if_ne (tgt := 44) hx hb dX8_holders_22 (by decide) (fun c9 => ?_) (fun c9 => ?_)
    · have h := in_s h c9
      exact J44 (0 : Int32) h _ _ hP hD hS ls (lv_sub hl [0, 1, 2] rfl)
    · have h := ip_s h c9
      refine lv_iload_n hx hb dX8_holders_25 rfl (lv_at hl 1 rfl) ?_
      refine lv_i2l (v := (x1).toInt64) hx hb dX8_holders_26 rfl ?_
      refine lv_lconst (v := (0 : Int64)) hx hb dX8_holders_27 (by decide) ?_
      refine lv_sipush (v := (16384 : Int32)) hx hb dX8_holders_28 (by decide) ?_
      refine lv_iload_n hx hb dX8_holders_31 rfl (lv_at hl 2 rfl) ?_
      refine lv_isub hx hb dX8_holders_32 ?_
      refine lv_i2l (v := (((16384 : Int32) - x2)).toInt64) hx hb dX8_holders_33 rfl ?_
      obtain ⟨r10, h_r10, h⟩ := bd_s h
      refine clSR (As := [.long (x1).toInt64, .long (0 : Int64), .long (((16384 : Int32) - x2)).toInt64]) (rest := []) hx hb hml hown hts gX8_holders_X8_in rfl 3 kX8_in.2 ⟨Nat.le_of_ble_eq_true rfl, Nat.le_of_ble_eq_true rfl⟩ (ctX8_in l D ca   ((x1).toInt64) (0 : Int64) ((((16384 : Int32) - x2)).toInt64) r10 h_r10) hP hK [] rfl rfl hl.1 rfl (Nat.le_of_ble_eq_true rfl) ⟨Nat.le_of_ble_eq_true rfl, Nat.le_of_ble_eq_true rfl⟩ dX8_holders_34 rfl ?_
      refine lv_if_eq (tgt := 44) hx hb dX8_holders_37 (by decide) (fun c11 => ?_) (fun c11 => ?_)
      · have h := ip_s h c11
        exact J44 (0 : Int32) h _ _ hP hD hS ls (lv_sub hl [0, 1, 2] rfl)
      · have h := in_s h c11
        refine lv_iconst (v := (1 : Int32)) hx hb dX8_holders_40 (by decide) ?_
        refine lv_goto (tgt := 45) hx hb dX8_holders_41 (by decide) ?_
        exact J45 (1 : Int32) (0 : Int32) h _ _ hP hD hS ls (lv_sub hl [0, 1, 2] rfl)
theorem kX8_query : yX8_query.cls = yX8_query.cls ∧ yX8_query.cls ≠ "java/lang/invoke/MethodHandle" ∧ yX8_query.cls ≠ "java/lang/invoke/VarHandle" ∧ (parseMethodDescriptor yX8_query.desc).map (fun d => d.parameters.length) = some 1 := by decide +kernel
set_option maxHeartbeats 4000000 in
set_option maxRecDepth 100000 in
theorem ctX8_query (l : Launch) (D : va_G) (ca : Nat → ClassId)   (x0 : Int32) (u0 : Int32) (hf : fX8_query x0 = some u0) : MR l yX8_query wsX8_query 0 0 D ca [.int x0] [] (some (.int u0)) := by
  refine hdRi (plainFor_of_name (by decide +kernel)) rfl (Nat.le_of_ble_eq_true rfl) ?_
  intro p e s m args below meth c Q hx hb hml hown hts hP hK hret ls hl
  have hown : s.vm.findClass RX8 = some m.cls := hown
  have hl : lv_has ls 1 [(0, .int x0)] := hl
  have h := hf
  unfold fX8_query at h
  clear hf
  refine lv_sipush (v := (243 : Int32)) hx hb dX8_query_0 (by decide) ?_
  refine lv_bipush (v := (6 : Int32)) hx hb dX8_query_3 (by decide) ?_
  refine lv_iload_n hx hb dX8_query_5 rfl (lv_at hl 0 rfl) ?_
  refine lv_imul hx hb dX8_query_6 ?_
  refine lv_iadd hx hb dX8_query_7 ?_
  cases h
  exact hret 8 ls _ rfl dX8_query_8
theorem mwX8_whyNotCollect_0 : Cond.fieldLink RX8 7 "SegmentTimesModel" "s" "[I" ∈ wsX8_whyNotCollect := List.mem_of_getElem? (i := 1) rfl
theorem inX8_whyNotCollect_X8 : ∀ w ∈ u_ws RX8 TX8 14, w ∈ wsX8_whyNotCollect := fun w h => List.mem_cons_of_mem _ (List.mem_append_right _ (h))
theorem kX8_whyNotCollect : yX8_whyNotCollect.cls = RX8 ∧ yX8_whyNotCollect.cls ≠ "java/lang/invoke/MethodHandle" ∧ yX8_whyNotCollect.cls ≠ "java/lang/invoke/VarHandle" ∧ (parseMethodDescriptor yX8_whyNotCollect.desc).map (fun d => d.parameters.length) = some 2 := by decide +kernel
set_option maxHeartbeats 4000000 in
set_option maxRecDepth 100000 in
theorem ctX8_whyNotCollect (l : Launch) (D : va_G) (ca : Nat → ClassId) (o : Nat) (o_s : Nat) (o_saved : Nat) (o_text : Nat) (o_pieceCell : Nat) (o_letter : Nat) (o_number : Nat) (o_before : Nat) (o_savedCount : Int32) (o_textLength : Int32) (o_code : Int32) (o_pieceCount : Int32) (o_at : Int32) (o_commands : Int32) (o_hash : Int64) (o_s_d : Nat → Int32) (x1 : Int32) (x2 : Int32) (u0 : Int32) (hf : fX8_whyNotCollect o_s_d x1 x2 = some u0) : MR l yX8_whyNotCollect wsX8_whyNotCollect 3 66 D ca [.ref o, .int x1, .int x2] [(o, .inr (7, [.ref o_s, .ref o_saved, .int o_savedCount, .ref o_text, .int o_textLength, .int o_code, .int o_pieceCount, .ref o_pieceCell, .int o_at, .int o_commands, .ref o_letter, .ref o_number, .ref o_before, .long o_hash])), (o_s, .inl (ca 0, 1634, .inl o_s_d))] (some (.int u0)) := by
  refine hdRi (plainFor_of_name (by decide +kernel)) rfl (Nat.le_of_ble_eq_true rfl) ?_
  intro p e s m args below meth c Q hx hb hml hown hts hP hK hret ls hl
  have hown : s.vm.findClass RX8 = some m.cls := hown
  have hl : lv_has ls 3 [(0, .ref o), (1, .int x1), (2, .int x2)] := hl
  have h := hf
  unfold fX8_whyNotCollect at h
  clear hf
  refine lv_iload_n hx hb dX8_whyNotCollect_0 rfl (lv_at hl 1 rfl) ?_
  refine lv_iload_n hx hb dX8_whyNotCollect_1 rfl (lv_at hl 2 rfl) ?_
  obtain ⟨r1, h_r1, h⟩ := bd_s h
  refine clSR (As := [.int x1, .int x2]) (rest := []) hx hb hml hown hts gX8_whyNotCollect_X8_isPlace rfl 2 kX8_isPlace.2 ⟨Nat.le_of_ble_eq_true rfl, Nat.le_of_ble_eq_true rfl⟩ (ctX8_isPlace l D ca   x1 x2 r1 h_r1) hP hK [] rfl rfl hl.1 rfl (Nat.le_of_ble_eq_true rfl) ⟨Nat.le_of_ble_eq_true rfl, Nat.le_of_ble_eq_true rfl⟩ dX8_whyNotCollect_2 rfl ?_
  refine lv_if_ne (tgt := 12) hx hb dX8_whyNotCollect_5 (by decide) (fun c2 => ?_) (fun c2 => ?_)
  · have h := in_s h c2
    refine lv_aload_n hx hb dX8_whyNotCollect_12 rfl (lv_at hl 0 rfl) ?_
    refine gtF (ci := 7) (v := .ref o_s) (C := RX8) (T := TX8) (N := 14) hx hb hts inX8_whyNotCollect_X8 hown hK hP 0 rfl rfl 0 (by decide) mwX8_whyNotCollect_0 rfl rfl dX8_whyNotCollect_13 ?_
    refine lv_sipush (v := (242 : Int32)) hx hb dX8_whyNotCollect_16 (by decide) ?_
    obtain ⟨hin, y3, e_y3, h⟩ := rd_s h
    refine ldI hx hb hK hP 1 rfl hin dX8_whyNotCollect_19 ?_
    refine top_i e_y3 ?_
    refine lv_bipush (v := (30 : Int32)) hx hb dX8_whyNotCollect_20 (by decide) ?_
    refine lv_icmp_ne (tgt := 29) hx hb dX8_whyNotCollect_22 (by decide) (fun c4 => ?_) (fun c4 => ?_)
    · have h := in_s h c4
      refine lv_iconst (v := (0 : Int32)) hx hb dX8_whyNotCollect_29 (by decide) ?_
      cases h
      exact hret 30 ls _ rfl dX8_whyNotCollect_30
    · have h := ip_s h c4
      refine lv_iconst (v := (2 : Int32)) hx hb dX8_whyNotCollect_25 (by decide) ?_
      refine lv_goto (tgt := 30) hx hb dX8_whyNotCollect_26 (by decide) ?_
      cases h
      exact hret 30 ls _ rfl dX8_whyNotCollect_30
  · have h := ip_s h c2
    refine lv_iconst (v := (1 : Int32)) hx hb dX8_whyNotCollect_8 (by decide) ?_
    refine lv_goto (tgt := 30) hx hb dX8_whyNotCollect_9 (by decide) ?_
    cases h
    exact hret 30 ls _ rfl dX8_whyNotCollect_30
theorem mwX8_collectNow_0 : Cond.fieldLink RX8 7 "SegmentTimesModel" "s" "[I" ∈ wsX8_collectNow := List.mem_of_getElem? (i := 1) rfl
theorem inX8_collectNow_X8 : ∀ w ∈ u_ws RX8 TX8 14, w ∈ wsX8_collectNow := fun w h => List.mem_cons_of_mem _ (List.mem_append_right _ (h))
theorem kX8_collectNow : yX8_collectNow.cls = RX8 ∧ yX8_collectNow.cls ≠ "java/lang/invoke/MethodHandle" ∧ yX8_collectNow.cls ≠ "java/lang/invoke/VarHandle" ∧ (parseMethodDescriptor yX8_collectNow.desc).map (fun d => d.parameters.length) = some 2 := by decide +kernel
set_option maxHeartbeats 4000000 in
set_option maxRecDepth 100000 in
theorem ctX8_collectNow (l : Launch) (D : va_G) (ca : Nat → ClassId) (o : Nat) (o_s : Nat) (o_saved : Nat) (o_text : Nat) (o_pieceCell : Nat) (o_letter : Nat) (o_number : Nat) (o_before : Nat) (o_savedCount : Int32) (o_textLength : Int32) (o_code : Int32) (o_pieceCount : Int32) (o_at : Int32) (o_commands : Int32) (o_hash : Int64) (o_s_d : Nat → Int32) (x1 : Int32) (x2 : Int32) (sz : Nat) (u0 : Int32) (u1 : Nat → Int32) (hf : fX8_collectNow o_s_d x1 x2 = some (u0, u1)) : MW l yX8_collectNow wsX8_collectNow 1 20 D ca [.ref o, .int x1, .int x2] sz [(o, .inr (7, [.ref o_s, .ref o_saved, .int o_savedCount, .ref o_text, .int o_textLength, .int o_code, .int o_pieceCount, .ref o_pieceCell, .int o_at, .int o_commands, .ref o_letter, .ref o_number, .ref o_before, .long o_hash])), (o_s, .inl (ca 0, 1634, .inl o_s_d))] (some (.int u0)) [(o, .inr (7, [.ref o_s, .ref o_saved, .int o_savedCount, .ref o_text, .int o_textLength, .int o_code, .int o_pieceCount, .ref o_pieceCell, .int o_at, .int o_commands, .ref o_letter, .ref o_number, .ref o_before, .long o_hash])), (o_s, .inl (ca 0, 1634, .inl u1))] := by
  refine hdWi (by decide +kernel) rfl (Nat.le_of_ble_eq_true rfl) ?_
  intro p e s m args below meth c A Q hx hb hml hown hts hP hD hK hA hS hret ls hl
  have hown : s.vm.findClass RX8 = some m.cls := hown
  have hl : lv_has ls 5 [(0, .ref o), (1, .int x1), (2, .int x2)] := hl
  have h := hf
  unfold fX8_collectNow at h
  clear hf
  have L31 : ∀ (l3 : Int32) (n : Nat) (l4 : Int32) (w_o_s_d : Nat → Int32), lp (fun q => bX8_collectNow_31  l3 q.1 q.2) n (l4, w_o_s_d) = some (u0, u1) → ∀ (H : Heap) (locs : List Loc), va_P D vwCl [(o, .inr (7, [.ref o_s, .ref o_saved, .int o_savedCount, .ref o_text, .int o_textLength, .int o_code, .int o_pieceCount, .ref o_pieceCell, .int o_at, .int o_commands, .ref o_letter, .ref o_number, .ref o_before, .long o_hash])), (o_s, .inl (ca 0, 1634, .inl w_o_s_d))] H → va_D A [(o, .inr (7, [.ref o_s, .ref o_saved, .int o_savedCount, .ref o_text, .int o_textLength, .int o_code, .int o_pieceCount, .ref o_pieceCell, .int o_at, .int o_commands, .ref o_letter, .ref o_number, .ref o_before, .long o_hash])), (o_s, .inl (ca 0, 1634, .inl w_o_s_d))] → va_S A s.heap H locs → ∀ ls, lv_has ls 5 [(0, .ref o), (3, .int l3), (4, .int l4)] → W p l e ({ frames := 1, cells := 0, slots := 0, locals := 20 }) s m args below meth c H locs 0 0 Q (F0 m 31 ls []) := by
    intro l3 n
    induction n with
    | zero => intro l4 w_o_s_d h; exact (lp_0 h).elim
    | succ n ih31 =>
      intro l4 w_o_s_d h H locs hP hD hS ls hl
      obtain ⟨q31, h, hq31⟩ := lp_s h
      have h : bX8_collectNow_31  l3 l4 w_o_s_d = some q31 := h
      unfold bX8_collectNow_31 at h
      refine lv_iload hx hb dX8_collectNow_31 (lv_at hl 2 rfl) ?_
      refine lv_bipush (v := (6 : Int32)) hx hb dX8_collectNow_33 (by decide) ?_
      refine lv_icmp_ge (tgt := 54) hx hb dX8_collectNow_35 (by decide) (fun c1 => ?_) (fun c1 => ?_)
      · have h := ip_s h c1
        have h := xt_s hq31 h
        refine lv_aload_n hx hb dX8_collectNow_54 rfl (lv_at hl 0 rfl) ?_
        refine gtF (ci := 7) (v := .ref o_s) (C := RX8) (T := TX8) (N := 14) hx hb hts inX8_collectNow_X8 hown hK hP 0 rfl rfl 0 (by decide) mwX8_collectNow_0 rfl rfl dX8_collectNow_55 ?_
        refine lv_sipush (v := (242 : Int32)) hx hb dX8_collectNow_58 (by decide) ?_
        refine lv_dup2_11 hx hb dX8_collectNow_61 rfl rfl ?_
        obtain ⟨hin, y2, e_y2, h⟩ := rd_s h
        refine ldI hx hb hK hP 1 rfl hin dX8_collectNow_62 ?_
        refine top_i e_y2 ?_
        refine lv_iconst (v := (1 : Int32)) hx hb dX8_collectNow_63 (by decide) ?_
        refine lv_iadd hx hb dX8_collectNow_64 ?_
        obtain ⟨hin, g3, e_g3, h⟩ := wr_s h
        refine stI (wn := [(o, .inr (7, [.ref o_s, .ref o_saved, .int o_savedCount, .ref o_text, .int o_textLength, .int o_code, .int o_pieceCount, .ref o_pieceCell, .int o_at, .int o_commands, .ref o_letter, .ref o_number, .ref o_before, .long o_hash])), (o_s, .inl (ca 0, 1634, .inl g3))]) hx hb hK hP hD hS 1 rfl hin e_g3 rfl dX8_collectNow_65 (fun H locs hP hD hS => ?_)
        refine lv_aload_n hx hb dX8_collectNow_66 rfl (lv_at hl 0 rfl) ?_
        refine gtF (ci := 7) (v := .ref o_s) (C := RX8) (T := TX8) (N := 14) hx hb hts inX8_collectNow_X8 hown hK hP 0 rfl rfl 0 (by decide) mwX8_collectNow_0 rfl rfl dX8_collectNow_67 ?_
        refine lv_sipush (v := (242 : Int32)) hx hb dX8_collectNow_70 (by decide) ?_
        obtain ⟨hin, y4, e_y4, h⟩ := rd_s h
        refine ldI hx hb hK hP 1 rfl hin dX8_collectNow_73 ?_
        refine top_i e_y4 ?_
        refine lv_iconst (v := (1 : Int32)) hx hb dX8_collectNow_74 (by decide) ?_
        refine lv_isub hx hb dX8_collectNow_75 ?_
        cases h
        exact hret 76 ls _ _ _ hP hD hS rfl dX8_collectNow_76
      · have h := in_s h c1
        refine lv_aload_n hx hb dX8_collectNow_38 rfl (lv_at hl 0 rfl) ?_
        refine gtF (ci := 7) (v := .ref o_s) (C := RX8) (T := TX8) (N := 14) hx hb hts inX8_collectNow_X8 hown hK hP 0 rfl rfl 0 (by decide) mwX8_collectNow_0 rfl rfl dX8_collectNow_39 ?_
        refine lv_iload_n hx hb dX8_collectNow_42 rfl (lv_at hl 1 rfl) ?_
        refine lv_iload hx hb dX8_collectNow_43 (lv_at hl 2 rfl) ?_
        refine lv_iadd hx hb dX8_collectNow_45 ?_
        refine lv_iconst (v := (0 : Int32)) hx hb dX8_collectNow_46 (by decide) ?_
        obtain ⟨hin, g5, e_g5, h⟩ := wr_s h
        refine stI (wn := [(o, .inr (7, [.ref o_s, .ref o_saved, .int o_savedCount, .ref o_text, .int o_textLength, .int o_code, .int o_pieceCount, .ref o_pieceCell, .int o_at, .int o_commands, .ref o_letter, .ref o_number, .ref o_before, .long o_hash])), (o_s, .inl (ca 0, 1634, .inl g5))]) hx hb hK hP hD hS 1 rfl hin e_g5 rfl dX8_collectNow_47 (fun H locs hP hD hS => ?_)
        obtain ⟨y6, e_y6, h⟩ := nm_s h
        refine lv_iinc (v := y6) (lv' := [(4, .int y6), (0, .ref o), (3, .int l3)]) hx hb dX8_collectNow_48 hl (k := 2) rfl (by rw [e_y6]; rfl) (by decide) rfl (fun ls hl => ?_)
        refine lv_goto (tgt := 31) hx hb dX8_collectNow_51 (by decide) ?_
        exact ih31 y6 g5 (lp_l hq31 h) _ _ hP hD hS ls (lv_sub hl [1, 2, 0] rfl)
  refine lv_aload_n hx hb dX8_collectNow_0 rfl (lv_at hl 0 rfl) ?_
  refine gtF (ci := 7) (v := .ref o_s) (C := RX8) (T := TX8) (N := 14) hx hb hts inX8_collectNow_X8 hown hK hP 0 rfl rfl 0 (by decide) mwX8_collectNow_0 rfl rfl dX8_collectNow_1 ?_
  refine lv_sipush (v := (242 : Int32)) hx hb dX8_collectNow_4 (by decide) ?_
  obtain ⟨hin, y1, e_y1, h⟩ := rd_s h
  refine ldI hx hb hK hP 1 rfl hin dX8_collectNow_7 ?_
  refine top_i e_y1 ?_
  obtain ⟨r2, h_r2, h⟩ := bd_s h
  refine clSR (As := [.int y1]) (rest := []) hx hb hml hown hts gX8_collectNow_X8_query rfl 1 kX8_query.2 ⟨Nat.le_of_ble_eq_true rfl, Nat.le_of_ble_eq_true rfl⟩ (ctX8_query l D ca   y1 r2 h_r2) hP hK [] rfl rfl hl.1 rfl (Nat.le_of_ble_eq_true rfl) ⟨Nat.le_of_ble_eq_true rfl, Nat.le_of_ble_eq_true rfl⟩ dX8_collectNow_8 rfl ?_
  refine lv_istore_n (lv' := [(3, .int r2), (0, .ref o), (1, .int x1), (2, .int x2)]) hx hb dX8_collectNow_11 rfl hl (by decide) rfl (fun ls hl => ?_)
  refine lv_aload_n hx hb dX8_collectNow_12 rfl (lv_at hl 1 rfl) ?_
  refine gtF (ci := 7) (v := .ref o_s) (C := RX8) (T := TX8) (N := 14) hx hb hts inX8_collectNow_X8 hown hK hP 0 rfl rfl 0 (by decide) mwX8_collectNow_0 rfl rfl dX8_collectNow_13 ?_
  refine lv_iload_n hx hb dX8_collectNow_16 rfl (lv_at hl 0 rfl) ?_
  refine lv_iload_n hx hb dX8_collectNow_17 rfl (lv_at hl 2 rfl) ?_
  obtain ⟨hin, g3, e_g3, h⟩ := wr_s h
  refine stI (wn := [(o, .inr (7, [.ref o_s, .ref o_saved, .int o_savedCount, .ref o_text, .int o_textLength, .int o_code, .int o_pieceCount, .ref o_pieceCell, .int o_at, .int o_commands, .ref o_letter, .ref o_number, .ref o_before, .long o_hash])), (o_s, .inl (ca 0, 1634, .inl g3))]) hx hb hK hP hD hS 1 rfl hin e_g3 rfl dX8_collectNow_18 (fun H locs hP hD hS => ?_)
  refine lv_aload_n hx hb dX8_collectNow_19 rfl (lv_at hl 1 rfl) ?_
  refine gtF (ci := 7) (v := .ref o_s) (C := RX8) (T := TX8) (N := 14) hx hb hts inX8_collectNow_X8 hown hK hP 0 rfl rfl 0 (by decide) mwX8_collectNow_0 rfl rfl dX8_collectNow_20 ?_
  refine lv_iload_n hx hb dX8_collectNow_23 rfl (lv_at hl 0 rfl) ?_
  refine lv_iconst (v := (1 : Int32)) hx hb dX8_collectNow_24 (by decide) ?_
  refine lv_iadd hx hb dX8_collectNow_25 ?_
  refine lv_iload_n hx hb dX8_collectNow_26 rfl (lv_at hl 3 rfl) ?_
  obtain ⟨hin, g4, e_g4, h⟩ := wr_s h
  refine stI (wn := [(o, .inr (7, [.ref o_s, .ref o_saved, .int o_savedCount, .ref o_text, .int o_textLength, .int o_code, .int o_pieceCount, .ref o_pieceCell, .int o_at, .int o_commands, .ref o_letter, .ref o_number, .ref o_before, .long o_hash])), (o_s, .inl (ca 0, 1634, .inl g4))]) hx hb hK hP hD hS 1 rfl hin e_g4 rfl dX8_collectNow_27 (fun H locs hP hD hS => ?_)
  refine lv_iconst (v := (2 : Int32)) hx hb dX8_collectNow_28 (by decide) ?_
  refine lv_istore (lv' := [(4, .int (2 : Int32)), (3, .int r2), (0, .ref o), (1, .int x1), (2, .int x2)]) hx hb dX8_collectNow_29 hl (by decide) rfl (fun ls hl => ?_)
  exact L31 r2 fuel (2 : Int32) g4 h _ _ hP hD hS ls (lv_sub hl [2, 1, 0] rfl)
theorem mwX8_collect_0 : Cond.fieldLink RX8 31 "SegmentTimesModel" "code" "I" ∈ wsX8_collect := List.mem_of_getElem? (i := 1) rfl
theorem inX8_collect_X8 : ∀ w ∈ u_ws RX8 TX8 14, w ∈ wsX8_collect := fun w h => List.mem_cons_of_mem _ (List.mem_append_right _ (h))
theorem kX8_collect : yX8_collect.cls = RX8 ∧ yX8_collect.cls ≠ "java/lang/invoke/MethodHandle" ∧ yX8_collect.cls ≠ "java/lang/invoke/VarHandle" ∧ (parseMethodDescriptor yX8_collect.desc).map (fun d => d.parameters.length) = some 2 := by decide +kernel
set_option maxHeartbeats 4000000 in
set_option maxRecDepth 100000 in
theorem ctX8_collect (l : Launch) (D : va_G) (ca : Nat → ClassId) (o : Nat) (o_s : Nat) (o_saved : Nat) (o_text : Nat) (o_pieceCell : Nat) (o_letter : Nat) (o_number : Nat) (o_before : Nat) (o_savedCount : Int32) (o_textLength : Int32) (o_code : Int32) (o_pieceCount : Int32) (o_at : Int32) (o_commands : Int32) (o_hash : Int64) (o_s_d : Nat → Int32) (o_saved_d : Nat → Int32) (x1 : Int32) (x2 : Int32) (sz : Nat) (u0 : Int32) (u1 : Int32) (u2 : Int32) (u3 : Nat → Int32) (u4 : Nat → Int32) (hf : fX8_collect o_savedCount o_code o_s_d o_saved_d x1 x2 = some (u0, u1, u2, u3, u4)) : MW l yX8_collect wsX8_collect 4 88 D ca [.ref o, .int x1, .int x2] sz [(o, .inr (7, [.ref o_s, .ref o_saved, .int o_savedCount, .ref o_text, .int o_textLength, .int o_code, .int o_pieceCount, .ref o_pieceCell, .int o_at, .int o_commands, .ref o_letter, .ref o_number, .ref o_before, .long o_hash])), (o_s, .inl (ca 0, 1634, .inl o_s_d)), (o_saved, .inl (ca 0, 6536, .inl o_saved_d))] (some (.int u0)) [(o, .inr (7, [.ref o_s, .ref o_saved, .int u1, .ref o_text, .int o_textLength, .int u2, .int o_pieceCount, .ref o_pieceCell, .int o_at, .int o_commands, .ref o_letter, .ref o_number, .ref o_before, .long o_hash])), (o_s, .inl (ca 0, 1634, .inl u3)), (o_saved, .inl (ca 0, 6536, .inl u4))] := by
  refine hdWi (by decide +kernel) rfl (Nat.le_of_ble_eq_true rfl) ?_
  intro p e s m args below meth c A Q hx hb hml hown hts hP hD hK hA hS hret ls hl
  have hown : s.vm.findClass RX8 = some m.cls := hown
  have hl : lv_has ls 3 [(0, .ref o), (1, .int x1), (2, .int x2)] := hl
  have h := hf
  unfold fX8_collect at h
  clear hf
  refine lv_aload_n hx hb dX8_collect_0 rfl (lv_at hl 0 rfl) ?_
  refine lv_aload_n hx hb dX8_collect_1 rfl (lv_at hl 0 rfl) ?_
  refine lv_iload_n hx hb dX8_collect_2 rfl (lv_at hl 1 rfl) ?_
  refine lv_iload_n hx hb dX8_collect_3 rfl (lv_at hl 2 rfl) ?_
  obtain ⟨r1, h_r1, h⟩ := bd_s h
  refine clVR (As := [.int x1, .int x2]) (rest := [.ref o]) hx hb hml hown hts gX8_collect_X8_whyNotCollect rfl 2 kX8_whyNotCollect ⟨Nat.le_of_ble_eq_true rfl, Nat.le_of_ble_eq_true rfl⟩ (ctX8_whyNotCollect l D ca o o_s o_saved o_text o_pieceCell o_letter o_number o_before o_savedCount o_textLength o_code o_pieceCount o_at o_commands o_hash o_s_d x1 x2 r1 h_r1) hP hK [0, 1] rfl 0 7 rfl rfl rfl rfl hl.1 rfl (Nat.le_of_ble_eq_true rfl) ⟨Nat.le_of_ble_eq_true rfl, Nat.le_of_ble_eq_true rfl⟩ dX8_collect_4 rfl ?_
  refine ptI (ci := 7) (v := .int r1) (ty := .int) (C := RX8) (T := TX8) (N := 14) (wn := [(o, .inr (7, [.ref o_s, .ref o_saved, .int o_savedCount, .ref o_text, .int o_textLength, .int r1, .int o_pieceCount, .ref o_pieceCell, .int o_at, .int o_commands, .ref o_letter, .ref o_number, .ref o_before, .long o_hash])), (o_s, .inl (ca 0, 1634, .inl o_s_d)), (o_saved, .inl (ca 0, 6536, .inl o_saved_d))]) hx hb hts inX8_collect_X8 tyX8 tyX8_ok nmX8 hown hK hP hD hS 0 rfl rfl 5 (by decide) mwX8_collect_0 rfl rfl (by decide +kernel) rfl rfl (Nat.le_of_ble_eq_true rfl) rfl dX8_collect_7 (fun H locs hP hD hS => ?_)
  refine lv_aload_n hx hb dX8_collect_10 rfl (lv_at hl 0 rfl) ?_
  refine gtF (ci := 7) (v := .int r1) (C := RX8) (T := TX8) (N := 14) hx hb hts inX8_collect_X8 hown hK hP 0 rfl rfl 5 (by decide) mwX8_collect_0 rfl rfl dX8_collect_11 ?_
  refine lv_if_eq (tgt := 19) hx hb dX8_collect_14 (by decide) (fun c2 => ?_) (fun c2 => ?_)
  · have h := ip_s h c2
    refine lv_aload_n hx hb dX8_collect_19 rfl (lv_at hl 0 rfl) ?_
    obtain ⟨⟨r3_0, r3_1⟩, h_r3, h⟩ := bd_s h
    have h := up2_s h
    refine clVW (As := []) (rest := []) (wr := []) (wn := [(o, .inr (7, [.ref o_s, .ref o_saved, .int r3_0, .ref o_text, .int o_textLength, .int r1, .int o_pieceCount, .ref o_pieceCell, .int o_at, .int o_commands, .ref o_letter, .ref o_number, .ref o_before, .long o_hash])), (o_s, .inl (ca 0, 1634, .inl o_s_d)), (o_saved, .inl (ca 0, 6536, .inl r3_1))]) hx hb hml hown hts gX8_collect_X8_keep rfl 0 kX8_keep ⟨Nat.le_of_ble_eq_true rfl, Nat.le_of_ble_eq_true rfl⟩ (ctX8_keep l D ca o o_s o_saved o_text o_pieceCell o_letter o_number o_before o_savedCount o_textLength r1 o_pieceCount o_at o_commands o_hash o_s_d o_saved_d  _ r3_0 r3_1 h_r3) hP hD hS hA hK [0, 1, 2] [] rfl (by decide) rfl (by decide) (by decide) 0 7 rfl rfl rfl rfl hl.1 rfl (Nat.le_of_ble_eq_true rfl) ⟨Nat.le_of_ble_eq_true rfl, Nat.le_of_ble_eq_true rfl⟩ dX8_collect_20 rfl rfl (fun H locs hP hD hS => ?_)
    refine lv_aload_n hx hb dX8_collect_23 rfl (lv_at hl 0 rfl) ?_
    refine lv_iload_n hx hb dX8_collect_24 rfl (lv_at hl 1 rfl) ?_
    refine lv_iload_n hx hb dX8_collect_25 rfl (lv_at hl 2 rfl) ?_
    obtain ⟨⟨r4_0, r4_1⟩, h_r4, h⟩ := bd_s h
    have h := up2_s h
    refine clVW (As := [.int x1, .int x2]) (rest := []) (wr := [(o_saved, .inl (ca 0, 6536, .inl r3_1))]) (wn := [(o_saved, .inl (ca 0, 6536, .inl r3_1)), (o, .inr (7, [.ref o_s, .ref o_saved, .int r3_0, .ref o_text, .int o_textLength, .int r1, .int o_pieceCount, .ref o_pieceCell, .int o_at, .int o_commands, .ref o_letter, .ref o_number, .ref o_before, .long o_hash])), (o_s, .inl (ca 0, 1634, .inl r4_1))]) hx hb hml hown hts gX8_collect_X8_collectNow rfl 2 kX8_collectNow ⟨Nat.le_of_ble_eq_true rfl, Nat.le_of_ble_eq_true rfl⟩ (ctX8_collectNow l D ca o o_s o_saved o_text o_pieceCell o_letter o_number o_before r3_0 o_textLength r1 o_pieceCount o_at o_commands o_hash o_s_d x1 x2 _ r4_0 r4_1 h_r4) hP hD hS hA hK [0, 1] [2] rfl (by decide) rfl (by decide) (by decide) 0 7 rfl rfl rfl rfl hl.1 rfl (Nat.le_of_ble_eq_true rfl) ⟨Nat.le_of_ble_eq_true rfl, Nat.le_of_ble_eq_true rfl⟩ dX8_collect_26 rfl rfl (fun H locs hP hD hS => ?_)
    have hP := hP.sub (ws' := [(o, .inr (7, [.ref o_s, .ref o_saved, .int r3_0, .ref o_text, .int o_textLength, .int r1, .int o_pieceCount, .ref o_pieceCell, .int o_at, .int o_commands, .ref o_letter, .ref o_number, .ref o_before, .long o_hash])), (o_s, .inl (ca 0, 1634, .inl r4_1)), (o_saved, .inl (ca 0, 6536, .inl r3_1))]) [1, 2, 0] rfl
    have hD := hD.sub (ws' := [(o, .inr (7, [.ref o_s, .ref o_saved, .int r3_0, .ref o_text, .int o_textLength, .int r1, .int o_pieceCount, .ref o_pieceCell, .int o_at, .int o_commands, .ref o_letter, .ref o_number, .ref o_before, .long o_hash])), (o_s, .inl (ca 0, 1634, .inl r4_1)), (o_saved, .inl (ca 0, 6536, .inl r3_1))]) [1, 2, 0] (by decide) rfl
    cases h
    exact hret 29 ls _ _ _ hP hD hS rfl dX8_collect_29
  · have h := in_s h c2
    refine lv_iconst (v := (0 : Int32)) hx hb dX8_collect_17 (by decide) ?_
    cases h
    exact hret 18 ls _ _ _ hP hD hS rfl dX8_collect_18
theorem mwX8_solveNow_0 : Cond.fieldLink RX8 7 "SegmentTimesModel" "s" "[I" ∈ wsX8_solveNow := List.mem_of_getElem? (i := 1) rfl
theorem inX8_solveNow_X8 : ∀ w ∈ u_ws RX8 TX8 14, w ∈ wsX8_solveNow := fun w h => List.mem_cons_of_mem _ (List.mem_append_right _ (h))
theorem kX8_solveNow : yX8_solveNow.cls = RX8 ∧ yX8_solveNow.cls ≠ "java/lang/invoke/MethodHandle" ∧ yX8_solveNow.cls ≠ "java/lang/invoke/VarHandle" ∧ (parseMethodDescriptor yX8_solveNow.desc).map (fun d => d.parameters.length) = some 0 := by decide +kernel
set_option maxHeartbeats 4000000 in
set_option maxRecDepth 100000 in
theorem ctX8_solveNow (l : Launch) (D : va_G) (ca : Nat → ClassId) (o : Nat) (o_s : Nat) (o_saved : Nat) (o_text : Nat) (o_pieceCell : Nat) (o_letter : Nat) (o_number : Nat) (o_before : Nat) (o_savedCount : Int32) (o_textLength : Int32) (o_code : Int32) (o_pieceCount : Int32) (o_at : Int32) (o_commands : Int32) (o_hash : Int64) (o_s_d : Nat → Int32)  (sz : Nat) (u0 : Int32) (u1 : Nat → Int32) (hf : fX8_solveNow o_s_d = some (u0, u1)) : MW l yX8_solveNow wsX8_solveNow 5 114 D ca [.ref o] sz [(o, .inr (7, [.ref o_s, .ref o_saved, .int o_savedCount, .ref o_text, .int o_textLength, .int o_code, .int o_pieceCount, .ref o_pieceCell, .int o_at, .int o_commands, .ref o_letter, .ref o_number, .ref o_before, .long o_hash])), (o_s, .inl (ca 0, 1634, .inl o_s_d))] (some (.int u0)) [(o, .inr (7, [.ref o_s, .ref o_saved, .int o_savedCount, .ref o_text, .int o_textLength, .int o_code, .int o_pieceCount, .ref o_pieceCell, .int o_at, .int o_commands, .ref o_letter, .ref o_number, .ref o_before, .long o_hash])), (o_s, .inl (ca 0, 1634, .inl u1))] := by
  refine hdWi (by decide +kernel) rfl (Nat.le_of_ble_eq_true rfl) ?_
  intro p e s m args below meth c A Q hx hb hml hown hts hP hD hK hA hS hret ls hl
  have hown : s.vm.findClass RX8 = some m.cls := hown
  have hl : lv_has ls 7 [(0, .ref o)] := hl
  have h := hf
  unfold fX8_solveNow at h
  clear hf
  have L4 : ∀  (n : Nat) (l1 : Int32) (l2 : Int32) (w_o_s_d : Nat → Int32), lp (fun q => bX8_solveNow_4   q.1 q.2.1 q.2.2) n (l1, l2, w_o_s_d) = some (u0, u1) → ∀ (H : Heap) (locs : List Loc), va_P D vwCl [(o, .inr (7, [.ref o_s, .ref o_saved, .int o_savedCount, .ref o_text, .int o_textLength, .int o_code, .int o_pieceCount, .ref o_pieceCell, .int o_at, .int o_commands, .ref o_letter, .ref o_number, .ref o_before, .long o_hash])), (o_s, .inl (ca 0, 1634, .inl w_o_s_d))] H → va_D A [(o, .inr (7, [.ref o_s, .ref o_saved, .int o_savedCount, .ref o_text, .int o_textLength, .int o_code, .int o_pieceCount, .ref o_pieceCell, .int o_at, .int o_commands, .ref o_letter, .ref o_number, .ref o_before, .long o_hash])), (o_s, .inl (ca 0, 1634, .inl w_o_s_d))] → va_S A s.heap H locs → ∀ ls, lv_has ls 7 [(0, .ref o), (1, .int l1), (2, .int l2)] → W p l e ({ frames := 5, cells := 0, slots := 0, locals := 114 }) s m args below meth c H locs 0 0 Q (F0 m 4 ls []) := by
    intro  n
    induction n with
    | zero => intro l1 l2 w_o_s_d h; exact (lp_0 h).elim
    | succ n ih4 =>
      intro l1 l2 w_o_s_d h H locs hP hD hS ls hl
      obtain ⟨q4, h, hq4⟩ := lp_s h
      have h : bX8_solveNow_4   l1 l2 w_o_s_d = some q4 := h
      unfold bX8_solveNow_4 at h
      have J135 : ∀ (l1 : Int32) (l2 : Int32) (l3 : Int32) (l4 : Int32) (l5 : Int32) (s1 : Int32) (s2 : Int32) (w_o_s_d : Nat → Int32), jX8_solveNow_135  l1 l2 l3 l4 l5 s1 s2 w_o_s_d = some q4 → ∀ (H : Heap) (locs : List Loc), va_P D vwCl [(o, .inr (7, [.ref o_s, .ref o_saved, .int o_savedCount, .ref o_text, .int o_textLength, .int o_code, .int o_pieceCount, .ref o_pieceCell, .int o_at, .int o_commands, .ref o_letter, .ref o_number, .ref o_before, .long o_hash])), (o_s, .inl (ca 0, 1634, .inl w_o_s_d))] H → va_D A [(o, .inr (7, [.ref o_s, .ref o_saved, .int o_savedCount, .ref o_text, .int o_textLength, .int o_code, .int o_pieceCount, .ref o_pieceCell, .int o_at, .int o_commands, .ref o_letter, .ref o_number, .ref o_before, .long o_hash])), (o_s, .inl (ca 0, 1634, .inl w_o_s_d))] → va_S A s.heap H locs → ∀ ls, lv_has ls 7 [(0, .ref o), (1, .int l1), (2, .int l2), (3, .int l3), (4, .int l4), (5, .int l5)] → W p l e ({ frames := 5, cells := 0, slots := 0, locals := 114 }) s m args below meth c H locs 0 0 Q (F0 m 135 ls [.int s2, .int s1, .ref o_s]) := by
        intro l1 l2 l3 l4 l5 s1 s2 w_o_s_d h H locs hP hD hS ls hl
        unfold jX8_solveNow_135 at h
        obtain ⟨hin, g1, e_g1, h⟩ := wr_s h
        refine stI (wn := [(o, .inr (7, [.ref o_s, .ref o_saved, .int o_savedCount, .ref o_text, .int o_textLength, .int o_code, .int o_pieceCount, .ref o_pieceCell, .int o_at, .int o_commands, .ref o_letter, .ref o_number, .ref o_before, .long o_hash])), (o_s, .inl (ca 0, 1634, .inl g1))]) hx hb hK hP hD hS 1 rfl hin e_g1 rfl dX8_solveNow_135 (fun H locs hP hD hS => ?_)
        refine lv_aload_n hx hb dX8_solveNow_136 rfl (lv_at hl 0 rfl) ?_
        refine gtF (ci := 7) (v := .ref o_s) (C := RX8) (T := TX8) (N := 14) hx hb hts inX8_solveNow_X8 hown hK hP 0 rfl rfl 0 (by decide) mwX8_solveNow_0 rfl rfl dX8_solveNow_137 ?_
        refine lv_iload_n hx hb dX8_solveNow_140 rfl (lv_at hl 3 rfl) ?_
        refine lv_iconst (v := (4 : Int32)) hx hb dX8_solveNow_141 (by decide) ?_
        refine lv_iadd hx hb dX8_solveNow_142 ?_
        refine lv_iload hx hb dX8_solveNow_143 (lv_at hl 4 rfl) ?_
        obtain ⟨hin, g2, e_g2, h⟩ := wr_s h
        refine stI (wn := [(o, .inr (7, [.ref o_s, .ref o_saved, .int o_savedCount, .ref o_text, .int o_textLength, .int o_code, .int o_pieceCount, .ref o_pieceCell, .int o_at, .int o_commands, .ref o_letter, .ref o_number, .ref o_before, .long o_hash])), (o_s, .inl (ca 0, 1634, .inl g2))]) hx hb hK hP hD hS 1 rfl hin e_g2 rfl dX8_solveNow_145 (fun H locs hP hD hS => ?_)
        refine lv_aload_n hx hb dX8_solveNow_146 rfl (lv_at hl 0 rfl) ?_
        refine gtF (ci := 7) (v := .ref o_s) (C := RX8) (T := TX8) (N := 14) hx hb hts inX8_solveNow_X8 hown hK hP 0 rfl rfl 0 (by decide) mwX8_solveNow_0 rfl rfl dX8_solveNow_147 ?_
        refine lv_iload_n hx hb dX8_solveNow_150 rfl (lv_at hl 3 rfl) ?_
        refine lv_iconst (v := (5 : Int32)) hx hb dX8_solveNow_151 (by decide) ?_
        refine lv_iadd hx hb dX8_solveNow_152 ?_
        refine lv_iload hx hb dX8_solveNow_153 (lv_at hl 5 rfl) ?_
        obtain ⟨hin, g3, e_g3, h⟩ := wr_s h
        refine stI (wn := [(o, .inr (7, [.ref o_s, .ref o_saved, .int o_savedCount, .ref o_text, .int o_textLength, .int o_code, .int o_pieceCount, .ref o_pieceCell, .int o_at, .int o_commands, .ref o_letter, .ref o_number, .ref o_before, .long o_hash])), (o_s, .inl (ca 0, 1634, .inl g3))]) hx hb hK hP hD hS 1 rfl hin e_g3 rfl dX8_solveNow_155 (fun H locs hP hD hS => ?_)
        refine lv_iload_n hx hb dX8_solveNow_156 rfl (lv_at hl 1 rfl) ?_
        refine lv_iload hx hb dX8_solveNow_157 (lv_at hl 5 rfl) ?_
        refine lv_if_le (tgt := 166) hx hb dX8_solveNow_159 (by decide) (fun c4 => ?_) (fun c4 => ?_)
        · have h := ip_s h c4
          refine lv_iconst (v := (0 : Int32)) hx hb dX8_solveNow_166 (by decide) ?_
          refine lv_iadd hx hb dX8_solveNow_167 ?_
          obtain ⟨y5, e_y5, h⟩ := nm_s h
          refine top_i e_y5 ?_
          refine lv_istore_n (lv' := [(1, .int y5), (0, .ref o), (2, .int l2), (3, .int l3), (4, .int l4), (5, .int l5)]) hx hb dX8_solveNow_168 rfl hl (by decide) rfl (fun ls hl => ?_)
          obtain ⟨y6, e_y6, h⟩ := nm_s h
          refine lv_iinc (v := y6) (lv' := [(2, .int y6), (1, .int y5), (0, .ref o), (3, .int l3), (4, .int l4), (5, .int l5)]) hx hb dX8_solveNow_169 hl (k := 2) rfl (by rw [e_y6]; rfl) (by decide) rfl (fun ls hl => ?_)
          refine lv_goto (tgt := 4) hx hb dX8_solveNow_172 (by decide) ?_
          exact ih4 y5 y6 g3 (lp_l hq4 h) _ _ hP hD hS ls (lv_sub hl [2, 1, 0] rfl)
        · have h := in_s h c4
          refine lv_iconst (v := (1 : Int32)) hx hb dX8_solveNow_162 (by decide) ?_
          refine lv_goto (tgt := 167) hx hb dX8_solveNow_163 (by decide) ?_
          refine lv_iadd hx hb dX8_solveNow_167 ?_
          obtain ⟨y7, e_y7, h⟩ := nm_s h
          refine top_i e_y7 ?_
          refine lv_istore_n (lv' := [(1, .int y7), (0, .ref o), (2, .int l2), (3, .int l3), (4, .int l4), (5, .int l5)]) hx hb dX8_solveNow_168 rfl hl (by decide) rfl (fun ls hl => ?_)
          obtain ⟨y8, e_y8, h⟩ := nm_s h
          refine lv_iinc (v := y8) (lv' := [(2, .int y8), (1, .int y7), (0, .ref o), (3, .int l3), (4, .int l4), (5, .int l5)]) hx hb dX8_solveNow_169 hl (k := 2) rfl (by rw [e_y8]; rfl) (by decide) rfl (fun ls hl => ?_)
          refine lv_goto (tgt := 4) hx hb dX8_solveNow_172 (by decide) ?_
          exact ih4 y7 y8 g3 (lp_l hq4 h) _ _ hP hD hS ls (lv_sub hl [2, 1, 0] rfl)
      have L47 : ∀ (l1 : Int32) (l2 : Int32) (l3 : Int32) (l4 : Int32) (w_o_s_d : Nat → Int32) (n : Nat) (l5 : Int32) (l6 : Int32), lp (fun q => bX8_solveNow_47  l1 l2 l3 l4 w_o_s_d q.1 q.2) n (l5, l6) = some q4 → ∀ (H : Heap) (locs : List Loc), va_P D vwCl [(o, .inr (7, [.ref o_s, .ref o_saved, .int o_savedCount, .ref o_text, .int o_textLength, .int o_code, .int o_pieceCount, .ref o_pieceCell, .int o_at, .int o_commands, .ref o_letter, .ref o_number, .ref o_before, .long o_hash])), (o_s, .inl (ca 0, 1634, .inl w_o_s_d))] H → va_D A [(o, .inr (7, [.ref o_s, .ref o_saved, .int o_savedCount, .ref o_text, .int o_textLength, .int o_code, .int o_pieceCount, .ref o_pieceCell, .int o_at, .int o_commands, .ref o_letter, .ref o_number, .ref o_before, .long o_hash])), (o_s, .inl (ca 0, 1634, .inl w_o_s_d))] → va_S A s.heap H locs → ∀ ls, lv_has ls 7 [(0, .ref o), (1, .int l1), (2, .int l2), (3, .int l3), (4, .int l4), (5, .int l5), (6, .int l6)] → W p l e ({ frames := 5, cells := 0, slots := 0, locals := 114 }) s m args below meth c H locs 0 0 Q (F0 m 47 ls []) := by
        intro l1 l2 l3 l4 w_o_s_d n
        induction n with
        | zero => intro l5 l6 h; exact (lp_0 h).elim
        | succ n ih47 =>
          intro l5 l6 h H locs hP hD hS ls hl
          obtain ⟨q47, h, hq47⟩ := lp_s h
          have h : bX8_solveNow_47  l1 l2 l3 l4 w_o_s_d l5 l6 = some q47 := h
          unfold bX8_solveNow_47 at h
          refine lv_iload hx hb dX8_solveNow_47 (lv_at hl 6 rfl) ?_
          refine lv_aload_n hx hb dX8_solveNow_49 rfl (lv_at hl 0 rfl) ?_
          refine gtF (ci := 7) (v := .ref o_s) (C := RX8) (T := TX8) (N := 14) hx hb hts inX8_solveNow_X8 hown hK hP 0 rfl rfl 0 (by decide) mwX8_solveNow_0 rfl rfl dX8_solveNow_50 ?_
          refine lv_iconst (v := (0 : Int32)) hx hb dX8_solveNow_53 (by decide) ?_
          obtain ⟨hin, y1, e_y1, h⟩ := rd_s h
          refine ldI hx hb hK hP 1 rfl hin dX8_solveNow_54 ?_
          refine top_i e_y1 ?_
          refine lv_icmp_ge (tgt := 97) hx hb dX8_solveNow_55 (by decide) (fun c2 => ?_) (fun c2 => ?_)
          · have h := ip_s h c2
            have h := xt_s hq47 h
            refine lv_aload_n hx hb dX8_solveNow_97 rfl (lv_at hl 0 rfl) ?_
            refine gtF (ci := 7) (v := .ref o_s) (C := RX8) (T := TX8) (N := 14) hx hb hts inX8_solveNow_X8 hown hK hP 0 rfl rfl 0 (by decide) mwX8_solveNow_0 rfl rfl dX8_solveNow_98 ?_
            refine lv_iload_n hx hb dX8_solveNow_101 rfl (lv_at hl 3 rfl) ?_
            refine lv_iconst (v := (2 : Int32)) hx hb dX8_solveNow_102 (by decide) ?_
            refine lv_iadd hx hb dX8_solveNow_103 ?_
            refine lv_iconst (v := (1 : Int32)) hx hb dX8_solveNow_104 (by decide) ?_
            obtain ⟨hin, g3, e_g3, h⟩ := wr_s h
            refine stI (wn := [(o, .inr (7, [.ref o_s, .ref o_saved, .int o_savedCount, .ref o_text, .int o_textLength, .int o_code, .int o_pieceCount, .ref o_pieceCell, .int o_at, .int o_commands, .ref o_letter, .ref o_number, .ref o_before, .long o_hash])), (o_s, .inl (ca 0, 1634, .inl g3))]) hx hb hK hP hD hS 1 rfl hin e_g3 rfl dX8_solveNow_105 (fun H locs hP hD hS => ?_)
            refine lv_aload_n hx hb dX8_solveNow_106 rfl (lv_at hl 0 rfl) ?_
            refine gtF (ci := 7) (v := .ref o_s) (C := RX8) (T := TX8) (N := 14) hx hb hts inX8_solveNow_X8 hown hK hP 0 rfl rfl 0 (by decide) mwX8_solveNow_0 rfl rfl dX8_solveNow_107 ?_
            refine lv_iload_n hx hb dX8_solveNow_110 rfl (lv_at hl 3 rfl) ?_
            refine lv_iconst (v := (3 : Int32)) hx hb dX8_solveNow_111 (by decide) ?_
            refine lv_iadd hx hb dX8_solveNow_112 ?_
            refine lv_iload hx hb dX8_solveNow_113 (lv_at hl 4 rfl) ?_
            refine lv_iconst (v := (-1 : Int32)) hx hb dX8_solveNow_115 (by decide) ?_
            refine lv_icmp_ne (tgt := 123) hx hb dX8_solveNow_116 (by decide) (fun c4 => ?_) (fun c4 => ?_)
            · have h := in_s h c4
              refine lv_aload_n hx hb dX8_solveNow_123 rfl (lv_at hl 0 rfl) ?_
              refine lv_iload hx hb dX8_solveNow_124 (lv_at hl 4 rfl) ?_
              refine lv_aload_n hx hb dX8_solveNow_126 rfl (lv_at hl 0 rfl) ?_
              refine gtF (ci := 7) (v := .ref o_s) (C := RX8) (T := TX8) (N := 14) hx hb hts inX8_solveNow_X8 hown hK hP 0 rfl rfl 0 (by decide) mwX8_solveNow_0 rfl rfl dX8_solveNow_127 ?_
              refine lv_iload_n hx hb dX8_solveNow_130 rfl (lv_at hl 3 rfl) ?_
              obtain ⟨hin, y5, e_y5, h⟩ := rd_s h
              refine ldI hx hb hK hP 1 rfl hin dX8_solveNow_131 ?_
              refine top_i e_y5 ?_
              obtain ⟨r6, h_r6, h⟩ := bd_s h
              refine clVR (As := [.int l4, .int y5]) (rest := [.int (l3 + (3 : Int32)), .ref o_s]) hx hb hml hown hts gX8_solveNow_X8_valueAt rfl 2 kX8_valueAt ⟨Nat.le_of_ble_eq_true rfl, Nat.le_of_ble_eq_true rfl⟩ (ctX8_valueAt l D ca o o_s o_saved o_text o_pieceCell o_letter o_number o_before o_savedCount o_textLength o_code o_pieceCount o_at o_commands o_hash g3 l4 y5 r6 h_r6) hP hK [0, 1] rfl 0 7 rfl rfl rfl rfl hl.1 rfl (Nat.le_of_ble_eq_true rfl) ⟨Nat.le_of_ble_eq_true rfl, Nat.le_of_ble_eq_true rfl⟩ dX8_solveNow_132 rfl ?_
              exact J135 l1 l2 l3 l4 l5 (l3 + (3 : Int32)) r6 g3 h _ _ hP hD hS ls (lv_sub hl [0, 1, 2, 3, 4, 5] rfl)
            · have h := ip_s h c4
              refine lv_iconst (v := (0 : Int32)) hx hb dX8_solveNow_119 (by decide) ?_
              refine lv_goto (tgt := 135) hx hb dX8_solveNow_120 (by decide) ?_
              exact J135 l1 l2 l3 l4 l5 (l3 + (3 : Int32)) (0 : Int32) g3 h _ _ hP hD hS ls (lv_sub hl [0, 1, 2, 3, 4, 5] rfl)
          · have h := in_s h c2
            refine lv_iload hx hb dX8_solveNow_58 (lv_at hl 5 rfl) ?_
            refine lv_aload_n hx hb dX8_solveNow_60 rfl (lv_at hl 0 rfl) ?_
            refine lv_iload hx hb dX8_solveNow_61 (lv_at hl 6 rfl) ?_
            refine lv_aload_n hx hb dX8_solveNow_63 rfl (lv_at hl 0 rfl) ?_
            refine gtF (ci := 7) (v := .ref o_s) (C := RX8) (T := TX8) (N := 14) hx hb hts inX8_solveNow_X8 hown hK hP 0 rfl rfl 0 (by decide) mwX8_solveNow_0 rfl rfl dX8_solveNow_64 ?_
            refine lv_iload_n hx hb dX8_solveNow_67 rfl (lv_at hl 3 rfl) ?_
            obtain ⟨hin, y9, e_y9, h⟩ := rd_s h
            refine ldI hx hb hK hP 1 rfl hin dX8_solveNow_68 ?_
            refine top_i e_y9 ?_
            refine lv_aload_n hx hb dX8_solveNow_69 rfl (lv_at hl 0 rfl) ?_
            refine gtF (ci := 7) (v := .ref o_s) (C := RX8) (T := TX8) (N := 14) hx hb hts inX8_solveNow_X8 hown hK hP 0 rfl rfl 0 (by decide) mwX8_solveNow_0 rfl rfl dX8_solveNow_70 ?_
            refine lv_iload_n hx hb dX8_solveNow_73 rfl (lv_at hl 3 rfl) ?_
            refine lv_iconst (v := (1 : Int32)) hx hb dX8_solveNow_74 (by decide) ?_
            refine lv_iadd hx hb dX8_solveNow_75 ?_
            obtain ⟨hin, y10, e_y10, h⟩ := rd_s h
            refine ldI hx hb hK hP 1 rfl hin dX8_solveNow_76 ?_
            refine top_i e_y10 ?_
            obtain ⟨r11, h_r11, h⟩ := bd_s h
            refine clVR (As := [.int l6, .int y9, .int y10]) (rest := [.int l5]) hx hb hml hown hts gX8_solveNow_X8_isThere rfl 3 kX8_isThere ⟨Nat.le_of_ble_eq_true rfl, Nat.le_of_ble_eq_true rfl⟩ (ctX8_isThere l D ca o o_s o_saved o_text o_pieceCell o_letter o_number o_before o_savedCount o_textLength o_code o_pieceCount o_at o_commands o_hash w_o_s_d l6 y9 y10 r11 h_r11) hP hK [0, 1] rfl 0 7 rfl rfl rfl rfl hl.1 rfl (Nat.le_of_ble_eq_true rfl) ⟨Nat.le_of_ble_eq_true rfl, Nat.le_of_ble_eq_true rfl⟩ dX8_solveNow_77 rfl ?_
            refine lv_if_eq (tgt := 87) hx hb dX8_solveNow_80 (by decide) (fun c12 => ?_) (fun c12 => ?_)
            · have h := ip_s h c12
              refine lv_iconst (v := (0 : Int32)) hx hb dX8_solveNow_87 (by decide) ?_
              refine lv_iadd hx hb dX8_solveNow_88 ?_
              obtain ⟨y13, e_y13, h⟩ := nm_s h
              refine top_i e_y13 ?_
              refine lv_istore (lv' := [(5, .int y13), (0, .ref o), (1, .int l1), (2, .int l2), (3, .int l3), (4, .int l4), (6, .int l6)]) hx hb dX8_solveNow_89 hl (by decide) rfl (fun ls hl => ?_)
              obtain ⟨y14, e_y14, h⟩ := nm_s h
              refine lv_iinc (v := y14) (lv' := [(6, .int y14), (5, .int y13), (0, .ref o), (1, .int l1), (2, .int l2), (3, .int l3), (4, .int l4)]) hx hb dX8_solveNow_91 hl (k := 6) rfl (by rw [e_y14]; rfl) (by decide) rfl (fun ls hl => ?_)
              refine lv_goto (tgt := 47) hx hb dX8_solveNow_94 (by decide) ?_
              exact ih47 y13 y14 (lp_l hq47 h) _ _ hP hD hS ls (lv_sub hl [2, 3, 4, 5, 6, 1, 0] rfl)
            · have h := in_s h c12
              refine lv_iconst (v := (1 : Int32)) hx hb dX8_solveNow_83 (by decide) ?_
              refine lv_goto (tgt := 88) hx hb dX8_solveNow_84 (by decide) ?_
              refine lv_iadd hx hb dX8_solveNow_88 ?_
              obtain ⟨y15, e_y15, h⟩ := nm_s h
              refine top_i e_y15 ?_
              refine lv_istore (lv' := [(5, .int y15), (0, .ref o), (1, .int l1), (2, .int l2), (3, .int l3), (4, .int l4), (6, .int l6)]) hx hb dX8_solveNow_89 hl (by decide) rfl (fun ls hl => ?_)
              obtain ⟨y16, e_y16, h⟩ := nm_s h
              refine lv_iinc (v := y16) (lv' := [(6, .int y16), (5, .int y15), (0, .ref o), (1, .int l1), (2, .int l2), (3, .int l3), (4, .int l4)]) hx hb dX8_solveNow_91 hl (k := 6) rfl (by rw [e_y16]; rfl) (by decide) rfl (fun ls hl => ?_)
              refine lv_goto (tgt := 47) hx hb dX8_solveNow_94 (by decide) ?_
              exact ih47 y15 y16 (lp_l hq47 h) _ _ hP hD hS ls (lv_sub hl [2, 3, 4, 5, 6, 1, 0] rfl)
      refine lv_iload_n hx hb dX8_solveNow_4 rfl (lv_at hl 2 rfl) ?_
      refine lv_aload_n hx hb dX8_solveNow_5 rfl (lv_at hl 0 rfl) ?_
      refine gtF (ci := 7) (v := .ref o_s) (C := RX8) (T := TX8) (N := 14) hx hb hts inX8_solveNow_X8 hown hK hP 0 rfl rfl 0 (by decide) mwX8_solveNow_0 rfl rfl dX8_solveNow_6 ?_
      refine lv_sipush (v := (242 : Int32)) hx hb dX8_solveNow_9 (by decide) ?_
      obtain ⟨hin, y1, e_y1, h⟩ := rd_s h
      refine ldI hx hb hK hP 1 rfl hin dX8_solveNow_12 ?_
      refine top_i e_y1 ?_
      refine lv_icmp_ge (tgt := 175) hx hb dX8_solveNow_13 (by decide) (fun c2 => ?_) (fun c2 => ?_)
      · have h := ip_s h c2
        have h := xt_s hq4 h
        refine lv_iload_n hx hb dX8_solveNow_175 rfl (lv_at hl 1 rfl) ?_
        cases h
        exact hret 176 ls _ _ _ hP hD hS rfl dX8_solveNow_176
      · have h := in_s h c2
        refine lv_iload_n hx hb dX8_solveNow_16 rfl (lv_at hl 2 rfl) ?_
        obtain ⟨r3, h_r3, h⟩ := bd_s h
        refine clSR (As := [.int l2]) (rest := []) hx hb hml hown hts gX8_solveNow_X8_query rfl 1 kX8_query.2 ⟨Nat.le_of_ble_eq_true rfl, Nat.le_of_ble_eq_true rfl⟩ (ctX8_query l D ca   l2 r3 h_r3) hP hK [] rfl rfl hl.1 rfl (Nat.le_of_ble_eq_true rfl) ⟨Nat.le_of_ble_eq_true rfl, Nat.le_of_ble_eq_true rfl⟩ dX8_solveNow_17 rfl ?_
        refine lv_istore_n (lv' := [(3, .int r3), (0, .ref o), (1, .int l1), (2, .int l2)]) hx hb dX8_solveNow_20 rfl hl (by decide) rfl (fun ls hl => ?_)
        refine lv_aload_n hx hb dX8_solveNow_21 rfl (lv_at hl 1 rfl) ?_
        refine lv_aload_n hx hb dX8_solveNow_22 rfl (lv_at hl 1 rfl) ?_
        refine gtF (ci := 7) (v := .ref o_s) (C := RX8) (T := TX8) (N := 14) hx hb hts inX8_solveNow_X8 hown hK hP 0 rfl rfl 0 (by decide) mwX8_solveNow_0 rfl rfl dX8_solveNow_23 ?_
        refine lv_iload_n hx hb dX8_solveNow_26 rfl (lv_at hl 0 rfl) ?_
        obtain ⟨hin, y4, e_y4, h⟩ := rd_s h
        refine ldI hx hb hK hP 1 rfl hin dX8_solveNow_27 ?_
        refine top_i e_y4 ?_
        refine lv_aload_n hx hb dX8_solveNow_28 rfl (lv_at hl 1 rfl) ?_
        refine gtF (ci := 7) (v := .ref o_s) (C := RX8) (T := TX8) (N := 14) hx hb hts inX8_solveNow_X8 hown hK hP 0 rfl rfl 0 (by decide) mwX8_solveNow_0 rfl rfl dX8_solveNow_29 ?_
        refine lv_iload_n hx hb dX8_solveNow_32 rfl (lv_at hl 0 rfl) ?_
        refine lv_iconst (v := (1 : Int32)) hx hb dX8_solveNow_33 (by decide) ?_
        refine lv_iadd hx hb dX8_solveNow_34 ?_
        obtain ⟨hin, y5, e_y5, h⟩ := rd_s h
        refine ldI hx hb hK hP 1 rfl hin dX8_solveNow_35 ?_
        refine top_i e_y5 ?_
        obtain ⟨r6, h_r6, h⟩ := bd_s h
        refine clVR (As := [.int y4, .int y5]) (rest := []) hx hb hml hown hts gX8_solveNow_X8_firstAt rfl 2 kX8_firstAt ⟨Nat.le_of_ble_eq_true rfl, Nat.le_of_ble_eq_true rfl⟩ (ctX8_firstAt l D ca o o_s o_saved o_text o_pieceCell o_letter o_number o_before o_savedCount o_textLength o_code o_pieceCount o_at o_commands o_hash w_o_s_d y4 y5 r6 h_r6) hP hK [0, 1] rfl 0 7 rfl rfl rfl rfl hl.1 rfl (Nat.le_of_ble_eq_true rfl) ⟨Nat.le_of_ble_eq_true rfl, Nat.le_of_ble_eq_true rfl⟩ dX8_solveNow_36 rfl ?_
        refine lv_istore (lv' := [(4, .int r6), (3, .int r3), (0, .ref o), (1, .int l1), (2, .int l2)]) hx hb dX8_solveNow_39 hl (by decide) rfl (fun ls hl => ?_)
        refine lv_iconst (v := (0 : Int32)) hx hb dX8_solveNow_41 (by decide) ?_
        refine lv_istore (lv' := [(5, .int (0 : Int32)), (4, .int r6), (3, .int r3), (0, .ref o), (1, .int l1), (2, .int l2)]) hx hb dX8_solveNow_42 hl (by decide) rfl (fun ls hl => ?_)
        refine lv_iconst (v := (0 : Int32)) hx hb dX8_solveNow_44 (by decide) ?_
        refine lv_istore (lv' := [(6, .int (0 : Int32)), (5, .int (0 : Int32)), (4, .int r6), (3, .int r3), (0, .ref o), (1, .int l1), (2, .int l2)]) hx hb dX8_solveNow_45 hl (by decide) rfl (fun ls hl => ?_)
        exact L47 l1 l2 r3 r6 w_o_s_d fuel (0 : Int32) (0 : Int32) h _ _ hP hD hS ls (lv_sub hl [4, 5, 6, 3, 2, 1, 0] rfl)
  refine lv_iconst (v := (0 : Int32)) hx hb dX8_solveNow_0 (by decide) ?_
  refine lv_istore_n (lv' := [(1, .int (0 : Int32)), (0, .ref o)]) hx hb dX8_solveNow_1 rfl hl (by decide) rfl (fun ls hl => ?_)
  refine lv_iconst (v := (0 : Int32)) hx hb dX8_solveNow_2 (by decide) ?_
  refine lv_istore_n (lv' := [(2, .int (0 : Int32)), (1, .int (0 : Int32)), (0, .ref o)]) hx hb dX8_solveNow_3 rfl hl (by decide) rfl (fun ls hl => ?_)
  exact L4  fuel (0 : Int32) (0 : Int32) o_s_d h _ _ hP hD hS ls (lv_sub hl [2, 1, 0] rfl)
