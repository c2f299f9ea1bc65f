theorem mwX8_extreme_0 : Cond.fieldLink RX8 31 "SegmentTimesModel" "code" "I" ∈ wsX8_extreme := List.mem_of_getElem? (i := 1) rfl
theorem inX8_extreme_X8 : ∀ w ∈ u_ws RX8 TX8 14, w ∈ wsX8_extreme := fun w h => List.mem_cons_of_mem _ (List.mem_append_right _ (h))
theorem kX8_extreme : yX8_extreme.cls = RX8 ∧ yX8_extreme.cls ≠ "java/lang/invoke/MethodHandle" ∧ yX8_extreme.cls ≠ "java/lang/invoke/VarHandle" ∧ (parseMethodDescriptor yX8_extreme.desc).map (fun d => d.parameters.length) = some 2 := by decide +kernel
set_option maxHeartbeats 4000000 in
set_option maxRecDepth 100000 in
theorem ctX8_extreme (l : Launch) (D : va_G) (ca : Nat → ClassId) (o : Nat) (o_s : Nat) (o_saved : Nat) (o_text : Nat) (o_pieceCell : Nat) (o_letter : Nat) (o_number : Nat) (o_before : Nat) (o_savedCount : Int32) (o_textLength : Int32) (o_code : Int32) (o_pieceCount : Int32) (o_at : Int32) (o_commands : Int32) (o_hash : Int64) (o_s_d : Nat → Int32) (x1 : Int32) (x2 : Int32) (sz : Nat) (u0 : Int32) (u1 : Int32) (hf : fX8_extreme o_code o_s_d x1 x2 = some (u0, u1)) : MW l yX8_extreme wsX8_extreme 5 114 D ca [.ref o, .int x1, .int x2] sz [(o, .inr (7, [.ref o_s, .ref o_saved, .int o_savedCount, .ref o_text, .int o_textLength, .int o_code, .int o_pieceCount, .ref o_pieceCell, .int o_at, .int o_commands, .ref o_letter, .ref o_number, .ref o_before, .long o_hash])), (o_s, .inl (ca 0, 1634, .inl o_s_d))] (some (.int u0)) [(o, .inr (7, [.ref o_s, .ref o_saved, .int o_savedCount, .ref o_text, .int o_textLength, .int u1, .int o_pieceCount, .ref o_pieceCell, .int o_at, .int o_commands, .ref o_letter, .ref o_number, .ref o_before, .long o_hash])), (o_s, .inl (ca 0, 1634, .inl o_s_d))] := by
  refine hdWi (by decide +kernel) rfl (Nat.le_of_ble_eq_true rfl) ?_
  intro p e s m args below meth c A Q hx hb hml hown hts hP hD hK hA hS hret ls hl
  have hown : s.vm.findClass RX8 = some m.cls := hown
  have hl : lv_has ls 8 [(0, .ref o), (1, .int x1), (2, .int x2)] := hl
  have h := hf
  unfold fX8_extreme at h
  clear hf
  have L26 : ∀ (w_o_code : Int32) (n : Nat) (l3 : Int32) (l4 : Int32) (l5 : Int32), lp (fun q => bX8_extreme_26 o_s_d x1 x2 w_o_code q.1 q.2.1 q.2.2) n (l3, l4, l5) = some (u0, u1) → ∀ (H : Heap) (locs : List Loc), va_P D vwCl [(o, .inr (7, [.ref o_s, .ref o_saved, .int o_savedCount, .ref o_text, .int o_textLength, .int w_o_code, .int o_pieceCount, .ref o_pieceCell, .int o_at, .int o_commands, .ref o_letter, .ref o_number, .ref o_before, .long o_hash])), (o_s, .inl (ca 0, 1634, .inl o_s_d))] H → va_D A [(o, .inr (7, [.ref o_s, .ref o_saved, .int o_savedCount, .ref o_text, .int o_textLength, .int w_o_code, .int o_pieceCount, .ref o_pieceCell, .int o_at, .int o_commands, .ref o_letter, .ref o_number, .ref o_before, .long o_hash])), (o_s, .inl (ca 0, 1634, .inl o_s_d))] → va_S A s.heap H locs → ∀ ls, lv_has ls 8 [(0, .ref o), (1, .int x1), (2, .int x2), (3, .int l3), (4, .int l4), (5, .int l5)] → W p l e ({ frames := 5, cells := 0, slots := 0, locals := 114 }) s m args below meth c H locs 0 0 Q (F0 m 26 ls []) := by
    intro w_o_code n
    induction n with
    | zero => intro l3 l4 l5 h; exact (lp_0 h).elim
    | succ n ih26 =>
      intro l3 l4 l5 h H locs hP hD hS ls hl
      obtain ⟨q26, h, hq26⟩ := lp_s h
      have h : bX8_extreme_26 o_s_d x1 x2 w_o_code l3 l4 l5 = some q26 := h
      unfold bX8_extreme_26 at h
      have J95 : ∀ (l5 : Int32) (l7 : Int32), jX8_extreme_95  l5 l7 = some q26 → ∀ (H : Heap) (locs : List Loc), va_P D vwCl [(o, .inr (7, [.ref o_s, .ref o_saved, .int o_savedCount, .ref o_text, .int o_textLength, .int w_o_code, .int o_pieceCount, .ref o_pieceCell, .int o_at, .int o_commands, .ref o_letter, .ref o_number, .ref o_before, .long o_hash])), (o_s, .inl (ca 0, 1634, .inl o_s_d))] H → va_D A [(o, .inr (7, [.ref o_s, .ref o_saved, .int o_savedCount, .ref o_text, .int o_textLength, .int w_o_code, .int o_pieceCount, .ref o_pieceCell, .int o_at, .int o_commands, .ref o_letter, .ref o_number, .ref o_before, .long o_hash])), (o_s, .inl (ca 0, 1634, .inl o_s_d))] → va_S A s.heap H locs → ∀ ls, lv_has ls 8 [(0, .ref o), (1, .int x1), (2, .int x2), (5, .int l5), (7, .int l7)] → W p l e ({ frames := 5, cells := 0, slots := 0, locals := 114 }) s m args below meth c H locs 0 0 Q (F0 m 95 ls []) := by
        intro l5 l7 h H locs hP hD hS ls hl
        unfold jX8_extreme_95 at h
        refine lv_iload hx hb dX8_extreme_95 (lv_at hl 3 rfl) ?_
        refine lv_istore_n (lv' := [(3, .int l5), (0, .ref o), (1, .int x1), (2, .int x2), (5, .int l5), (7, .int l7)]) hx hb dX8_extreme_97 rfl hl (by decide) rfl (fun ls hl => ?_)
        refine lv_iload hx hb dX8_extreme_98 (lv_at hl 5 rfl) ?_
        refine lv_istore (lv' := [(4, .int l7), (3, .int l5), (0, .ref o), (1, .int x1), (2, .int x2), (5, .int l5), (7, .int l7)]) hx hb dX8_extreme_100 hl (by decide) rfl (fun ls hl => ?_)
        obtain ⟨y1, e_y1, h⟩ := nm_s h
        refine lv_iinc (v := y1) (lv' := [(5, .int y1), (4, .int l7), (3, .int l5), (0, .ref o), (1, .int x1), (2, .int x2), (7, .int l7)]) hx hb dX8_extreme_102 hl (k := 5) rfl (by rw [e_y1]; rfl) (by decide) rfl (fun ls hl => ?_)
        refine lv_goto (tgt := 26) hx hb dX8_extreme_105 (by decide) ?_
        exact ih26 l5 l7 y1 (lp_l hq26 h) _ _ hP hD hS ls (lv_sub hl [3, 4, 5, 2, 1, 0] rfl)
      have J61 : ∀ (l3 : Int32) (l4 : Int32) (l5 : Int32) (l6 : Int32) (s0 : Int32), jX8_extreme_61 x2 l3 l4 l5 l6 s0 = some q26 → ∀ (H : Heap) (locs : List Loc), va_P D vwCl [(o, .inr (7, [.ref o_s, .ref o_saved, .int o_savedCount, .ref o_text, .int o_textLength, .int w_o_code, .int o_pieceCount, .ref o_pieceCell, .int o_at, .int o_commands, .ref o_letter, .ref o_number, .ref o_before, .long o_hash])), (o_s, .inl (ca 0, 1634, .inl o_s_d))] H → va_D A [(o, .inr (7, [.ref o_s, .ref o_saved, .int o_savedCount, .ref o_text, .int o_textLength, .int w_o_code, .int o_pieceCount, .ref o_pieceCell, .int o_at, .int o_commands, .ref o_letter, .ref o_number, .ref o_before, .long o_hash])), (o_s, .inl (ca 0, 1634, .inl o_s_d))] → va_S A s.heap H locs → ∀ ls, lv_has ls 8 [(0, .ref o), (1, .int x1), (2, .int x2), (3, .int l3), (4, .int l4), (5, .int l5), (6, .int l6)] → W p l e ({ frames := 5, cells := 0, slots := 0, locals := 114 }) s m args below meth c H locs 0 0 Q (F0 m 61 ls [.int s0]) := by
        intro l3 l4 l5 l6 s0 h H locs hP hD hS ls hl
        unfold jX8_extreme_61 at h
        refine lv_istore (lv' := [(7, .int s0), (0, .ref o), (1, .int x1), (2, .int x2), (3, .int l3), (4, .int l4), (5, .int l5), (6, .int l6)]) hx hb dX8_extreme_61 hl (by decide) rfl (fun ls hl => ?_)
        refine lv_iload hx hb dX8_extreme_63 (lv_at hl 7 rfl) ?_
        refine lv_iconst (v := (-1 : Int32)) hx hb dX8_extreme_65 (by decide) ?_
        refine lv_icmp_eq (tgt := 102) hx hb dX8_extreme_66 (by decide) (fun c1 => ?_) (fun c1 => ?_)
        · have h := ip_s h c1
          obtain ⟨y2, e_y2, h⟩ := nm_s h
          refine lv_iinc (v := y2) (lv' := [(5, .int y2), (7, .int s0), (0, .ref o), (1, .int x1), (2, .int x2), (3, .int l3), (4, .int l4), (6, .int l6)]) hx hb dX8_extreme_102 hl (k := 6) rfl (by rw [e_y2]; rfl) (by decide) rfl (fun ls hl => ?_)
          refine lv_goto (tgt := 26) hx hb dX8_extreme_105 (by decide) ?_
          exact ih26 l3 l4 y2 (lp_l hq26 h) _ _ hP hD hS ls (lv_sub hl [2, 3, 4, 5, 6, 0] rfl)
        · have h := in_s h c1
          refine lv_iload_n hx hb dX8_extreme_69 rfl (lv_at hl 4 rfl) ?_
          refine lv_iconst (v := (-1 : Int32)) hx hb dX8_extreme_70 (by decide) ?_
          refine lv_icmp_eq (tgt := 95) hx hb dX8_extreme_71 (by decide) (fun c3 => ?_) (fun c3 => ?_)
          · have h := ip_s h c3
            exact J95 l5 s0 h _ _ hP hD hS ls (lv_sub hl [1, 2, 3, 6, 0] rfl)
          · have h := in_s h c3
            refine lv_iload_n hx hb dX8_extreme_74 rfl (lv_at hl 3 rfl) ?_
            refine lv_if_eq (tgt := 88) hx hb dX8_extreme_75 (by decide) (fun c4 => ?_) (fun c4 => ?_)
            · have h := ip_s h c4
              refine lv_iload hx hb dX8_extreme_88 (lv_at hl 0 rfl) ?_
              refine lv_iload hx hb dX8_extreme_90 (lv_at hl 5 rfl) ?_
              refine lv_icmp_ge (tgt := 102) hx hb dX8_extreme_92 (by decide) (fun c5 => ?_) (fun c5 => ?_)
              · have h := ip_s h c5
                obtain ⟨y6, e_y6, h⟩ := nm_s h
                refine lv_iinc (v := y6) (lv' := [(5, .int y6), (7, .int s0), (0, .ref o), (1, .int x1), (2, .int x2), (3, .int l3), (4, .int l4), (6, .int l6)]) hx hb dX8_extreme_102 hl (k := 6) rfl (by rw [e_y6]; rfl) (by decide) rfl (fun ls hl => ?_)
                refine lv_goto (tgt := 26) hx hb dX8_extreme_105 (by decide) ?_
                exact ih26 l3 l4 y6 (lp_l hq26 h) _ _ hP hD hS ls (lv_sub hl [2, 3, 4, 5, 6, 0] rfl)
              · have h := in_s h c5
                exact J95 l5 s0 h _ _ hP hD hS ls (lv_sub hl [1, 2, 3, 6, 0] rfl)
            · have h := in_s h c4
              refine lv_iload hx hb dX8_extreme_78 (lv_at hl 0 rfl) ?_
              refine lv_iload hx hb dX8_extreme_80 (lv_at hl 5 rfl) ?_
              refine lv_icmp_le (tgt := 102) hx hb dX8_extreme_82 (by decide) (fun c7 => ?_) (fun c7 => ?_)
              · have h := ip_s h c7
                obtain ⟨y8, e_y8, h⟩ := nm_s h
                refine lv_iinc (v := y8) (lv' := [(5, .int y8), (7, .int s0), (0, .ref o), (1, .int x1), (2, .int x2), (3, .int l3), (4, .int l4), (6, .int l6)]) hx hb dX8_extreme_102 hl (k := 6) rfl (by rw [e_y8]; rfl) (by decide) rfl (fun ls hl => ?_)
                refine lv_goto (tgt := 26) hx hb dX8_extreme_105 (by decide) ?_
                exact ih26 l3 l4 y8 (lp_l hq26 h) _ _ hP hD hS ls (lv_sub hl [2, 3, 4, 5, 6, 0] rfl)
              · have h := in_s h c7
                refine lv_goto (tgt := 95) hx hb dX8_extreme_85 (by decide) ?_
                exact J95 l5 s0 h _ _ hP hD hS ls (lv_sub hl [1, 2, 3, 6, 0] rfl)
      refine lv_iload hx hb dX8_extreme_26 (lv_at hl 5 rfl) ?_
      refine lv_sipush (v := (255 : Int32)) hx hb dX8_extreme_28 (by decide) ?_
      refine lv_icmp_gt (tgt := 108) hx hb dX8_extreme_31 (by decide) (fun c1 => ?_) (fun c1 => ?_)
      · have h := ip_s h c1
        have h := xt_s hq26 h
        refine lv_iload_n hx hb dX8_extreme_108 rfl (lv_at hl 3 rfl) ?_
        cases h
        exact hret 109 ls _ _ _ hP hD hS rfl dX8_extreme_109
      · have h := in_s h c1
        refine lv_aload_n hx hb dX8_extreme_34 rfl (lv_at hl 0 rfl) ?_
        refine lv_iload hx hb dX8_extreme_35 (lv_at hl 5 rfl) ?_
        refine lv_iload_n hx hb dX8_extreme_37 rfl (lv_at hl 1 rfl) ?_
        obtain ⟨r2, h_r2, h⟩ := bd_s h
        refine clVR (As := [.int l5, .int x1]) (rest := []) hx hb hml hown hts gX8_extreme_X8_firstAt rfl 2 kX8_firstAt ⟨Nat.le_of_ble_eq_true rfl, Nat.le_of_ble_eq_true rfl⟩ (ctX8_firstAt l D ca o o_s o_saved o_text o_pieceCell o_letter o_number o_before o_savedCount o_textLength w_o_code o_pieceCount o_at o_commands o_hash o_s_d l5 x1 r2 h_r2) hP hK [0, 1] rfl 0 7 rfl rfl rfl rfl hl.1 rfl (Nat.le_of_ble_eq_true rfl) ⟨Nat.le_of_ble_eq_true rfl, Nat.le_of_ble_eq_true rfl⟩ dX8_extreme_38 rfl ?_
        refine lv_istore (lv' := [(6, .int r2), (0, .ref o), (1, .int x1), (2, .int x2), (3, .int l3), (4, .int l4), (5, .int l5)]) hx hb dX8_extreme_41 hl (by decide) rfl (fun ls hl => ?_)
        refine lv_iload hx hb dX8_extreme_43 (lv_at hl 0 rfl) ?_
        refine lv_iconst (v := (-1 : Int32)) hx hb dX8_extreme_45 (by decide) ?_
        refine lv_icmp_ne (tgt := 53) hx hb dX8_extreme_46 (by decide) (fun c3 => ?_) (fun c3 => ?_)
        · have h := in_s h c3
          refine lv_aload_n hx hb dX8_extreme_53 rfl (lv_at hl 1 rfl) ?_
          refine lv_iload hx hb dX8_extreme_54 (lv_at hl 0 rfl) ?_
          refine lv_iload hx hb dX8_extreme_56 (lv_at hl 6 rfl) ?_
          obtain ⟨r4, h_r4, h⟩ := bd_s h
          refine clVR (As := [.int r2, .int l5]) (rest := []) hx hb hml hown hts gX8_extreme_X8_valueAt rfl 2 kX8_valueAt ⟨Nat.le_of_ble_eq_true rfl, Nat.le_of_ble_eq_true rfl⟩ (ctX8_valueAt l D ca o o_s o_saved o_text o_pieceCell o_letter o_number o_before o_savedCount o_textLength w_o_code o_pieceCount o_at o_commands o_hash o_s_d r2 l5 r4 h_r4) hP hK [0, 1] rfl 0 7 rfl rfl rfl rfl hl.1 rfl (Nat.le_of_ble_eq_true rfl) ⟨Nat.le_of_ble_eq_true rfl, Nat.le_of_ble_eq_true rfl⟩ dX8_extreme_58 rfl ?_
          exact J61 l3 l4 l5 r2 r4 h _ _ hP hD hS ls (lv_sub hl [1, 2, 3, 4, 5, 6, 0] rfl)
        · have h := ip_s h c3
          refine lv_iconst (v := (0 : Int32)) hx hb dX8_extreme_49 (by decide) ?_
          refine lv_goto (tgt := 61) hx hb dX8_extreme_50 (by decide) ?_
          exact J61 l3 l4 l5 r2 (0 : Int32) h _ _ hP hD hS ls (lv_sub hl [1, 2, 3, 4, 5, 6, 0] rfl)
  refine lv_aload_n hx hb dX8_extreme_0 rfl (lv_at hl 0 rfl) ?_
  refine lv_iconst (v := (0 : Int32)) hx hb dX8_extreme_1 (by decide) ?_
  refine ptI (ci := 7) (v := .int (0 : Int32)) (ty := .int) (C := RX8) (T := TX8) (N := 14) (wn := [(o, .inr (7, [.ref o_s, .ref o_saved, .int o_savedCount, .ref o_text, .int o_textLength, .int (0 : Int32), .int o_pieceCount, .ref o_pieceCell, .int o_at, .int o_commands, .ref o_letter, .ref o_number, .ref o_before, .long o_hash])), (o_s, .inl (ca 0, 1634, .inl o_s_d))]) hx hb hts inX8_extreme_X8 tyX8 tyX8_ok nmX8 hown hK hP hD hS 0 rfl rfl 5 (by decide) mwX8_extreme_0 rfl rfl (by decide +kernel) rfl rfl (Nat.le_of_ble_eq_true rfl) rfl dX8_extreme_2 (fun H locs hP hD hS => ?_)
  refine lv_iload_n hx hb dX8_extreme_5 rfl (lv_at hl 1 rfl) ?_
  obtain ⟨r1, h_r1, h⟩ := bd_s h
  refine clSR (As := [.int x1]) (rest := []) hx hb hml hown hts gX8_extreme_X8_isTick rfl 1 kX8_isTick.2 ⟨Nat.le_of_ble_eq_true rfl, Nat.le_of_ble_eq_true rfl⟩ (ctX8_isTick l D ca   x1 r1 h_r1) hP hK [] rfl rfl hl.1 rfl (Nat.le_of_ble_eq_true rfl) ⟨Nat.le_of_ble_eq_true rfl, Nat.le_of_ble_eq_true rfl⟩ dX8_extreme_6 rfl ?_
  refine lv_if_ne (tgt := 18) hx hb dX8_extreme_9 (by decide) (fun c2 => ?_) (fun c2 => ?_)
  · have h := in_s h c2
    refine lv_iconst (v := (-1 : Int32)) hx hb dX8_extreme_18 (by decide) ?_
    refine lv_istore_n (lv' := [(3, .int (-1 : Int32)), (0, .ref o), (1, .int x1), (2, .int x2)]) hx hb dX8_extreme_19 rfl hl (by decide) rfl (fun ls hl => ?_)
    refine lv_iconst (v := (0 : Int32)) hx hb dX8_extreme_20 (by decide) ?_
    refine lv_istore (lv' := [(4, .int (0 : Int32)), (3, .int (-1 : Int32)), (0, .ref o), (1, .int x1), (2, .int x2)]) hx hb dX8_extreme_21 hl (by decide) rfl (fun ls hl => ?_)
    refine lv_iconst (v := (0 : Int32)) hx hb dX8_extreme_23 (by decide) ?_
    refine lv_istore (lv' := [(5, .int (0 : Int32)), (4, .int (0 : Int32)), (3, .int (-1 : Int32)), (0, .ref o), (1, .int x1), (2, .int x2)]) hx hb dX8_extreme_24 hl (by decide) rfl (fun ls hl => ?_)
    exact L26 (0 : Int32) fuel (-1 : Int32) (0 : Int32) (0 : Int32) h _ _ hP hD hS ls (lv_sub hl [3, 4, 5, 2, 1, 0] rfl)
  · have h := ip_s h c2
    refine lv_aload_n hx hb dX8_extreme_12 rfl (lv_at hl 0 rfl) ?_
    refine lv_iconst (v := (1 : Int32)) hx hb dX8_extreme_13 (by decide) ?_
    obtain ⟨⟨r9_0, r9_1⟩, h_r9, h⟩ := bd_s h
    have h := up2_s h
    refine clVW (As := [.int (1 : Int32)]) (rest := []) (wr := [(o_s, .inl (ca 0, 1634, .inl o_s_d))]) (wn := [(o_s, .inl (ca 0, 1634, .inl o_s_d)), (o, .inr (7, [.ref o_s, .ref o_saved, .int o_savedCount, .ref o_text, .int o_textLength, .int r9_1, .int o_pieceCount, .ref o_pieceCell, .int o_at, .int o_commands, .ref o_letter, .ref o_number, .ref o_before, .long o_hash]))]) hx hb hml hown hts gX8_extreme_X8_fails rfl 1 kX8_fails ⟨Nat.le_of_ble_eq_true rfl, Nat.le_of_ble_eq_true rfl⟩ (ctX8_fails l D ca o o_s o_saved o_text o_pieceCell o_letter o_number o_before o_savedCount o_textLength (0 : Int32) o_pieceCount o_at o_commands o_hash (1 : Int32) _ r9_0 r9_1 h_r9) hP hD hS hA hK [0] [1] rfl (by decide) rfl (by decide) (by decide) 0 7 rfl rfl rfl rfl hl.1 rfl (Nat.le_of_ble_eq_true rfl) ⟨Nat.le_of_ble_eq_true rfl, Nat.le_of_ble_eq_true rfl⟩ dX8_extreme_14 rfl rfl (fun H locs hP hD hS => ?_)
    have hP := hP.sub (ws' := [(o, .inr (7, [.ref o_s, .ref o_saved, .int o_savedCount, .ref o_text, .int o_textLength, .int r9_1, .int o_pieceCount, .ref o_pieceCell, .int o_at, .int o_commands, .ref o_letter, .ref o_number, .ref o_before, .long o_hash])), (o_s, .inl (ca 0, 1634, .inl o_s_d))]) [1, 0] rfl
    have hD := hD.sub (ws' := [(o, .inr (7, [.ref o_s, .ref o_saved, .int o_savedCount, .ref o_text, .int o_textLength, .int r9_1, .int o_pieceCount, .ref o_pieceCell, .int o_at, .int o_commands, .ref o_letter, .ref o_number, .ref o_before, .long o_hash])), (o_s, .inl (ca 0, 1634, .inl o_s_d))]) [1, 0] (by decide) rfl
    cases h
    exact hret 17 ls _ _ _ hP hD hS rfl dX8_extreme_17
theorem kX8_event : yX8_event.cls = RX8 ∧ yX8_event.cls ≠ "java/lang/invoke/MethodHandle" ∧ yX8_event.cls ≠ "java/lang/invoke/VarHandle" ∧ (parseMethodDescriptor yX8_event.desc).map (fun d => d.parameters.length) = some 1 := by decide +kernel
set_option maxHeartbeats 4000000 in
set_option maxRecDepth 100000 in
theorem ctX8_event (l : Launch) (D : va_G) (ca : Nat → ClassId) (o : Nat) (o_s : Nat) (o_saved : Nat) (o_text : Nat) (o_pieceCell : Nat) (o_letter : Nat) (o_number : Nat) (o_before : Nat) (o_savedCount : Int32) (o_textLength : Int32) (o_code : Int32) (o_pieceCount : Int32) (o_at : Int32) (o_commands : Int32) (o_hash : Int64) (o_s_d : Nat → Int32) (x1 : Int32) (u0 : Int32) (hf : fX8_event o_s_d x1 = some u0) : MR l yX8_event wsX8_event 2 43 D ca [.ref o, .int x1] [(o, .inr (7, [.ref o_s, .ref o_saved, .int o_savedCount, .ref o_text, .int o_textLength, .int o_code, .int o_pieceCount, .ref o_pieceCell, .int o_at, .int o_commands, .ref o_letter, .ref o_number, .ref o_before, .long o_hash])), (o_s, .inl (ca 0, 1634, .inl o_s_d))] (some (.int u0)) := by
  refine hdRi (plainFor_of_name (by decide +kernel)) rfl (Nat.le_of_ble_eq_true rfl) ?_
  intro p e s m args below meth c Q hx hb hml hown hts hP hK hret ls hl
  have hown : s.vm.findClass RX8 = some m.cls := hown
  have hl : lv_has ls 2 [(0, .ref o), (1, .int x1)] := hl
  have h := hf
  unfold fX8_event at h
  clear hf
  have J15 : ∀ (s1 : Int32) (s2 : Int32), jX8_event_15 o_s_d s1 s2 = some u0 → ∀ ls, lv_has ls 2 [] → W p l e ({ frames := 2, cells := 0, slots := 0, locals := 43 }) s m args below meth c s.heap [] 0 0 Q (F0 m 15 ls [.int s2, .int s1, .ref o]) := by
    intro s1 s2 h ls hl
    unfold jX8_event_15 at h
    obtain ⟨r1, h_r1, h⟩ := bd_s h
    refine clVR (As := [.int s1, .int s2]) (rest := []) hx hb hml hown hts gX8_event_X8_of rfl 2 kX8_of ⟨Nat.le_of_ble_eq_true rfl, Nat.le_of_ble_eq_true rfl⟩ (ctX8_of l D ca o o_s o_saved o_text o_pieceCell o_letter o_number o_before o_savedCount o_textLength o_code o_pieceCount o_at o_commands o_hash o_s_d s1 s2 r1 h_r1) hP hK [0, 1] rfl 0 7 rfl rfl rfl rfl hl.1 rfl (Nat.le_of_ble_eq_true rfl) ⟨Nat.le_of_ble_eq_true rfl, Nat.le_of_ble_eq_true rfl⟩ dX8_event_15 rfl ?_
    cases h
    exact hret 18 ls _ rfl dX8_event_18
  refine lv_aload_n hx hb dX8_event_0 rfl (lv_at hl 0 rfl) ?_
  refine lv_iload_n hx hb dX8_event_1 rfl (lv_at hl 1 rfl) ?_
  refine lv_iconst (v := (2 : Int32)) hx hb dX8_event_2 (by decide) ?_
  obtain ⟨hne, h⟩ := dv_s h
  refine lv_idiv hx hb dX8_event_3 hne ?_
  refine lv_iload_n hx hb dX8_event_4 rfl (lv_at hl 1 rfl) ?_
  refine lv_iconst (v := (2 : Int32)) hx hb dX8_event_5 (by decide) ?_
  obtain ⟨hne, h⟩ := dv_s h
  refine lv_irem hx hb dX8_event_6 hne ?_
  refine lv_if_ne (tgt := 14) hx hb dX8_event_7 (by decide) (fun c1 => ?_) (fun c1 => ?_)
  · have h := in_s h c1
    refine lv_iconst (v := (5 : Int32)) hx hb dX8_event_14 (by decide) ?_
    exact J15 (x1 / (2 : Int32)) (5 : Int32) h ls (lv_sub hl [] rfl)
  · have h := ip_s h c1
    refine lv_iconst (v := (4 : Int32)) hx hb dX8_event_10 (by decide) ?_
    refine lv_goto (tgt := 15) hx hb dX8_event_11 (by decide) ?_
    exact J15 (x1 / (2 : Int32)) (4 : Int32) h ls (lv_sub hl [] rfl)
theorem kX8_isNew : yX8_isNew.cls = RX8 ∧ yX8_isNew.cls ≠ "java/lang/invoke/MethodHandle" ∧ yX8_isNew.cls ≠ "java/lang/invoke/VarHandle" ∧ (parseMethodDescriptor yX8_isNew.desc).map (fun d => d.parameters.length) = some 1 := by decide +kernel
set_option maxHeartbeats 4000000 in
set_option maxRecDepth 100000 in
theorem ctX8_isNew (l : Launch) (D : va_G) (ca : Nat → ClassId) (o : Nat) (o_s : Nat) (o_saved : Nat) (o_text : Nat) (o_pieceCell : Nat) (o_letter : Nat) (o_number : Nat) (o_before : Nat) (o_savedCount : Int32) (o_textLength : Int32) (o_code : Int32) (o_pieceCount : Int32) (o_at : Int32) (o_commands : Int32) (o_hash : Int64) (o_s_d : Nat → Int32) (x1 : Int32) (u0 : Int32) (hf : fX8_isNew o_s_d x1 = some u0) : MR l yX8_isNew wsX8_isNew 3 64 D ca [.ref o, .int x1] [(o, .inr (7, [.ref o_s, .ref o_saved, .int o_savedCount, .ref o_text, .int o_textLength, .int o_code, .int o_pieceCount, .ref o_pieceCell, .int o_at, .int o_commands, .ref o_letter, .ref o_number, .ref o_before, .long o_hash])), (o_s, .inl (ca 0, 1634, .inl o_s_d))] (some (.int u0)) := by
  refine hdRz (plainFor_of_name (by decide +kernel)) rfl (Nat.le_of_ble_eq_true rfl) ?_
  intro p e s m args below meth c Q hx hb hml hown hts hP hK hret ls hl
  have hown : s.vm.findClass RX8 = some m.cls := hown
  have hl : lv_has ls 4 [(0, .ref o), (1, .int x1)] := hl
  have h := hf
  unfold fX8_isNew at h
  clear hf
  have L4 : ∀  (n : Nat) (l2 : Int32) (l3 : Int32), lp (fun q => bX8_isNew_4 o_s_d x1  q.1 q.2) n (l2, l3) = some u0 → ∀ ls, lv_has ls 4 [(0, .ref o), (1, .int x1), (2, .int l2), (3, .int l3)] → W p l e ({ frames := 3, cells := 0, slots := 0, locals := 64 }) s m args below meth c s.heap [] 0 0 Q (F0 m 4 ls []) := by
    intro  n
    induction n with
    | zero => intro l2 l3 h; exact (lp_0 h).elim
    | succ n ih4 =>
      intro l2 l3 h ls hl
      obtain ⟨q4, h, hq4⟩ := lp_s h
      have h : bX8_isNew_4 o_s_d x1  l2 l3 = some q4 := h
      unfold bX8_isNew_4 at h
      refine lv_iload_n hx hb dX8_isNew_4 rfl (lv_at hl 3 rfl) ?_
      refine lv_iload_n hx hb dX8_isNew_5 rfl (lv_at hl 1 rfl) ?_
      refine lv_icmp_ge (tgt := 38) hx hb dX8_isNew_6 (by decide) (fun c1 => ?_) (fun c1 => ?_)
      · have h := ip_s h c1
        have h := xt_s hq4 h
        refine lv_iload_n hx hb dX8_isNew_38 rfl (lv_at hl 2 rfl) ?_
        obtain ⟨hz, h⟩ := zr_s h
        cases h
        exact hret 39 ls _ hz rfl dX8_isNew_39
      · have h := in_s h c1
        refine lv_iload_n hx hb dX8_isNew_9 rfl (lv_at hl 2 rfl) ?_
        refine lv_if_eq (tgt := 30) hx hb dX8_isNew_10 (by decide) (fun c2 => ?_) (fun c2 => ?_)
        · have h := ip_s h c2
          refine lv_iconst (v := (0 : Int32)) hx hb dX8_isNew_30 (by decide) ?_
          refine lv_istore_n (lv' := [(2, .int (0 : Int32)), (0, .ref o), (1, .int x1), (3, .int l3)]) hx hb dX8_isNew_31 rfl hl (by decide) rfl (fun ls hl => ?_)
          obtain ⟨y3, e_y3, h⟩ := nm_s h
          refine lv_iinc (v := y3) (lv' := [(3, .int y3), (2, .int (0 : Int32)), (0, .ref o), (1, .int x1)]) hx hb dX8_isNew_32 hl (k := 3) rfl (by rw [e_y3]; rfl) (by decide) rfl (fun ls hl => ?_)
          refine lv_goto (tgt := 4) hx hb dX8_isNew_35 (by decide) ?_
          exact ih4 (0 : Int32) y3 (lp_l hq4 h) ls (lv_sub hl [2, 3, 1, 0] rfl)
        · have h := in_s h c2
          refine lv_aload_n hx hb dX8_isNew_13 rfl (lv_at hl 0 rfl) ?_
          refine lv_iload_n hx hb dX8_isNew_14 rfl (lv_at hl 3 rfl) ?_
          obtain ⟨r4, h_r4, h⟩ := bd_s h
          refine clVR (As := [.int l3]) (rest := []) hx hb hml hown hts gX8_isNew_X8_event rfl 1 kX8_event ⟨Nat.le_of_ble_eq_true rfl, Nat.le_of_ble_eq_true rfl⟩ (ctX8_event l D ca o o_s o_saved o_text o_pieceCell o_letter o_number o_before o_savedCount o_textLength o_code o_pieceCount o_at o_commands o_hash o_s_d l3 r4 h_r4) hP hK [0, 1] rfl 0 7 rfl rfl rfl rfl hl.1 rfl (Nat.le_of_ble_eq_true rfl) ⟨Nat.le_of_ble_eq_true rfl, Nat.le_of_ble_eq_true rfl⟩ dX8_isNew_15 rfl ?_
          refine lv_aload_n hx hb dX8_isNew_18 rfl (lv_at hl 0 rfl) ?_
          refine lv_iload_n hx hb dX8_isNew_19 rfl (lv_at hl 1 rfl) ?_
          obtain ⟨r5, h_r5, h⟩ := bd_s h
          refine clVR (As := [.int x1]) (rest := [.int r4]) hx hb hml hown hts gX8_isNew_X8_event rfl 1 kX8_event ⟨Nat.le_of_ble_eq_true rfl, Nat.le_of_ble_eq_true rfl⟩ (ctX8_event l D ca o o_s o_saved o_text o_pieceCell o_letter o_number o_before o_savedCount o_textLength o_code o_pieceCount o_at o_commands o_hash o_s_d x1 r5 h_r5) hP hK [0, 1] rfl 0 7 rfl rfl rfl rfl hl.1 rfl (Nat.le_of_ble_eq_true rfl) ⟨Nat.le_of_ble_eq_true rfl, Nat.le_of_ble_eq_true rfl⟩ dX8_isNew_20 rfl ?_
          refine lv_icmp_eq (tgt := 30) hx hb dX8_isNew_23 (by decide) (fun c6 => ?_) (fun c6 => ?_)
          · have h := ip_s h c6
            refine lv_iconst (v := (0 : Int32)) hx hb dX8_isNew_30 (by decide) ?_
            refine lv_istore_n (lv' := [(2, .int (0 : Int32)), (0, .ref o), (1, .int x1), (3, .int l3)]) hx hb dX8_isNew_31 rfl hl (by decide) rfl (fun ls hl => ?_)
            obtain ⟨y7, e_y7, h⟩ := nm_s h
            refine lv_iinc (v := y7) (lv' := [(3, .int y7), (2, .int (0 : Int32)), (0, .ref o), (1, .int x1)]) hx hb dX8_isNew_32 hl (k := 3) rfl (by rw [e_y7]; rfl) (by decide) rfl (fun ls hl => ?_)
            refine lv_goto (tgt := 4) hx hb dX8_isNew_35 (by decide) ?_
            exact ih4 (0 : Int32) y7 (lp_l hq4 h) ls (lv_sub hl [2, 3, 1, 0] rfl)
          · have h := in_s h c6
            refine lv_iconst (v := (1 : Int32)) hx hb dX8_isNew_26 (by decide) ?_
            refine lv_goto (tgt := 31) hx hb dX8_isNew_27 (by decide) ?_
            refine lv_istore_n (lv' := [(2, .int (1 : Int32)), (0, .ref o), (1, .int x1), (3, .int l3)]) hx hb dX8_isNew_31 rfl hl (by decide) rfl (fun ls hl => ?_)
            obtain ⟨y8, e_y8, h⟩ := nm_s h
            refine lv_iinc (v := y8) (lv' := [(3, .int y8), (2, .int (1 : Int32)), (0, .ref o), (1, .int x1)]) hx hb dX8_isNew_32 hl (k := 3) rfl (by rw [e_y8]; rfl) (by decide) rfl (fun ls hl => ?_)
            refine lv_goto (tgt := 4) hx hb dX8_isNew_35 (by decide) ?_
            exact ih4 (1 : Int32) y8 (lp_l hq4 h) ls (lv_sub hl [2, 3, 1, 0] rfl)
  refine lv_iconst (v := (1 : Int32)) hx hb dX8_isNew_0 (by decide) ?_
  refine lv_istore_n (lv' := [(2, .int (1 : Int32)), (0, .ref o), (1, .int x1)]) hx hb dX8_isNew_1 rfl hl (by decide) rfl (fun ls hl => ?_)
  refine lv_iconst (v := (0 : Int32)) hx hb dX8_isNew_2 (by decide) ?_
  refine lv_istore_n (lv' := [(3, .int (0 : Int32)), (2, .int (1 : Int32)), (0, .ref o), (1, .int x1)]) hx hb dX8_isNew_3 rfl hl (by decide) rfl (fun ls hl => ?_)
  exact L4  fuel (1 : Int32) (0 : Int32) h ls (lv_sub hl [2, 3, 1, 0] rfl)
theorem kX8_isChange : yX8_isChange.cls = RX8 ∧ yX8_isChange.cls ≠ "java/lang/invoke/MethodHandle" ∧ yX8_isChange.cls ≠ "java/lang/invoke/VarHandle" ∧ (parseMethodDescriptor yX8_isChange.desc).map (fun d => d.parameters.length) = some 2 := by decide +kernel
set_option maxHeartbeats 4000000 in
set_option maxRecDepth 100000 in
theorem ctX8_isChange (l : Launch) (D : va_G) (ca : Nat → ClassId) (o : Nat) (o_s : Nat) (o_saved : Nat) (o_text : Nat) (o_pieceCell : Nat) (o_letter : Nat) (o_number : Nat) (o_before : Nat) (o_savedCount : Int32) (o_textLength : Int32) (o_code : Int32) (o_pieceCount : Int32) (o_at : Int32) (o_commands : Int32) (o_hash : Int64) (o_s_d : Nat → Int32) (x1 : Int32) (x2 : Int32) (u0 : Int32) (hf : fX8_isChange o_s_d x1 x2 = some u0) : MR l yX8_isChange wsX8_isChange 5 114 D ca [.ref o, .int x1, .int x2] [(o, .inr (7, [.ref o_s, .ref o_saved, .int o_savedCount, .ref o_text, .int o_textLength, .int o_code, .int o_pieceCount, .ref o_pieceCell, .int o_at, .int o_commands, .ref o_letter, .ref o_number, .ref o_before, .long o_hash])), (o_s, .inl (ca 0, 1634, .inl o_s_d))] (some (.int u0)) := by
  refine hdRz (plainFor_of_name (by decide +kernel)) rfl (Nat.le_of_ble_eq_true rfl) ?_
  intro p e s m args below meth c Q hx hb hml hown hts hP hK hret ls hl
  have hown : s.vm.findClass RX8 = some m.cls := hown
  have hl : lv_has ls 3 [(0, .ref o), (1, .int x1), (2, .int x2)] := hl
  have h := hf
  unfold fX8_isChange at h
  clear hf
  refine lv_aload_n hx hb dX8_isChange_0 rfl (lv_at hl 0 rfl) ?_
  refine lv_iload_n hx hb dX8_isChange_1 rfl (lv_at hl 1 rfl) ?_
  refine lv_iload_n hx hb dX8_isChange_2 rfl (lv_at hl 2 rfl) ?_
  obtain ⟨r1, h_r1, h⟩ := bd_s h
  refine clVR (As := [.int x1, .int x2]) (rest := []) hx hb hml hown hts gX8_isChange_X8_firstAt rfl 2 kX8_firstAt ⟨Nat.le_of_ble_eq_true rfl, Nat.le_of_ble_eq_true rfl⟩ (ctX8_firstAt l D ca o o_s o_saved o_text o_pieceCell o_letter o_number o_before o_savedCount o_textLength o_code o_pieceCount o_at o_commands o_hash o_s_d x1 x2 r1 h_r1) hP hK [0, 1] rfl 0 7 rfl rfl rfl rfl hl.1 rfl (Nat.le_of_ble_eq_true rfl) ⟨Nat.le_of_ble_eq_true rfl, Nat.le_of_ble_eq_true rfl⟩ dX8_isChange_3 rfl ?_
  refine lv_aload_n hx hb dX8_isChange_6 rfl (lv_at hl 0 rfl) ?_
  refine lv_iload_n hx hb dX8_isChange_7 rfl (lv_at hl 1 rfl) ?_
  refine lv_iload_n hx hb dX8_isChange_8 rfl (lv_at hl 2 rfl) ?_
  refine lv_iconst (v := (1 : Int32)) hx hb dX8_isChange_9 (by decide) ?_
  refine lv_isub hx hb dX8_isChange_10 ?_
  obtain ⟨r2, h_r2, h⟩ := bd_s h
  refine clVR (As := [.int x1, .int (x2 - (1 : Int32))]) (rest := [.int r1]) hx hb hml hown hts gX8_isChange_X8_firstAt rfl 2 kX8_firstAt ⟨Nat.le_of_ble_eq_true rfl, Nat.le_of_ble_eq_true rfl⟩ (ctX8_firstAt l D ca o o_s o_saved o_text o_pieceCell o_letter o_number o_before o_savedCount o_textLength o_code o_pieceCount o_at o_commands o_hash o_s_d x1 (x2 - (1 : Int32)) r2 h_r2) hP hK [0, 1] rfl 0 7 rfl rfl rfl rfl hl.1 rfl (Nat.le_of_ble_eq_true rfl) ⟨Nat.le_of_ble_eq_true rfl, Nat.le_of_ble_eq_true rfl⟩ dX8_isChange_11 rfl ?_
  refine lv_icmp_eq (tgt := 21) hx hb dX8_isChange_14 (by decide) (fun c3 => ?_) (fun c3 => ?_)
  · have h := ip_s h c3
    refine lv_iconst (v := (0 : Int32)) hx hb dX8_isChange_21 (by decide) ?_
    obtain ⟨hz, h⟩ := zr_s h
    cases h
    exact hret 22 ls _ hz rfl dX8_isChange_22
  · have h := in_s h c3
    refine lv_iconst (v := (1 : Int32)) hx hb dX8_isChange_17 (by decide) ?_
    refine lv_goto (tgt := 22) hx hb dX8_isChange_18 (by decide) ?_
    obtain ⟨hz, h⟩ := zr_s h
    cases h
    exact hret 22 ls _ hz rfl dX8_isChange_22
theorem kX8_isRange : yX8_isRange.cls = yX8_isRange.cls ∧ yX8_isRange.cls ≠ "java/lang/invoke/MethodHandle" ∧ yX8_isRange.cls ≠ "java/lang/invoke/VarHandle" ∧ (parseMethodDescriptor yX8_isRange.desc).map (fun d => d.parameters.length) = some 3 := by decide +kernel
set_option maxHeartbeats 4000000 in
set_option maxRecDepth 100000 in
theorem ctX8_isRange (l : Launch) (D : va_G) (ca : Nat → ClassId)   (x0 : Int32) (x1 : Int32) (x2 : Int32) (u0 : Int32) (hf : fX8_isRange x0 x1 x2 = some u0) : MR l yX8_isRange wsX8_isRange 2 45 D ca [.int x0, .int x1, .int x2] [] (some (.int u0)) := by
  refine hdRz (plainFor_of_name (by decide +kernel)) rfl (Nat.le_of_ble_eq_true rfl) ?_
  intro p e s m args below meth c Q hx hb hml hown hts hP hK hret ls hl
  have hown : s.vm.findClass RX8 = some m.cls := hown
  have hl : lv_has ls 3 [(0, .int x0), (1, .int x1), (2, .int x2)] := hl
  have h := hf
  unfold fX8_isRange at h
  clear hf
  refine lv_iload_n hx hb dX8_isRange_0 rfl (lv_at hl 0 rfl) ?_
  obtain ⟨r1, h_r1, h⟩ := bd_s h
  refine clSR (As := [.int x0]) (rest := []) hx hb hml hown hts gX8_isRange_X8_isPosition rfl 1 kX8_isPosition.2 ⟨Nat.le_of_ble_eq_true rfl, Nat.le_of_ble_eq_true rfl⟩ (ctX8_isPosition l D ca   x0 r1 h_r1) hP hK [] rfl rfl hl.1 rfl (Nat.le_of_ble_eq_true rfl) ⟨Nat.le_of_ble_eq_true rfl, Nat.le_of_ble_eq_true rfl⟩ dX8_isRange_1 rfl ?_
  refine lv_if_eq (tgt := 30) hx hb dX8_isRange_4 (by decide) (fun c2 => ?_) (fun c2 => ?_)
  · have h := ip_s h c2
    refine lv_iconst (v := (0 : Int32)) hx hb dX8_isRange_30 (by decide) ?_
    obtain ⟨hz, h⟩ := zr_s h
    cases h
    exact hret 31 ls _ hz rfl dX8_isRange_31
  · have h := in_s h c2
    refine lv_iload_n hx hb dX8_isRange_7 rfl (lv_at hl 1 rfl) ?_
    obtain ⟨r3, h_r3, h⟩ := bd_s h
    refine clSR (As := [.int x1]) (rest := []) hx hb hml hown hts gX8_isRange_X8_isTick rfl 1 kX8_isTick.2 ⟨Nat.le_of_ble_eq_true rfl, Nat.le_of_ble_eq_true rfl⟩ (ctX8_isTick l D ca   x1 r3 h_r3) hP hK [] rfl rfl hl.1 rfl (Nat.le_of_ble_eq_true rfl) ⟨Nat.le_of_ble_eq_true rfl, Nat.le_of_ble_eq_true rfl⟩ dX8_isRange_8 rfl ?_
    refine lv_if_eq (tgt := 30) hx hb dX8_isRange_11 (by decide) (fun c4 => ?_) (fun c4 => ?_)
    · have h := ip_s h c4
      refine lv_iconst (v := (0 : Int32)) hx hb dX8_isRange_30 (by decide) ?_
      obtain ⟨hz, h⟩ := zr_s h
      cases h
      exact hret 31 ls _ hz rfl dX8_isRange_31
    · have h := in_s h c4
      refine lv_iload_n hx hb dX8_isRange_14 rfl (lv_at hl 2 rfl) ?_
      obtain ⟨r5, h_r5, h⟩ := bd_s h
      refine clSR (As := [.int x2]) (rest := []) hx hb hml hown hts gX8_isRange_X8_isTick rfl 1 kX8_isTick.2 ⟨Nat.le_of_ble_eq_true rfl, Nat.le_of_ble_eq_true rfl⟩ (ctX8_isTick l D ca   x2 r5 h_r5) hP hK [] rfl rfl hl.1 rfl (Nat.le_of_ble_eq_true rfl) ⟨Nat.le_of_ble_eq_true rfl, Nat.le_of_ble_eq_true rfl⟩ dX8_isRange_15 rfl ?_
      refine lv_if_eq (tgt := 30) hx hb dX8_isRange_18 (by decide) (fun c6 => ?_) (fun c6 => ?_)
      · have h := ip_s h c6
        refine lv_iconst (v := (0 : Int32)) hx hb dX8_isRange_30 (by decide) ?_
        obtain ⟨hz, h⟩ := zr_s h
        cases h
        exact hret 31 ls _ hz rfl dX8_isRange_31
      · have h := in_s h c6
        refine lv_iload_n hx hb dX8_isRange_21 rfl (lv_at hl 1 rfl) ?_
        refine lv_iload_n hx hb dX8_isRange_22 rfl (lv_at hl 2 rfl) ?_
        refine lv_icmp_gt (tgt := 30) hx hb dX8_isRange_23 (by decide) (fun c7 => ?_) (fun c7 => ?_)
        · have h := ip_s h c7
          refine lv_iconst (v := (0 : Int32)) hx hb dX8_isRange_30 (by decide) ?_
          obtain ⟨hz, h⟩ := zr_s h
          cases h
          exact hret 31 ls _ hz rfl dX8_isRange_31
        · have h := in_s h c7
          refine lv_iconst (v := (1 : Int32)) hx hb dX8_isRange_26 (by decide) ?_
          refine lv_goto (tgt := 31) hx hb dX8_isRange_27 (by decide) ?_
          obtain ⟨hz, h⟩ := zr_s h
          cases h
          exact hret 31 ls _ hz rfl dX8_isRange_31
theorem mwX8_changes_0 : Cond.fieldLink RX8 31 "SegmentTimesModel" "code" "I" ∈ wsX8_changes := List.mem_of_getElem? (i := 1) rfl
theorem mwX8_changes_1 : Cond.fieldLink RX8 7 "SegmentTimesModel" "s" "[I" ∈ wsX8_changes := List.mem_of_getElem? (i := 2) rfl
theorem inX8_changes_X8 : ∀ w ∈ u_ws RX8 TX8 14, w ∈ wsX8_changes := fun w h => List.mem_cons_of_mem _ (List.mem_append_right _ (h))
theorem kX8_changes : yX8_changes.cls = RX8 ∧ yX8_changes.cls ≠ "java/lang/invoke/MethodHandle" ∧ yX8_changes.cls ≠ "java/lang/invoke/VarHandle" ∧ (parseMethodDescriptor yX8_changes.desc).map (fun d => d.parameters.length) = some 3 := by decide +kernel
set_option maxHeartbeats 4000000 in
set_option maxRecDepth 100000 in
theorem ctX8_changes (l : Launch) (D : va_G) (ca : Nat → ClassId) (o : Nat) (o_s : Nat) (o_saved : Nat) (o_text : Nat) (o_pieceCell : Nat) (o_letter : Nat) (o_number : Nat) (o_before : Nat) (o_savedCount : Int32) (o_textLength : Int32) (o_code : Int32) (o_pieceCount : Int32) (o_at : Int32) (o_commands : Int32) (o_hash : Int64) (o_s_d : Nat → Int32) (x1 : Int32) (x2 : Int32) (x3 : Int32) (sz : Nat) (u0 : Int32) (u1 : Int32) (hf : fX8_changes o_code o_s_d x1 x2 x3 = some (u0, u1)) : MW l yX8_changes wsX8_changes 6 136 D ca [.ref o, .int x1, .int x2, .int x3] sz [(o, .inr (7, [.ref o_s, .ref o_saved, .int o_savedCount, .ref o_text, .int o_textLength, .int o_code, .int o_pieceCount, .ref o_pieceCell, .int o_at, .int o_commands, .ref o_letter, .ref o_number, .ref o_before, .long o_hash])), (o_s, .inl (ca 0, 1634, .inl o_s_d))] (some (.int u0)) [(o, .inr (7, [.ref o_s, .ref o_saved, .int o_savedCount, .ref o_text, .int o_textLength, .int u1, .int o_pieceCount, .ref o_pieceCell, .int o_at, .int o_commands, .ref o_letter, .ref o_number, .ref o_before, .long o_hash])), (o_s, .inl (ca 0, 1634, .inl o_s_d))] := by
  refine hdWi (by decide +kernel) rfl (Nat.le_of_ble_eq_true rfl) ?_
  intro p e s m args below meth c A Q hx hb hml hown hts hP hD hK hA hS hret ls hl
  have hown : s.vm.findClass RX8 = some m.cls := hown
  have hl : lv_has ls 6 [(0, .ref o), (1, .int x1), (2, .int x2), (3, .int x3)] := hl
  have h := hf
  unfold fX8_changes at h
  clear hf
  have L26 : ∀ (w_o_code : Int32) (n : Nat) (l4 : Int32) (l5 : Int32), lp (fun q => bX8_changes_26 o_s_d x1 x2 x3 w_o_code q.1 q.2) n (l4, l5) = some (u0, u1) → ∀ (H : Heap) (locs : List Loc), va_P D vwCl [(o, .inr (7, [.ref o_s, .ref o_saved, .int o_savedCount, .ref o_text, .int o_textLength, .int w_o_code, .int o_pieceCount, .ref o_pieceCell, .int o_at, .int o_commands, .ref o_letter, .ref o_number, .ref o_before, .long o_hash])), (o_s, .inl (ca 0, 1634, .inl o_s_d))] H → va_D A [(o, .inr (7, [.ref o_s, .ref o_saved, .int o_savedCount, .ref o_text, .int o_textLength, .int w_o_code, .int o_pieceCount, .ref o_pieceCell, .int o_at, .int o_commands, .ref o_letter, .ref o_number, .ref o_before, .long o_hash])), (o_s, .inl (ca 0, 1634, .inl o_s_d))] → va_S A s.heap H locs → ∀ ls, lv_has ls 6 [(0, .ref o), (1, .int x1), (2, .int x2), (3, .int x3), (4, .int l4), (5, .int l5)] → W p l e ({ frames := 6, cells := 0, slots := 0, locals := 136 }) s m args below meth c H locs 0 0 Q (F0 m 26 ls []) := by
    intro w_o_code n
    induction n with
    | zero => intro l4 l5 h; exact (lp_0 h).elim
    | succ n ih26 =>
      intro l4 l5 h H locs hP hD hS ls hl
      obtain ⟨q26, h, hq26⟩ := lp_s h
      have h : bX8_changes_26 o_s_d x1 x2 x3 w_o_code l4 l5 = some q26 := h
      unfold bX8_changes_26 at h
      have J87 : ∀ (l5 : Int32) (s0 : Int32), jX8_changes_87  l5 s0 = some q26 → ∀ (H : Heap) (locs : List Loc), va_P D vwCl [(o, .inr (7, [.ref o_s, .ref o_saved, .int o_savedCount, .ref o_text, .int o_textLength, .int w_o_code, .int o_pieceCount, .ref o_pieceCell, .int o_at, .int o_commands, .ref o_letter, .ref o_number, .ref o_before, .long o_hash])), (o_s, .inl (ca 0, 1634, .inl o_s_d))] H → va_D A [(o, .inr (7, [.ref o_s, .ref o_saved, .int o_savedCount, .ref o_text, .int o_textLength, .int w_o_code, .int o_pieceCount, .ref o_pieceCell, .int o_at, .int o_commands, .ref o_letter, .ref o_number, .ref o_before, .long o_hash])), (o_s, .inl (ca 0, 1634, .inl o_s_d))] → va_S A s.heap H locs → ∀ ls, lv_has ls 6 [(0, .ref o), (1, .int x1), (2, .int x2), (3, .int x3), (5, .int l5)] → W p l e ({ frames := 6, cells := 0, slots := 0, locals := 136 }) s m args below meth c H locs 0 0 Q (F0 m 87 ls [.int s0]) := by
        intro l5 s0 h H locs hP hD hS ls hl
        unfold jX8_changes_87 at h
        refine lv_iconst (v := (0 : Int32)) hx hb dX8_changes_87 (by decide) ?_
        refine lv_iadd hx hb dX8_changes_88 ?_
        obtain ⟨y1, e_y1, h⟩ := nm_s h
        refine top_i e_y1 ?_
        refine lv_istore (lv' := [(4, .int y1), (0, .ref o), (1, .int x1), (2, .int x2), (3, .int x3), (5, .int l5)]) hx hb dX8_changes_89 hl (by decide) rfl (fun ls hl => ?_)
        obtain ⟨y2, e_y2, h⟩ := nm_s h
        refine lv_iinc (v := y2) (lv' := [(5, .int y2), (4, .int y1), (0, .ref o), (1, .int x1), (2, .int x2), (3, .int x3)]) hx hb dX8_changes_91 hl (k := 5) rfl (by rw [e_y2]; rfl) (by decide) rfl (fun ls hl => ?_)
        refine lv_goto (tgt := 26) hx hb dX8_changes_94 (by decide) ?_
        exact ih26 y1 y2 (lp_l hq26 h) _ _ hP hD hS ls (lv_sub hl [2, 3, 4, 5, 1, 0] rfl)
      refine lv_iload hx hb dX8_changes_26 (lv_at hl 5 rfl) ?_
      refine lv_iconst (v := (2 : Int32)) hx hb dX8_changes_28 (by decide) ?_
      refine lv_aload_n hx hb dX8_changes_29 rfl (lv_at hl 0 rfl) ?_
      refine gtF (ci := 7) (v := .ref o_s) (C := RX8) (T := TX8) (N := 14) hx hb hts inX8_changes_X8 hown hK hP 0 rfl rfl 0 (by decide) mwX8_changes_1 rfl rfl dX8_changes_30 ?_
      refine lv_iconst (v := (0 : Int32)) hx hb dX8_changes_33 (by decide) ?_
      obtain ⟨hin, y1, e_y1, h⟩ := rd_s h
      refine ldI hx hb hK hP 1 rfl hin dX8_changes_34 ?_
      refine top_i e_y1 ?_
      refine lv_imul hx hb dX8_changes_35 ?_
      refine lv_icmp_ge (tgt := 97) hx hb dX8_changes_36 (by decide) (fun c2 => ?_) (fun c2 => ?_)
      · have h := ip_s h c2
        have h := xt_s hq26 h
        refine lv_iload hx hb dX8_changes_97 (lv_at hl 4 rfl) ?_
        cases h
        exact hret 99 ls _ _ _ hP hD hS rfl dX8_changes_99
      · have h := in_s h c2
        refine lv_iload hx hb dX8_changes_39 (lv_at hl 4 rfl) ?_
        refine lv_aload_n hx hb dX8_changes_41 rfl (lv_at hl 0 rfl) ?_
        refine lv_iload hx hb dX8_changes_42 (lv_at hl 5 rfl) ?_
        obtain ⟨r3, h_r3, h⟩ := bd_s h
        refine clVR (As := [.int l5]) (rest := [.int l4]) hx hb hml hown hts gX8_changes_X8_event rfl 1 kX8_event ⟨Nat.le_of_ble_eq_true rfl, Nat.le_of_ble_eq_true rfl⟩ (ctX8_event l D ca o o_s o_saved o_text o_pieceCell o_letter o_number o_before o_savedCount o_textLength w_o_code o_pieceCount o_at o_commands o_hash o_s_d l5 r3 h_r3) hP hK [0, 1] rfl 0 7 rfl rfl rfl rfl hl.1 rfl (Nat.le_of_ble_eq_true rfl) ⟨Nat.le_of_ble_eq_true rfl, Nat.le_of_ble_eq_true rfl⟩ dX8_changes_44 rfl ?_
        refine lv_i2l (v := (r3).toInt64) hx hb dX8_changes_47 rfl ?_
        refine lv_iload_n hx hb dX8_changes_48 rfl (lv_at hl 2 rfl) ?_
        refine lv_iconst (v := (1 : Int32)) hx hb dX8_changes_49 (by decide) ?_
        refine lv_iadd hx hb dX8_changes_50 ?_
        refine lv_i2l (v := ((x2 + (1 : Int32))).toInt64) hx hb dX8_changes_51 rfl ?_
        refine lv_iload_n hx hb dX8_changes_52 rfl (lv_at hl 3 rfl) ?_
        refine lv_i2l (v := (x3).toInt64) hx hb dX8_changes_53 rfl ?_
        obtain ⟨r4, h_r4, h⟩ := bd_s h
        refine clSR (As := [.long (r3).toInt64, .long ((x2 + (1 : Int32))).toInt64, .long (x3).toInt64]) (rest := [.int l4]) hx hb hml hown hts gX8_changes_X8_in rfl 3 kX8_in.2 ⟨Nat.le_of_ble_eq_true rfl, Nat.le_of_ble_eq_true rfl⟩ (ctX8_in l D ca   ((r3).toInt64) (((x2 + (1 : Int32))).toInt64) ((x3).toInt64) r4 h_r4) hP hK [] rfl rfl hl.1 rfl (Nat.le_of_ble_eq_true rfl) ⟨Nat.le_of_ble_eq_true rfl, Nat.le_of_ble_eq_true rfl⟩ dX8_changes_54 rfl ?_
        refine lv_if_eq (tgt := 87) hx hb dX8_changes_57 (by decide) (fun c5 => ?_) (fun c5 => ?_)
        · have h := ip_s h c5
          exact J87 l5 l4 h _ _ hP hD hS ls (lv_sub hl [0, 1, 2, 3, 5] rfl)
        · have h := in_s h c5
          refine lv_aload_n hx hb dX8_changes_60 rfl (lv_at hl 0 rfl) ?_
          refine lv_iload hx hb dX8_changes_61 (lv_at hl 5 rfl) ?_
          obtain ⟨r6, h_r6, h⟩ := bd_s h
          refine clVR (As := [.int l5]) (rest := [.int l4]) hx hb hml hown hts gX8_changes_X8_isNew rfl 1 kX8_isNew ⟨Nat.le_of_ble_eq_true rfl, Nat.le_of_ble_eq_true rfl⟩ (ctX8_isNew l D ca o o_s o_saved o_text o_pieceCell o_letter o_number o_before o_savedCount o_textLength w_o_code o_pieceCount o_at o_commands o_hash o_s_d l5 r6 h_r6) hP hK [0, 1] rfl 0 7 rfl rfl rfl rfl hl.1 rfl (Nat.le_of_ble_eq_true rfl) ⟨Nat.le_of_ble_eq_true rfl, Nat.le_of_ble_eq_true rfl⟩ dX8_changes_63 rfl ?_
          refine lv_if_eq (tgt := 87) hx hb dX8_changes_66 (by decide) (fun c7 => ?_) (fun c7 => ?_)
          · have h := ip_s h c7
            exact J87 l5 l4 h _ _ hP hD hS ls (lv_sub hl [0, 1, 2, 3, 5] rfl)
          · have h := in_s h c7
            refine lv_aload_n hx hb dX8_changes_69 rfl (lv_at hl 0 rfl) ?_
            refine lv_iload_n hx hb dX8_changes_70 rfl (lv_at hl 1 rfl) ?_
            refine lv_aload_n hx hb dX8_changes_71 rfl (lv_at hl 0 rfl) ?_
            refine lv_iload hx hb dX8_changes_72 (lv_at hl 5 rfl) ?_
            obtain ⟨r8, h_r8, h⟩ := bd_s h
            refine clVR (As := [.int l5]) (rest := [.int x1, .ref o, .int l4]) hx hb hml hown hts gX8_changes_X8_event rfl 1 kX8_event ⟨Nat.le_of_ble_eq_true rfl, Nat.le_of_ble_eq_true rfl⟩ (ctX8_event l D ca o o_s o_saved o_text o_pieceCell o_letter o_number o_before o_savedCount o_textLength w_o_code o_pieceCount o_at o_commands o_hash o_s_d l5 r8 h_r8) hP hK [0, 1] rfl 0 7 rfl rfl rfl rfl hl.1 rfl (Nat.le_of_ble_eq_true rfl) ⟨Nat.le_of_ble_eq_true rfl, Nat.le_of_ble_eq_true rfl⟩ dX8_changes_74 rfl ?_
            obtain ⟨r9, h_r9, h⟩ := bd_s h
            refine clVR (As := [.int x1, .int r8]) (rest := [.int l4]) hx hb hml hown hts gX8_changes_X8_isChange rfl 2 kX8_isChange ⟨Nat.le_of_ble_eq_true rfl, Nat.le_of_ble_eq_true rfl⟩ (ctX8_isChange l D ca o o_s o_saved o_text o_pieceCell o_letter o_number o_before o_savedCount o_textLength w_o_code o_pieceCount o_at o_commands o_hash o_s_d x1 r8 r9 h_r9) hP hK [0, 1] rfl 0 7 rfl rfl rfl rfl hl.1 rfl (Nat.le_of_ble_eq_true rfl) ⟨Nat.le_of_ble_eq_true rfl, Nat.le_of_ble_eq_true rfl⟩ dX8_changes_77 rfl ?_
            refine lv_if_eq (tgt := 87) hx hb dX8_changes_80 (by decide) (fun c10 => ?_) (fun c10 => ?_)
            · have h := ip_s h c10
              exact J87 l5 l4 h _ _ hP hD hS ls (lv_sub hl [0, 1, 2, 3, 5] rfl)
            · have h := in_s h c10
              refine lv_iconst (v := (1 : Int32)) hx hb dX8_changes_83 (by decide) ?_
              refine lv_goto (tgt := 88) hx hb dX8_changes_84 (by decide) ?_
              refine lv_iadd hx hb dX8_changes_88 ?_
              obtain ⟨y11, e_y11, h⟩ := nm_s h
              refine top_i e_y11 ?_
              refine lv_istore (lv' := [(4, .int y11), (0, .ref o), (1, .int x1), (2, .int x2), (3, .int x3), (5, .int l5)]) hx hb dX8_changes_89 hl (by decide) rfl (fun ls hl => ?_)
              obtain ⟨y12, e_y12, h⟩ := nm_s h
              refine lv_iinc (v := y12) (lv' := [(5, .int y12), (4, .int y11), (0, .ref o), (1, .int x1), (2, .int x2), (3, .int x3)]) hx hb dX8_changes_91 hl (k := 5) rfl (by rw [e_y12]; rfl) (by decide) rfl (fun ls hl => ?_)
              refine lv_goto (tgt := 26) hx hb dX8_changes_94 (by decide) ?_
              exact ih26 y11 y12 (lp_l hq26 h) _ _ hP hD hS ls (lv_sub hl [2, 3, 4, 5, 1, 0] rfl)
  refine lv_aload_n hx hb dX8_changes_0 rfl (lv_at hl 0 rfl) ?_
  refine lv_iconst (v := (0 : Int32)) hx hb dX8_changes_1 (by decide) ?_
  refine ptI (ci := 7) (v := .int (0 : Int32)) (ty := .int) (C := RX8) (T := TX8) (N := 14) (wn := [(o, .inr (7, [.ref o_s, .ref o_saved, .int o_savedCount, .ref o_text, .int o_textLength, .int (0 : Int32), .int o_pieceCount, .ref o_pieceCell, .int o_at, .int o_commands, .ref o_letter, .ref o_number, .ref o_before, .long o_hash])), (o_s, .inl (ca 0, 1634, .inl o_s_d))]) hx hb hts inX8_changes_X8 tyX8 tyX8_ok nmX8 hown hK hP hD hS 0 rfl rfl 5 (by decide) mwX8_changes_0 rfl rfl (by decide +kernel) rfl rfl (Nat.le_of_ble_eq_true rfl) rfl dX8_changes_2 (fun H locs hP hD hS => ?_)
  refine lv_iload_n hx hb dX8_changes_5 rfl (lv_at hl 1 rfl) ?_
  refine lv_iload_n hx hb dX8_changes_6 rfl (lv_at hl 2 rfl) ?_
  refine lv_iload_n hx hb dX8_changes_7 rfl (lv_at hl 3 rfl) ?_
  obtain ⟨r1, h_r1, h⟩ := bd_s h
  refine clSR (As := [.int x1, .int x2, .int x3]) (rest := []) hx hb hml hown hts gX8_changes_X8_isRange rfl 3 kX8_isRange.2 ⟨Nat.le_of_ble_eq_true rfl, Nat.le_of_ble_eq_true rfl⟩ (ctX8_isRange l D ca   x1 x2 x3 r1 h_r1) hP hK [] rfl rfl hl.1 rfl (Nat.le_of_ble_eq_true rfl) ⟨Nat.le_of_ble_eq_true rfl, Nat.le_of_ble_eq_true rfl⟩ dX8_changes_8 rfl ?_
  refine lv_if_ne (tgt := 20) hx hb dX8_changes_11 (by decide) (fun c2 => ?_) (fun c2 => ?_)
  · have h := in_s h c2
    refine lv_iconst (v := (0 : Int32)) hx hb dX8_changes_20 (by decide) ?_
    refine lv_istore (lv' := [(4, .int (0 : Int32)), (0, .ref o), (1, .int x1), (2, .int x2), (3, .int x3)]) hx hb dX8_changes_21 hl (by decide) rfl (fun ls hl => ?_)
    refine lv_iconst (v := (0 : Int32)) hx hb dX8_changes_23 (by decide) ?_
    refine lv_istore (lv' := [(5, .int (0 : Int32)), (4, .int (0 : Int32)), (0, .ref o), (1, .int x1), (2, .int x2), (3, .int x3)]) hx hb dX8_changes_24 hl (by decide) rfl (fun ls hl => ?_)
    exact L26 (0 : Int32) fuel (0 : Int32) (0 : Int32) h _ _ hP hD hS ls (lv_sub hl [2, 3, 4, 5, 1, 0] rfl)
  · have h := ip_s h c2
    refine lv_aload_n hx hb dX8_changes_14 rfl (lv_at hl 0 rfl) ?_
    refine lv_iconst (v := (1 : Int32)) hx hb dX8_changes_15 (by decide) ?_
    obtain ⟨⟨r13_0, r13_1⟩, h_r13, h⟩ := bd_s h
    have h := up2_s h
    refine clVW (As := [.int (1 : Int32)]) (rest := []) (wr := [(o_s, .inl (ca 0, 1634, .inl o_s_d))]) (wn := [(o_s, .inl (ca 0, 1634, .inl o_s_d)), (o, .inr (7, [.ref o_s, .ref o_saved, .int o_savedCount, .ref o_text, .int o_textLength, .int r13_1, .int o_pieceCount, .ref o_pieceCell, .int o_at, .int o_commands, .ref o_letter, .ref o_number, .ref o_before, .long o_hash]))]) hx hb hml hown hts gX8_changes_X8_fails rfl 1 kX8_fails ⟨Nat.le_of_ble_eq_true rfl, Nat.le_of_ble_eq_true rfl⟩ (ctX8_fails l D ca o o_s o_saved o_text o_pieceCell o_letter o_number o_before o_savedCount o_textLength (0 : Int32) o_pieceCount o_at o_commands o_hash (1 : Int32) _ r13_0 r13_1 h_r13) hP hD hS hA hK [0] [1] rfl (by decide) rfl (by decide) (by decide) 0 7 rfl rfl rfl rfl hl.1 rfl (Nat.le_of_ble_eq_true rfl) ⟨Nat.le_of_ble_eq_true rfl, Nat.le_of_ble_eq_true rfl⟩ dX8_changes_16 rfl rfl (fun H locs hP hD hS => ?_)
    have hP := hP.sub (ws' := [(o, .inr (7, [.ref o_s, .ref o_saved, .int o_savedCount, .ref o_text, .int o_textLength, .int r13_1, .int o_pieceCount, .ref o_pieceCell, .int o_at, .int o_commands, .ref o_letter, .ref o_number, .ref o_before, .long o_hash])), (o_s, .inl (ca 0, 1634, .inl o_s_d))]) [1, 0] rfl
    have hD := hD.sub (ws' := [(o, .inr (7, [.ref o_s, .ref o_saved, .int o_savedCount, .ref o_text, .int o_textLength, .int r13_1, .int o_pieceCount, .ref o_pieceCell, .int o_at, .int o_commands, .ref o_letter, .ref o_number, .ref o_before, .long o_hash])), (o_s, .inl (ca 0, 1634, .inl o_s_d))]) [1, 0] (by decide) rfl
    cases h
    exact hret 19 ls _ _ _ hP hD hS rfl dX8_changes_19
theorem mwX8_nextChange_0 : Cond.fieldLink RX8 31 "SegmentTimesModel" "code" "I" ∈ wsX8_nextChange := List.mem_of_getElem? (i := 1) rfl
theorem mwX8_nextChange_1 : Cond.fieldLink RX8 7 "SegmentTimesModel" "s" "[I" ∈ wsX8_nextChange := List.mem_of_getElem? (i := 2) rfl
theorem inX8_nextChange_X8 : ∀ w ∈ u_ws RX8 TX8 14, w ∈ wsX8_nextChange := fun w h => List.mem_cons_of_mem _ (List.mem_append_right _ (h))
theorem kX8_nextChange : yX8_nextChange.cls = RX8 ∧ yX8_nextChange.cls ≠ "java/lang/invoke/MethodHandle" ∧ yX8_nextChange.cls ≠ "java/lang/invoke/VarHandle" ∧ (parseMethodDescriptor yX8_nextChange.desc).map (fun d => d.parameters.length) = some 2 := by decide +kernel
set_option maxHeartbeats 4000000 in
set_option maxRecDepth 100000 in
theorem ctX8_nextChange (l : Launch) (D : va_G) (ca : Nat → ClassId) (o : Nat) (o_s : Nat) (o_saved : Nat) (o_text : Nat) (o_pieceCell : Nat) (o_letter : Nat) (o_number : Nat) (o_before : Nat) (o_savedCount : Int32) (o_textLength : Int32) (o_code : Int32) (o_pieceCount : Int32) (o_at : Int32) (o_commands : Int32) (o_hash : Int64) (o_s_d : Nat → Int32) (x1 : Int32) (x2 : Int32) (sz : Nat) (u0 : Int32) (u1 : Int32) (hf : fX8_nextChange o_code o_s_d x1 x2 = some (u0, u1)) : MW l yX8_nextChange wsX8_nextChange 6 136 D ca [.ref o, .int x1, .int x2] sz [(o, .inr (7, [.ref o_s, .ref o_saved, .int o_savedCount, .ref o_text, .int o_textLength, .int o_code, .int o_pieceCount, .ref o_pieceCell, .int o_at, .int o_commands, .ref o_letter, .ref o_number, .ref o_before, .long o_hash])), (o_s, .inl (ca 0, 1634, .inl o_s_d))] (some (.int u0)) [(o, .inr (7, [.ref o_s, .ref o_saved, .int o_savedCount, .ref o_text, .int o_textLength, .int u1, .int o_pieceCount, .ref o_pieceCell, .int o_at, .int o_commands, .ref o_letter, .ref o_number, .ref o_before, .long o_hash])), (o_s, .inl (ca 0, 1634, .inl o_s_d))] := by
  refine hdWi (by decide +kernel) rfl (Nat.le_of_ble_eq_true rfl) ?_
  intro p e s m args below meth c A Q hx hb hml hown hts hP hD hK hA hS hret ls hl
  have hown : s.vm.findClass RX8 = some m.cls := hown
  have hl : lv_has ls 6 [(0, .ref o), (1, .int x1), (2, .int x2)] := hl
  have h := hf
  unfold fX8_nextChange at h
  clear hf
  have L24 : ∀ (w_o_code : Int32) (n : Nat) (l3 : Int32) (l4 : Int32), lp (fun q => bX8_nextChange_24 o_s_d x1 x2 w_o_code q.1 q.2) n (l3, l4) = some (u0, u1) → ∀ (H : Heap) (locs : List Loc), va_P D vwCl [(o, .inr (7, [.ref o_s, .ref o_saved, .int o_savedCount, .ref o_text, .int o_textLength, .int w_o_code, .int o_pieceCount, .ref o_pieceCell, .int o_at, .int o_commands, .ref o_letter, .ref o_number, .ref o_before, .long o_hash])), (o_s, .inl (ca 0, 1634, .inl o_s_d))] H → va_D A [(o, .inr (7, [.ref o_s, .ref o_saved, .int o_savedCount, .ref o_text, .int o_textLength, .int w_o_code, .int o_pieceCount, .ref o_pieceCell, .int o_at, .int o_commands, .ref o_letter, .ref o_number, .ref o_before, .long o_hash])), (o_s, .inl (ca 0, 1634, .inl o_s_d))] → va_S A s.heap H locs → ∀ ls, lv_has ls 6 [(0, .ref o), (1, .int x1), (2, .int x2), (3, .int l3), (4, .int l4)] → W p l e ({ frames := 6, cells := 0, slots := 0, locals := 136 }) s m args below meth c H locs 0 0 Q (F0 m 24 ls []) := by
    intro w_o_code n
    induction n with
    | zero => intro l3 l4 h; exact (lp_0 h).elim
    | succ n ih24 =>
      intro l3 l4 h H locs hP hD hS ls hl
      obtain ⟨q24, h, hq24⟩ := lp_s h
      have h : bX8_nextChange_24 o_s_d x1 x2 w_o_code l3 l4 = some q24 := h
      unfold bX8_nextChange_24 at h
      have J67 : ∀ (l3 : Int32) (l4 : Int32) (s0 : Int32), jX8_nextChange_67 o_s_d x1 l3 l4 s0 = some q24 → ∀ (H : Heap) (locs : List Loc), va_P D vwCl [(o, .inr (7, [.ref o_s, .ref o_saved, .int o_savedCount, .ref o_text, .int o_textLength, .int w_o_code, .int o_pieceCount, .ref o_pieceCell, .int o_at, .int o_commands, .ref o_letter, .ref o_number, .ref o_before, .long o_hash])), (o_s, .inl (ca 0, 1634, .inl o_s_d))] H → va_D A [(o, .inr (7, [.ref o_s, .ref o_saved, .int o_savedCount, .ref o_text, .int o_textLength, .int w_o_code, .int o_pieceCount, .ref o_pieceCell, .int o_at, .int o_commands, .ref o_letter, .ref o_number, .ref o_before, .long o_hash])), (o_s, .inl (ca 0, 1634, .inl o_s_d))] → va_S A s.heap H locs → ∀ ls, lv_has ls 6 [(0, .ref o), (1, .int x1), (2, .int x2), (3, .int l3), (4, .int l4)] → W p l e ({ frames := 6, cells := 0, slots := 0, locals := 136 }) s m args below meth c H locs 0 0 Q (F0 m 67 ls [.int s0]) := by
        intro l3 l4 s0 h H locs hP hD hS ls hl
        unfold jX8_nextChange_67 at h
        refine lv_istore (lv' := [(5, .int s0), (0, .ref o), (1, .int x1), (2, .int x2), (3, .int l3), (4, .int l4)]) hx hb dX8_nextChange_67 hl (by decide) rfl (fun ls hl => ?_)
        refine lv_iload hx hb dX8_nextChange_69 (lv_at hl 0 rfl) ?_
        refine lv_if_eq (tgt := 97) hx hb dX8_nextChange_71 (by decide) (fun c1 => ?_) (fun c1 => ?_)
        · have h := ip_s h c1
          refine lv_iload_n hx hb dX8_nextChange_97 rfl (lv_at hl 4 rfl) ?_
          refine lv_istore_n (lv' := [(3, .int l3), (5, .int s0), (0, .ref o), (1, .int x1), (2, .int x2), (4, .int l4)]) hx hb dX8_nextChange_98 rfl hl (by decide) rfl (fun ls hl => ?_)
          obtain ⟨y2, e_y2, h⟩ := nm_s h
          refine lv_iinc (v := y2) (lv' := [(4, .int y2), (3, .int l3), (5, .int s0), (0, .ref o), (1, .int x1), (2, .int x2)]) hx hb dX8_nextChange_99 hl (k := 5) rfl (by rw [e_y2]; rfl) (by decide) rfl (fun ls hl => ?_)
          refine lv_goto (tgt := 24) hx hb dX8_nextChange_102 (by decide) ?_
          exact ih24 l3 y2 (lp_l hq24 h) _ _ hP hD hS ls (lv_sub hl [3, 4, 5, 1, 0] rfl)
        · have h := in_s h c1
          refine lv_aload_n hx hb dX8_nextChange_74 rfl (lv_at hl 1 rfl) ?_
          refine lv_iload_n hx hb dX8_nextChange_75 rfl (lv_at hl 2 rfl) ?_
          refine lv_aload_n hx hb dX8_nextChange_76 rfl (lv_at hl 1 rfl) ?_
          refine lv_iload hx hb dX8_nextChange_77 (lv_at hl 5 rfl) ?_
          obtain ⟨r3, h_r3, h⟩ := bd_s h
          refine clVR (As := [.int l4]) (rest := [.int x1, .ref o]) hx hb hml hown hts gX8_nextChange_X8_event rfl 1 kX8_event ⟨Nat.le_of_ble_eq_true rfl, Nat.le_of_ble_eq_true rfl⟩ (ctX8_event l D ca o o_s o_saved o_text o_pieceCell o_letter o_number o_before o_savedCount o_textLength w_o_code o_pieceCount o_at o_commands o_hash o_s_d l4 r3 h_r3) hP hK [0, 1] rfl 0 7 rfl rfl rfl rfl hl.1 rfl (Nat.le_of_ble_eq_true rfl) ⟨Nat.le_of_ble_eq_true rfl, Nat.le_of_ble_eq_true rfl⟩ dX8_nextChange_79 rfl ?_
          obtain ⟨r4, h_r4, h⟩ := bd_s h
          refine clVR (As := [.int x1, .int r3]) (rest := []) hx hb hml hown hts gX8_nextChange_X8_isChange rfl 2 kX8_isChange ⟨Nat.le_of_ble_eq_true rfl, Nat.le_of_ble_eq_true rfl⟩ (ctX8_isChange l D ca o o_s o_saved o_text o_pieceCell o_letter o_number o_before o_savedCount o_textLength w_o_code o_pieceCount o_at o_commands o_hash o_s_d x1 r3 r4 h_r4) hP hK [0, 1] rfl 0 7 rfl rfl rfl rfl hl.1 rfl (Nat.le_of_ble_eq_true rfl) ⟨Nat.le_of_ble_eq_true rfl, Nat.le_of_ble_eq_true rfl⟩ dX8_nextChange_82 rfl ?_
          refine lv_if_eq (tgt := 97) hx hb dX8_nextChange_85 (by decide) (fun c5 => ?_) (fun c5 => ?_)
          · have h := ip_s h c5
            refine lv_iload_n hx hb dX8_nextChange_97 rfl (lv_at hl 4 rfl) ?_
            refine lv_istore_n (lv' := [(3, .int l3), (5, .int s0), (0, .ref o), (1, .int x1), (2, .int x2), (4, .int l4)]) hx hb dX8_nextChange_98 rfl hl (by decide) rfl (fun ls hl => ?_)
            obtain ⟨y6, e_y6, h⟩ := nm_s h
            refine lv_iinc (v := y6) (lv' := [(4, .int y6), (3, .int l3), (5, .int s0), (0, .ref o), (1, .int x1), (2, .int x2)]) hx hb dX8_nextChange_99 hl (k := 5) rfl (by rw [e_y6]; rfl) (by decide) rfl (fun ls hl => ?_)
            refine lv_goto (tgt := 24) hx hb dX8_nextChange_102 (by decide) ?_
            exact ih24 l3 y6 (lp_l hq24 h) _ _ hP hD hS ls (lv_sub hl [3, 4, 5, 1, 0] rfl)
          · have h := in_s h c5
            refine lv_aload_n hx hb dX8_nextChange_88 rfl (lv_at hl 1 rfl) ?_
            refine lv_iload hx hb dX8_nextChange_89 (lv_at hl 5 rfl) ?_
            obtain ⟨r7, h_r7, h⟩ := bd_s h
            refine clVR (As := [.int l4]) (rest := []) hx hb hml hown hts gX8_nextChange_X8_event rfl 1 kX8_event ⟨Nat.le_of_ble_eq_true rfl, Nat.le_of_ble_eq_true rfl⟩ (ctX8_event l D ca o o_s o_saved o_text o_pieceCell o_letter o_number o_before o_savedCount o_textLength w_o_code o_pieceCount o_at o_commands o_hash o_s_d l4 r7 h_r7) hP hK [0, 1] rfl 0 7 rfl rfl rfl rfl hl.1 rfl (Nat.le_of_ble_eq_true rfl) ⟨Nat.le_of_ble_eq_true rfl, Nat.le_of_ble_eq_true rfl⟩ dX8_nextChange_91 rfl ?_
            refine lv_goto (tgt := 98) hx hb dX8_nextChange_94 (by decide) ?_
            refine lv_istore_n (lv' := [(3, .int r7), (5, .int s0), (0, .ref o), (1, .int x1), (2, .int x2), (4, .int l4)]) hx hb dX8_nextChange_98 rfl hl (by decide) rfl (fun ls hl => ?_)
            obtain ⟨y8, e_y8, h⟩ := nm_s h
            refine lv_iinc (v := y8) (lv' := [(4, .int y8), (3, .int r7), (5, .int s0), (0, .ref o), (1, .int x1), (2, .int x2)]) hx hb dX8_nextChange_99 hl (k := 5) rfl (by rw [e_y8]; rfl) (by decide) rfl (fun ls hl => ?_)
            refine lv_goto (tgt := 24) hx hb dX8_nextChange_102 (by decide) ?_
            exact ih24 r7 y8 (lp_l hq24 h) _ _ hP hD hS ls (lv_sub hl [3, 4, 5, 1, 0] rfl)
      have J66 : ∀ (l3 : Int32) (l4 : Int32), jX8_nextChange_66 o_s_d x1 l3 l4 = some q24 → ∀ (H : Heap) (locs : List Loc), va_P D vwCl [(o, .inr (7, [.ref o_s, .ref o_saved, .int o_savedCount, .ref o_text, .int o_textLength, .int w_o_code, .int o_pieceCount, .ref o_pieceCell, .int o_at, .int o_commands, .ref o_letter, .ref o_number, .ref o_before, .long o_hash])), (o_s, .inl (ca 0, 1634, .inl o_s_d))] H → va_D A [(o, .inr (7, [.ref o_s, .ref o_saved, .int o_savedCount, .ref o_text, .int o_textLength, .int w_o_code, .int o_pieceCount, .ref o_pieceCell, .int o_at, .int o_commands, .ref o_letter, .ref o_number, .ref o_before, .long o_hash])), (o_s, .inl (ca 0, 1634, .inl o_s_d))] → va_S A s.heap H locs → ∀ ls, lv_has ls 6 [(0, .ref o), (1, .int x1), (2, .int x2), (3, .int l3), (4, .int l4)] → W p l e ({ frames := 6, cells := 0, slots := 0, locals := 136 }) s m args below meth c H locs 0 0 Q (F0 m 66 ls []) := by
        intro l3 l4 h H locs hP hD hS ls hl
        unfold jX8_nextChange_66 at h
        refine lv_iconst (v := (0 : Int32)) hx hb dX8_nextChange_66 (by decide) ?_
        exact J67 l3 l4 (0 : Int32) h _ _ hP hD hS ls (lv_sub hl [0, 1, 2, 3, 4] rfl)
      refine lv_iload hx hb dX8_nextChange_24 (lv_at hl 4 rfl) ?_
      refine lv_iconst (v := (2 : Int32)) hx hb dX8_nextChange_26 (by decide) ?_
      refine lv_aload_n hx hb dX8_nextChange_27 rfl (lv_at hl 0 rfl) ?_
      refine gtF (ci := 7) (v := .ref o_s) (C := RX8) (T := TX8) (N := 14) hx hb hts inX8_nextChange_X8 hown hK hP 0 rfl rfl 0 (by decide) mwX8_nextChange_1 rfl rfl dX8_nextChange_28 ?_
      refine lv_iconst (v := (0 : Int32)) hx hb dX8_nextChange_31 (by decide) ?_
      obtain ⟨hin, y1, e_y1, h⟩ := rd_s h
      refine ldI hx hb hK hP 1 rfl hin dX8_nextChange_32 ?_
      refine top_i e_y1 ?_
      refine lv_imul hx hb dX8_nextChange_33 ?_
      refine lv_icmp_ge (tgt := 105) hx hb dX8_nextChange_34 (by decide) (fun c2 => ?_) (fun c2 => ?_)
      · have h := ip_s h c2
        have h := xt_s hq24 h
        refine lv_iload_n hx hb dX8_nextChange_105 rfl (lv_at hl 3 rfl) ?_
        cases h
        exact hret 106 ls _ _ _ hP hD hS rfl dX8_nextChange_106
      · have h := in_s h c2
        refine lv_aload_n hx hb dX8_nextChange_37 rfl (lv_at hl 0 rfl) ?_
        refine lv_iload hx hb dX8_nextChange_38 (lv_at hl 4 rfl) ?_
        obtain ⟨r3, h_r3, h⟩ := bd_s h
        refine clVR (As := [.int l4]) (rest := []) hx hb hml hown hts gX8_nextChange_X8_event rfl 1 kX8_event ⟨Nat.le_of_ble_eq_true rfl, Nat.le_of_ble_eq_true rfl⟩ (ctX8_event l D ca o o_s o_saved o_text o_pieceCell o_letter o_number o_before o_savedCount o_textLength w_o_code o_pieceCount o_at o_commands o_hash o_s_d l4 r3 h_r3) hP hK [0, 1] rfl 0 7 rfl rfl rfl rfl hl.1 rfl (Nat.le_of_ble_eq_true rfl) ⟨Nat.le_of_ble_eq_true rfl, Nat.le_of_ble_eq_true rfl⟩ dX8_nextChange_40 rfl ?_
        refine lv_iload_n hx hb dX8_nextChange_43 rfl (lv_at hl 2 rfl) ?_
        refine lv_icmp_le (tgt := 66) hx hb dX8_nextChange_44 (by decide) (fun c4 => ?_) (fun c4 => ?_)
        · have h := ip_s h c4
          exact J66 l3 l4 h _ _ hP hD hS ls (lv_sub hl [0, 1, 2, 3, 4] rfl)
        · have h := in_s h c4
          refine lv_iload_n hx hb dX8_nextChange_47 rfl (lv_at hl 3 rfl) ?_
          refine lv_iconst (v := (-1 : Int32)) hx hb dX8_nextChange_48 (by decide) ?_
          refine lv_icmp_eq (tgt := 62) hx hb dX8_nextChange_49 (by decide) (fun c9 => ?_) (fun c9 => ?_)
          · have h := ip_s h c9
            refine lv_iconst (v := (1 : Int32)) hx hb dX8_nextChange_62 (by decide) ?_
            refine lv_goto (tgt := 67) hx hb dX8_nextChange_63 (by decide) ?_
            exact J67 l3 l4 (1 : Int32) h _ _ hP hD hS ls (lv_sub hl [0, 1, 2, 3, 4] rfl)
          · have h := in_s h c9
            refine lv_aload_n hx hb dX8_nextChange_52 rfl (lv_at hl 0 rfl) ?_
            refine lv_iload hx hb dX8_nextChange_53 (lv_at hl 4 rfl) ?_
            obtain ⟨r10, h_r10, h⟩ := bd_s h
            refine clVR (As := [.int l4]) (rest := []) hx hb hml hown hts gX8_nextChange_X8_event rfl 1 kX8_event ⟨Nat.le_of_ble_eq_true rfl, Nat.le_of_ble_eq_true rfl⟩ (ctX8_event l D ca o o_s o_saved o_text o_pieceCell o_letter o_number o_before o_savedCount o_textLength w_o_code o_pieceCount o_at o_commands o_hash o_s_d l4 r10 h_r10) hP hK [0, 1] rfl 0 7 rfl rfl rfl rfl hl.1 rfl (Nat.le_of_ble_eq_true rfl) ⟨Nat.le_of_ble_eq_true rfl, Nat.le_of_ble_eq_true rfl⟩ dX8_nextChange_55 rfl ?_
            refine lv_iload_n hx hb dX8_nextChange_58 rfl (lv_at hl 3 rfl) ?_
            refine lv_icmp_ge (tgt := 66) hx hb dX8_nextChange_59 (by decide) (fun c11 => ?_) (fun c11 => ?_)
            · have h := ip_s h c11
              exact J66 l3 l4 h _ _ hP hD hS ls (lv_sub hl [0, 1, 2, 3, 4] rfl)
            · have h := in_s h c11
              refine lv_iconst (v := (1 : Int32)) hx hb dX8_nextChange_62 (by decide) ?_
              refine lv_goto (tgt := 67) hx hb dX8_nextChange_63 (by decide) ?_
              exact J67 l3 l4 (1 : Int32) h _ _ hP hD hS ls (lv_sub hl [0, 1, 2, 3, 4] rfl)
  refine lv_aload_n hx hb dX8_nextChange_0 rfl (lv_at hl 0 rfl) ?_
  refine lv_iconst (v := (0 : Int32)) hx hb dX8_nextChange_1 (by decide) ?_
  refine ptI (ci := 7) (v := .int (0 : Int32)) (ty := .int) (C := RX8) (T := TX8) (N := 14) (wn := [(o, .inr (7, [.ref o_s, .ref o_saved, .int o_savedCount, .ref o_text, .int o_textLength, .int (0 : Int32), .int o_pieceCount, .ref o_pieceCell, .int o_at, .int o_commands, .ref o_letter, .ref o_number, .ref o_before, .long o_hash])), (o_s, .inl (ca 0, 1634, .inl o_s_d))]) hx hb hts inX8_nextChange_X8 tyX8 tyX8_ok nmX8 hown hK hP hD hS 0 rfl rfl 5 (by decide) mwX8_nextChange_0 rfl rfl (by decide +kernel) rfl rfl (Nat.le_of_ble_eq_true rfl) rfl dX8_nextChange_2 (fun H locs hP hD hS => ?_)
  refine lv_iload_n hx hb dX8_nextChange_5 rfl (lv_at hl 1 rfl) ?_
  refine lv_iload_n hx hb dX8_nextChange_6 rfl (lv_at hl 2 rfl) ?_
  obtain ⟨r1, h_r1, h⟩ := bd_s h
  refine clSR (As := [.int x1, .int x2]) (rest := []) hx hb hml hown hts gX8_nextChange_X8_isPlace rfl 2 kX8_isPlace.2 ⟨Nat.le_of_ble_eq_true rfl, Nat.le_of_ble_eq_true rfl⟩ (ctX8_isPlace l D ca   x1 x2 r1 h_r1) hP hK [] rfl rfl hl.1 rfl (Nat.le_of_ble_eq_true rfl) ⟨Nat.le_of_ble_eq_true rfl, Nat.le_of_ble_eq_true rfl⟩ dX8_nextChange_7 rfl ?_
  refine lv_if_ne (tgt := 19) hx hb dX8_nextChange_10 (by decide) (fun c2 => ?_) (fun c2 => ?_)
  · have h := in_s h c2
    refine lv_iconst (v := (-1 : Int32)) hx hb dX8_nextChange_19 (by decide) ?_
    refine lv_istore_n (lv' := [(3, .int (-1 : Int32)), (0, .ref o), (1, .int x1), (2, .int x2)]) hx hb dX8_nextChange_20 rfl hl (by decide) rfl (fun ls hl => ?_)
    refine lv_iconst (v := (0 : Int32)) hx hb dX8_nextChange_21 (by decide) ?_
    refine lv_istore (lv' := [(4, .int (0 : Int32)), (3, .int (-1 : Int32)), (0, .ref o), (1, .int x1), (2, .int x2)]) hx hb dX8_nextChange_22 hl (by decide) rfl (fun ls hl => ?_)
    exact L24 (0 : Int32) fuel (-1 : Int32) (0 : Int32) h _ _ hP hD hS ls (lv_sub hl [2, 3, 4, 1, 0] rfl)
  · have h := ip_s h c2
    refine lv_aload_n hx hb dX8_nextChange_13 rfl (lv_at hl 0 rfl) ?_
    refine lv_iconst (v := (1 : Int32)) hx hb dX8_nextChange_14 (by decide) ?_
    obtain ⟨⟨r12_0, r12_1⟩, h_r12, h⟩ := bd_s h
    have h := up2_s h
    refine clVW (As := [.int (1 : Int32)]) (rest := []) (wr := [(o_s, .inl (ca 0, 1634, .inl o_s_d))]) (wn := [(o_s, .inl (ca 0, 1634, .inl o_s_d)), (o, .inr (7, [.ref o_s, .ref o_saved, .int o_savedCount, .ref o_text, .int o_textLength, .int r12_1, .int o_pieceCount, .ref o_pieceCell, .int o_at, .int o_commands, .ref o_letter, .ref o_number, .ref o_before, .long o_hash]))]) hx hb hml hown hts gX8_nextChange_X8_fails rfl 1 kX8_fails ⟨Nat.le_of_ble_eq_true rfl, Nat.le_of_ble_eq_true rfl⟩ (ctX8_fails l D ca o o_s o_saved o_text o_pieceCell o_letter o_number o_before o_savedCount o_textLength (0 : Int32) o_pieceCount o_at o_commands o_hash (1 : Int32) _ r12_0 r12_1 h_r12) hP hD hS hA hK [0] [1] rfl (by decide) rfl (by decide) (by decide) 0 7 rfl rfl rfl rfl hl.1 rfl (Nat.le_of_ble_eq_true rfl) ⟨Nat.le_of_ble_eq_true rfl, Nat.le_of_ble_eq_true rfl⟩ dX8_nextChange_15 rfl rfl (fun H locs hP hD hS => ?_)
    have hP := hP.sub (ws' := [(o, .inr (7, [.ref o_s, .ref o_saved, .int o_savedCount, .ref o_text, .int o_textLength, .int r12_1, .int o_pieceCount, .ref o_pieceCell, .int o_at, .int o_commands, .ref o_letter, .ref o_number, .ref o_before, .long o_hash])), (o_s, .inl (ca 0, 1634, .inl o_s_d))]) [1, 0] rfl
    have hD := hD.sub (ws' := [(o, .inr (7, [.ref o_s, .ref o_saved, .int o_savedCount, .ref o_text, .int o_textLength, .int r12_1, .int o_pieceCount, .ref o_pieceCell, .int o_at, .int o_commands, .ref o_letter, .ref o_number, .ref o_before, .long o_hash])), (o_s, .inl (ca 0, 1634, .inl o_s_d))]) [1, 0] (by decide) rfl
    cases h
    exact hret 18 ls _ _ _ hP hD hS rfl dX8_nextChange_18
theorem mwX8_overTime_0 : Cond.fieldLink RX8 31 "SegmentTimesModel" "code" "I" ∈ wsX8_overTime := List.mem_of_getElem? (i := 1) rfl
theorem mwX8_overTime_1 : Cond.fieldLink RX8 7 "SegmentTimesModel" "s" "[I" ∈ wsX8_overTime := List.mem_of_getElem? (i := 2) rfl
theorem mwX8_overTime_2 : Cond.constantLong RX8 133 (9223372036854775807) ∈ wsX8_overTime := List.mem_of_getElem? (i := 3) rfl
theorem inX8_overTime_X8 : ∀ w ∈ u_ws RX8 TX8 14, w ∈ wsX8_overTime := fun w h => List.mem_cons_of_mem _ (List.mem_append_right _ (h))
theorem kX8_overTime : yX8_overTime.cls = RX8 ∧ yX8_overTime.cls ≠ "java/lang/invoke/MethodHandle" ∧ yX8_overTime.cls ≠ "java/lang/invoke/VarHandle" ∧ (parseMethodDescriptor yX8_overTime.desc).map (fun d => d.parameters.length) = some 4 := by decide +kernel
set_option maxHeartbeats 4000000 in
set_option maxRecDepth 100000 in
theorem ctX8_overTime (l : Launch) (D : va_G) (ca : Nat → ClassId) (o : Nat) (o_s : Nat) (o_saved : Nat) (o_text : Nat) (o_pieceCell : Nat) (o_letter : Nat) (o_number : Nat) (o_before : Nat) (o_savedCount : Int32) (o_textLength : Int32) (o_code : Int32) (o_pieceCount : Int32) (o_at : Int32) (o_commands : Int32) (o_hash : Int64) (o_s_d : Nat → Int32) (x1 : Int32) (x2 : Int32) (x3 : Int32) (x4 : Int32) (sz : Nat) (u0 : Int64) (u1 : Int32) (hf : fX8_overTime o_code o_s_d x1 x2 x3 x4 = some (u0, u1)) : MW l yX8_overTime wsX8_overTime 5 114 D ca [.ref o, .int x1, .int x2, .int x3, .int x4] sz [(o, .inr (7, [.ref o_s, .ref o_saved, .int o_savedCount, .ref o_text, .int o_textLength, .int o_code, .int o_pieceCount, .ref o_pieceCell, .int o_at, .int o_commands, .ref o_letter, .ref o_number, .ref o_before, .long o_hash])), (o_s, .inl (ca 0, 1634, .inl o_s_d))] (some (.long u0)) [(o, .inr (7, [.ref o_s, .ref o_saved, .int o_savedCount, .ref o_text, .int o_textLength, .int u1, .int o_pieceCount, .ref o_pieceCell, .int o_at, .int o_commands, .ref o_letter, .ref o_number, .ref o_before, .long o_hash])), (o_s, .inl (ca 0, 1634, .inl o_s_d))] := by
  refine hdWl (by decide +kernel) rfl (Nat.le_of_ble_eq_true rfl) ?_
  intro p e s m args below meth c A Q hx hb hml hown hts hP hD hK hA hS hret ls hl
  have hown : s.vm.findClass RX8 = some m.cls := hown
  have hl : lv_has ls 11 [(0, .ref o), (1, .int x1), (2, .int x2), (3, .int x3), (4, .int x4)] := hl
  have h := hf
  unfold fX8_overTime at h
  clear hf
  have L30 : ∀ (w_o_code : Int32) (n : Nat) (l5 : Int32) (l6 : Int32) (l7 : Int32), lp (fun q => bX8_overTime_30 o_s_d x1 x2 x3 x4 w_o_code q.1 q.2.1 q.2.2) n (l5, l6, l7) = some (u0, u1) → ∀ (H : Heap) (locs : List Loc), va_P D vwCl [(o, .inr (7, [.ref o_s, .ref o_saved, .int o_savedCount, .ref o_text, .int o_textLength, .int w_o_code, .int o_pieceCount, .ref o_pieceCell, .int o_at, .int o_commands, .ref o_letter, .ref o_number, .ref o_before, .long o_hash])), (o_s, .inl (ca 0, 1634, .inl o_s_d))] H → va_D A [(o, .inr (7, [.ref o_s, .ref o_saved, .int o_savedCount, .ref o_text, .int o_textLength, .int w_o_code, .int o_pieceCount, .ref o_pieceCell, .int o_at, .int o_commands, .ref o_letter, .ref o_number, .ref o_before, .long o_hash])), (o_s, .inl (ca 0, 1634, .inl o_s_d))] → va_S A s.heap H locs → ∀ ls, lv_has ls 11 [(0, .ref o), (1, .int x1), (2, .int x2), (3, .int x3), (4, .int x4), (5, .int l5), (6, .int l6), (7, .int l7)] → W p l e ({ frames := 5, cells := 0, slots := 0, locals := 114 }) s m args below meth c H locs 0 0 Q (F0 m 30 ls []) := by
    intro w_o_code n
    induction n with
    | zero => intro l5 l6 l7 h; exact (lp_0 h).elim
    | succ n ih30 =>
      intro l5 l6 l7 h H locs hP hD hS ls hl
      obtain ⟨q30, h, hq30⟩ := lp_s h
      have h : bX8_overTime_30 o_s_d x1 x2 x3 x4 w_o_code l5 l6 l7 = some q30 := h
      unfold bX8_overTime_30 at h
      have J138 : ∀ (l7 : Int32) (l10 : Int32), jX8_overTime_138  l7 l10 = some q30 → ∀ (H : Heap) (locs : List Loc), va_P D vwCl [(o, .inr (7, [.ref o_s, .ref o_saved, .int o_savedCount, .ref o_text, .int o_textLength, .int w_o_code, .int o_pieceCount, .ref o_pieceCell, .int o_at, .int o_commands, .ref o_letter, .ref o_number, .ref o_before, .long o_hash])), (o_s, .inl (ca 0, 1634, .inl o_s_d))] H → va_D A [(o, .inr (7, [.ref o_s, .ref o_saved, .int o_savedCount, .ref o_text, .int o_textLength, .int w_o_code, .int o_pieceCount, .ref o_pieceCell, .int o_at, .int o_commands, .ref o_letter, .ref o_number, .ref o_before, .long o_hash])), (o_s, .inl (ca 0, 1634, .inl o_s_d))] → va_S A s.heap H locs → ∀ ls, lv_has ls 11 [(0, .ref o), (1, .int x1), (2, .int x2), (3, .int x3), (4, .int x4), (7, .int l7), (10, .int l10)] → W p l e ({ frames := 5, cells := 0, slots := 0, locals := 114 }) s m args below meth c H locs 0 0 Q (F0 m 138 ls []) := by
        intro l7 l10 h H locs hP hD hS ls hl
        unfold jX8_overTime_138 at h
        refine lv_iconst (v := (1 : Int32)) hx hb dX8_overTime_138 (by decide) ?_
        refine lv_istore (lv' := [(5, .int (1 : Int32)), (0, .ref o), (1, .int x1), (2, .int x2), (3, .int x3), (4, .int x4), (7, .int l7), (10, .int l10)]) hx hb dX8_overTime_139 hl (by decide) rfl (fun ls hl => ?_)
        refine lv_iload hx hb dX8_overTime_141 (lv_at hl 7 rfl) ?_
        refine lv_istore (lv' := [(6, .int l10), (5, .int (1 : Int32)), (0, .ref o), (1, .int x1), (2, .int x2), (3, .int x3), (4, .int x4), (7, .int l7), (10, .int l10)]) hx hb dX8_overTime_143 hl (by decide) rfl (fun ls hl => ?_)
        obtain ⟨y1, e_y1, h⟩ := nm_s h
        refine lv_iinc (v := y1) (lv' := [(7, .int y1), (6, .int l10), (5, .int (1 : Int32)), (0, .ref o), (1, .int x1), (2, .int x2), (3, .int x3), (4, .int x4), (10, .int l10)]) hx hb dX8_overTime_145 hl (k := 7) rfl (by rw [e_y1]; rfl) (by decide) rfl (fun ls hl => ?_)
        refine lv_goto (tgt := 30) hx hb dX8_overTime_148 (by decide) ?_
        exact ih30 (1 : Int32) l10 y1 (lp_l hq30 h) _ _ hP hD hS ls (lv_sub hl [3, 4, 5, 6, 7, 2, 1, 0] rfl)
      have J103 : ∀ (l5 : Int32) (l6 : Int32) (l7 : Int32) (l9 : Int32) (s0 : Int32), jX8_overTime_103 x4 l5 l6 l7 l9 s0 = some q30 → ∀ (H : Heap) (locs : List Loc), va_P D vwCl [(o, .inr (7, [.ref o_s, .ref o_saved, .int o_savedCount, .ref o_text, .int o_textLength, .int w_o_code, .int o_pieceCount, .ref o_pieceCell, .int o_at, .int o_commands, .ref o_letter, .ref o_number, .ref o_before, .long o_hash])), (o_s, .inl (ca 0, 1634, .inl o_s_d))] H → va_D A [(o, .inr (7, [.ref o_s, .ref o_saved, .int o_savedCount, .ref o_text, .int o_textLength, .int w_o_code, .int o_pieceCount, .ref o_pieceCell, .int o_at, .int o_commands, .ref o_letter, .ref o_number, .ref o_before, .long o_hash])), (o_s, .inl (ca 0, 1634, .inl o_s_d))] → va_S A s.heap H locs → ∀ ls, lv_has ls 11 [(0, .ref o), (1, .int x1), (2, .int x2), (3, .int x3), (4, .int x4), (5, .int l5), (6, .int l6), (7, .int l7), (9, .int l9)] → W p l e ({ frames := 5, cells := 0, slots := 0, locals := 114 }) s m args below meth c H locs 0 0 Q (F0 m 103 ls [.int s0]) := by
        intro l5 l6 l7 l9 s0 h H locs hP hD hS ls hl
        unfold jX8_overTime_103 at h
        refine lv_istore (lv' := [(10, .int s0), (0, .ref o), (1, .int x1), (2, .int x2), (3, .int x3), (4, .int x4), (5, .int l5), (6, .int l6), (7, .int l7), (9, .int l9)]) hx hb dX8_overTime_103 hl (by decide) rfl (fun ls hl => ?_)
        refine lv_iload hx hb dX8_overTime_105 (lv_at hl 9 rfl) ?_
        refine lv_iconst (v := (-1 : Int32)) hx hb dX8_overTime_107 (by decide) ?_
        refine lv_icmp_eq (tgt := 145) hx hb dX8_overTime_108 (by decide) (fun c1 => ?_) (fun c1 => ?_)
        · have h := ip_s h c1
          obtain ⟨y2, e_y2, h⟩ := nm_s h
          refine lv_iinc (v := y2) (lv' := [(7, .int y2), (10, .int s0), (0, .ref o), (1, .int x1), (2, .int x2), (3, .int x3), (4, .int x4), (5, .int l5), (6, .int l6), (9, .int l9)]) hx hb dX8_overTime_145 hl (k := 8) rfl (by rw [e_y2]; rfl) (by decide) rfl (fun ls hl => ?_)
          refine lv_goto (tgt := 30) hx hb dX8_overTime_148 (by decide) ?_
          exact ih30 l5 l6 y2 (lp_l hq30 h) _ _ hP hD hS ls (lv_sub hl [2, 3, 4, 5, 6, 7, 8, 0] rfl)
        · have h := in_s h c1
          refine lv_iload hx hb dX8_overTime_111 (lv_at hl 6 rfl) ?_
          refine lv_if_eq (tgt := 138) hx hb dX8_overTime_113 (by decide) (fun c3 => ?_) (fun c3 => ?_)
          · have h := ip_s h c3
            exact J138 l7 s0 h _ _ hP hD hS ls (lv_sub hl [1, 2, 3, 4, 5, 8, 0] rfl)
          · have h := in_s h c3
            refine lv_iload hx hb dX8_overTime_116 (lv_at hl 5 rfl) ?_
            refine lv_if_eq (tgt := 131) hx hb dX8_overTime_118 (by decide) (fun c4 => ?_) (fun c4 => ?_)
            · have h := ip_s h c4
              refine lv_iload hx hb dX8_overTime_131 (lv_at hl 0 rfl) ?_
              refine lv_iload hx hb dX8_overTime_133 (lv_at hl 7 rfl) ?_
              refine lv_icmp_ge (tgt := 145) hx hb dX8_overTime_135 (by decide) (fun c5 => ?_) (fun c5 => ?_)
              · have h := ip_s h c5
                obtain ⟨y6, e_y6, h⟩ := nm_s h
                refine lv_iinc (v := y6) (lv' := [(7, .int y6), (10, .int s0), (0, .ref o), (1, .int x1), (2, .int x2), (3, .int x3), (4, .int x4), (5, .int l5), (6, .int l6), (9, .int l9)]) hx hb dX8_overTime_145 hl (k := 8) rfl (by rw [e_y6]; rfl) (by decide) rfl (fun ls hl => ?_)
                refine lv_goto (tgt := 30) hx hb dX8_overTime_148 (by decide) ?_
                exact ih30 l5 l6 y6 (lp_l hq30 h) _ _ hP hD hS ls (lv_sub hl [2, 3, 4, 5, 6, 7, 8, 0] rfl)
              · have h := in_s h c5
                exact J138 l7 s0 h _ _ hP hD hS ls (lv_sub hl [1, 2, 3, 4, 5, 8, 0] rfl)
            · have h := in_s h c4
              refine lv_iload hx hb dX8_overTime_121 (lv_at hl 0 rfl) ?_
              refine lv_iload hx hb dX8_overTime_123 (lv_at hl 7 rfl) ?_
              refine lv_icmp_le (tgt := 145) hx hb dX8_overTime_125 (by decide) (fun c7 => ?_) (fun c7 => ?_)
              · have h := ip_s h c7
                obtain ⟨y8, e_y8, h⟩ := nm_s h
                refine lv_iinc (v := y8) (lv' := [(7, .int y8), (10, .int s0), (0, .ref o), (1, .int x1), (2, .int x2), (3, .int x3), (4, .int x4), (5, .int l5), (6, .int l6), (9, .int l9)]) hx hb dX8_overTime_145 hl (k := 8) rfl (by rw [e_y8]; rfl) (by decide) rfl (fun ls hl => ?_)
                refine lv_goto (tgt := 30) hx hb dX8_overTime_148 (by decide) ?_
                exact ih30 l5 l6 y8 (lp_l hq30 h) _ _ hP hD hS ls (lv_sub hl [2, 3, 4, 5, 6, 7, 8, 0] rfl)
              · have h := in_s h c7
                refine lv_goto (tgt := 138) hx hb dX8_overTime_128 (by decide) ?_
                exact J138 l7 s0 h _ _ hP hD hS ls (lv_sub hl [1, 2, 3, 4, 5, 8, 0] rfl)
      have J84 : ∀ (l5 : Int32) (l6 : Int32) (l7 : Int32) (s0 : Int32), jX8_overTime_84 o_s_d x1 x4 l5 l6 l7 s0 = some q30 → ∀ (H : Heap) (locs : List Loc), va_P D vwCl [(o, .inr (7, [.ref o_s, .ref o_saved, .int o_savedCount, .ref o_text, .int o_textLength, .int w_o_code, .int o_pieceCount, .ref o_pieceCell, .int o_at, .int o_commands, .ref o_letter, .ref o_number, .ref o_before, .long o_hash])), (o_s, .inl (ca 0, 1634, .inl o_s_d))] H → va_D A [(o, .inr (7, [.ref o_s, .ref o_saved, .int o_savedCount, .ref o_text, .int o_textLength, .int w_o_code, .int o_pieceCount, .ref o_pieceCell, .int o_at, .int o_commands, .ref o_letter, .ref o_number, .ref o_before, .long o_hash])), (o_s, .inl (ca 0, 1634, .inl o_s_d))] → va_S A s.heap H locs → ∀ ls, lv_has ls 11 [(0, .ref o), (1, .int x1), (2, .int x2), (3, .int x3), (4, .int x4), (5, .int l5), (6, .int l6), (7, .int l7)] → W p l e ({ frames := 5, cells := 0, slots := 0, locals := 114 }) s m args below meth c H locs 0 0 Q (F0 m 84 ls [.int s0]) := by
        intro l5 l6 l7 s0 h H locs hP hD hS ls hl
        unfold jX8_overTime_84 at h
        refine lv_istore (lv' := [(9, .int s0), (0, .ref o), (1, .int x1), (2, .int x2), (3, .int x3), (4, .int x4), (5, .int l5), (6, .int l6), (7, .int l7)]) hx hb dX8_overTime_84 hl (by decide) rfl (fun ls hl => ?_)
        refine lv_iload hx hb dX8_overTime_86 (lv_at hl 0 rfl) ?_
        refine lv_iconst (v := (-1 : Int32)) hx hb dX8_overTime_88 (by decide) ?_
        refine lv_icmp_ne (tgt := 96) hx hb dX8_overTime_89 (by decide) (fun c1 => ?_) (fun c1 => ?_)
        · have h := in_s h c1
          refine lv_aload_n hx hb dX8_overTime_96 rfl (lv_at hl 1 rfl) ?_
          refine lv_iload hx hb dX8_overTime_97 (lv_at hl 0 rfl) ?_
          refine lv_iload_n hx hb dX8_overTime_99 rfl (lv_at hl 2 rfl) ?_
          obtain ⟨r2, h_r2, h⟩ := bd_s h
          refine clVR (As := [.int s0, .int x1]) (rest := []) hx hb hml hown hts gX8_overTime_X8_valueAt rfl 2 kX8_valueAt ⟨Nat.le_of_ble_eq_true rfl, Nat.le_of_ble_eq_true rfl⟩ (ctX8_valueAt l D ca o o_s o_saved o_text o_pieceCell o_letter o_number o_before o_savedCount o_textLength w_o_code o_pieceCount o_at o_commands o_hash o_s_d s0 x1 r2 h_r2) hP hK [0, 1] rfl 0 7 rfl rfl rfl rfl hl.1 rfl (Nat.le_of_ble_eq_true rfl) ⟨Nat.le_of_ble_eq_true rfl, Nat.le_of_ble_eq_true rfl⟩ dX8_overTime_100 rfl ?_
          exact J103 l5 l6 l7 s0 r2 h _ _ hP hD hS ls (lv_sub hl [1, 2, 3, 4, 5, 6, 7, 8, 0] rfl)
        · have h := ip_s h c1
          refine lv_iconst (v := (0 : Int32)) hx hb dX8_overTime_92 (by decide) ?_
          refine lv_goto (tgt := 103) hx hb dX8_overTime_93 (by decide) ?_
          exact J103 l5 l6 l7 s0 (0 : Int32) h _ _ hP hD hS ls (lv_sub hl [1, 2, 3, 4, 5, 6, 7, 8, 0] rfl)
      have J58 : ∀ (l5 : Int32) (l6 : Int32) (l7 : Int32) (s0 : Int32), jX8_overTime_58 o_s_d x1 x2 x3 x4 l5 l6 l7 s0 = some q30 → ∀ (H : Heap) (locs : List Loc), va_P D vwCl [(o, .inr (7, [.ref o_s, .ref o_saved, .int o_savedCount, .ref o_text, .int o_textLength, .int w_o_code, .int o_pieceCount, .ref o_pieceCell, .int o_at, .int o_commands, .ref o_letter, .ref o_number, .ref o_before, .long o_hash])), (o_s, .inl (ca 0, 1634, .inl o_s_d))] H → va_D A [(o, .inr (7, [.ref o_s, .ref o_saved, .int o_savedCount, .ref o_text, .int o_textLength, .int w_o_code, .int o_pieceCount, .ref o_pieceCell, .int o_at, .int o_commands, .ref o_letter, .ref o_number, .ref o_before, .long o_hash])), (o_s, .inl (ca 0, 1634, .inl o_s_d))] → va_S A s.heap H locs → ∀ ls, lv_has ls 11 [(0, .ref o), (1, .int x1), (2, .int x2), (3, .int x3), (4, .int x4), (5, .int l5), (6, .int l6), (7, .int l7)] → W p l e ({ frames := 5, cells := 0, slots := 0, locals := 114 }) s m args below meth c H locs 0 0 Q (F0 m 58 ls [.int s0]) := by
        intro l5 l6 l7 s0 h H locs hP hD hS ls hl
        unfold jX8_overTime_58 at h
        refine lv_istore (lv' := [(8, .int s0), (0, .ref o), (1, .int x1), (2, .int x2), (3, .int x3), (4, .int x4), (5, .int l5), (6, .int l6), (7, .int l7)]) hx hb dX8_overTime_58 hl (by decide) rfl (fun ls hl => ?_)
        refine lv_iload hx hb dX8_overTime_60 (lv_at hl 0 rfl) ?_
        refine lv_i2l (v := (s0).toInt64) hx hb dX8_overTime_62 rfl ?_
        refine lv_iload_n hx hb dX8_overTime_63 rfl (lv_at hl 3 rfl) ?_
        refine lv_i2l (v := (x2).toInt64) hx hb dX8_overTime_64 rfl ?_
        refine lv_iload_n hx hb dX8_overTime_65 rfl (lv_at hl 4 rfl) ?_
        refine lv_i2l (v := (x3).toInt64) hx hb dX8_overTime_66 rfl ?_
        obtain ⟨r1, h_r1, h⟩ := bd_s h
        refine clSR (As := [.long (s0).toInt64, .long (x2).toInt64, .long (x3).toInt64]) (rest := []) hx hb hml hown hts gX8_overTime_X8_in rfl 3 kX8_in.2 ⟨Nat.le_of_ble_eq_true rfl, Nat.le_of_ble_eq_true rfl⟩ (ctX8_in l D ca   ((s0).toInt64) ((x2).toInt64) ((x3).toInt64) r1 h_r1) hP hK [] rfl rfl hl.1 rfl (Nat.le_of_ble_eq_true rfl) ⟨Nat.le_of_ble_eq_true rfl, Nat.le_of_ble_eq_true rfl⟩ dX8_overTime_67 rfl ?_
        refine lv_if_eq (tgt := 83) hx hb dX8_overTime_70 (by decide) (fun c2 => ?_) (fun c2 => ?_)
        · have h := ip_s h c2
          refine lv_iconst (v := (-1 : Int32)) hx hb dX8_overTime_83 (by decide) ?_
          exact J84 l5 l6 l7 (-1 : Int32) h _ _ hP hD hS ls (lv_sub hl [1, 2, 3, 4, 5, 6, 7, 8] rfl)
        · have h := in_s h c2
          refine lv_aload_n hx hb dX8_overTime_73 rfl (lv_at hl 1 rfl) ?_
          refine lv_iload_n hx hb dX8_overTime_74 rfl (lv_at hl 2 rfl) ?_
          refine lv_iload hx hb dX8_overTime_75 (lv_at hl 0 rfl) ?_
          obtain ⟨r9, h_r9, h⟩ := bd_s h
          refine clVR (As := [.int x1, .int s0]) (rest := []) hx hb hml hown hts gX8_overTime_X8_firstAt rfl 2 kX8_firstAt ⟨Nat.le_of_ble_eq_true rfl, Nat.le_of_ble_eq_true rfl⟩ (ctX8_firstAt l D ca o o_s o_saved o_text o_pieceCell o_letter o_number o_before o_savedCount o_textLength w_o_code o_pieceCount o_at o_commands o_hash o_s_d x1 s0 r9 h_r9) hP hK [0, 1] rfl 0 7 rfl rfl rfl rfl hl.1 rfl (Nat.le_of_ble_eq_true rfl) ⟨Nat.le_of_ble_eq_true rfl, Nat.le_of_ble_eq_true rfl⟩ dX8_overTime_77 rfl ?_
          refine lv_goto (tgt := 84) hx hb dX8_overTime_80 (by decide) ?_
          exact J84 l5 l6 l7 r9 h _ _ hP hD hS ls (lv_sub hl [1, 2, 3, 4, 5, 6, 7, 8] rfl)
      refine lv_iload hx hb dX8_overTime_30 (lv_at hl 7 rfl) ?_
      refine lv_iconst (v := (2 : Int32)) hx hb dX8_overTime_32 (by decide) ?_
      refine lv_aload_n hx hb dX8_overTime_33 rfl (lv_at hl 0 rfl) ?_
      refine gtF (ci := 7) (v := .ref o_s) (C := RX8) (T := TX8) (N := 14) hx hb hts inX8_overTime_X8 hown hK hP 0 rfl rfl 0 (by decide) mwX8_overTime_1 rfl rfl dX8_overTime_34 ?_
      refine lv_iconst (v := (0 : Int32)) hx hb dX8_overTime_37 (by decide) ?_
      obtain ⟨hin, y1, e_y1, h⟩ := rd_s h
      refine ldI hx hb hK hP 1 rfl hin dX8_overTime_38 ?_
      refine top_i e_y1 ?_
      refine lv_imul hx hb dX8_overTime_39 ?_
      refine lv_icmp_ge (tgt := 151) hx hb dX8_overTime_40 (by decide) (fun c2 => ?_) (fun c2 => ?_)
      · have h := ip_s h c2
        have h := xt_s hq30 h
        refine lv_iload hx hb dX8_overTime_151 (lv_at hl 5 rfl) ?_
        refine lv_if_eq (tgt := 162) hx hb dX8_overTime_153 (by decide) (fun c3 => ?_) (fun c3 => ?_)
        · have h := ip_s h c3
          refine lv_ldc2 (v := (9223372036854775807 : Int64)) hx hb hown (hts _ mwX8_overTime_2) dX8_overTime_162 ?_
          cases h
          exact hret 165 ls _ _ _ hP hD hS rfl dX8_overTime_165
        · have h := in_s h c3
          refine lv_iload hx hb dX8_overTime_156 (lv_at hl 6 rfl) ?_
          refine lv_i2l (v := (l6).toInt64) hx hb dX8_overTime_158 rfl ?_
          refine lv_goto (tgt := 165) hx hb dX8_overTime_159 (by decide) ?_
          cases h
          exact hret 165 ls _ _ _ hP hD hS rfl dX8_overTime_165
      · have h := in_s h c2
        refine lv_iload hx hb dX8_overTime_43 (lv_at hl 7 rfl) ?_
        refine lv_if_ge (tgt := 52) hx hb dX8_overTime_45 (by decide) (fun c4 => ?_) (fun c4 => ?_)
        · have h := ip_s h c4
          refine lv_aload_n hx hb dX8_overTime_52 rfl (lv_at hl 0 rfl) ?_
          refine lv_iload hx hb dX8_overTime_53 (lv_at hl 7 rfl) ?_
          obtain ⟨r5, h_r5, h⟩ := bd_s h
          refine clVR (As := [.int l7]) (rest := []) hx hb hml hown hts gX8_overTime_X8_event rfl 1 kX8_event ⟨Nat.le_of_ble_eq_true rfl, Nat.le_of_ble_eq_true rfl⟩ (ctX8_event l D ca o o_s o_saved o_text o_pieceCell o_letter o_number o_before o_savedCount o_textLength w_o_code o_pieceCount o_at o_commands o_hash o_s_d l7 r5 h_r5) hP hK [0, 1] rfl 0 7 rfl rfl rfl rfl hl.1 rfl (Nat.le_of_ble_eq_true rfl) ⟨Nat.le_of_ble_eq_true rfl, Nat.le_of_ble_eq_true rfl⟩ dX8_overTime_55 rfl ?_
          exact J58 l5 l6 l7 r5 h _ _ hP hD hS ls (lv_sub hl [0, 1, 2, 3, 4, 5, 6, 7] rfl)
        · have h := in_s h c4
          refine lv_iload_n hx hb dX8_overTime_48 rfl (lv_at hl 2 rfl) ?_
          refine lv_goto (tgt := 58) hx hb dX8_overTime_49 (by decide) ?_
          exact J58 l5 l6 l7 x2 h _ _ hP hD hS ls (lv_sub hl [0, 1, 2, 3, 4, 5, 6, 7] rfl)
  refine lv_aload_n hx hb dX8_overTime_0 rfl (lv_at hl 0 rfl) ?_
  refine lv_iconst (v := (0 : Int32)) hx hb dX8_overTime_1 (by decide) ?_
  refine ptI (ci := 7) (v := .int (0 : Int32)) (ty := .int) (C := RX8) (T := TX8) (N := 14) (wn := [(o, .inr (7, [.ref o_s, .ref o_saved, .int o_savedCount, .ref o_text, .int o_textLength, .int (0 : Int32), .int o_pieceCount, .ref o_pieceCell, .int o_at, .int o_commands, .ref o_letter, .ref o_number, .ref o_before, .long o_hash])), (o_s, .inl (ca 0, 1634, .inl o_s_d))]) hx hb hts inX8_overTime_X8 tyX8 tyX8_ok nmX8 hown hK hP hD hS 0 rfl rfl 5 (by decide) mwX8_overTime_0 rfl rfl (by decide +kernel) rfl rfl (Nat.le_of_ble_eq_true rfl) rfl dX8_overTime_2 (fun H locs hP hD hS => ?_)
  refine lv_iload_n hx hb dX8_overTime_5 rfl (lv_at hl 1 rfl) ?_
  refine lv_iload_n hx hb dX8_overTime_6 rfl (lv_at hl 2 rfl) ?_
  refine lv_iload_n hx hb dX8_overTime_7 rfl (lv_at hl 3 rfl) ?_
  obtain ⟨r1, h_r1, h⟩ := bd_s h
  refine clSR (As := [.int x1, .int x2, .int x3]) (rest := []) hx hb hml hown hts gX8_overTime_X8_isRange rfl 3 kX8_isRange.2 ⟨Nat.le_of_ble_eq_true rfl, Nat.le_of_ble_eq_true rfl⟩ (ctX8_isRange l D ca   x1 x2 x3 r1 h_r1) hP hK [] rfl rfl hl.1 rfl (Nat.le_of_ble_eq_true rfl) ⟨Nat.le_of_ble_eq_true rfl, Nat.le_of_ble_eq_true rfl⟩ dX8_overTime_8 rfl ?_
  refine lv_if_ne (tgt := 21) hx hb dX8_overTime_11 (by decide) (fun c2 => ?_) (fun c2 => ?_)
  · have h := in_s h c2
    refine lv_iconst (v := (0 : Int32)) hx hb dX8_overTime_21 (by decide) ?_
    refine lv_istore (lv' := [(5, .int (0 : Int32)), (0, .ref o), (1, .int x1), (2, .int x2), (3, .int x3), (4, .int x4)]) hx hb dX8_overTime_22 hl (by decide) rfl (fun ls hl => ?_)
    refine lv_iconst (v := (0 : Int32)) hx hb dX8_overTime_24 (by decide) ?_
    refine lv_istore (lv' := [(6, .int (0 : Int32)), (5, .int (0 : Int32)), (0, .ref o), (1, .int x1), (2, .int x2), (3, .int x3), (4, .int x4)]) hx hb dX8_overTime_25 hl (by decide) rfl (fun ls hl => ?_)
    refine lv_iconst (v := (-1 : Int32)) hx hb dX8_overTime_27 (by decide) ?_
    refine lv_istore (lv' := [(7, .int (-1 : Int32)), (6, .int (0 : Int32)), (5, .int (0 : Int32)), (0, .ref o), (1, .int x1), (2, .int x2), (3, .int x3), (4, .int x4)]) hx hb dX8_overTime_28 hl (by decide) rfl (fun ls hl => ?_)
    exact L30 (0 : Int32) fuel (0 : Int32) (0 : Int32) (-1 : Int32) h _ _ hP hD hS ls (lv_sub hl [3, 4, 5, 6, 7, 2, 1, 0] rfl)
  · have h := ip_s h c2
    refine lv_aload_n hx hb dX8_overTime_14 rfl (lv_at hl 0 rfl) ?_
    refine lv_iconst (v := (1 : Int32)) hx hb dX8_overTime_15 (by decide) ?_
    obtain ⟨⟨r10_0, r10_1⟩, h_r10, h⟩ := bd_s h
    have h := up2_s h
    refine clVW (As := [.int (1 : Int32)]) (rest := []) (wr := [(o_s, .inl (ca 0, 1634, .inl o_s_d))]) (wn := [(o_s, .inl (ca 0, 1634, .inl o_s_d)), (o, .inr (7, [.ref o_s, .ref o_saved, .int o_savedCount, .ref o_text, .int o_textLength, .int r10_1, .int o_pieceCount, .ref o_pieceCell, .int o_at, .int o_commands, .ref o_letter, .ref o_number, .ref o_before, .long o_hash]))]) hx hb hml hown hts gX8_overTime_X8_fails rfl 1 kX8_fails ⟨Nat.le_of_ble_eq_true rfl, Nat.le_of_ble_eq_true rfl⟩ (ctX8_fails l D ca o o_s o_saved o_text o_pieceCell o_letter o_number o_before o_savedCount o_textLength (0 : Int32) o_pieceCount o_at o_commands o_hash (1 : Int32) _ r10_0 r10_1 h_r10) hP hD hS hA hK [0] [1] rfl (by decide) rfl (by decide) (by decide) 0 7 rfl rfl rfl rfl hl.1 rfl (Nat.le_of_ble_eq_true rfl) ⟨Nat.le_of_ble_eq_true rfl, Nat.le_of_ble_eq_true rfl⟩ dX8_overTime_16 rfl rfl (fun H locs hP hD hS => ?_)
    refine lv_i2l (v := (r10_0).toInt64) hx hb dX8_overTime_19 rfl ?_
    have hP := hP.sub (ws' := [(o, .inr (7, [.ref o_s, .ref o_saved, .int o_savedCount, .ref o_text, .int o_textLength, .int r10_1, .int o_pieceCount, .ref o_pieceCell, .int o_at, .int o_commands, .ref o_letter, .ref o_number, .ref o_before, .long o_hash])), (o_s, .inl (ca 0, 1634, .inl o_s_d))]) [1, 0] rfl
    have hD := hD.sub (ws' := [(o, .inr (7, [.ref o_s, .ref o_saved, .int o_savedCount, .ref o_text, .int o_textLength, .int r10_1, .int o_pieceCount, .ref o_pieceCell, .int o_at, .int o_commands, .ref o_letter, .ref o_number, .ref o_before, .long o_hash])), (o_s, .inl (ca 0, 1634, .inl o_s_d))]) [1, 0] (by decide) rfl
    cases h
    exact hret 20 ls _ _ _ hP hD hS rfl dX8_overTime_20
theorem mwX8_eventBehind_0 : Cond.fieldLink RX8 7 "SegmentTimesModel" "s" "[I" ∈ wsX8_eventBehind := List.mem_of_getElem? (i := 1) rfl
theorem inX8_eventBehind_X8 : ∀ w ∈ u_ws RX8 TX8 14, w ∈ wsX8_eventBehind := fun w h => List.mem_cons_of_mem _ (List.mem_append_right _ (h))
theorem kX8_eventBehind : yX8_eventBehind.cls = RX8 ∧ yX8_eventBehind.cls ≠ "java/lang/invoke/MethodHandle" ∧ yX8_eventBehind.cls ≠ "java/lang/invoke/VarHandle" ∧ (parseMethodDescriptor yX8_eventBehind.desc).map (fun d => d.parameters.length) = some 1 := by decide +kernel
set_option maxHeartbeats 4000000 in
set_option maxRecDepth 100000 in
theorem ctX8_eventBehind (l : Launch) (D : va_G) (ca : Nat → ClassId) (o : Nat) (o_s : Nat) (o_saved : Nat) (o_text : Nat) (o_pieceCell : Nat) (o_letter : Nat) (o_number : Nat) (o_before : Nat) (o_savedCount : Int32) (o_textLength : Int32) (o_code : Int32) (o_pieceCount : Int32) (o_at : Int32) (o_commands : Int32) (o_hash : Int64) (o_s_d : Nat → Int32) (x1 : Int32) (u0 : Int32) (hf : fX8_eventBehind o_s_d x1 = some u0) : MR l yX8_eventBehind wsX8_eventBehind 3 64 D ca [.ref o, .int x1] [(o, .inr (7, [.ref o_s, .ref o_saved, .int o_savedCount, .ref o_text, .int o_textLength, .int o_code, .int o_pieceCount, .ref o_pieceCell, .int o_at, .int o_commands, .ref o_letter, .ref o_number, .ref o_before, .long o_hash])), (o_s, .inl (ca 0, 1634, .inl o_s_d))] (some (.int u0)) := by
  refine hdRi (plainFor_of_name (by decide +kernel)) rfl (Nat.le_of_ble_eq_true rfl) ?_
  intro p e s m args below meth c Q hx hb hml hown hts hP hK hret ls hl
  have hown : s.vm.findClass RX8 = some m.cls := hown
  have hl : lv_has ls 4 [(0, .ref o), (1, .int x1)] := hl
  have h := hf
  unfold fX8_eventBehind at h
  clear hf
  have L6 : ∀  (n : Nat) (l2 : Int32) (l3 : Int32), lp (fun q => bX8_eventBehind_6 o_s_d x1  q.1 q.2) n (l2, l3) = some u0 → ∀ ls, lv_has ls 4 [(0, .ref o), (1, .int x1), (2, .int l2), (3, .int l3)] → W p l e ({ frames := 3, cells := 0, slots := 0, locals := 64 }) s m args below meth c s.heap [] 0 0 Q (F0 m 6 ls []) := by
    intro  n
    induction n with
    | zero => intro l2 l3 h; exact (lp_0 h).elim
    | succ n ih6 =>
      intro l2 l3 h ls hl
      obtain ⟨q6, h, hq6⟩ := lp_s h
      have h : bX8_eventBehind_6 o_s_d x1  l2 l3 = some q6 := h
      unfold bX8_eventBehind_6 at h
      refine lv_iload_n hx hb dX8_eventBehind_6 rfl (lv_at hl 3 rfl) ?_
      refine lv_iconst (v := (2 : Int32)) hx hb dX8_eventBehind_7 (by decide) ?_
      refine lv_aload_n hx hb dX8_eventBehind_8 rfl (lv_at hl 0 rfl) ?_
      refine gtF (ci := 7) (v := .ref o_s) (C := RX8) (T := TX8) (N := 14) hx hb hts inX8_eventBehind_X8 hown hK hP 0 rfl rfl 0 (by decide) mwX8_eventBehind_0 rfl rfl dX8_eventBehind_9 ?_
      refine lv_iconst (v := (0 : Int32)) hx hb dX8_eventBehind_12 (by decide) ?_
      obtain ⟨hin, y1, e_y1, h⟩ := rd_s h
      refine ldI hx hb hK hP 1 rfl hin dX8_eventBehind_13 ?_
      refine top_i e_y1 ?_
      refine lv_imul hx hb dX8_eventBehind_14 ?_
      refine lv_icmp_ge (tgt := 52) hx hb dX8_eventBehind_15 (by decide) (fun c2 => ?_) (fun c2 => ?_)
      · have h := ip_s h c2
        have h := xt_s hq6 h
        refine lv_iload_n hx hb dX8_eventBehind_52 rfl (lv_at hl 2 rfl) ?_
        cases h
        exact hret 53 ls _ rfl dX8_eventBehind_53
      · have h := in_s h c2
        refine lv_aload_n hx hb dX8_eventBehind_18 rfl (lv_at hl 0 rfl) ?_
        refine lv_iload_n hx hb dX8_eventBehind_19 rfl (lv_at hl 3 rfl) ?_
        obtain ⟨r3, h_r3, h⟩ := bd_s h
        refine clVR (As := [.int l3]) (rest := []) hx hb hml hown hts gX8_eventBehind_X8_event rfl 1 kX8_event ⟨Nat.le_of_ble_eq_true rfl, Nat.le_of_ble_eq_true rfl⟩ (ctX8_event l D ca o o_s o_saved o_text o_pieceCell o_letter o_number o_before o_savedCount o_textLength o_code o_pieceCount o_at o_commands o_hash o_s_d l3 r3 h_r3) hP hK [0, 1] rfl 0 7 rfl rfl rfl rfl hl.1 rfl (Nat.le_of_ble_eq_true rfl) ⟨Nat.le_of_ble_eq_true rfl, Nat.le_of_ble_eq_true rfl⟩ dX8_eventBehind_20 rfl ?_
        refine lv_iload_n hx hb dX8_eventBehind_23 rfl (lv_at hl 1 rfl) ?_
        refine lv_icmp_le (tgt := 44) hx hb dX8_eventBehind_24 (by decide) (fun c4 => ?_) (fun c4 => ?_)
        · have h := ip_s h c4
          refine lv_iload_n hx hb dX8_eventBehind_44 rfl (lv_at hl 2 rfl) ?_
          refine lv_istore_n (lv' := [(2, .int l2), (0, .ref o), (1, .int x1), (3, .int l3)]) hx hb dX8_eventBehind_45 rfl hl (by decide) rfl (fun ls hl => ?_)
          obtain ⟨y5, e_y5, h⟩ := nm_s h
          refine lv_iinc (v := y5) (lv' := [(3, .int y5), (2, .int l2), (0, .ref o), (1, .int x1)]) hx hb dX8_eventBehind_46 hl (k := 3) rfl (by rw [e_y5]; rfl) (by decide) rfl (fun ls hl => ?_)
          refine lv_goto (tgt := 6) hx hb dX8_eventBehind_49 (by decide) ?_
          exact ih6 l2 y5 (lp_l hq6 h) ls (lv_sub hl [2, 3, 1, 0] rfl)
        · have h := in_s h c4
          refine lv_aload_n hx hb dX8_eventBehind_27 rfl (lv_at hl 0 rfl) ?_
          refine lv_iload_n hx hb dX8_eventBehind_28 rfl (lv_at hl 3 rfl) ?_
          obtain ⟨r6, h_r6, h⟩ := bd_s h
          refine clVR (As := [.int l3]) (rest := []) hx hb hml hown hts gX8_eventBehind_X8_event rfl 1 kX8_event ⟨Nat.le_of_ble_eq_true rfl, Nat.le_of_ble_eq_true rfl⟩ (ctX8_event l D ca o o_s o_saved o_text o_pieceCell o_letter o_number o_before o_savedCount o_textLength o_code o_pieceCount o_at o_commands o_hash o_s_d l3 r6 h_r6) hP hK [0, 1] rfl 0 7 rfl rfl rfl rfl hl.1 rfl (Nat.le_of_ble_eq_true rfl) ⟨Nat.le_of_ble_eq_true rfl, Nat.le_of_ble_eq_true rfl⟩ dX8_eventBehind_29 rfl ?_
          refine lv_iload_n hx hb dX8_eventBehind_32 rfl (lv_at hl 2 rfl) ?_
          refine lv_icmp_ge (tgt := 44) hx hb dX8_eventBehind_33 (by decide) (fun c7 => ?_) (fun c7 => ?_)
          · have h := ip_s h c7
            refine lv_iload_n hx hb dX8_eventBehind_44 rfl (lv_at hl 2 rfl) ?_
            refine lv_istore_n (lv' := [(2, .int l2), (0, .ref o), (1, .int x1), (3, .int l3)]) hx hb dX8_eventBehind_45 rfl hl (by decide) rfl (fun ls hl => ?_)
            obtain ⟨y8, e_y8, h⟩ := nm_s h
            refine lv_iinc (v := y8) (lv' := [(3, .int y8), (2, .int l2), (0, .ref o), (1, .int x1)]) hx hb dX8_eventBehind_46 hl (k := 3) rfl (by rw [e_y8]; rfl) (by decide) rfl (fun ls hl => ?_)
            refine lv_goto (tgt := 6) hx hb dX8_eventBehind_49 (by decide) ?_
            exact ih6 l2 y8 (lp_l hq6 h) ls (lv_sub hl [2, 3, 1, 0] rfl)
          · have h := in_s h c7
            refine lv_aload_n hx hb dX8_eventBehind_36 rfl (lv_at hl 0 rfl) ?_
            refine lv_iload_n hx hb dX8_eventBehind_37 rfl (lv_at hl 3 rfl) ?_
            obtain ⟨r9, h_r9, h⟩ := bd_s h
            refine clVR (As := [.int l3]) (rest := []) hx hb hml hown hts gX8_eventBehind_X8_event rfl 1 kX8_event ⟨Nat.le_of_ble_eq_true rfl, Nat.le_of_ble_eq_true rfl⟩ (ctX8_event l D ca o o_s o_saved o_text o_pieceCell o_letter o_number o_before o_savedCount o_textLength o_code o_pieceCount o_at o_commands o_hash o_s_d l3 r9 h_r9) hP hK [0, 1] rfl 0 7 rfl rfl rfl rfl hl.1 rfl (Nat.le_of_ble_eq_true rfl) ⟨Nat.le_of_ble_eq_true rfl, Nat.le_of_ble_eq_true rfl⟩ dX8_eventBehind_38 rfl ?_
            refine lv_goto (tgt := 45) hx hb dX8_eventBehind_41 (by decide) ?_
            refine lv_istore_n (lv' := [(2, .int r9), (0, .ref o), (1, .int x1), (3, .int l3)]) hx hb dX8_eventBehind_45 rfl hl (by decide) rfl (fun ls hl => ?_)
            obtain ⟨y10, e_y10, h⟩ := nm_s h
            refine lv_iinc (v := y10) (lv' := [(3, .int y10), (2, .int r9), (0, .ref o), (1, .int x1)]) hx hb dX8_eventBehind_46 hl (k := 3) rfl (by rw [e_y10]; rfl) (by decide) rfl (fun ls hl => ?_)
            refine lv_goto (tgt := 6) hx hb dX8_eventBehind_49 (by decide) ?_
            exact ih6 r9 y10 (lp_l hq6 h) ls (lv_sub hl [2, 3, 1, 0] rfl)
  refine lv_sipush (v := (16384 : Int32)) hx hb dX8_eventBehind_0 (by decide) ?_
  refine lv_istore_n (lv' := [(2, .int (16384 : Int32)), (0, .ref o), (1, .int x1)]) hx hb dX8_eventBehind_3 rfl hl (by decide) rfl (fun ls hl => ?_)
  refine lv_iconst (v := (0 : Int32)) hx hb dX8_eventBehind_4 (by decide) ?_
  refine lv_istore_n (lv' := [(3, .int (0 : Int32)), (2, .int (16384 : Int32)), (0, .ref o), (1, .int x1)]) hx hb dX8_eventBehind_5 rfl hl (by decide) rfl (fun ls hl => ?_)
  exact L6  fuel (16384 : Int32) (0 : Int32) h ls (lv_sub hl [2, 3, 1, 0] rfl)
theorem mwX8_leads_0 : Cond.fieldLink RX8 31 "SegmentTimesModel" "code" "I" ∈ wsX8_leads := List.mem_of_getElem? (i := 1) rfl
theorem inX8_leads_X8 : ∀ w ∈ u_ws RX8 TX8 14, w ∈ wsX8_leads := fun w h => List.mem_cons_of_mem _ (List.mem_append_right _ (h))
theorem kX8_leads : yX8_leads.cls = RX8 ∧ yX8_leads.cls ≠ "java/lang/invoke/MethodHandle" ∧ yX8_leads.cls ≠ "java/lang/invoke/VarHandle" ∧ (parseMethodDescriptor yX8_leads.desc).map (fun d => d.parameters.length) = some 2 := by decide +kernel
set_option maxHeartbeats 4000000 in
set_option maxRecDepth 100000 in
theorem ctX8_leads (l : Launch) (D : va_G) (ca : Nat → ClassId) (o : Nat) (o_s : Nat) (o_saved : Nat) (o_text : Nat) (o_pieceCell : Nat) (o_letter : Nat) (o_number : Nat) (o_before : Nat) (o_savedCount : Int32) (o_textLength : Int32) (o_code : Int32) (o_pieceCount : Int32) (o_at : Int32) (o_commands : Int32) (o_hash : Int64) (o_s_d : Nat → Int32) (x1 : Int32) (x2 : Int32) (sz : Nat) (u0 : Int32) (u1 : Int32) (hf : fX8_leads o_code o_s_d x1 x2 = some (u0, u1)) : MW l yX8_leads wsX8_leads 5 114 D ca [.ref o, .int x1, .int x2] sz [(o, .inr (7, [.ref o_s, .ref o_saved, .int o_savedCount, .ref o_text, .int o_textLength, .int o_code, .int o_pieceCount, .ref o_pieceCell, .int o_at, .int o_commands, .ref o_letter, .ref o_number, .ref o_before, .long o_hash])), (o_s, .inl (ca 0, 1634, .inl o_s_d))] (some (.int u0)) [(o, .inr (7, [.ref o_s, .ref o_saved, .int o_savedCount, .ref o_text, .int o_textLength, .int u1, .int o_pieceCount, .ref o_pieceCell, .int o_at, .int o_commands, .ref o_letter, .ref o_number, .ref o_before, .long o_hash])), (o_s, .inl (ca 0, 1634, .inl o_s_d))] := by
  refine hdWi (by decide +kernel) rfl (Nat.le_of_ble_eq_true rfl) ?_
  intro p e s m args below meth c A Q hx hb hml hown hts hP hD hK hA hS hret ls hl
  have hown : s.vm.findClass RX8 = some m.cls := hown
  have hl : lv_has ls 6 [(0, .ref o), (1, .int x1), (2, .int x2)] := hl
  have h := hf
  unfold fX8_leads at h
  clear hf
  have L42 : ∀ (w_o_code : Int32) (n : Nat) (l3 : Int32) (l4 : Int32), lp (fun q => bX8_leads_42 o_s_d x1 x2 w_o_code q.1 q.2) n (l3, l4) = some (u0, u1) → ∀ (H : Heap) (locs : List Loc), va_P D vwCl [(o, .inr (7, [.ref o_s, .ref o_saved, .int o_savedCount, .ref o_text, .int o_textLength, .int w_o_code, .int o_pieceCount, .ref o_pieceCell, .int o_at, .int o_commands, .ref o_letter, .ref o_number, .ref o_before, .long o_hash])), (o_s, .inl (ca 0, 1634, .inl o_s_d))] H → va_D A [(o, .inr (7, [.ref o_s, .ref o_saved, .int o_savedCount, .ref o_text, .int o_textLength, .int w_o_code, .int o_pieceCount, .ref o_pieceCell, .int o_at, .int o_commands, .ref o_letter, .ref o_number, .ref o_before, .long o_hash])), (o_s, .inl (ca 0, 1634, .inl o_s_d))] → va_S A s.heap H locs → ∀ ls, lv_has ls 6 [(0, .ref o), (1, .int x1), (2, .int x2), (3, .int l3), (4, .int l4)] → W p l e ({ frames := 5, cells := 0, slots := 0, locals := 114 }) s m args below meth c H locs 0 0 Q (F0 m 42 ls []) := by
    intro w_o_code n
    induction n with
    | zero => intro l3 l4 h; exact (lp_0 h).elim
    | succ n ih42 =>
      intro l3 l4 h H locs hP hD hS ls hl
      obtain ⟨q42, h, hq42⟩ := lp_s h
      have h : bX8_leads_42 o_s_d x1 x2 w_o_code l3 l4 = some q42 := h
      unfold bX8_leads_42 at h
      have J82 : ∀ (l5 : Int32) (s0 : Int32) (s1 : Int32), jX8_leads_82  l5 s0 s1 = some q42 → ∀ (H : Heap) (locs : List Loc), va_P D vwCl [(o, .inr (7, [.ref o_s, .ref o_saved, .int o_savedCount, .ref o_text, .int o_textLength, .int w_o_code, .int o_pieceCount, .ref o_pieceCell, .int o_at, .int o_commands, .ref o_letter, .ref o_number, .ref o_before, .long o_hash])), (o_s, .inl (ca 0, 1634, .inl o_s_d))] H → va_D A [(o, .inr (7, [.ref o_s, .ref o_saved, .int o_savedCount, .ref o_text, .int o_textLength, .int w_o_code, .int o_pieceCount, .ref o_pieceCell, .int o_at, .int o_commands, .ref o_letter, .ref o_number, .ref o_before, .long o_hash])), (o_s, .inl (ca 0, 1634, .inl o_s_d))] → va_S A s.heap H locs → ∀ ls, lv_has ls 6 [(0, .ref o), (1, .int x1), (2, .int x2), (5, .int l5)] → W p l e ({ frames := 5, cells := 0, slots := 0, locals := 114 }) s m args below meth c H locs 0 0 Q (F0 m 82 ls [.int s1, .int s0]) := by
        intro l5 s0 s1 h H locs hP hD hS ls hl
        unfold jX8_leads_82 at h
        refine lv_iadd hx hb dX8_leads_82 ?_
        obtain ⟨y1, e_y1, h⟩ := nm_s h
        refine top_i e_y1 ?_
        refine lv_istore_n (lv' := [(3, .int y1), (0, .ref o), (1, .int x1), (2, .int x2), (5, .int l5)]) hx hb dX8_leads_83 rfl hl (by decide) rfl (fun ls hl => ?_)
        refine lv_iload hx hb dX8_leads_84 (lv_at hl 4 rfl) ?_
        refine lv_istore (lv' := [(4, .int l5), (3, .int y1), (0, .ref o), (1, .int x1), (2, .int x2), (5, .int l5)]) hx hb dX8_leads_86 hl (by decide) rfl (fun ls hl => ?_)
        refine lv_goto (tgt := 42) hx hb dX8_leads_88 (by decide) ?_
        exact ih42 y1 l5 (lp_l hq42 h) _ _ hP hD hS ls (lv_sub hl [2, 3, 4, 1, 0] rfl)
      refine lv_iload hx hb dX8_leads_42 (lv_at hl 4 rfl) ?_
      refine lv_aload_n hx hb dX8_leads_44 rfl (lv_at hl 0 rfl) ?_
      refine lv_iload_n hx hb dX8_leads_45 rfl (lv_at hl 1 rfl) ?_
      refine lv_iconst (v := (5 : Int32)) hx hb dX8_leads_46 (by decide) ?_
      obtain ⟨r1, h_r1, h⟩ := bd_s h
      refine clVR (As := [.int x1, .int (5 : Int32)]) (rest := [.int l4]) hx hb hml hown hts gX8_leads_X8_of rfl 2 kX8_of ⟨Nat.le_of_ble_eq_true rfl, Nat.le_of_ble_eq_true rfl⟩ (ctX8_of l D ca o o_s o_saved o_text o_pieceCell o_letter o_number o_before o_savedCount o_textLength w_o_code o_pieceCount o_at o_commands o_hash o_s_d x1 (5 : Int32) r1 h_r1) hP hK [0, 1] rfl 0 7 rfl rfl rfl rfl hl.1 rfl (Nat.le_of_ble_eq_true rfl) ⟨Nat.le_of_ble_eq_true rfl, Nat.le_of_ble_eq_true rfl⟩ dX8_leads_47 rfl ?_
      refine lv_icmp_ge (tgt := 91) hx hb dX8_leads_50 (by decide) (fun c2 => ?_) (fun c2 => ?_)
      · have h := ip_s h c2
        have h := xt_s hq42 h
        refine lv_iload_n hx hb dX8_leads_91 rfl (lv_at hl 3 rfl) ?_
        cases h
        exact hret 92 ls _ _ _ hP hD hS rfl dX8_leads_92
      · have h := in_s h c2
        refine lv_aload_n hx hb dX8_leads_53 rfl (lv_at hl 0 rfl) ?_
        refine lv_iload hx hb dX8_leads_54 (lv_at hl 4 rfl) ?_
        obtain ⟨r3, h_r3, h⟩ := bd_s h
        refine clVR (As := [.int l4]) (rest := []) hx hb hml hown hts gX8_leads_X8_eventBehind rfl 1 kX8_eventBehind ⟨Nat.le_of_ble_eq_true rfl, Nat.le_of_ble_eq_true rfl⟩ (ctX8_eventBehind l D ca o o_s o_saved o_text o_pieceCell o_letter o_number o_before o_savedCount o_textLength w_o_code o_pieceCount o_at o_commands o_hash o_s_d l4 r3 h_r3) hP hK [0, 1] rfl 0 7 rfl rfl rfl rfl hl.1 rfl (Nat.le_of_ble_eq_true rfl) ⟨Nat.le_of_ble_eq_true rfl, Nat.le_of_ble_eq_true rfl⟩ dX8_leads_56 rfl ?_
        refine lv_istore (lv' := [(5, .int r3), (0, .ref o), (1, .int x1), (2, .int x2), (3, .int l3), (4, .int l4)]) hx hb dX8_leads_59 hl (by decide) rfl (fun ls hl => ?_)
        refine lv_iload_n hx hb dX8_leads_61 rfl (lv_at hl 4 rfl) ?_
        refine lv_aload_n hx hb dX8_leads_62 rfl (lv_at hl 1 rfl) ?_
        refine lv_iload_n hx hb dX8_leads_63 rfl (lv_at hl 3 rfl) ?_
        refine lv_iload hx hb dX8_leads_64 (lv_at hl 5 rfl) ?_
        obtain ⟨r4, h_r4, h⟩ := bd_s h
        refine clVR (As := [.int x2, .int l4]) (rest := [.int l3]) hx hb hml hown hts gX8_leads_X8_firstAt rfl 2 kX8_firstAt ⟨Nat.le_of_ble_eq_true rfl, Nat.le_of_ble_eq_true rfl⟩ (ctX8_firstAt l D ca o o_s o_saved o_text o_pieceCell o_letter o_number o_before o_savedCount o_textLength w_o_code o_pieceCount o_at o_commands o_hash o_s_d x2 l4 r4 h_r4) hP hK [0, 1] rfl 0 7 rfl rfl rfl rfl hl.1 rfl (Nat.le_of_ble_eq_true rfl) ⟨Nat.le_of_ble_eq_true rfl, Nat.le_of_ble_eq_true rfl⟩ dX8_leads_66 rfl ?_
        refine lv_iload_n hx hb dX8_leads_69 rfl (lv_at hl 2 rfl) ?_
        refine lv_icmp_ne (tgt := 81) hx hb dX8_leads_70 (by decide) (fun c5 => ?_) (fun c5 => ?_)
        · have h := in_s h c5
          refine lv_iconst (v := (0 : Int32)) hx hb dX8_leads_81 (by decide) ?_
          exact J82 r3 l3 (0 : Int32) h _ _ hP hD hS ls (lv_sub hl [1, 2, 3, 0] rfl)
        · have h := ip_s h c5
          refine lv_iload hx hb dX8_leads_73 (lv_at hl 0 rfl) ?_
          refine lv_iload hx hb dX8_leads_75 (lv_at hl 5 rfl) ?_
          refine lv_isub hx hb dX8_leads_77 ?_
          refine lv_goto (tgt := 82) hx hb dX8_leads_78 (by decide) ?_
          exact J82 r3 l3 (r3 - l4) h _ _ hP hD hS ls (lv_sub hl [1, 2, 3, 0] rfl)
  refine lv_aload_n hx hb dX8_leads_0 rfl (lv_at hl 0 rfl) ?_
  refine lv_iconst (v := (0 : Int32)) hx hb dX8_leads_1 (by decide) ?_
  refine ptI (ci := 7) (v := .int (0 : Int32)) (ty := .int) (C := RX8) (T := TX8) (N := 14) (wn := [(o, .inr (7, [.ref o_s, .ref o_saved, .int o_savedCount, .ref o_text, .int o_textLength, .int (0 : Int32), .int o_pieceCount, .ref o_pieceCell, .int o_at, .int o_commands, .ref o_letter, .ref o_number, .ref o_before, .long o_hash])), (o_s, .inl (ca 0, 1634, .inl o_s_d))]) hx hb hts inX8_leads_X8 tyX8 tyX8_ok nmX8 hown hK hP hD hS 0 rfl rfl 5 (by decide) mwX8_leads_0 rfl rfl (by decide +kernel) rfl rfl (Nat.le_of_ble_eq_true rfl) rfl dX8_leads_2 (fun H locs hP hD hS => ?_)
  refine lv_aload_n hx hb dX8_leads_5 rfl (lv_at hl 0 rfl) ?_
  refine lv_iload_n hx hb dX8_leads_6 rfl (lv_at hl 1 rfl) ?_
  obtain ⟨r1, h_r1, h⟩ := bd_s h
  refine clVR (As := [.int x1]) (rest := []) hx hb hml hown hts gX8_leads_X8_isSegment rfl 1 kX8_isSegment ⟨Nat.le_of_ble_eq_true rfl, Nat.le_of_ble_eq_true rfl⟩ (ctX8_isSegment l D ca o o_s o_saved o_text o_pieceCell o_letter o_number o_before o_savedCount o_textLength (0 : Int32) o_pieceCount o_at o_commands o_hash o_s_d x1 r1 h_r1) hP hK [0, 1] rfl 0 7 rfl rfl rfl rfl hl.1 rfl (Nat.le_of_ble_eq_true rfl) ⟨Nat.le_of_ble_eq_true rfl, Nat.le_of_ble_eq_true rfl⟩ dX8_leads_7 rfl ?_
  refine lv_if_ne (tgt := 19) hx hb dX8_leads_10 (by decide) (fun c2 => ?_) (fun c2 => ?_)
  · have h := in_s h c2
    refine lv_iload_n hx hb dX8_leads_19 rfl (lv_at hl 2 rfl) ?_
    obtain ⟨r3, h_r3, h⟩ := bd_s h
    refine clSR (As := [.int x2]) (rest := []) hx hb hml hown hts gX8_leads_X8_isPosition rfl 1 kX8_isPosition.2 ⟨Nat.le_of_ble_eq_true rfl, Nat.le_of_ble_eq_true rfl⟩ (ctX8_isPosition l D ca   x2 r3 h_r3) hP hK [] rfl rfl hl.1 rfl (Nat.le_of_ble_eq_true rfl) ⟨Nat.le_of_ble_eq_true rfl, Nat.le_of_ble_eq_true rfl⟩ dX8_leads_20 rfl ?_
    refine lv_if_ne (tgt := 32) hx hb dX8_leads_23 (by decide) (fun c4 => ?_) (fun c4 => ?_)
    · have h := in_s h c4
      refine lv_iconst (v := (0 : Int32)) hx hb dX8_leads_32 (by decide) ?_
      refine lv_istore_n (lv' := [(3, .int (0 : Int32)), (0, .ref o), (1, .int x1), (2, .int x2)]) hx hb dX8_leads_33 rfl hl (by decide) rfl (fun ls hl => ?_)
      refine lv_aload_n hx hb dX8_leads_34 rfl (lv_at hl 1 rfl) ?_
      refine lv_iload_n hx hb dX8_leads_35 rfl (lv_at hl 2 rfl) ?_
      refine lv_iconst (v := (4 : Int32)) hx hb dX8_leads_36 (by decide) ?_
      obtain ⟨r5, h_r5, h⟩ := bd_s h
      refine clVR (As := [.int x1, .int (4 : Int32)]) (rest := []) hx hb hml hown hts gX8_leads_X8_of rfl 2 kX8_of ⟨Nat.le_of_ble_eq_true rfl, Nat.le_of_ble_eq_true rfl⟩ (ctX8_of l D ca o o_s o_saved o_text o_pieceCell o_letter o_number o_before o_savedCount o_textLength (0 : Int32) o_pieceCount o_at o_commands o_hash o_s_d x1 (4 : Int32) r5 h_r5) hP hK [0, 1] rfl 0 7 rfl rfl rfl rfl hl.1 rfl (Nat.le_of_ble_eq_true rfl) ⟨Nat.le_of_ble_eq_true rfl, Nat.le_of_ble_eq_true rfl⟩ dX8_leads_37 rfl ?_
      refine lv_istore (lv' := [(4, .int r5), (3, .int (0 : Int32)), (0, .ref o), (1, .int x1), (2, .int x2)]) hx hb dX8_leads_40 hl (by decide) rfl (fun ls hl => ?_)
      exact L42 (0 : Int32) fuel (0 : Int32) r5 h _ _ hP hD hS ls (lv_sub hl [2, 3, 4, 1, 0] rfl)
    · have h := ip_s h c4
      refine lv_aload_n hx hb dX8_leads_26 rfl (lv_at hl 0 rfl) ?_
      refine lv_iconst (v := (2 : Int32)) hx hb dX8_leads_27 (by decide) ?_
      obtain ⟨⟨r6_0, r6_1⟩, h_r6, h⟩ := bd_s h
      have h := up2_s h
      refine clVW (As := [.int (2 : Int32)]) (rest := []) (wr := [(o_s, .inl (ca 0, 1634, .inl o_s_d))]) (wn := [(o_s, .inl (ca 0, 1634, .inl o_s_d)), (o, .inr (7, [.ref o_s, .ref o_saved, .int o_savedCount, .ref o_text, .int o_textLength, .int r6_1, .int o_pieceCount, .ref o_pieceCell, .int o_at, .int o_commands, .ref o_letter, .ref o_number, .ref o_before, .long o_hash]))]) hx hb hml hown hts gX8_leads_X8_fails rfl 1 kX8_fails ⟨Nat.le_of_ble_eq_true rfl, Nat.le_of_ble_eq_true rfl⟩ (ctX8_fails l D ca o o_s o_saved o_text o_pieceCell o_letter o_number o_before o_savedCount o_textLength (0 : Int32) o_pieceCount o_at o_commands o_hash (2 : Int32) _ r6_0 r6_1 h_r6) hP hD hS hA hK [0] [1] rfl (by decide) rfl (by decide) (by decide) 0 7 rfl rfl rfl rfl hl.1 rfl (Nat.le_of_ble_eq_true rfl) ⟨Nat.le_of_ble_eq_true rfl, Nat.le_of_ble_eq_true rfl⟩ dX8_leads_28 rfl rfl (fun H locs hP hD hS => ?_)
      have hP := hP.sub (ws' := [(o, .inr (7, [.ref o_s, .ref o_saved, .int o_savedCount, .ref o_text, .int o_textLength, .int r6_1, .int o_pieceCount, .ref o_pieceCell, .int o_at, .int o_commands, .ref o_letter, .ref o_number, .ref o_before, .long o_hash])), (o_s, .inl (ca 0, 1634, .inl o_s_d))]) [1, 0] rfl
      have hD := hD.sub (ws' := [(o, .inr (7, [.ref o_s, .ref o_saved, .int o_savedCount, .ref o_text, .int o_textLength, .int r6_1, .int o_pieceCount, .ref o_pieceCell, .int o_at, .int o_commands, .ref o_letter, .ref o_number, .ref o_before, .long o_hash])), (o_s, .inl (ca 0, 1634, .inl o_s_d))]) [1, 0] (by decide) rfl
      cases h
      exact hret 31 ls _ _ _ hP hD hS rfl dX8_leads_31
  · have h := ip_s h c2
    refine lv_aload_n hx hb dX8_leads_13 rfl (lv_at hl 0 rfl) ?_
    refine lv_iconst (v := (1 : Int32)) hx hb dX8_leads_14 (by decide) ?_
    obtain ⟨⟨r7_0, r7_1⟩, h_r7, h⟩ := bd_s h
    have h := up2_s h
    refine clVW (As := [.int (1 : Int32)]) (rest := []) (wr := [(o_s, .inl (ca 0, 1634, .inl o_s_d))]) (wn := [(o_s, .inl (ca 0, 1634, .inl o_s_d)), (o, .inr (7, [.ref o_s, .ref o_saved, .int o_savedCount, .ref o_text, .int o_textLength, .int r7_1, .int o_pieceCount, .ref o_pieceCell, .int o_at, .int o_commands, .ref o_letter, .ref o_number, .ref o_before, .long o_hash]))]) hx hb hml hown hts gX8_leads_X8_fails rfl 1 kX8_fails ⟨Nat.le_of_ble_eq_true rfl, Nat.le_of_ble_eq_true rfl⟩ (ctX8_fails l D ca o o_s o_saved o_text o_pieceCell o_letter o_number o_before o_savedCount o_textLength (0 : Int32) o_pieceCount o_at o_commands o_hash (1 : Int32) _ r7_0 r7_1 h_r7) hP hD hS hA hK [0] [1] rfl (by decide) rfl (by decide) (by decide) 0 7 rfl rfl rfl rfl hl.1 rfl (Nat.le_of_ble_eq_true rfl) ⟨Nat.le_of_ble_eq_true rfl, Nat.le_of_ble_eq_true rfl⟩ dX8_leads_15 rfl rfl (fun H locs hP hD hS => ?_)
    have hP := hP.sub (ws' := [(o, .inr (7, [.ref o_s, .ref o_saved, .int o_savedCount, .ref o_text, .int o_textLength, .int r7_1, .int o_pieceCount, .ref o_pieceCell, .int o_at, .int o_commands, .ref o_letter, .ref o_number, .ref o_before, .long o_hash])), (o_s, .inl (ca 0, 1634, .inl o_s_d))]) [1, 0] rfl
    have hD := hD.sub (ws' := [(o, .inr (7, [.ref o_s, .ref o_saved, .int o_savedCount, .ref o_text, .int o_textLength, .int r7_1, .int o_pieceCount, .ref o_pieceCell, .int o_at, .int o_commands, .ref o_letter, .ref o_number, .ref o_before, .long o_hash])), (o_s, .inl (ca 0, 1634, .inl o_s_d))]) [1, 0] (by decide) rfl
    cases h
    exact hret 18 ls _ _ _ hP hD hS rfl dX8_leads_18
