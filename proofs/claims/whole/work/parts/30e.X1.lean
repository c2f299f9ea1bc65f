theorem mwX1_build_0 : Cond.fieldLink RX1 18 "SegmentTimes$Envelope" "size" "I" ∈ wsX1_build := List.mem_of_getElem? (i := 1) rfl
theorem mwX1_build_1 : Cond.fieldLink RX1 15 "SegmentTimes$Envelope" "leaders" "[I" ∈ wsX1_build := List.mem_of_getElem? (i := 2) rfl
theorem mwX1_build_2 : Cond.fieldLink RX1 9 "SegmentTimes$Envelope" "lasts" "[I" ∈ wsX1_build := List.mem_of_getElem? (i := 3) rfl
theorem inX1_build_X1 : ∀ w ∈ u_ws RX1 TX1 3, w ∈ wsX1_build := fun w h => List.mem_cons_of_mem _ (List.mem_append_left _ (List.mem_append_right _ (h)))
theorem kX1_build : yX1_build.cls = RX1 ∧ yX1_build.cls ≠ "java/lang/invoke/MethodHandle" ∧ yX1_build.cls ≠ "java/lang/invoke/VarHandle" ∧ (parseMethodDescriptor yX1_build.desc).map (fun d => d.parameters.length) = some 2 := by decide +kernel
set_option maxHeartbeats 4000000 in
set_option maxRecDepth 100000 in
theorem ctX1_build (l : Launch) (D : va_G) (ca : Nat → ClassId) (o : Nat) (o_lasts : Nat) (o_leaders : Nat) (p1 : Nat) (p1_values : Nat) (o_size : Int32) (o_lasts_d : Nat → Int32) (o_leaders_d : Nat → Int32) (p1_now : Int32) (p1_size : Int32) (p1_values_d : Nat → Int32) (x2 : Int32) (sz : Nat) (u0 : Int32) (u1 : Nat → Int32) (u2 : Nat → Int32) (hf : fX1_build o_size o_lasts_d o_leaders_d p1_size p1_values_d x2 = some (u0, u1, u2)) : MW l yX1_build wsX1_build 4 103 D ca [.ref o, .ref p1, .int x2] sz [(o, .inr (0, [.int o_size, .ref o_lasts, .ref o_leaders])), (o_lasts, .inl (ca 0, 256, .inl o_lasts_d)), (o_leaders, .inl (ca 0, 256, .inl o_leaders_d)), (p1, .inr (5, [.int p1_now, .int p1_size, .ref p1_values])), (p1_values, .inl (ca 0, 240, .inl p1_values_d))] none [(o, .inr (0, [.int u0, .ref o_lasts, .ref o_leaders])), (o_lasts, .inl (ca 0, 256, .inl u1)), (o_leaders, .inl (ca 0, 256, .inl u2)), (p1, .inr (5, [.int p1_now, .int p1_size, .ref p1_values])), (p1_values, .inl (ca 0, 240, .inl p1_values_d))] := by
  refine hdWv (by decide +kernel) rfl (Nat.le_of_ble_eq_true rfl) rfl ?_
  intro p e s m args below meth c A Q hx hb hml hown hts hP hD hK hA hS hret ls hl
  have hown : s.vm.findClass RX1 = some m.cls := hown
  have hl : lv_has ls 4 [(0, .ref o), (1, .ref p1), (2, .int x2)] := hl
  have h := hf
  unfold fX1_build at h
  clear hf
  have L7 : ∀  (n : Nat) (l3 : Int32) (w_o_size : Int32) (w_o_lasts_d : Nat → Int32) (w_o_leaders_d : Nat → Int32), lp (fun q => bX1_build_7 p1_size p1_values_d x2  q.1 q.2.1 q.2.2.1 q.2.2.2) n (l3, w_o_size, w_o_lasts_d, w_o_leaders_d) = some (u0, u1, u2) → ∀ (H : Heap) (locs : List Loc), va_P D vwCl [(o, .inr (0, [.int w_o_size, .ref o_lasts, .ref o_leaders])), (o_lasts, .inl (ca 0, 256, .inl w_o_lasts_d)), (o_leaders, .inl (ca 0, 256, .inl w_o_leaders_d)), (p1, .inr (5, [.int p1_now, .int p1_size, .ref p1_values])), (p1_values, .inl (ca 0, 240, .inl p1_values_d))] H → va_D A [(o, .inr (0, [.int w_o_size, .ref o_lasts, .ref o_leaders])), (o_lasts, .inl (ca 0, 256, .inl w_o_lasts_d)), (o_leaders, .inl (ca 0, 256, .inl w_o_leaders_d)), (p1, .inr (5, [.int p1_now, .int p1_size, .ref p1_values])), (p1_values, .inl (ca 0, 240, .inl p1_values_d))] → va_S A s.heap H locs → ∀ ls, lv_has ls 4 [(0, .ref o), (1, .ref p1), (2, .int x2), (3, .int l3)] → W p l e ({ frames := 4, cells := 0, slots := 0, locals := 103 }) s m args below meth c H locs 0 0 Q (F0 m 7 ls []) := by
    intro  n
    induction n with
    | zero => intro l3 w_o_size w_o_lasts_d w_o_leaders_d h; exact (lp_0 h).elim
    | succ n ih7 =>
      intro l3 w_o_size w_o_lasts_d w_o_leaders_d h H locs hP hD hS ls hl
      obtain ⟨q7, h, hq7⟩ := lp_s h
      have h : bX1_build_7 p1_size p1_values_d x2  l3 w_o_size w_o_lasts_d w_o_leaders_d = some q7 := h
      unfold bX1_build_7 at h
      refine lv_aload_n hx hb dX1_build_7 rfl (lv_at hl 0 rfl) ?_
      refine gtF (ci := 0) (v := .int w_o_size) (C := RX1) (T := TX1) (N := 3) hx hb hts inX1_build_X1 hown hK hP 0 rfl rfl 0 (by decide) mwX1_build_0 rfl rfl dX1_build_8 ?_
      refine lv_sipush (v := (256 : Int32)) hx hb dX1_build_11 (by decide) ?_
      refine lv_icmp_ge (tgt := 88) hx hb dX1_build_14 (by decide) (fun c1 => ?_) (fun c1 => ?_)
      · have h := ip_s h c1
        have h := xt_s hq7 h
        cases h
        exact hret 88 ls _ _ hP hD hS rfl dX1_build_88
      · have h := in_s h c1
        refine lv_iload_n hx hb dX1_build_17 rfl (lv_at hl 3 rfl) ?_
        refine lv_sipush (v := (255 : Int32)) hx hb dX1_build_18 (by decide) ?_
        refine lv_icmp_gt (tgt := 88) hx hb dX1_build_21 (by decide) (fun c2 => ?_) (fun c2 => ?_)
        · have h := ip_s h c2
          have h := xt_s hq7 h
          cases h
          exact hret 88 ls _ _ hP hD hS rfl dX1_build_88
        · have h := in_s h c2
          refine lv_aload_n hx hb dX1_build_24 rfl (lv_at hl 0 rfl) ?_
          refine gtF (ci := 0) (v := .ref o_leaders) (C := RX1) (T := TX1) (N := 3) hx hb hts inX1_build_X1 hown hK hP 0 rfl rfl 2 (by decide) mwX1_build_1 rfl rfl dX1_build_25 ?_
          refine lv_aload_n hx hb dX1_build_28 rfl (lv_at hl 0 rfl) ?_
          refine gtF (ci := 0) (v := .int w_o_size) (C := RX1) (T := TX1) (N := 3) hx hb hts inX1_build_X1 hown hK hP 0 rfl rfl 0 (by decide) mwX1_build_0 rfl rfl dX1_build_29 ?_
          refine lv_aload_n hx hb dX1_build_32 rfl (lv_at hl 1 rfl) ?_
          refine lv_iload_n hx hb dX1_build_33 rfl (lv_at hl 3 rfl) ?_
          refine lv_iload_n hx hb dX1_build_34 rfl (lv_at hl 2 rfl) ?_
          obtain ⟨r3, h_r3, h⟩ := bd_s h
          refine clVR (As := [.int l3, .int x2]) (rest := [.int w_o_size, .ref o_leaders]) hx hb hml hown hts gX1_build_X6_firstAt rfl 2 kX6_firstAt ⟨Nat.le_of_ble_eq_true rfl, Nat.le_of_ble_eq_true rfl⟩ (ctX6_firstAt l D ca p1 p1_values p1_now p1_size p1_values_d l3 x2 r3 h_r3) hP hK [3, 4] rfl 0 5 rfl rfl rfl rfl hl.1 rfl (Nat.le_of_ble_eq_true rfl) ⟨Nat.le_of_ble_eq_true rfl, Nat.le_of_ble_eq_true rfl⟩ dX1_build_35 rfl ?_
          obtain ⟨hin, g4, e_g4, h⟩ := wr_s h
          refine stI (wn := [(o, .inr (0, [.int w_o_size, .ref o_lasts, .ref o_leaders])), (o_lasts, .inl (ca 0, 256, .inl w_o_lasts_d)), (o_leaders, .inl (ca 0, 256, .inl g4)), (p1, .inr (5, [.int p1_now, .int p1_size, .ref p1_values])), (p1_values, .inl (ca 0, 240, .inl p1_values_d))]) hx hb hK hP hD hS 2 rfl hin e_g4 rfl dX1_build_38 (fun H locs hP hD hS => ?_)
          refine lv_aload_n hx hb dX1_build_39 rfl (lv_at hl 0 rfl) ?_
          refine gtF (ci := 0) (v := .ref o_lasts) (C := RX1) (T := TX1) (N := 3) hx hb hts inX1_build_X1 hown hK hP 0 rfl rfl 1 (by decide) mwX1_build_2 rfl rfl dX1_build_40 ?_
          refine lv_aload_n hx hb dX1_build_43 rfl (lv_at hl 0 rfl) ?_
          refine gtF (ci := 0) (v := .int w_o_size) (C := RX1) (T := TX1) (N := 3) hx hb hts inX1_build_X1 hown hK hP 0 rfl rfl 0 (by decide) mwX1_build_0 rfl rfl dX1_build_44 ?_
          refine lv_aload_n hx hb dX1_build_47 rfl (lv_at hl 1 rfl) ?_
          refine lv_aload_n hx hb dX1_build_48 rfl (lv_at hl 0 rfl) ?_
          refine gtF (ci := 0) (v := .ref o_leaders) (C := RX1) (T := TX1) (N := 3) hx hb hts inX1_build_X1 hown hK hP 0 rfl rfl 2 (by decide) mwX1_build_1 rfl rfl dX1_build_49 ?_
          refine lv_aload_n hx hb dX1_build_52 rfl (lv_at hl 0 rfl) ?_
          refine gtF (ci := 0) (v := .int w_o_size) (C := RX1) (T := TX1) (N := 3) hx hb hts inX1_build_X1 hown hK hP 0 rfl rfl 0 (by decide) mwX1_build_0 rfl rfl dX1_build_53 ?_
          obtain ⟨hin, y5, e_y5, h⟩ := rd_s h
          refine ldI hx hb hK hP 2 rfl hin dX1_build_56 ?_
          refine top_i e_y5 ?_
          refine lv_iload_n hx hb dX1_build_57 rfl (lv_at hl 3 rfl) ?_
          refine lv_iload_n hx hb dX1_build_58 rfl (lv_at hl 2 rfl) ?_
          obtain ⟨r6, h_r6, h⟩ := bd_s h
          refine clVR (As := [.int y5, .int l3, .int x2]) (rest := [.int w_o_size, .ref o_lasts]) hx hb hml hown hts gX1_build_X6_lastLed rfl 3 kX6_lastLed ⟨Nat.le_of_ble_eq_true rfl, Nat.le_of_ble_eq_true rfl⟩ (ctX6_lastLed l D ca p1 p1_values p1_now p1_size p1_values_d y5 l3 x2 r6 h_r6) hP hK [3, 4] rfl 0 5 rfl rfl rfl rfl hl.1 rfl (Nat.le_of_ble_eq_true rfl) ⟨Nat.le_of_ble_eq_true rfl, Nat.le_of_ble_eq_true rfl⟩ dX1_build_59 rfl ?_
          obtain ⟨hin, g7, e_g7, h⟩ := wr_s h
          refine stI (wn := [(o, .inr (0, [.int w_o_size, .ref o_lasts, .ref o_leaders])), (o_lasts, .inl (ca 0, 256, .inl g7)), (o_leaders, .inl (ca 0, 256, .inl g4)), (p1, .inr (5, [.int p1_now, .int p1_size, .ref p1_values])), (p1_values, .inl (ca 0, 240, .inl p1_values_d))]) hx hb hK hP hD hS 1 rfl hin e_g7 rfl dX1_build_62 (fun H locs hP hD hS => ?_)
          refine lv_aload_n hx hb dX1_build_63 rfl (lv_at hl 0 rfl) ?_
          refine gtF (ci := 0) (v := .ref o_lasts) (C := RX1) (T := TX1) (N := 3) hx hb hts inX1_build_X1 hown hK hP 0 rfl rfl 1 (by decide) mwX1_build_2 rfl rfl dX1_build_64 ?_
          refine lv_aload_n hx hb dX1_build_67 rfl (lv_at hl 0 rfl) ?_
          refine gtF (ci := 0) (v := .int w_o_size) (C := RX1) (T := TX1) (N := 3) hx hb hts inX1_build_X1 hown hK hP 0 rfl rfl 0 (by decide) mwX1_build_0 rfl rfl dX1_build_68 ?_
          obtain ⟨hin, y8, e_y8, h⟩ := rd_s h
          refine ldI hx hb hK hP 1 rfl hin dX1_build_71 ?_
          refine top_i e_y8 ?_
          refine lv_iconst (v := (1 : Int32)) hx hb dX1_build_72 (by decide) ?_
          refine lv_iadd hx hb dX1_build_73 ?_
          obtain ⟨y9, e_y9, h⟩ := nm_s h
          refine top_i e_y9 ?_
          refine lv_istore_n (lv' := [(3, .int y9), (0, .ref o), (1, .ref p1), (2, .int x2)]) hx hb dX1_build_74 rfl hl (by decide) rfl (fun ls hl => ?_)
          refine lv_aload_n hx hb dX1_build_75 rfl (lv_at hl 1 rfl) ?_
          refine lv_dup hx hb dX1_build_76 rfl ?_
          refine gtF (ci := 0) (v := .int w_o_size) (C := RX1) (T := TX1) (N := 3) hx hb hts inX1_build_X1 hown hK hP 0 rfl rfl 0 (by decide) mwX1_build_0 rfl rfl dX1_build_77 ?_
          refine lv_iconst (v := (1 : Int32)) hx hb dX1_build_80 (by decide) ?_
          refine lv_iadd hx hb dX1_build_81 ?_
          obtain ⟨y10, e_y10, h⟩ := nm_s h
          refine top_i e_y10 ?_
          refine ptI (ci := 0) (v := .int y10) (ty := .int) (C := RX1) (T := TX1) (N := 3) (wn := [(o, .inr (0, [.int y10, .ref o_lasts, .ref o_leaders])), (o_lasts, .inl (ca 0, 256, .inl g7)), (o_leaders, .inl (ca 0, 256, .inl g4)), (p1, .inr (5, [.int p1_now, .int p1_size, .ref p1_values])), (p1_values, .inl (ca 0, 240, .inl p1_values_d))]) hx hb hts inX1_build_X1 tyX1 tyX1_ok nmX1 hown hK hP hD hS 0 rfl rfl 0 (by decide) mwX1_build_0 rfl rfl (by decide +kernel) rfl rfl (Nat.le_of_ble_eq_true rfl) rfl dX1_build_82 (fun H locs hP hD hS => ?_)
          refine lv_goto (tgt := 7) hx hb dX1_build_85 (by decide) ?_
          exact ih7 y9 y10 g7 g4 (lp_l hq7 h) _ _ hP hD hS ls (lv_sub hl [1, 2, 3, 0] rfl)
  refine lv_aload_n hx hb dX1_build_0 rfl (lv_at hl 0 rfl) ?_
  refine lv_iconst (v := (0 : Int32)) hx hb dX1_build_1 (by decide) ?_
  refine ptI (ci := 0) (v := .int (0 : Int32)) (ty := .int) (C := RX1) (T := TX1) (N := 3) (wn := [(o, .inr (0, [.int (0 : Int32), .ref o_lasts, .ref o_leaders])), (o_lasts, .inl (ca 0, 256, .inl o_lasts_d)), (o_leaders, .inl (ca 0, 256, .inl o_leaders_d)), (p1, .inr (5, [.int p1_now, .int p1_size, .ref p1_values])), (p1_values, .inl (ca 0, 240, .inl p1_values_d))]) hx hb hts inX1_build_X1 tyX1 tyX1_ok nmX1 hown hK hP hD hS 0 rfl rfl 0 (by decide) mwX1_build_0 rfl rfl (by decide +kernel) rfl rfl (Nat.le_of_ble_eq_true rfl) rfl dX1_build_2 (fun H locs hP hD hS => ?_)
  refine lv_iconst (v := (0 : Int32)) hx hb dX1_build_5 (by decide) ?_
  refine lv_istore_n (lv' := [(3, .int (0 : Int32)), (0, .ref o), (1, .ref p1), (2, .int x2)]) hx hb dX1_build_6 rfl hl (by decide) rfl (fun ls hl => ?_)
  exact L7  fuel (0 : Int32) (0 : Int32) o_lasts_d o_leaders_d h _ _ hP hD hS ls (lv_sub hl [1, 2, 3, 0] rfl)
theorem mwX1_last_0 : Cond.fieldLink RX1 9 "SegmentTimes$Envelope" "lasts" "[I" ∈ wsX1_last := List.mem_of_getElem? (i := 1) rfl
theorem inX1_last_X1 : ∀ w ∈ u_ws RX1 TX1 3, w ∈ wsX1_last := fun w h => List.mem_cons_of_mem _ (List.mem_append_right _ (h))
theorem kX1_last : yX1_last.cls = RX1 ∧ yX1_last.cls ≠ "java/lang/invoke/MethodHandle" ∧ yX1_last.cls ≠ "java/lang/invoke/VarHandle" ∧ (parseMethodDescriptor yX1_last.desc).map (fun d => d.parameters.length) = some 1 := by decide +kernel
set_option maxHeartbeats 4000000 in
set_option maxRecDepth 100000 in
theorem ctX1_last (l : Launch) (D : va_G) (ca : Nat → ClassId) (o : Nat) (o_lasts : Nat) (o_leaders : Nat) (o_size : Int32) (o_lasts_d : Nat → Int32) (x1 : Int32) (u0 : Int32) (hf : fX1_last o_lasts_d x1 = some u0) : MR l yX1_last wsX1_last 0 0 D ca [.ref o, .int x1] [(o, .inr (0, [.int o_size, .ref o_lasts, .ref o_leaders])), (o_lasts, .inl (ca 0, 256, .inl o_lasts_d))] (some (.int u0)) := by
  refine hdRi (plainFor_of_name (by decide +kernel)) rfl (Nat.le_of_ble_eq_true rfl) ?_
  intro p e s m args below meth c Q hx hb hml hown hts hP hK hret ls hl
  have hown : s.vm.findClass RX1 = some m.cls := hown
  have hl : lv_has ls 2 [(0, .ref o), (1, .int x1)] := hl
  have h := hf
  unfold fX1_last at h
  clear hf
  refine lv_iload_n hx hb dX1_last_0 rfl (lv_at hl 1 rfl) ?_
  refine lv_if_lt (tgt := 22) hx hb dX1_last_1 (by decide) (fun c1 => ?_) (fun c1 => ?_)
  · have h := ip_s h c1
    refine lv_sipush (v := (255 : Int32)) hx hb dX1_last_22 (by decide) ?_
    cases h
    exact hret 25 ls _ rfl dX1_last_25
  · have h := in_s h c1
    refine lv_iload_n hx hb dX1_last_4 rfl (lv_at hl 1 rfl) ?_
    refine lv_aload_n hx hb dX1_last_5 rfl (lv_at hl 0 rfl) ?_
    refine gtF (ci := 0) (v := .ref o_lasts) (C := RX1) (T := TX1) (N := 3) hx hb hts inX1_last_X1 hown hK hP 0 rfl rfl 1 (by decide) mwX1_last_0 rfl rfl dX1_last_6 ?_
    refine alI (v := (256 : Int32)) hx hb hK hP 1 0 rfl rfl rfl dX1_last_9 ?_
    refine lv_icmp_ge (tgt := 22) hx hb dX1_last_10 (by decide) (fun c2 => ?_) (fun c2 => ?_)
    · have h := ip_s h c2
      refine lv_sipush (v := (255 : Int32)) hx hb dX1_last_22 (by decide) ?_
      cases h
      exact hret 25 ls _ rfl dX1_last_25
    · have h := in_s h c2
      refine lv_aload_n hx hb dX1_last_13 rfl (lv_at hl 0 rfl) ?_
      refine gtF (ci := 0) (v := .ref o_lasts) (C := RX1) (T := TX1) (N := 3) hx hb hts inX1_last_X1 hown hK hP 0 rfl rfl 1 (by decide) mwX1_last_0 rfl rfl dX1_last_14 ?_
      refine lv_iload_n hx hb dX1_last_17 rfl (lv_at hl 1 rfl) ?_
      obtain ⟨hin, y3, e_y3, h⟩ := rd_s h
      refine ldI hx hb hK hP 1 rfl hin dX1_last_18 ?_
      refine top_i e_y3 ?_
      refine lv_goto (tgt := 25) hx hb dX1_last_19 (by decide) ?_
      cases h
      exact hret 25 ls _ rfl dX1_last_25
theorem kX1_first : yX1_first.cls = RX1 ∧ yX1_first.cls ≠ "java/lang/invoke/MethodHandle" ∧ yX1_first.cls ≠ "java/lang/invoke/VarHandle" ∧ (parseMethodDescriptor yX1_first.desc).map (fun d => d.parameters.length) = some 1 := by decide +kernel
set_option maxHeartbeats 4000000 in
set_option maxRecDepth 100000 in
theorem ctX1_first (l : Launch) (D : va_G) (ca : Nat → ClassId) (o : Nat) (o_lasts : Nat) (o_leaders : Nat) (o_size : Int32) (o_lasts_d : Nat → Int32) (x1 : Int32) (u0 : Int32) (hf : fX1_first o_lasts_d x1 = some u0) : MR l yX1_first wsX1_first 1 21 D ca [.ref o, .int x1] [(o, .inr (0, [.int o_size, .ref o_lasts, .ref o_leaders])), (o_lasts, .inl (ca 0, 256, .inl o_lasts_d))] (some (.int u0)) := by
  refine hdRi (plainFor_of_name (by decide +kernel)) rfl (Nat.le_of_ble_eq_true rfl) ?_
  intro p e s m args below meth c Q hx hb hml hown hts hP hK hret ls hl
  have hown : s.vm.findClass RX1 = some m.cls := hown
  have hl : lv_has ls 2 [(0, .ref o), (1, .int x1)] := hl
  have h := hf
  unfold fX1_first at h
  clear hf
  refine lv_iload_n hx hb dX1_first_0 rfl (lv_at hl 1 rfl) ?_
  refine lv_if_ne (tgt := 8) hx hb dX1_first_1 (by decide) (fun c1 => ?_) (fun c1 => ?_)
  · have h := in_s h c1
    refine lv_aload_n hx hb dX1_first_8 rfl (lv_at hl 0 rfl) ?_
    refine lv_iload_n hx hb dX1_first_9 rfl (lv_at hl 1 rfl) ?_
    refine lv_iconst (v := (1 : Int32)) hx hb dX1_first_10 (by decide) ?_
    refine lv_isub hx hb dX1_first_11 ?_
    obtain ⟨r2, h_r2, h⟩ := bd_s h
    refine clVR (As := [.int (x1 - (1 : Int32))]) (rest := []) hx hb hml hown hts gX1_first_X1_last rfl 1 kX1_last ⟨Nat.le_of_ble_eq_true rfl, Nat.le_of_ble_eq_true rfl⟩ (ctX1_last l D ca o o_lasts o_leaders o_size o_lasts_d (x1 - (1 : Int32)) r2 h_r2) hP hK [0, 1] rfl 0 0 rfl rfl rfl rfl hl.1 rfl (Nat.le_of_ble_eq_true rfl) ⟨Nat.le_of_ble_eq_true rfl, Nat.le_of_ble_eq_true rfl⟩ dX1_first_12 rfl ?_
    refine lv_iconst (v := (1 : Int32)) hx hb dX1_first_15 (by decide) ?_
    refine lv_iadd hx hb dX1_first_16 ?_
    cases h
    exact hret 17 ls _ rfl dX1_first_17
  · have h := ip_s h c1
    refine lv_iconst (v := (0 : Int32)) hx hb dX1_first_4 (by decide) ?_
    refine lv_goto (tgt := 17) hx hb dX1_first_5 (by decide) ?_
    cases h
    exact hret 17 ls _ rfl dX1_first_17
theorem mwX1_leader_0 : Cond.fieldLink RX1 15 "SegmentTimes$Envelope" "leaders" "[I" ∈ wsX1_leader := List.mem_of_getElem? (i := 1) rfl
theorem inX1_leader_X1 : ∀ w ∈ u_ws RX1 TX1 3, w ∈ wsX1_leader := fun w h => List.mem_cons_of_mem _ (List.mem_append_right _ (h))
theorem kX1_leader : yX1_leader.cls = RX1 ∧ yX1_leader.cls ≠ "java/lang/invoke/MethodHandle" ∧ yX1_leader.cls ≠ "java/lang/invoke/VarHandle" ∧ (parseMethodDescriptor yX1_leader.desc).map (fun d => d.parameters.length) = some 1 := by decide +kernel
set_option maxHeartbeats 4000000 in
set_option maxRecDepth 100000 in
theorem ctX1_leader (l : Launch) (D : va_G) (ca : Nat → ClassId) (o : Nat) (o_lasts : Nat) (o_leaders : Nat) (o_size : Int32) (o_leaders_d : Nat → Int32) (x1 : Int32) (u0 : Int32) (hf : fX1_leader o_leaders_d x1 = some u0) : MR l yX1_leader wsX1_leader 0 0 D ca [.ref o, .int x1] [(o, .inr (0, [.int o_size, .ref o_lasts, .ref o_leaders])), (o_leaders, .inl (ca 0, 256, .inl o_leaders_d))] (some (.int u0)) := by
  refine hdRi (plainFor_of_name (by decide +kernel)) rfl (Nat.le_of_ble_eq_true rfl) ?_
  intro p e s m args below meth c Q hx hb hml hown hts hP hK hret ls hl
  have hown : s.vm.findClass RX1 = some m.cls := hown
  have hl : lv_has ls 2 [(0, .ref o), (1, .int x1)] := hl
  have h := hf
  unfold fX1_leader at h
  clear hf
  refine lv_iload_n hx hb dX1_leader_0 rfl (lv_at hl 1 rfl) ?_
  refine lv_if_lt (tgt := 22) hx hb dX1_leader_1 (by decide) (fun c1 => ?_) (fun c1 => ?_)
  · have h := ip_s h c1
    refine lv_iconst (v := (-1 : Int32)) hx hb dX1_leader_22 (by decide) ?_
    cases h
    exact hret 23 ls _ rfl dX1_leader_23
  · have h := in_s h c1
    refine lv_iload_n hx hb dX1_leader_4 rfl (lv_at hl 1 rfl) ?_
    refine lv_aload_n hx hb dX1_leader_5 rfl (lv_at hl 0 rfl) ?_
    refine gtF (ci := 0) (v := .ref o_leaders) (C := RX1) (T := TX1) (N := 3) hx hb hts inX1_leader_X1 hown hK hP 0 rfl rfl 2 (by decide) mwX1_leader_0 rfl rfl dX1_leader_6 ?_
    refine alI (v := (256 : Int32)) hx hb hK hP 1 0 rfl rfl rfl dX1_leader_9 ?_
    refine lv_icmp_ge (tgt := 22) hx hb dX1_leader_10 (by decide) (fun c2 => ?_) (fun c2 => ?_)
    · have h := ip_s h c2
      refine lv_iconst (v := (-1 : Int32)) hx hb dX1_leader_22 (by decide) ?_
      cases h
      exact hret 23 ls _ rfl dX1_leader_23
    · have h := in_s h c2
      refine lv_aload_n hx hb dX1_leader_13 rfl (lv_at hl 0 rfl) ?_
      refine gtF (ci := 0) (v := .ref o_leaders) (C := RX1) (T := TX1) (N := 3) hx hb hts inX1_leader_X1 hown hK hP 0 rfl rfl 2 (by decide) mwX1_leader_0 rfl rfl dX1_leader_14 ?_
      refine lv_iload_n hx hb dX1_leader_17 rfl (lv_at hl 1 rfl) ?_
      obtain ⟨hin, y3, e_y3, h⟩ := rd_s h
      refine ldI hx hb hK hP 1 rfl hin dX1_leader_18 ?_
      refine top_i e_y3 ?_
      refine lv_goto (tgt := 23) hx hb dX1_leader_19 (by decide) ?_
      cases h
      exact hret 23 ls _ rfl dX1_leader_23
theorem kX1_value : yX1_value.cls = RX1 ∧ yX1_value.cls ≠ "java/lang/invoke/MethodHandle" ∧ yX1_value.cls ≠ "java/lang/invoke/VarHandle" ∧ (parseMethodDescriptor yX1_value.desc).map (fun d => d.parameters.length) = some 2 := by decide +kernel
set_option maxHeartbeats 4000000 in
set_option maxRecDepth 100000 in
theorem ctX1_value (l : Launch) (D : va_G) (ca : Nat → ClassId) (o : Nat) (o_lasts : Nat) (o_leaders : Nat) (o_size : Int32) (o_lasts_d : Nat → Int32) (o_leaders_d : Nat → Int32) (x1 : Int32) (x2 : Int32) (u0 : Int32) (hf : fX1_value o_lasts_d o_leaders_d x1 x2 = some u0) : MR l yX1_value wsX1_value 2 42 D ca [.ref o, .int x1, .int x2] [(o, .inr (0, [.int o_size, .ref o_lasts, .ref o_leaders])), (o_lasts, .inl (ca 0, 256, .inl o_lasts_d)), (o_leaders, .inl (ca 0, 256, .inl o_leaders_d))] (some (.int u0)) := by
  refine hdRi (plainFor_of_name (by decide +kernel)) rfl (Nat.le_of_ble_eq_true rfl) ?_
  intro p e s m args below meth c Q hx hb hml hown hts hP hK hret ls hl
  have hown : s.vm.findClass RX1 = some m.cls := hown
  have hl : lv_has ls 3 [(0, .ref o), (1, .int x1), (2, .int x2)] := hl
  have h := hf
  unfold fX1_value at h
  clear hf
  refine lv_iload_n hx hb dX1_value_0 rfl (lv_at hl 2 rfl) ?_
  refine lv_if_ne (tgt := 10) hx hb dX1_value_1 (by decide) (fun c1 => ?_) (fun c1 => ?_)
  · have h := in_s h c1
    refine lv_iload_n hx hb dX1_value_10 rfl (lv_at hl 2 rfl) ?_
    refine lv_iconst (v := (1 : Int32)) hx hb dX1_value_11 (by decide) ?_
    refine lv_icmp_ne (tgt := 23) hx hb dX1_value_12 (by decide) (fun c2 => ?_) (fun c2 => ?_)
    · have h := in_s h c2
      refine lv_aload_n hx hb dX1_value_23 rfl (lv_at hl 0 rfl) ?_
      refine lv_iload_n hx hb dX1_value_24 rfl (lv_at hl 1 rfl) ?_
      obtain ⟨r3, h_r3, h⟩ := bd_s h
      refine clVR (As := [.int x1]) (rest := []) hx hb hml hown hts gX1_value_X1_leader rfl 1 kX1_leader ⟨Nat.le_of_ble_eq_true rfl, Nat.le_of_ble_eq_true rfl⟩ (ctX1_leader l D ca o o_lasts o_leaders o_size o_leaders_d x1 r3 h_r3) hP hK [0, 2] rfl 0 0 rfl rfl rfl rfl hl.1 rfl (Nat.le_of_ble_eq_true rfl) ⟨Nat.le_of_ble_eq_true rfl, Nat.le_of_ble_eq_true rfl⟩ dX1_value_25 rfl ?_
      cases h
      exact hret 28 ls _ rfl dX1_value_28
    · have h := ip_s h c2
      refine lv_aload_n hx hb dX1_value_15 rfl (lv_at hl 0 rfl) ?_
      refine lv_iload_n hx hb dX1_value_16 rfl (lv_at hl 1 rfl) ?_
      obtain ⟨r4, h_r4, h⟩ := bd_s h
      refine clVR (As := [.int x1]) (rest := []) hx hb hml hown hts gX1_value_X1_last rfl 1 kX1_last ⟨Nat.le_of_ble_eq_true rfl, Nat.le_of_ble_eq_true rfl⟩ (ctX1_last l D ca o o_lasts o_leaders o_size o_lasts_d x1 r4 h_r4) hP hK [0, 1] rfl 0 0 rfl rfl rfl rfl hl.1 rfl (Nat.le_of_ble_eq_true rfl) ⟨Nat.le_of_ble_eq_true rfl, Nat.le_of_ble_eq_true rfl⟩ dX1_value_17 rfl ?_
      refine lv_goto (tgt := 28) hx hb dX1_value_20 (by decide) ?_
      cases h
      exact hret 28 ls _ rfl dX1_value_28
  · have h := ip_s h c1
    refine lv_aload_n hx hb dX1_value_4 rfl (lv_at hl 0 rfl) ?_
    refine lv_iload_n hx hb dX1_value_5 rfl (lv_at hl 1 rfl) ?_
    obtain ⟨r5, h_r5, h⟩ := bd_s h
    refine clVR (As := [.int x1]) (rest := []) hx hb hml hown hts gX1_value_X1_first rfl 1 kX1_first ⟨Nat.le_of_ble_eq_true rfl, Nat.le_of_ble_eq_true rfl⟩ (ctX1_first l D ca o o_lasts o_leaders o_size o_lasts_d x1 r5 h_r5) hP hK [0, 1] rfl 0 0 rfl rfl rfl rfl hl.1 rfl (Nat.le_of_ble_eq_true rfl) ⟨Nat.le_of_ble_eq_true rfl, Nat.le_of_ble_eq_true rfl⟩ dX1_value_6 rfl ?_
    cases h
    exact hret 9 ls _ rfl dX1_value_9
theorem mwX1_positionsOf_0 : Cond.fieldLink RX1 18 "SegmentTimes$Envelope" "size" "I" ∈ wsX1_positionsOf := List.mem_of_getElem? (i := 1) rfl
theorem inX1_positionsOf_X1 : ∀ w ∈ u_ws RX1 TX1 3, w ∈ wsX1_positionsOf := fun w h => List.mem_cons_of_mem _ (List.mem_append_right _ (h))
theorem kX1_positionsOf : yX1_positionsOf.cls = RX1 ∧ yX1_positionsOf.cls ≠ "java/lang/invoke/MethodHandle" ∧ yX1_positionsOf.cls ≠ "java/lang/invoke/VarHandle" ∧ (parseMethodDescriptor yX1_positionsOf.desc).map (fun d => d.parameters.length) = some 1 := by decide +kernel
set_option maxHeartbeats 4000000 in
set_option maxRecDepth 100000 in
theorem ctX1_positionsOf (l : Launch) (D : va_G) (ca : Nat → ClassId) (o : Nat) (o_lasts : Nat) (o_leaders : Nat) (o_size : Int32) (o_lasts_d : Nat → Int32) (o_leaders_d : Nat → Int32) (x1 : Int32) (u0 : Int32) (hf : fX1_positionsOf o_size o_lasts_d o_leaders_d x1 = some u0) : MR l yX1_positionsOf wsX1_positionsOf 2 42 D ca [.ref o, .int x1] [(o, .inr (0, [.int o_size, .ref o_lasts, .ref o_leaders])), (o_lasts, .inl (ca 0, 256, .inl o_lasts_d)), (o_leaders, .inl (ca 0, 256, .inl o_leaders_d))] (some (.int u0)) := by
  refine hdRi (plainFor_of_name (by decide +kernel)) rfl (Nat.le_of_ble_eq_true rfl) ?_
  intro p e s m args below meth c Q hx hb hml hown hts hP hK hret ls hl
  have hown : s.vm.findClass RX1 = some m.cls := hown
  have hl : lv_has ls 4 [(0, .ref o), (1, .int x1)] := hl
  have h := hf
  unfold fX1_positionsOf at h
  clear hf
  have L4 : ∀  (n : Nat) (l2 : Int32) (l3 : Int32), lp (fun q => bX1_positionsOf_4 o_size o_lasts_d o_leaders_d x1  q.1 q.2) n (l2, l3) = some u0 → ∀ ls, lv_has ls 4 [(0, .ref o), (1, .int x1), (2, .int l2), (3, .int l3)] → W p l e ({ frames := 2, cells := 0, slots := 0, locals := 42 }) s m args below meth c s.heap [] 0 0 Q (F0 m 4 ls []) := by
    intro  n
    induction n with
    | zero => intro l2 l3 h; exact (lp_0 h).elim
    | succ n ih4 =>
      intro l2 l3 h ls hl
      obtain ⟨q4, h, hq4⟩ := lp_s h
      have h : bX1_positionsOf_4 o_size o_lasts_d o_leaders_d x1  l2 l3 = some q4 := h
      unfold bX1_positionsOf_4 at h
      refine lv_iload_n hx hb dX1_positionsOf_4 rfl (lv_at hl 3 rfl) ?_
      refine lv_aload_n hx hb dX1_positionsOf_5 rfl (lv_at hl 0 rfl) ?_
      refine gtF (ci := 0) (v := .int o_size) (C := RX1) (T := TX1) (N := 3) hx hb hts inX1_positionsOf_X1 hown hK hP 0 rfl rfl 0 (by decide) mwX1_positionsOf_0 rfl rfl dX1_positionsOf_6 ?_
      refine lv_icmp_ge (tgt := 43) hx hb dX1_positionsOf_9 (by decide) (fun c1 => ?_) (fun c1 => ?_)
      · have h := ip_s h c1
        have h := xt_s hq4 h
        refine lv_iload_n hx hb dX1_positionsOf_43 rfl (lv_at hl 2 rfl) ?_
        cases h
        exact hret 44 ls _ rfl dX1_positionsOf_44
      · have h := in_s h c1
        refine lv_aload_n hx hb dX1_positionsOf_12 rfl (lv_at hl 0 rfl) ?_
        refine lv_iload_n hx hb dX1_positionsOf_13 rfl (lv_at hl 3 rfl) ?_
        obtain ⟨r2, h_r2, h⟩ := bd_s h
        refine clVR (As := [.int l3]) (rest := []) hx hb hml hown hts gX1_positionsOf_X1_leader rfl 1 kX1_leader ⟨Nat.le_of_ble_eq_true rfl, Nat.le_of_ble_eq_true rfl⟩ (ctX1_leader l D ca o o_lasts o_leaders o_size o_leaders_d l3 r2 h_r2) hP hK [0, 2] rfl 0 0 rfl rfl rfl rfl hl.1 rfl (Nat.le_of_ble_eq_true rfl) ⟨Nat.le_of_ble_eq_true rfl, Nat.le_of_ble_eq_true rfl⟩ dX1_positionsOf_14 rfl ?_
        refine lv_iload_n hx hb dX1_positionsOf_17 rfl (lv_at hl 1 rfl) ?_
        refine lv_icmp_ne (tgt := 37) hx hb dX1_positionsOf_18 (by decide) (fun c3 => ?_) (fun c3 => ?_)
        · have h := in_s h c3
          obtain ⟨y4, e_y4, h⟩ := nm_s h
          refine lv_iinc (v := y4) (lv' := [(3, .int y4), (0, .ref o), (1, .int x1), (2, .int l2)]) hx hb dX1_positionsOf_37 hl (k := 3) rfl (by rw [e_y4]; rfl) (by decide) rfl (fun ls hl => ?_)
          refine lv_goto (tgt := 4) hx hb dX1_positionsOf_40 (by decide) ?_
          exact ih4 l2 y4 (lp_l hq4 h) ls (lv_sub hl [1, 2, 3, 0] rfl)
        · have h := ip_s h c3
          refine lv_iload_n hx hb dX1_positionsOf_21 rfl (lv_at hl 2 rfl) ?_
          refine lv_aload_n hx hb dX1_positionsOf_22 rfl (lv_at hl 0 rfl) ?_
          refine lv_iload_n hx hb dX1_positionsOf_23 rfl (lv_at hl 3 rfl) ?_
          obtain ⟨r5, h_r5, h⟩ := bd_s h
          refine clVR (As := [.int l3]) (rest := [.int l2]) hx hb hml hown hts gX1_positionsOf_X1_last rfl 1 kX1_last ⟨Nat.le_of_ble_eq_true rfl, Nat.le_of_ble_eq_true rfl⟩ (ctX1_last l D ca o o_lasts o_leaders o_size o_lasts_d l3 r5 h_r5) hP hK [0, 1] rfl 0 0 rfl rfl rfl rfl hl.1 rfl (Nat.le_of_ble_eq_true rfl) ⟨Nat.le_of_ble_eq_true rfl, Nat.le_of_ble_eq_true rfl⟩ dX1_positionsOf_24 rfl ?_
          refine lv_aload_n hx hb dX1_positionsOf_27 rfl (lv_at hl 0 rfl) ?_
          refine lv_iload_n hx hb dX1_positionsOf_28 rfl (lv_at hl 3 rfl) ?_
          obtain ⟨r6, h_r6, h⟩ := bd_s h
          refine clVR (As := [.int l3]) (rest := [.int r5, .int l2]) hx hb hml hown hts gX1_positionsOf_X1_first rfl 1 kX1_first ⟨Nat.le_of_ble_eq_true rfl, Nat.le_of_ble_eq_true rfl⟩ (ctX1_first l D ca o o_lasts o_leaders o_size o_lasts_d l3 r6 h_r6) hP hK [0, 1] rfl 0 0 rfl rfl rfl rfl hl.1 rfl (Nat.le_of_ble_eq_true rfl) ⟨Nat.le_of_ble_eq_true rfl, Nat.le_of_ble_eq_true rfl⟩ dX1_positionsOf_29 rfl ?_
          refine lv_isub hx hb dX1_positionsOf_32 ?_
          refine lv_iconst (v := (1 : Int32)) hx hb dX1_positionsOf_33 (by decide) ?_
          refine lv_iadd hx hb dX1_positionsOf_34 ?_
          refine lv_iadd hx hb dX1_positionsOf_35 ?_
          obtain ⟨y7, e_y7, h⟩ := nm_s h
          refine top_i e_y7 ?_
          refine lv_istore_n (lv' := [(2, .int y7), (0, .ref o), (1, .int x1), (3, .int l3)]) hx hb dX1_positionsOf_36 rfl hl (by decide) rfl (fun ls hl => ?_)
          obtain ⟨y8, e_y8, h⟩ := nm_s h
          refine lv_iinc (v := y8) (lv' := [(3, .int y8), (2, .int y7), (0, .ref o), (1, .int x1)]) hx hb dX1_positionsOf_37 hl (k := 3) rfl (by rw [e_y8]; rfl) (by decide) rfl (fun ls hl => ?_)
          refine lv_goto (tgt := 4) hx hb dX1_positionsOf_40 (by decide) ?_
          exact ih4 y7 y8 (lp_l hq4 h) ls (lv_sub hl [2, 3, 1, 0] rfl)
  refine lv_iconst (v := (0 : Int32)) hx hb dX1_positionsOf_0 (by decide) ?_
  refine lv_istore_n (lv' := [(2, .int (0 : Int32)), (0, .ref o), (1, .int x1)]) hx hb dX1_positionsOf_1 rfl hl (by decide) rfl (fun ls hl => ?_)
  refine lv_iconst (v := (0 : Int32)) hx hb dX1_positionsOf_2 (by decide) ?_
  refine lv_istore_n (lv' := [(3, .int (0 : Int32)), (2, .int (0 : Int32)), (0, .ref o), (1, .int x1)]) hx hb dX1_positionsOf_3 rfl hl (by decide) rfl (fun ls hl => ?_)
  exact L4  fuel (0 : Int32) (0 : Int32) h ls (lv_sub hl [2, 3, 1, 0] rfl)
theorem mwX1_sumBetween_0 : Cond.fieldLink RX1 18 "SegmentTimes$Envelope" "size" "I" ∈ wsX1_sumBetween := List.mem_of_getElem? (i := 1) rfl
theorem mwX1_sumBetween_1 : Cond.methodLink RX1 42 Lib.Math.max.name ∈ wsX1_sumBetween := List.mem_of_getElem? (i := 2) rfl
theorem mwX1_sumBetween_2 : Cond.static Lib.Math.max.name ∈ wsX1_sumBetween := List.mem_of_getElem? (i := 3) rfl
theorem mwX1_sumBetween_3 : Cond.initialized "java/lang/Math" ∈ wsX1_sumBetween := List.mem_of_getElem? (i := 4) rfl
theorem mwX1_sumBetween_4 : Cond.code Lib.Math.max.name Lib.Math.max.code 2 (some .int) ∈ wsX1_sumBetween := List.mem_of_getElem? (i := 5) rfl
theorem mwX1_sumBetween_5 : Cond.methodLink RX1 47 Lib.Math.min.name ∈ wsX1_sumBetween := List.mem_of_getElem? (i := 6) rfl
theorem mwX1_sumBetween_6 : Cond.static Lib.Math.min.name ∈ wsX1_sumBetween := List.mem_of_getElem? (i := 7) rfl
theorem mwX1_sumBetween_7 : Cond.code Lib.Math.min.name Lib.Math.min.code 2 (some .int) ∈ wsX1_sumBetween := List.mem_of_getElem? (i := 8) rfl
theorem mwX1_sumBetween_8 : Cond.constantLong RX1 53 (2) ∈ wsX1_sumBetween := List.mem_of_getElem? (i := 9) rfl
theorem inX1_sumBetween_X1 : ∀ w ∈ u_ws RX1 TX1 3, w ∈ wsX1_sumBetween := fun w h => List.mem_cons_of_mem _ (List.mem_append_left _ (List.mem_append_right _ (h)))
theorem kX1_sumBetween : yX1_sumBetween.cls = RX1 ∧ yX1_sumBetween.cls ≠ "java/lang/invoke/MethodHandle" ∧ yX1_sumBetween.cls ≠ "java/lang/invoke/VarHandle" ∧ (parseMethodDescriptor yX1_sumBetween.desc).map (fun d => d.parameters.length) = some 3 := by decide +kernel
set_option maxHeartbeats 4000000 in
set_option maxRecDepth 100000 in
theorem ctX1_sumBetween (l : Launch) (D : va_G) (ca : Nat → ClassId) (o : Nat) (o_lasts : Nat) (o_leaders : Nat) (p1 : Nat) (p1_values : Nat) (o_size : Int32) (o_lasts_d : Nat → Int32) (o_leaders_d : Nat → Int32) (p1_now : Int32) (p1_size : Int32) (p1_values_d : Nat → Int32) (x2 : Int32) (x3 : Int32) (u0 : Int64) (hf : fX1_sumBetween o_size o_lasts_d o_leaders_d p1_values_d x2 x3 = some u0) : MR l yX1_sumBetween wsX1_sumBetween 2 48 D ca [.ref o, .ref p1, .int x2, .int x3] [(o, .inr (0, [.int o_size, .ref o_lasts, .ref o_leaders])), (o_lasts, .inl (ca 0, 256, .inl o_lasts_d)), (o_leaders, .inl (ca 0, 256, .inl o_leaders_d)), (p1, .inr (5, [.int p1_now, .int p1_size, .ref p1_values])), (p1_values, .inl (ca 0, 240, .inl p1_values_d))] (some (.long u0)) := by
  refine hdRl (plainFor_of_name (by decide +kernel)) rfl (Nat.le_of_ble_eq_true rfl) ?_
  intro p e s m args below meth c Q hx hb hml hown hts hP hK hret ls hl
  have hown : s.vm.findClass RX1 = some m.cls := hown
  have hl : lv_has ls 12 [(0, .ref o), (1, .ref p1), (2, .int x2), (3, .int x3)] := hl
  have h := hf
  unfold fX1_sumBetween at h
  clear hf
  have L6 : ∀  (n : Nat) (l4 : Int64) (l6 : Int32), lp (fun q => bX1_sumBetween_6 o_size o_lasts_d o_leaders_d p1_values_d x2 x3  q.1 q.2) n (l4, l6) = some u0 → ∀ ls, lv_has ls 12 [(0, .ref o), (1, .ref p1), (2, .int x2), (3, .int x3), (4, .long l4), (6, .int l6)] → W p l e ({ frames := 2, cells := 0, slots := 0, locals := 48 }) s m args below meth c s.heap [] 0 0 Q (F0 m 6 ls []) := by
    intro  n
    induction n with
    | zero => intro l4 l6 h; exact (lp_0 h).elim
    | succ n ih6 =>
      intro l4 l6 h ls hl
      obtain ⟨q6, h, hq6⟩ := lp_s h
      have h : bX1_sumBetween_6 o_size o_lasts_d o_leaders_d p1_values_d x2 x3  l4 l6 = some q6 := h
      unfold bX1_sumBetween_6 at h
      refine lv_iload hx hb dX1_sumBetween_6 (lv_at hl 5 rfl) ?_
      refine lv_aload_n hx hb dX1_sumBetween_8 rfl (lv_at hl 0 rfl) ?_
      refine gtF (ci := 0) (v := .int o_size) (C := RX1) (T := TX1) (N := 3) hx hb hts inX1_sumBetween_X1 hown hK hP 0 rfl rfl 0 (by decide) mwX1_sumBetween_0 rfl rfl dX1_sumBetween_9 ?_
      refine lv_icmp_ge (tgt := 107) hx hb dX1_sumBetween_12 (by decide) (fun c1 => ?_) (fun c1 => ?_)
      · have h := ip_s h c1
        have h := xt_s hq6 h
        refine lv_lload hx hb dX1_sumBetween_107 (lv_at hl 4 rfl) ?_
        cases h
        exact hret 109 ls _ rfl dX1_sumBetween_109
      · have h := in_s h c1
        refine lv_iload_n hx hb dX1_sumBetween_15 rfl (lv_at hl 2 rfl) ?_
        refine lv_aload_n hx hb dX1_sumBetween_16 rfl (lv_at hl 0 rfl) ?_
        refine lv_iload hx hb dX1_sumBetween_17 (lv_at hl 5 rfl) ?_
        obtain ⟨r2, h_r2, h⟩ := bd_s h
        refine clVR (As := [.int l6]) (rest := [.int x2]) hx hb hml hown hts gX1_sumBetween_X1_first rfl 1 kX1_first ⟨Nat.le_of_ble_eq_true rfl, Nat.le_of_ble_eq_true rfl⟩ (ctX1_first l D ca o o_lasts o_leaders o_size o_lasts_d l6 r2 h_r2) hP hK [0, 1] rfl 0 0 rfl rfl rfl rfl hl.1 rfl (Nat.le_of_ble_eq_true rfl) ⟨Nat.le_of_ble_eq_true rfl, Nat.le_of_ble_eq_true rfl⟩ dX1_sumBetween_19 rfl ?_
        refine va_mmax hx hb (by rw [hml]; exact hl.1.symm) hown (hts _ mwX1_sumBetween_1) (hts _ mwX1_sumBetween_2) (hts _ mwX1_sumBetween_3) (hts _ mwX1_sumBetween_4) (Nat.le_of_ble_eq_true rfl) (Nat.le_of_ble_eq_true rfl) (Nat.le_of_ble_eq_true rfl) (Nat.le_of_ble_eq_true rfl) dX1_sumBetween_22 ?_
        obtain ⟨y3, e_y3, h⟩ := nm_s h
        refine top_i e_y3 ?_
        refine lv_istore (lv' := [(7, .int y3), (0, .ref o), (1, .ref p1), (2, .int x2), (3, .int x3), (4, .long l4), (6, .int l6)]) hx hb dX1_sumBetween_25 hl (by decide) rfl (fun ls hl => ?_)
        refine lv_iload_n hx hb dX1_sumBetween_27 rfl (lv_at hl 4 rfl) ?_
        refine lv_aload_n hx hb dX1_sumBetween_28 rfl (lv_at hl 1 rfl) ?_
        refine lv_iload hx hb dX1_sumBetween_29 (lv_at hl 6 rfl) ?_
        obtain ⟨r4, h_r4, h⟩ := bd_s h
        refine clVR (As := [.int l6]) (rest := [.int x3]) hx hb hml hown hts gX1_sumBetween_X1_last rfl 1 kX1_last ⟨Nat.le_of_ble_eq_true rfl, Nat.le_of_ble_eq_true rfl⟩ (ctX1_last l D ca o o_lasts o_leaders o_size o_lasts_d l6 r4 h_r4) hP hK [0, 1] rfl 0 0 rfl rfl rfl rfl hl.1 rfl (Nat.le_of_ble_eq_true rfl) ⟨Nat.le_of_ble_eq_true rfl, Nat.le_of_ble_eq_true rfl⟩ dX1_sumBetween_31 rfl ?_
        refine va_mmin hx hb (by rw [hml]; exact hl.1.symm) hown (hts _ mwX1_sumBetween_5) (hts _ mwX1_sumBetween_6) (hts _ mwX1_sumBetween_3) (hts _ mwX1_sumBetween_7) (Nat.le_of_ble_eq_true rfl) (Nat.le_of_ble_eq_true rfl) (Nat.le_of_ble_eq_true rfl) (Nat.le_of_ble_eq_true rfl) dX1_sumBetween_34 ?_
        obtain ⟨y5, e_y5, h⟩ := nm_s h
        refine top_i e_y5 ?_
        refine lv_istore (lv' := [(8, .int y5), (7, .int y3), (0, .ref o), (1, .ref p1), (2, .int x2), (3, .int x3), (4, .long l4), (6, .int l6)]) hx hb dX1_sumBetween_37 hl (by decide) rfl (fun ls hl => ?_)
        refine lv_aload_n hx hb dX1_sumBetween_39 rfl (lv_at hl 2 rfl) ?_
        refine lv_iload hx hb dX1_sumBetween_40 (lv_at hl 7 rfl) ?_
        obtain ⟨r6, h_r6, h⟩ := bd_s h
        refine clVR (As := [.int l6]) (rest := []) hx hb hml hown hts gX1_sumBetween_X1_leader rfl 1 kX1_leader ⟨Nat.le_of_ble_eq_true rfl, Nat.le_of_ble_eq_true rfl⟩ (ctX1_leader l D ca o o_lasts o_leaders o_size o_leaders_d l6 r6 h_r6) hP hK [0, 2] rfl 0 0 rfl rfl rfl rfl hl.1 rfl (Nat.le_of_ble_eq_true rfl) ⟨Nat.le_of_ble_eq_true rfl, Nat.le_of_ble_eq_true rfl⟩ dX1_sumBetween_42 rfl ?_
        refine lv_istore (lv' := [(9, .int r6), (8, .int y5), (7, .int y3), (0, .ref o), (1, .ref p1), (2, .int x2), (3, .int x3), (4, .long l4), (6, .int l6)]) hx hb dX1_sumBetween_45 hl (by decide) rfl (fun ls hl => ?_)
        refine lv_iload hx hb dX1_sumBetween_47 (lv_at hl 2 rfl) ?_
        refine lv_iload hx hb dX1_sumBetween_49 (lv_at hl 1 rfl) ?_
        refine lv_icmp_gt (tgt := 101) hx hb dX1_sumBetween_51 (by decide) (fun c7 => ?_) (fun c7 => ?_)
        · have h := ip_s h c7
          obtain ⟨y8, e_y8, h⟩ := nm_s h
          refine lv_iinc (v := y8) (lv' := [(6, .int y8), (9, .int r6), (8, .int y5), (7, .int y3), (0, .ref o), (1, .ref p1), (2, .int x2), (3, .int x3), (4, .long l4)]) hx hb dX1_sumBetween_101 hl (k := 8) rfl (by rw [e_y8]; rfl) (by decide) rfl (fun ls hl => ?_)
          refine lv_goto (tgt := 6) hx hb dX1_sumBetween_104 (by decide) ?_
          exact ih6 l4 y8 (lp_l hq6 h) ls (lv_sub hl [4, 5, 6, 7, 8, 0] rfl)
        · have h := in_s h c7
          refine lv_iload hx hb dX1_sumBetween_54 (lv_at hl 0 rfl) ?_
          refine lv_iconst (v := (-1 : Int32)) hx hb dX1_sumBetween_56 (by decide) ?_
          refine lv_icmp_eq (tgt := 101) hx hb dX1_sumBetween_57 (by decide) (fun c9 => ?_) (fun c9 => ?_)
          · have h := ip_s h c9
            obtain ⟨y10, e_y10, h⟩ := nm_s h
            refine lv_iinc (v := y10) (lv' := [(6, .int y10), (9, .int r6), (8, .int y5), (7, .int y3), (0, .ref o), (1, .ref p1), (2, .int x2), (3, .int x3), (4, .long l4)]) hx hb dX1_sumBetween_101 hl (k := 8) rfl (by rw [e_y10]; rfl) (by decide) rfl (fun ls hl => ?_)
            refine lv_goto (tgt := 6) hx hb dX1_sumBetween_104 (by decide) ?_
            exact ih6 l4 y10 (lp_l hq6 h) ls (lv_sub hl [4, 5, 6, 7, 8, 0] rfl)
          · have h := in_s h c9
            refine lv_aload_n hx hb dX1_sumBetween_60 rfl (lv_at hl 4 rfl) ?_
            refine lv_iload hx hb dX1_sumBetween_61 (lv_at hl 0 rfl) ?_
            refine lv_iload hx hb dX1_sumBetween_63 (lv_at hl 2 rfl) ?_
            obtain ⟨r11, h_r11, h⟩ := bd_s h
            refine clVR (As := [.int r6, .int y3]) (rest := []) hx hb hml hown hts gX1_sumBetween_X6_height rfl 2 kX6_height ⟨Nat.le_of_ble_eq_true rfl, Nat.le_of_ble_eq_true rfl⟩ (ctX6_height l D ca p1 p1_values p1_now p1_size p1_values_d r6 y3 r11 h_r11) hP hK [3, 4] rfl 0 5 rfl rfl rfl rfl hl.1 rfl (Nat.le_of_ble_eq_true rfl) ⟨Nat.le_of_ble_eq_true rfl, Nat.le_of_ble_eq_true rfl⟩ dX1_sumBetween_65 rfl ?_
            refine lv_i2l (v := (r11).toInt64) hx hb dX1_sumBetween_68 rfl ?_
            refine lv_aload_n hx hb dX1_sumBetween_69 rfl (lv_at hl 4 rfl) ?_
            refine lv_iload hx hb dX1_sumBetween_70 (lv_at hl 0 rfl) ?_
            refine lv_iload hx hb dX1_sumBetween_72 (lv_at hl 1 rfl) ?_
            obtain ⟨r12, h_r12, h⟩ := bd_s h
            refine clVR (As := [.int r6, .int y5]) (rest := [.long (r11).toInt64]) hx hb hml hown hts gX1_sumBetween_X6_height rfl 2 kX6_height ⟨Nat.le_of_ble_eq_true rfl, Nat.le_of_ble_eq_true rfl⟩ (ctX6_height l D ca p1 p1_values p1_now p1_size p1_values_d r6 y5 r12 h_r12) hP hK [3, 4] rfl 0 5 rfl rfl rfl rfl hl.1 rfl (Nat.le_of_ble_eq_true rfl) ⟨Nat.le_of_ble_eq_true rfl, Nat.le_of_ble_eq_true rfl⟩ dX1_sumBetween_74 rfl ?_
            refine lv_i2l (v := (r12).toInt64) hx hb dX1_sumBetween_77 rfl ?_
            refine lv_ladd hx hb dX1_sumBetween_78 ?_
            obtain ⟨y13, e_y13, h⟩ := nm_s h
            refine top_l e_y13 ?_
            refine lv_lstore (lv' := [(10, .long y13), (9, .int r6), (8, .int y5), (7, .int y3), (0, .ref o), (1, .ref p1), (2, .int x2), (3, .int x3), (4, .long l4), (6, .int l6)]) hx hb dX1_sumBetween_79 hl (by decide) rfl (fun ls hl => ?_)
            refine lv_lload hx hb dX1_sumBetween_81 (lv_at hl 8 rfl) ?_
            refine lv_iload hx hb dX1_sumBetween_83 (lv_at hl 2 rfl) ?_
            refine lv_iload hx hb dX1_sumBetween_85 (lv_at hl 3 rfl) ?_
            refine lv_isub hx hb dX1_sumBetween_87 ?_
            refine lv_iconst (v := (1 : Int32)) hx hb dX1_sumBetween_88 (by decide) ?_
            refine lv_iadd hx hb dX1_sumBetween_89 ?_
            refine lv_i2l (v := (((y5 - y3) + (1 : Int32))).toInt64) hx hb dX1_sumBetween_90 rfl ?_
            refine lv_lload hx hb dX1_sumBetween_91 (lv_at hl 0 rfl) ?_
            refine lv_lmul hx hb dX1_sumBetween_93 ?_
            refine lv_ldc2 (v := (2 : Int64)) hx hb hown (hts _ mwX1_sumBetween_8) dX1_sumBetween_94 ?_
            obtain ⟨hne, h⟩ := dvl_s h
            refine lv_ldiv hx hb dX1_sumBetween_97 hne ?_
            refine lv_ladd hx hb dX1_sumBetween_98 ?_
            obtain ⟨y14, e_y14, h⟩ := nm_s h
            refine top_l e_y14 ?_
            refine lv_lstore (lv' := [(4, .long y14), (10, .long y13), (9, .int r6), (8, .int y5), (7, .int y3), (0, .ref o), (1, .ref p1), (2, .int x2), (3, .int x3), (6, .int l6)]) hx hb dX1_sumBetween_99 hl (by decide) rfl (fun ls hl => ?_)
            obtain ⟨y15, e_y15, h⟩ := nm_s h
            refine lv_iinc (v := y15) (lv' := [(6, .int y15), (4, .long y14), (10, .long y13), (9, .int r6), (8, .int y5), (7, .int y3), (0, .ref o), (1, .ref p1), (2, .int x2), (3, .int x3)]) hx hb dX1_sumBetween_101 hl (k := 9) rfl (by rw [e_y15]; rfl) (by decide) rfl (fun ls hl => ?_)
            refine lv_goto (tgt := 6) hx hb dX1_sumBetween_104 (by decide) ?_
            exact ih6 y14 y15 (lp_l hq6 h) ls (lv_sub hl [6, 7, 8, 9, 1, 0] rfl)
  refine lv_lconst (v := (0 : Int64)) hx hb dX1_sumBetween_0 (by decide) ?_
  refine lv_lstore (lv' := [(4, .long (0 : Int64)), (0, .ref o), (1, .ref p1), (2, .int x2), (3, .int x3)]) hx hb dX1_sumBetween_1 hl (by decide) rfl (fun ls hl => ?_)
  refine lv_iconst (v := (0 : Int32)) hx hb dX1_sumBetween_3 (by decide) ?_
  refine lv_istore (lv' := [(6, .int (0 : Int32)), (4, .long (0 : Int64)), (0, .ref o), (1, .ref p1), (2, .int x2), (3, .int x3)]) hx hb dX1_sumBetween_4 hl (by decide) rfl (fun ls hl => ?_)
  exact L6  fuel (0 : Int64) (0 : Int32) h ls (lv_sub hl [2, 3, 4, 5, 1, 0] rfl)
theorem mwX1_extremePosition_0 : Cond.fieldLink RX1 18 "SegmentTimes$Envelope" "size" "I" ∈ wsX1_extremePosition := List.mem_of_getElem? (i := 1) rfl
theorem inX1_extremePosition_X1 : ∀ w ∈ u_ws RX1 TX1 3, w ∈ wsX1_extremePosition := fun w h => List.mem_cons_of_mem _ (List.mem_append_left _ (List.mem_append_right _ (h)))
theorem kX1_extremePosition : yX1_extremePosition.cls = RX1 ∧ yX1_extremePosition.cls ≠ "java/lang/invoke/MethodHandle" ∧ yX1_extremePosition.cls ≠ "java/lang/invoke/VarHandle" ∧ (parseMethodDescriptor yX1_extremePosition.desc).map (fun d => d.parameters.length) = some 2 := by decide +kernel
set_option maxHeartbeats 4000000 in
set_option maxRecDepth 100000 in
theorem ctX1_extremePosition (l : Launch) (D : va_G) (ca : Nat → ClassId) (o : Nat) (o_lasts : Nat) (o_leaders : Nat) (p1 : Nat) (p1_values : Nat) (o_size : Int32) (o_lasts_d : Nat → Int32) (o_leaders_d : Nat → Int32) (p1_now : Int32) (p1_size : Int32) (p1_values_d : Nat → Int32) (x2 : Int32) (u0 : Int32) (hf : fX1_extremePosition o_size o_lasts_d o_leaders_d p1_values_d x2 = some u0) : MR l yX1_extremePosition wsX1_extremePosition 2 45 D ca [.ref o, .ref p1, .int x2] [(o, .inr (0, [.int o_size, .ref o_lasts, .ref o_leaders])), (o_lasts, .inl (ca 0, 256, .inl o_lasts_d)), (o_leaders, .inl (ca 0, 256, .inl o_leaders_d)), (p1, .inr (5, [.int p1_now, .int p1_size, .ref p1_values])), (p1_values, .inl (ca 0, 240, .inl p1_values_d))] (some (.int u0)) := by
  refine hdRi (plainFor_of_name (by decide +kernel)) rfl (Nat.le_of_ble_eq_true rfl) ?_
  intro p e s m args below meth c Q hx hb hml hown hts hP hK hret ls hl
  have hown : s.vm.findClass RX1 = some m.cls := hown
  have hl : lv_has ls 11 [(0, .ref o), (1, .ref p1), (2, .int x2)] := hl
  have h := hf
  unfold fX1_extremePosition at h
  clear hf
  have L8 : ∀  (n : Nat) (l3 : Int32) (l4 : Int32) (l5 : Int32), lp (fun q => bX1_extremePosition_8 o_size o_lasts_d o_leaders_d p1_values_d x2  q.1 q.2.1 q.2.2) n (l3, l4, l5) = some u0 → ∀ ls, lv_has ls 11 [(0, .ref o), (1, .ref p1), (2, .int x2), (3, .int l3), (4, .int l4), (5, .int l5)] → W p l e ({ frames := 2, cells := 0, slots := 0, locals := 45 }) s m args below meth c s.heap [] 0 0 Q (F0 m 8 ls []) := by
    intro  n
    induction n with
    | zero => intro l3 l4 l5 h; exact (lp_0 h).elim
    | succ n ih8 =>
      intro l3 l4 l5 h ls hl
      obtain ⟨q8, h, hq8⟩ := lp_s h
      have h : bX1_extremePosition_8 o_size o_lasts_d o_leaders_d p1_values_d x2  l3 l4 l5 = some q8 := h
      unfold bX1_extremePosition_8 at h
      have J127 : ∀ (l5 : Int32) (l9 : Int32) (l10 : Int32), jX1_extremePosition_127  l5 l9 l10 = some q8 → ∀ ls, lv_has ls 11 [(0, .ref o), (1, .ref p1), (2, .int x2), (5, .int l5), (9, .int l9), (10, .int l10)] → W p l e ({ frames := 2, cells := 0, slots := 0, locals := 45 }) s m args below meth c s.heap [] 0 0 Q (F0 m 127 ls []) := by
        intro l5 l9 l10 h ls hl
        unfold jX1_extremePosition_127 at h
        refine lv_iload hx hb dX1_extremePosition_127 (lv_at hl 4 rfl) ?_
        refine lv_istore_n (lv' := [(3, .int l9), (0, .ref o), (1, .ref p1), (2, .int x2), (5, .int l5), (9, .int l9), (10, .int l10)]) hx hb dX1_extremePosition_129 rfl hl (by decide) rfl (fun ls hl => ?_)
        refine lv_iload hx hb dX1_extremePosition_130 (lv_at hl 6 rfl) ?_
        refine lv_istore (lv' := [(4, .int l10), (3, .int l9), (0, .ref o), (1, .ref p1), (2, .int x2), (5, .int l5), (9, .int l9), (10, .int l10)]) hx hb dX1_extremePosition_132 hl (by decide) rfl (fun ls hl => ?_)
        obtain ⟨y1, e_y1, h⟩ := nm_s h
        refine lv_iinc (v := y1) (lv' := [(5, .int y1), (4, .int l10), (3, .int l9), (0, .ref o), (1, .ref p1), (2, .int x2), (9, .int l9), (10, .int l10)]) hx hb dX1_extremePosition_134 hl (k := 5) rfl (by rw [e_y1]; rfl) (by decide) rfl (fun ls hl => ?_)
        refine lv_goto (tgt := 8) hx hb dX1_extremePosition_137 (by decide) ?_
        exact ih8 l9 l10 y1 (lp_l hq8 h) ls (lv_sub hl [3, 4, 5, 2, 1, 0] rfl)
      have J89 : ∀ (l3 : Int32) (l4 : Int32) (l5 : Int32) (l6 : Int32) (s0 : Int32), jX1_extremePosition_89 p1_values_d x2 l3 l4 l5 l6 s0 = some q8 → ∀ ls, lv_has ls 11 [(0, .ref o), (1, .ref p1), (2, .int x2), (3, .int l3), (4, .int l4), (5, .int l5), (6, .int l6)] → W p l e ({ frames := 2, cells := 0, slots := 0, locals := 45 }) s m args below meth c s.heap [] 0 0 Q (F0 m 89 ls [.int s0]) := by
        intro l3 l4 l5 l6 s0 h ls hl
        unfold jX1_extremePosition_89 at h
        refine lv_istore (lv' := [(9, .int s0), (0, .ref o), (1, .ref p1), (2, .int x2), (3, .int l3), (4, .int l4), (5, .int l5), (6, .int l6)]) hx hb dX1_extremePosition_89 hl (by decide) rfl (fun ls hl => ?_)
        refine lv_aload_n hx hb dX1_extremePosition_91 rfl (lv_at hl 2 rfl) ?_
        refine lv_iload hx hb dX1_extremePosition_92 (lv_at hl 7 rfl) ?_
        refine lv_iload hx hb dX1_extremePosition_94 (lv_at hl 0 rfl) ?_
        obtain ⟨r1, h_r1, h⟩ := bd_s h
        refine clVR (As := [.int l6, .int s0]) (rest := []) hx hb hml hown hts gX1_extremePosition_X6_height rfl 2 kX6_height ⟨Nat.le_of_ble_eq_true rfl, Nat.le_of_ble_eq_true rfl⟩ (ctX6_height l D ca p1 p1_values p1_now p1_size p1_values_d l6 s0 r1 h_r1) hP hK [3, 4] rfl 0 5 rfl rfl rfl rfl hl.1 rfl (Nat.le_of_ble_eq_true rfl) ⟨Nat.le_of_ble_eq_true rfl, Nat.le_of_ble_eq_true rfl⟩ dX1_extremePosition_96 rfl ?_
        refine lv_istore (lv' := [(10, .int r1), (9, .int s0), (0, .ref o), (1, .ref p1), (2, .int x2), (3, .int l3), (4, .int l4), (5, .int l5), (6, .int l6)]) hx hb dX1_extremePosition_99 hl (by decide) rfl (fun ls hl => ?_)
        refine lv_iload_n hx hb dX1_extremePosition_101 rfl (lv_at hl 5 rfl) ?_
        refine lv_iconst (v := (-1 : Int32)) hx hb dX1_extremePosition_102 (by decide) ?_
        refine lv_icmp_eq (tgt := 127) hx hb dX1_extremePosition_103 (by decide) (fun c2 => ?_) (fun c2 => ?_)
        · have h := ip_s h c2
          exact J127 l5 s0 r1 h ls (lv_sub hl [2, 3, 4, 7, 1, 0] rfl)
        · have h := in_s h c2
          refine lv_iload_n hx hb dX1_extremePosition_106 rfl (lv_at hl 4 rfl) ?_
          refine lv_if_eq (tgt := 120) hx hb dX1_extremePosition_107 (by decide) (fun c3 => ?_) (fun c3 => ?_)
          · have h := ip_s h c3
            refine lv_iload hx hb dX1_extremePosition_120 (lv_at hl 0 rfl) ?_
            refine lv_iload hx hb dX1_extremePosition_122 (lv_at hl 6 rfl) ?_
            refine lv_icmp_ge (tgt := 134) hx hb dX1_extremePosition_124 (by decide) (fun c4 => ?_) (fun c4 => ?_)
            · have h := ip_s h c4
              obtain ⟨y5, e_y5, h⟩ := nm_s h
              refine lv_iinc (v := y5) (lv' := [(5, .int y5), (10, .int r1), (9, .int s0), (0, .ref o), (1, .ref p1), (2, .int x2), (3, .int l3), (4, .int l4), (6, .int l6)]) hx hb dX1_extremePosition_134 hl (k := 7) rfl (by rw [e_y5]; rfl) (by decide) rfl (fun ls hl => ?_)
              refine lv_goto (tgt := 8) hx hb dX1_extremePosition_137 (by decide) ?_
              exact ih8 l3 l4 y5 (lp_l hq8 h) ls (lv_sub hl [3, 4, 5, 6, 7, 0] rfl)
            · have h := in_s h c4
              exact J127 l5 s0 r1 h ls (lv_sub hl [2, 3, 4, 7, 1, 0] rfl)
          · have h := in_s h c3
            refine lv_iload hx hb dX1_extremePosition_110 (lv_at hl 0 rfl) ?_
            refine lv_iload hx hb dX1_extremePosition_112 (lv_at hl 6 rfl) ?_
            refine lv_icmp_le (tgt := 134) hx hb dX1_extremePosition_114 (by decide) (fun c6 => ?_) (fun c6 => ?_)
            · have h := ip_s h c6
              obtain ⟨y7, e_y7, h⟩ := nm_s h
              refine lv_iinc (v := y7) (lv' := [(5, .int y7), (10, .int r1), (9, .int s0), (0, .ref o), (1, .ref p1), (2, .int x2), (3, .int l3), (4, .int l4), (6, .int l6)]) hx hb dX1_extremePosition_134 hl (k := 7) rfl (by rw [e_y7]; rfl) (by decide) rfl (fun ls hl => ?_)
              refine lv_goto (tgt := 8) hx hb dX1_extremePosition_137 (by decide) ?_
              exact ih8 l3 l4 y7 (lp_l hq8 h) ls (lv_sub hl [3, 4, 5, 6, 7, 0] rfl)
            · have h := in_s h c6
              refine lv_goto (tgt := 127) hx hb dX1_extremePosition_117 (by decide) ?_
              exact J127 l5 s0 r1 h ls (lv_sub hl [2, 3, 4, 7, 1, 0] rfl)
      have J67 : ∀ (l3 : Int32) (l4 : Int32) (l5 : Int32) (l6 : Int32) (s0 : Int32), jX1_extremePosition_67 o_lasts_d p1_values_d x2 l3 l4 l5 l6 s0 = some q8 → ∀ ls, lv_has ls 11 [(0, .ref o), (1, .ref p1), (2, .int x2), (3, .int l3), (4, .int l4), (5, .int l5), (6, .int l6)] → W p l e ({ frames := 2, cells := 0, slots := 0, locals := 45 }) s m args below meth c s.heap [] 0 0 Q (F0 m 67 ls [.int s0]) := by
        intro l3 l4 l5 l6 s0 h ls hl
        unfold jX1_extremePosition_67 at h
        refine lv_istore (lv' := [(8, .int s0), (0, .ref o), (1, .ref p1), (2, .int x2), (3, .int l3), (4, .int l4), (5, .int l5), (6, .int l6)]) hx hb dX1_extremePosition_67 hl (by decide) rfl (fun ls hl => ?_)
        refine lv_iload hx hb dX1_extremePosition_69 (lv_at hl 0 rfl) ?_
        refine lv_if_eq (tgt := 83) hx hb dX1_extremePosition_71 (by decide) (fun c1 => ?_) (fun c1 => ?_)
        · have h := ip_s h c1
          refine lv_aload_n hx hb dX1_extremePosition_83 rfl (lv_at hl 1 rfl) ?_
          refine lv_iload hx hb dX1_extremePosition_84 (lv_at hl 6 rfl) ?_
          obtain ⟨r2, h_r2, h⟩ := bd_s h
          refine clVR (As := [.int l5]) (rest := []) hx hb hml hown hts gX1_extremePosition_X1_first rfl 1 kX1_first ⟨Nat.le_of_ble_eq_true rfl, Nat.le_of_ble_eq_true rfl⟩ (ctX1_first l D ca o o_lasts o_leaders o_size o_lasts_d l5 r2 h_r2) hP hK [0, 1] rfl 0 0 rfl rfl rfl rfl hl.1 rfl (Nat.le_of_ble_eq_true rfl) ⟨Nat.le_of_ble_eq_true rfl, Nat.le_of_ble_eq_true rfl⟩ dX1_extremePosition_86 rfl ?_
          exact J89 l3 l4 l5 l6 r2 h ls (lv_sub hl [1, 2, 3, 4, 5, 6, 7] rfl)
        · have h := in_s h c1
          refine lv_aload_n hx hb dX1_extremePosition_74 rfl (lv_at hl 1 rfl) ?_
          refine lv_iload hx hb dX1_extremePosition_75 (lv_at hl 6 rfl) ?_
          obtain ⟨r8, h_r8, h⟩ := bd_s h
          refine clVR (As := [.int l5]) (rest := []) hx hb hml hown hts gX1_extremePosition_X1_last rfl 1 kX1_last ⟨Nat.le_of_ble_eq_true rfl, Nat.le_of_ble_eq_true rfl⟩ (ctX1_last l D ca o o_lasts o_leaders o_size o_lasts_d l5 r8 h_r8) hP hK [0, 1] rfl 0 0 rfl rfl rfl rfl hl.1 rfl (Nat.le_of_ble_eq_true rfl) ⟨Nat.le_of_ble_eq_true rfl, Nat.le_of_ble_eq_true rfl⟩ dX1_extremePosition_77 rfl ?_
          refine lv_goto (tgt := 89) hx hb dX1_extremePosition_80 (by decide) ?_
          exact J89 l3 l4 l5 l6 r8 h ls (lv_sub hl [1, 2, 3, 4, 5, 6, 7] rfl)
      refine lv_iload hx hb dX1_extremePosition_8 (lv_at hl 5 rfl) ?_
      refine lv_aload_n hx hb dX1_extremePosition_10 rfl (lv_at hl 0 rfl) ?_
      refine gtF (ci := 0) (v := .int o_size) (C := RX1) (T := TX1) (N := 3) hx hb hts inX1_extremePosition_X1 hown hK hP 0 rfl rfl 0 (by decide) mwX1_extremePosition_0 rfl rfl dX1_extremePosition_11 ?_
      refine lv_icmp_ge (tgt := 140) hx hb dX1_extremePosition_14 (by decide) (fun c1 => ?_) (fun c1 => ?_)
      · have h := ip_s h c1
        have h := xt_s hq8 h
        refine lv_iload_n hx hb dX1_extremePosition_140 rfl (lv_at hl 3 rfl) ?_
        cases h
        exact hret 141 ls _ rfl dX1_extremePosition_141
      · have h := in_s h c1
        refine lv_aload_n hx hb dX1_extremePosition_17 rfl (lv_at hl 0 rfl) ?_
        refine lv_iload hx hb dX1_extremePosition_18 (lv_at hl 5 rfl) ?_
        obtain ⟨r2, h_r2, h⟩ := bd_s h
        refine clVR (As := [.int l5]) (rest := []) hx hb hml hown hts gX1_extremePosition_X1_leader rfl 1 kX1_leader ⟨Nat.le_of_ble_eq_true rfl, Nat.le_of_ble_eq_true rfl⟩ (ctX1_leader l D ca o o_lasts o_leaders o_size o_leaders_d l5 r2 h_r2) hP hK [0, 2] rfl 0 0 rfl rfl rfl rfl hl.1 rfl (Nat.le_of_ble_eq_true rfl) ⟨Nat.le_of_ble_eq_true rfl, Nat.le_of_ble_eq_true rfl⟩ dX1_extremePosition_20 rfl ?_
        refine lv_istore (lv' := [(6, .int r2), (0, .ref o), (1, .ref p1), (2, .int x2), (3, .int l3), (4, .int l4), (5, .int l5)]) hx hb dX1_extremePosition_23 hl (by decide) rfl (fun ls hl => ?_)
        refine lv_iload hx hb dX1_extremePosition_25 (lv_at hl 0 rfl) ?_
        refine lv_iconst (v := (-1 : Int32)) hx hb dX1_extremePosition_27 (by decide) ?_
        refine lv_icmp_eq (tgt := 134) hx hb dX1_extremePosition_28 (by decide) (fun c3 => ?_) (fun c3 => ?_)
        · have h := ip_s h c3
          obtain ⟨y4, e_y4, h⟩ := nm_s h
          refine lv_iinc (v := y4) (lv' := [(5, .int y4), (6, .int r2), (0, .ref o), (1, .ref p1), (2, .int x2), (3, .int l3), (4, .int l4)]) hx hb dX1_extremePosition_134 hl (k := 6) rfl (by rw [e_y4]; rfl) (by decide) rfl (fun ls hl => ?_)
          refine lv_goto (tgt := 8) hx hb dX1_extremePosition_137 (by decide) ?_
          exact ih8 l3 l4 y4 (lp_l hq8 h) ls (lv_sub hl [2, 3, 4, 5, 6, 0] rfl)
        · have h := in_s h c3
          refine lv_aload_n hx hb dX1_extremePosition_31 rfl (lv_at hl 2 rfl) ?_
          refine lv_iload hx hb dX1_extremePosition_32 (lv_at hl 0 rfl) ?_
          refine lv_iconst (v := (0 : Int32)) hx hb dX1_extremePosition_34 (by decide) ?_
          obtain ⟨r5, h_r5, h⟩ := bd_s h
          refine clVR (As := [.int r2, .int (0 : Int32)]) (rest := []) hx hb hml hown hts gX1_extremePosition_X6_value rfl 2 kX6_value ⟨Nat.le_of_ble_eq_true rfl, Nat.le_of_ble_eq_true rfl⟩ (ctX6_value l D ca p1 p1_values p1_now p1_size p1_values_d r2 (0 : Int32) r5 h_r5) hP hK [3, 4] rfl 0 5 rfl rfl rfl rfl hl.1 rfl (Nat.le_of_ble_eq_true rfl) ⟨Nat.le_of_ble_eq_true rfl, Nat.le_of_ble_eq_true rfl⟩ dX1_extremePosition_35 rfl ?_
          refine lv_istore (lv' := [(7, .int r5), (6, .int r2), (0, .ref o), (1, .ref p1), (2, .int x2), (3, .int l3), (4, .int l4), (5, .int l5)]) hx hb dX1_extremePosition_38 hl (by decide) rfl (fun ls hl => ?_)
          refine lv_iload_n hx hb dX1_extremePosition_40 rfl (lv_at hl 4 rfl) ?_
          refine lv_if_eq (tgt := 57) hx hb dX1_extremePosition_41 (by decide) (fun c6 => ?_) (fun c6 => ?_)
          · have h := ip_s h c6
            refine lv_iload hx hb dX1_extremePosition_57 (lv_at hl 0 rfl) ?_
            refine lv_if_ge (tgt := 66) hx hb dX1_extremePosition_59 (by decide) (fun c7 => ?_) (fun c7 => ?_)
            · have h := ip_s h c7
              refine lv_iconst (v := (0 : Int32)) hx hb dX1_extremePosition_66 (by decide) ?_
              exact J67 l3 l4 l5 r2 (0 : Int32) h ls (lv_sub hl [2, 3, 4, 5, 6, 7, 1] rfl)
            · have h := in_s h c7
              refine lv_iconst (v := (1 : Int32)) hx hb dX1_extremePosition_62 (by decide) ?_
              refine lv_goto (tgt := 67) hx hb dX1_extremePosition_63 (by decide) ?_
              exact J67 l3 l4 l5 r2 (1 : Int32) h ls (lv_sub hl [2, 3, 4, 5, 6, 7, 1] rfl)
          · have h := in_s h c6
            refine lv_iload hx hb dX1_extremePosition_44 (lv_at hl 0 rfl) ?_
            refine lv_if_le (tgt := 53) hx hb dX1_extremePosition_46 (by decide) (fun c9 => ?_) (fun c9 => ?_)
            · have h := ip_s h c9
              refine lv_iconst (v := (0 : Int32)) hx hb dX1_extremePosition_53 (by decide) ?_
              refine lv_goto (tgt := 67) hx hb dX1_extremePosition_54 (by decide) ?_
              exact J67 l3 l4 l5 r2 (0 : Int32) h ls (lv_sub hl [2, 3, 4, 5, 6, 7, 1] rfl)
            · have h := in_s h c9
              refine lv_iconst (v := (1 : Int32)) hx hb dX1_extremePosition_49 (by decide) ?_
              refine lv_goto (tgt := 67) hx hb dX1_extremePosition_50 (by decide) ?_
              exact J67 l3 l4 l5 r2 (1 : Int32) h ls (lv_sub hl [2, 3, 4, 5, 6, 7, 1] rfl)
  refine lv_iconst (v := (-1 : Int32)) hx hb dX1_extremePosition_0 (by decide) ?_
  refine lv_istore_n (lv' := [(3, .int (-1 : Int32)), (0, .ref o), (1, .ref p1), (2, .int x2)]) hx hb dX1_extremePosition_1 rfl hl (by decide) rfl (fun ls hl => ?_)
  refine lv_iconst (v := (0 : Int32)) hx hb dX1_extremePosition_2 (by decide) ?_
  refine lv_istore (lv' := [(4, .int (0 : Int32)), (3, .int (-1 : Int32)), (0, .ref o), (1, .ref p1), (2, .int x2)]) hx hb dX1_extremePosition_3 hl (by decide) rfl (fun ls hl => ?_)
  refine lv_iconst (v := (0 : Int32)) hx hb dX1_extremePosition_5 (by decide) ?_
  refine lv_istore (lv' := [(5, .int (0 : Int32)), (4, .int (0 : Int32)), (3, .int (-1 : Int32)), (0, .ref o), (1, .ref p1), (2, .int x2)]) hx hb dX1_extremePosition_6 hl (by decide) rfl (fun ls hl => ?_)
  exact L8  fuel (-1 : Int32) (0 : Int32) (0 : Int32) h ls (lv_sub hl [3, 4, 5, 2, 1, 0] rfl)
theorem mwX1_mixedInto_0 : Cond.fieldLink RX1 18 "SegmentTimes$Envelope" "size" "I" ∈ wsX1_mixedInto := List.mem_of_getElem? (i := 1) rfl
theorem mwX1_mixedInto_1 : Cond.initialized yX7_mixed.cls ∈ wsX1_mixedInto := List.mem_of_getElem? (i := 3) rfl
theorem mwX1_mixedInto_2 : Cond.static yX7_mixed ∈ wsX1_mixedInto := List.mem_of_getElem? (i := 2) rfl
theorem inX1_mixedInto_X1 : ∀ w ∈ u_ws RX1 TX1 3, w ∈ wsX1_mixedInto := fun w h => List.mem_cons_of_mem _ (List.mem_append_right _ (h))
theorem kX1_mixedInto : yX1_mixedInto.cls = RX1 ∧ yX1_mixedInto.cls ≠ "java/lang/invoke/MethodHandle" ∧ yX1_mixedInto.cls ≠ "java/lang/invoke/VarHandle" ∧ (parseMethodDescriptor yX1_mixedInto.desc).map (fun d => d.parameters.length) = some 1 := by decide +kernel
set_option maxHeartbeats 4000000 in
set_option maxRecDepth 100000 in
theorem ctX1_mixedInto (l : Launch) (D : va_G) (ca : Nat → ClassId) (o : Nat) (o_lasts : Nat) (o_leaders : Nat) (o_size : Int32) (o_lasts_d : Nat → Int32) (o_leaders_d : Nat → Int32) (x1 : Int64) (u0 : Int64) (hf : fX1_mixedInto o_size o_lasts_d o_leaders_d x1 = some u0) : MR l yX1_mixedInto wsX1_mixedInto 3 64 D ca [.ref o, .long x1] [(o, .inr (0, [.int o_size, .ref o_lasts, .ref o_leaders])), (o_lasts, .inl (ca 0, 256, .inl o_lasts_d)), (o_leaders, .inl (ca 0, 256, .inl o_leaders_d))] (some (.long u0)) := by
  refine hdRl (plainFor_of_name (by decide +kernel)) rfl (Nat.le_of_ble_eq_true rfl) ?_
  intro p e s m args below meth c Q hx hb hml hown hts hP hK hret ls hl
  have hown : s.vm.findClass RX1 = some m.cls := hown
  have hl : lv_has ls 5 [(0, .ref o), (1, .long x1)] := hl
  have h := hf
  unfold fX1_mixedInto at h
  clear hf
  have L12 : ∀  (n : Nat) (l1 : Int64) (l3 : Int32), lp (fun q => bX1_mixedInto_12 o_size o_lasts_d o_leaders_d  q.1 q.2) n (l1, l3) = some u0 → ∀ ls, lv_has ls 5 [(0, .ref o), (1, .long l1), (3, .int l3)] → W p l e ({ frames := 3, cells := 0, slots := 0, locals := 64 }) s m args below meth c s.heap [] 0 0 Q (F0 m 12 ls []) := by
    intro  n
    induction n with
    | zero => intro l1 l3 h; exact (lp_0 h).elim
    | succ n ih12 =>
      intro l1 l3 h ls hl
      obtain ⟨q12, h, hq12⟩ := lp_s h
      have h : bX1_mixedInto_12 o_size o_lasts_d o_leaders_d  l1 l3 = some q12 := h
      unfold bX1_mixedInto_12 at h
      have L23 : ∀ (l3 : Int32) (n : Nat) (l1 : Int64) (l4 : Int32), lp (fun q => bX1_mixedInto_23 o_lasts_d o_leaders_d l3 q.1 q.2) n (l1, l4) = some q12 → ∀ ls, lv_has ls 5 [(0, .ref o), (1, .long l1), (3, .int l3), (4, .int l4)] → W p l e ({ frames := 3, cells := 0, slots := 0, locals := 64 }) s m args below meth c s.heap [] 0 0 Q (F0 m 23 ls []) := by
        intro l3 n
        induction n with
        | zero => intro l1 l4 h; exact (lp_0 h).elim
        | succ n ih23 =>
          intro l1 l4 h ls hl
          obtain ⟨q23, h, hq23⟩ := lp_s h
          have h : bX1_mixedInto_23 o_lasts_d o_leaders_d l3 l1 l4 = some q23 := h
          unfold bX1_mixedInto_23 at h
          refine lv_iload hx hb dX1_mixedInto_23 (lv_at hl 3 rfl) ?_
          refine lv_iconst (v := (3 : Int32)) hx hb dX1_mixedInto_25 (by decide) ?_
          refine lv_icmp_ge (tgt := 48) hx hb dX1_mixedInto_26 (by decide) (fun c1 => ?_) (fun c1 => ?_)
          · have h := ip_s h c1
            have h := xt_s hq23 h
            obtain ⟨y2, e_y2, h⟩ := nm_s h
            refine lv_iinc (v := y2) (lv' := [(3, .int y2), (0, .ref o), (1, .long l1), (4, .int l4)]) hx hb dX1_mixedInto_48 hl (k := 2) rfl (by rw [e_y2]; rfl) (by decide) rfl (fun ls hl => ?_)
            refine lv_goto (tgt := 12) hx hb dX1_mixedInto_51 (by decide) ?_
            exact ih12 l1 y2 (lp_l hq12 h) ls (lv_sub hl [1, 2, 0] rfl)
          · have h := in_s h c1
            refine lv_lload_n hx hb dX1_mixedInto_29 rfl (lv_at hl 1 rfl) ?_
            refine lv_aload_n hx hb dX1_mixedInto_30 rfl (lv_at hl 0 rfl) ?_
            refine lv_iload_n hx hb dX1_mixedInto_31 rfl (lv_at hl 2 rfl) ?_
            refine lv_iload hx hb dX1_mixedInto_32 (lv_at hl 3 rfl) ?_
            obtain ⟨r3, h_r3, h⟩ := bd_s h
            refine clVR (As := [.int l3, .int l4]) (rest := [.long l1]) hx hb hml hown hts gX1_mixedInto_X1_value rfl 2 kX1_value ⟨Nat.le_of_ble_eq_true rfl, Nat.le_of_ble_eq_true rfl⟩ (ctX1_value l D ca o o_lasts o_leaders o_size o_lasts_d o_leaders_d l3 l4 r3 h_r3) hP hK [0, 1, 2] rfl 0 0 rfl rfl rfl rfl hl.1 rfl (Nat.le_of_ble_eq_true rfl) ⟨Nat.le_of_ble_eq_true rfl, Nat.le_of_ble_eq_true rfl⟩ dX1_mixedInto_34 rfl ?_
            refine lv_i2l (v := (r3).toInt64) hx hb dX1_mixedInto_37 rfl ?_
            obtain ⟨r4, h_r4, h⟩ := bd_s h
            refine clNR (As := [.long l1, .long (r3).toInt64]) (rest := []) hx hb hml hown hts gX1_mixedInto_X7_mixed_n58 rfl 2 kX7_mixed.2 ⟨Nat.le_of_ble_eq_true rfl, Nat.le_of_ble_eq_true rfl⟩ hK.2.2.2.1 mwX1_mixedInto_1 mwX1_mixedInto_2 (ctX7_mixed l D ca   l1 ((r3).toInt64) r4 h_r4) hP hK [] rfl rfl hl.1 rfl (Nat.le_of_ble_eq_true rfl) ⟨Nat.le_of_ble_eq_true rfl, Nat.le_of_ble_eq_true rfl⟩ dX1_mixedInto_38 rfl ?_
            refine lv_lstore_n (lv' := [(1, .long r4), (0, .ref o), (3, .int l3), (4, .int l4)]) hx hb dX1_mixedInto_41 rfl hl (by decide) rfl (fun ls hl => ?_)
            obtain ⟨y5, e_y5, h⟩ := nm_s h
            refine lv_iinc (v := y5) (lv' := [(4, .int y5), (1, .long r4), (0, .ref o), (3, .int l3)]) hx hb dX1_mixedInto_42 hl (k := 3) rfl (by rw [e_y5]; rfl) (by decide) rfl (fun ls hl => ?_)
            refine lv_goto (tgt := 23) hx hb dX1_mixedInto_45 (by decide) ?_
            exact ih23 r4 y5 (lp_l hq23 h) ls (lv_sub hl [2, 1, 3, 0] rfl)
      refine lv_iload_n hx hb dX1_mixedInto_12 rfl (lv_at hl 2 rfl) ?_
      refine lv_aload_n hx hb dX1_mixedInto_13 rfl (lv_at hl 0 rfl) ?_
      refine gtF (ci := 0) (v := .int o_size) (C := RX1) (T := TX1) (N := 3) hx hb hts inX1_mixedInto_X1 hown hK hP 0 rfl rfl 0 (by decide) mwX1_mixedInto_0 rfl rfl dX1_mixedInto_14 ?_
      refine lv_icmp_ge (tgt := 54) hx hb dX1_mixedInto_17 (by decide) (fun c1 => ?_) (fun c1 => ?_)
      · have h := ip_s h c1
        have h := xt_s hq12 h
        refine lv_lload_n hx hb dX1_mixedInto_54 rfl (lv_at hl 1 rfl) ?_
        cases h
        exact hret 55 ls _ rfl dX1_mixedInto_55
      · have h := in_s h c1
        refine lv_iconst (v := (0 : Int32)) hx hb dX1_mixedInto_20 (by decide) ?_
        refine lv_istore (lv' := [(4, .int (0 : Int32)), (0, .ref o), (1, .long l1), (3, .int l3)]) hx hb dX1_mixedInto_21 hl (by decide) rfl (fun ls hl => ?_)
        exact L23 l3 fuel l1 (0 : Int32) h ls (lv_sub hl [1, 2, 3, 0] rfl)
  refine lv_lload_n hx hb dX1_mixedInto_0 rfl (lv_at hl 1 rfl) ?_
  refine lv_aload_n hx hb dX1_mixedInto_1 rfl (lv_at hl 0 rfl) ?_
  refine gtF (ci := 0) (v := .int o_size) (C := RX1) (T := TX1) (N := 3) hx hb hts inX1_mixedInto_X1 hown hK hP 0 rfl rfl 0 (by decide) mwX1_mixedInto_0 rfl rfl dX1_mixedInto_2 ?_
  refine lv_i2l (v := (o_size).toInt64) hx hb dX1_mixedInto_5 rfl ?_
  obtain ⟨r1, h_r1, h⟩ := bd_s h
  refine clNR (As := [.long x1, .long (o_size).toInt64]) (rest := []) hx hb hml hown hts gX1_mixedInto_X7_mixed_n58 rfl 2 kX7_mixed.2 ⟨Nat.le_of_ble_eq_true rfl, Nat.le_of_ble_eq_true rfl⟩ hK.2.2.2.1 mwX1_mixedInto_1 mwX1_mixedInto_2 (ctX7_mixed l D ca   x1 ((o_size).toInt64) r1 h_r1) hP hK [] rfl rfl hl.1 rfl (Nat.le_of_ble_eq_true rfl) ⟨Nat.le_of_ble_eq_true rfl, Nat.le_of_ble_eq_true rfl⟩ dX1_mixedInto_6 rfl ?_
  refine lv_lstore_n (lv' := [(1, .long r1), (0, .ref o)]) hx hb dX1_mixedInto_9 rfl hl (by decide) rfl (fun ls hl => ?_)
  refine lv_iconst (v := (0 : Int32)) hx hb dX1_mixedInto_10 (by decide) ?_
  refine lv_istore_n (lv' := [(3, .int (0 : Int32)), (1, .long r1), (0, .ref o)]) hx hb dX1_mixedInto_11 rfl hl (by decide) rfl (fun ls hl => ?_)
  exact L12  fuel r1 (0 : Int32) h ls (lv_sub hl [2, 1, 0] rfl)
