theorem mwX4_put_0 : Cond.fieldLink RX4 18 "SegmentTimes$Script" "length" "I" ∈ wsX4_put := List.mem_of_getElem? (i := 1) rfl
theorem mwX4_put_1 : Cond.fieldLink RX4 9 "SegmentTimes$Script" "bytes" "[I" ∈ wsX4_put := List.mem_of_getElem? (i := 2) rfl
theorem inX4_put_X4 : ∀ w ∈ u_ws RX4 TX4 5, w ∈ wsX4_put := fun w h => List.mem_cons_of_mem _ (List.mem_append_right _ (h))
theorem kX4_put : yX4_put.cls = RX4 ∧ yX4_put.cls ≠ "java/lang/invoke/MethodHandle" ∧ yX4_put.cls ≠ "java/lang/invoke/VarHandle" ∧ (parseMethodDescriptor yX4_put.desc).map (fun d => d.parameters.length) = some 1 := by decide +kernel
set_option maxHeartbeats 4000000 in
set_option maxRecDepth 100000 in
theorem ctX4_put (l : Launch) (D : va_G) (ca : Nat → ClassId) (o : Nat) (o_bytes : Nat) (o_numbers : Nat) (o_length : Int32) (o_command : Int32) (o_place : Int32) (o_bytes_d : Nat → Int32) (x1 : Int32) (sz : Nat) (u0 : Int32) (u1 : Int32) (u2 : Nat → Int32) (hf : fX4_put o_length o_bytes_d x1 = some (u0, u1, u2)) : MW l yX4_put wsX4_put 0 0 D ca [.ref o, .int x1] sz [(o, .inr (3, [.int o_length, .int o_command, .int o_place, .ref o_bytes, .ref o_numbers])), (o_bytes, .inl (ca 0, 120, .inl o_bytes_d))] (some (.int u0)) [(o, .inr (3, [.int u1, .int o_command, .int o_place, .ref o_bytes, .ref o_numbers])), (o_bytes, .inl (ca 0, 120, .inl u2))] := by
  refine hdWi (by decide +kernel) rfl (Nat.le_of_ble_eq_true rfl) ?_
  intro p e s m args below meth c A Q hx hb hml hown hts hP hD hK hA hS hret ls hl
  have hown : s.vm.findClass RX4 = some m.cls := hown
  have hl : lv_has ls 2 [(0, .ref o), (1, .int x1)] := hl
  have h := hf
  unfold fX4_put at h
  clear hf
  refine lv_aload_n hx hb dX4_put_0 rfl (lv_at hl 0 rfl) ?_
  refine gtF (ci := 3) (v := .int o_length) (C := RX4) (T := TX4) (N := 5) hx hb hts inX4_put_X4 hown hK hP 0 rfl rfl 0 (by decide) mwX4_put_0 rfl rfl dX4_put_1 ?_
  refine lv_if_lt (tgt := 39) hx hb dX4_put_4 (by decide) (fun c1 => ?_) (fun c1 => ?_)
  · have h := ip_s h c1
    refine lv_aload_n hx hb dX4_put_39 rfl (lv_at hl 0 rfl) ?_
    refine gtF (ci := 3) (v := .int o_length) (C := RX4) (T := TX4) (N := 5) hx hb hts inX4_put_X4 hown hK hP 0 rfl rfl 0 (by decide) mwX4_put_0 rfl rfl dX4_put_40 ?_
    cases h
    exact hret 43 ls _ _ _ hP hD hS rfl dX4_put_43
  · have h := in_s h c1
    refine lv_aload_n hx hb dX4_put_7 rfl (lv_at hl 0 rfl) ?_
    refine gtF (ci := 3) (v := .int o_length) (C := RX4) (T := TX4) (N := 5) hx hb hts inX4_put_X4 hown hK hP 0 rfl rfl 0 (by decide) mwX4_put_0 rfl rfl dX4_put_8 ?_
    refine lv_aload_n hx hb dX4_put_11 rfl (lv_at hl 0 rfl) ?_
    refine gtF (ci := 3) (v := .ref o_bytes) (C := RX4) (T := TX4) (N := 5) hx hb hts inX4_put_X4 hown hK hP 0 rfl rfl 3 (by decide) mwX4_put_1 rfl rfl dX4_put_12 ?_
    refine alI (v := (120 : Int32)) hx hb hK hP 1 0 rfl rfl rfl dX4_put_15 ?_
    refine lv_icmp_ge (tgt := 39) hx hb dX4_put_16 (by decide) (fun c2 => ?_) (fun c2 => ?_)
    · have h := ip_s h c2
      refine lv_aload_n hx hb dX4_put_39 rfl (lv_at hl 0 rfl) ?_
      refine gtF (ci := 3) (v := .int o_length) (C := RX4) (T := TX4) (N := 5) hx hb hts inX4_put_X4 hown hK hP 0 rfl rfl 0 (by decide) mwX4_put_0 rfl rfl dX4_put_40 ?_
      cases h
      exact hret 43 ls _ _ _ hP hD hS rfl dX4_put_43
    · have h := in_s h c2
      refine lv_aload_n hx hb dX4_put_19 rfl (lv_at hl 0 rfl) ?_
      refine gtF (ci := 3) (v := .ref o_bytes) (C := RX4) (T := TX4) (N := 5) hx hb hts inX4_put_X4 hown hK hP 0 rfl rfl 3 (by decide) mwX4_put_1 rfl rfl dX4_put_20 ?_
      refine lv_aload_n hx hb dX4_put_23 rfl (lv_at hl 0 rfl) ?_
      refine gtF (ci := 3) (v := .int o_length) (C := RX4) (T := TX4) (N := 5) hx hb hts inX4_put_X4 hown hK hP 0 rfl rfl 0 (by decide) mwX4_put_0 rfl rfl dX4_put_24 ?_
      refine lv_iload_n hx hb dX4_put_27 rfl (lv_at hl 1 rfl) ?_
      obtain ⟨hin, g3, e_g3, h⟩ := wr_s h
      refine stI (wn := [(o, .inr (3, [.int o_length, .int o_command, .int o_place, .ref o_bytes, .ref o_numbers])), (o_bytes, .inl (ca 0, 120, .inl g3))]) hx hb hK hP hD hS 1 rfl hin e_g3 rfl dX4_put_28 (fun H locs hP hD hS => ?_)
      refine lv_aload_n hx hb dX4_put_29 rfl (lv_at hl 0 rfl) ?_
      refine lv_dup hx hb dX4_put_30 rfl ?_
      refine gtF (ci := 3) (v := .int o_length) (C := RX4) (T := TX4) (N := 5) hx hb hts inX4_put_X4 hown hK hP 0 rfl rfl 0 (by decide) mwX4_put_0 rfl rfl dX4_put_31 ?_
      refine lv_iconst (v := (1 : Int32)) hx hb dX4_put_34 (by decide) ?_
      refine lv_iadd hx hb dX4_put_35 ?_
      obtain ⟨y4, e_y4, h⟩ := nm_s h
      refine top_i e_y4 ?_
      refine ptI (ci := 3) (v := .int y4) (ty := .int) (C := RX4) (T := TX4) (N := 5) (wn := [(o, .inr (3, [.int y4, .int o_command, .int o_place, .ref o_bytes, .ref o_numbers])), (o_bytes, .inl (ca 0, 120, .inl g3))]) hx hb hts inX4_put_X4 tyX4 tyX4_ok nmX4 hown hK hP hD hS 0 rfl rfl 0 (by decide) mwX4_put_0 rfl rfl (by decide +kernel) rfl rfl (Nat.le_of_ble_eq_true rfl) rfl dX4_put_36 (fun H locs hP hD hS => ?_)
      refine lv_aload_n hx hb dX4_put_39 rfl (lv_at hl 0 rfl) ?_
      refine gtF (ci := 3) (v := .int y4) (C := RX4) (T := TX4) (N := 5) hx hb hts inX4_put_X4 hown hK hP 0 rfl rfl 0 (by decide) mwX4_put_0 rfl rfl dX4_put_40 ?_
      cases h
      exact hret 43 ls _ _ _ hP hD hS rfl dX4_put_43
theorem mwX4_wipe_0 : Cond.fieldLink RX4 18 "SegmentTimes$Script" "length" "I" ∈ wsX4_wipe := List.mem_of_getElem? (i := 1) rfl
theorem inX4_wipe_X4 : ∀ w ∈ u_ws RX4 TX4 5, w ∈ wsX4_wipe := fun w h => List.mem_cons_of_mem _ (List.mem_append_right _ (h))
theorem kX4_wipe : yX4_wipe.cls = RX4 ∧ yX4_wipe.cls ≠ "java/lang/invoke/MethodHandle" ∧ yX4_wipe.cls ≠ "java/lang/invoke/VarHandle" ∧ (parseMethodDescriptor yX4_wipe.desc).map (fun d => d.parameters.length) = some 0 := by decide +kernel
set_option maxHeartbeats 4000000 in
set_option maxRecDepth 100000 in
theorem ctX4_wipe (l : Launch) (D : va_G) (ca : Nat → ClassId) (o : Nat) (o_bytes : Nat) (o_numbers : Nat) (o_length : Int32) (o_command : Int32) (o_place : Int32)  (sz : Nat) (u0 : Int32) (u1 : Int32) (hf : fX4_wipe o_length = some (u0, u1)) : MW l yX4_wipe wsX4_wipe 0 0 D ca [.ref o] sz [(o, .inr (3, [.int o_length, .int o_command, .int o_place, .ref o_bytes, .ref o_numbers]))] (some (.int u0)) [(o, .inr (3, [.int u1, .int o_command, .int o_place, .ref o_bytes, .ref o_numbers]))] := by
  refine hdWi (by decide +kernel) rfl (Nat.le_of_ble_eq_true rfl) ?_
  intro p e s m args below meth c A Q hx hb hml hown hts hP hD hK hA hS hret ls hl
  have hown : s.vm.findClass RX4 = some m.cls := hown
  have hl : lv_has ls 2 [(0, .ref o)] := hl
  have h := hf
  unfold fX4_wipe at h
  clear hf
  refine lv_aload_n hx hb dX4_wipe_0 rfl (lv_at hl 0 rfl) ?_
  refine gtF (ci := 3) (v := .int o_length) (C := RX4) (T := TX4) (N := 5) hx hb hts inX4_wipe_X4 hown hK hP 0 rfl rfl 0 (by decide) mwX4_wipe_0 rfl rfl dX4_wipe_1 ?_
  refine lv_istore_n (lv' := [(1, .int o_length), (0, .ref o)]) hx hb dX4_wipe_4 rfl hl (by decide) rfl (fun ls hl => ?_)
  refine lv_aload_n hx hb dX4_wipe_5 rfl (lv_at hl 1 rfl) ?_
  refine lv_iconst (v := (0 : Int32)) hx hb dX4_wipe_6 (by decide) ?_
  refine ptI (ci := 3) (v := .int (0 : Int32)) (ty := .int) (C := RX4) (T := TX4) (N := 5) (wn := [(o, .inr (3, [.int (0 : Int32), .int o_command, .int o_place, .ref o_bytes, .ref o_numbers]))]) hx hb hts inX4_wipe_X4 tyX4 tyX4_ok nmX4 hown hK hP hD hS 0 rfl rfl 0 (by decide) mwX4_wipe_0 rfl rfl (by decide +kernel) rfl rfl (Nat.le_of_ble_eq_true rfl) rfl dX4_wipe_7 (fun H locs hP hD hS => ?_)
  refine lv_iload_n hx hb dX4_wipe_10 rfl (lv_at hl 0 rfl) ?_
  cases h
  exact hret 11 ls _ _ _ hP hD hS rfl dX4_wipe_11
theorem mwX4_number_0 : Cond.fieldLink RX4 15 "SegmentTimes$Script" "numbers" "[I" ∈ wsX4_number := List.mem_of_getElem? (i := 1) rfl
theorem inX4_number_X4 : ∀ w ∈ u_ws RX4 TX4 5, w ∈ wsX4_number := fun w h => List.mem_cons_of_mem _ (List.mem_append_right _ (h))
theorem kX4_number : yX4_number.cls = RX4 ∧ yX4_number.cls ≠ "java/lang/invoke/MethodHandle" ∧ yX4_number.cls ≠ "java/lang/invoke/VarHandle" ∧ (parseMethodDescriptor yX4_number.desc).map (fun d => d.parameters.length) = some 1 := by decide +kernel
set_option maxHeartbeats 4000000 in
set_option maxRecDepth 100000 in
theorem ctX4_number (l : Launch) (D : va_G) (ca : Nat → ClassId) (o : Nat) (o_bytes : Nat) (o_numbers : Nat) (o_length : Int32) (o_command : Int32) (o_place : Int32) (o_numbers_d : Nat → Int32) (x1 : Int32) (u0 : Int32) (hf : fX4_number o_numbers_d x1 = some u0) : MR l yX4_number wsX4_number 0 0 D ca [.ref o, .int x1] [(o, .inr (3, [.int o_length, .int o_command, .int o_place, .ref o_bytes, .ref o_numbers])), (o_numbers, .inl (ca 0, 4, .inl o_numbers_d))] (some (.int u0)) := by
  refine hdRi (plainFor_of_name (by decide +kernel)) rfl (Nat.le_of_ble_eq_true rfl) ?_
  intro p e s m args below meth c Q hx hb hml hown hts hP hK hret ls hl
  have hown : s.vm.findClass RX4 = some m.cls := hown
  have hl : lv_has ls 2 [(0, .ref o), (1, .int x1)] := hl
  have h := hf
  unfold fX4_number at h
  clear hf
  refine lv_iload_n hx hb dX4_number_0 rfl (lv_at hl 1 rfl) ?_
  refine lv_if_lt (tgt := 22) hx hb dX4_number_1 (by decide) (fun c1 => ?_) (fun c1 => ?_)
  · have h := ip_s h c1
    refine lv_iconst (v := (0 : Int32)) hx hb dX4_number_22 (by decide) ?_
    cases h
    exact hret 23 ls _ rfl dX4_number_23
  · have h := in_s h c1
    refine lv_iload_n hx hb dX4_number_4 rfl (lv_at hl 1 rfl) ?_
    refine lv_aload_n hx hb dX4_number_5 rfl (lv_at hl 0 rfl) ?_
    refine gtF (ci := 3) (v := .ref o_numbers) (C := RX4) (T := TX4) (N := 5) hx hb hts inX4_number_X4 hown hK hP 0 rfl rfl 4 (by decide) mwX4_number_0 rfl rfl dX4_number_6 ?_
    refine alI (v := (4 : Int32)) hx hb hK hP 1 0 rfl rfl rfl dX4_number_9 ?_
    refine lv_icmp_ge (tgt := 22) hx hb dX4_number_10 (by decide) (fun c2 => ?_) (fun c2 => ?_)
    · have h := ip_s h c2
      refine lv_iconst (v := (0 : Int32)) hx hb dX4_number_22 (by decide) ?_
      cases h
      exact hret 23 ls _ rfl dX4_number_23
    · have h := in_s h c2
      refine lv_aload_n hx hb dX4_number_13 rfl (lv_at hl 0 rfl) ?_
      refine gtF (ci := 3) (v := .ref o_numbers) (C := RX4) (T := TX4) (N := 5) hx hb hts inX4_number_X4 hown hK hP 0 rfl rfl 4 (by decide) mwX4_number_0 rfl rfl dX4_number_14 ?_
      refine lv_iload_n hx hb dX4_number_17 rfl (lv_at hl 1 rfl) ?_
      obtain ⟨hin, y3, e_y3, h⟩ := rd_s h
      refine ldI hx hb hK hP 1 rfl hin dX4_number_18 ?_
      refine top_i e_y3 ?_
      refine lv_goto (tgt := 23) hx hb dX4_number_19 (by decide) ?_
      cases h
      exact hret 23 ls _ rfl dX4_number_23
theorem mwX4_restart_0 : Cond.fieldLink RX4 22 "SegmentTimes$Script" "place" "I" ∈ wsX4_restart := List.mem_of_getElem? (i := 1) rfl
theorem inX4_restart_X4 : ∀ w ∈ u_ws RX4 TX4 5, w ∈ wsX4_restart := fun w h => List.mem_cons_of_mem _ (List.mem_append_right _ (h))
theorem kX4_restart : yX4_restart.cls = RX4 ∧ yX4_restart.cls ≠ "java/lang/invoke/MethodHandle" ∧ yX4_restart.cls ≠ "java/lang/invoke/VarHandle" ∧ (parseMethodDescriptor yX4_restart.desc).map (fun d => d.parameters.length) = some 0 := by decide +kernel
set_option maxHeartbeats 4000000 in
set_option maxRecDepth 100000 in
theorem ctX4_restart (l : Launch) (D : va_G) (ca : Nat → ClassId) (o : Nat) (o_bytes : Nat) (o_numbers : Nat) (o_length : Int32) (o_command : Int32) (o_place : Int32)  (sz : Nat) (u0 : Int32) (hf : fX4_restart o_place = some u0) : MW l yX4_restart wsX4_restart 0 0 D ca [.ref o] sz [(o, .inr (3, [.int o_length, .int o_command, .int o_place, .ref o_bytes, .ref o_numbers]))] none [(o, .inr (3, [.int o_length, .int o_command, .int u0, .ref o_bytes, .ref o_numbers]))] := by
  refine hdWv (by decide +kernel) rfl (Nat.le_of_ble_eq_true rfl) rfl ?_
  intro p e s m args below meth c A Q hx hb hml hown hts hP hD hK hA hS hret ls hl
  have hown : s.vm.findClass RX4 = some m.cls := hown
  have hl : lv_has ls 1 [(0, .ref o)] := hl
  have h := hf
  unfold fX4_restart at h
  clear hf
  refine lv_aload_n hx hb dX4_restart_0 rfl (lv_at hl 0 rfl) ?_
  refine lv_iconst (v := (0 : Int32)) hx hb dX4_restart_1 (by decide) ?_
  refine ptI (ci := 3) (v := .int (0 : Int32)) (ty := .int) (C := RX4) (T := TX4) (N := 5) (wn := [(o, .inr (3, [.int o_length, .int o_command, .int (0 : Int32), .ref o_bytes, .ref o_numbers]))]) hx hb hts inX4_restart_X4 tyX4 tyX4_ok nmX4 hown hK hP hD hS 0 rfl rfl 2 (by decide) mwX4_restart_0 rfl rfl (by decide +kernel) rfl rfl (Nat.le_of_ble_eq_true rfl) rfl dX4_restart_2 (fun H locs hP hD hS => ?_)
  cases h
  exact hret 5 ls _ _ hP hD hS rfl dX4_restart_5
theorem mwX4_next_0 : Cond.fieldLink RX4 22 "SegmentTimes$Script" "place" "I" ∈ wsX4_next := List.mem_of_getElem? (i := 1) rfl
theorem mwX4_next_1 : Cond.fieldLink RX4 18 "SegmentTimes$Script" "length" "I" ∈ wsX4_next := List.mem_of_getElem? (i := 2) rfl
theorem mwX4_next_2 : Cond.fieldLink RX4 9 "SegmentTimes$Script" "bytes" "[I" ∈ wsX4_next := List.mem_of_getElem? (i := 3) rfl
theorem inX4_next_X4 : ∀ w ∈ u_ws RX4 TX4 5, w ∈ wsX4_next := fun w h => List.mem_cons_of_mem _ (List.mem_append_right _ (h))
theorem kX4_next : yX4_next.cls = RX4 ∧ yX4_next.cls ≠ "java/lang/invoke/MethodHandle" ∧ yX4_next.cls ≠ "java/lang/invoke/VarHandle" ∧ (parseMethodDescriptor yX4_next.desc).map (fun d => d.parameters.length) = some 0 := by decide +kernel
set_option maxHeartbeats 4000000 in
set_option maxRecDepth 100000 in
theorem ctX4_next (l : Launch) (D : va_G) (ca : Nat → ClassId) (o : Nat) (o_bytes : Nat) (o_numbers : Nat) (o_length : Int32) (o_command : Int32) (o_place : Int32) (o_bytes_d : Nat → Int32)  (u0 : Int32) (hf : fX4_next o_length o_place o_bytes_d = some u0) : MR l yX4_next wsX4_next 0 0 D ca [.ref o] [(o, .inr (3, [.int o_length, .int o_command, .int o_place, .ref o_bytes, .ref o_numbers])), (o_bytes, .inl (ca 0, 120, .inl o_bytes_d))] (some (.int u0)) := by
  refine hdRi (plainFor_of_name (by decide +kernel)) rfl (Nat.le_of_ble_eq_true rfl) ?_
  intro p e s m args below meth c Q hx hb hml hown hts hP hK hret ls hl
  have hown : s.vm.findClass RX4 = some m.cls := hown
  have hl : lv_has ls 1 [(0, .ref o)] := hl
  have h := hf
  unfold fX4_next at h
  clear hf
  refine lv_aload_n hx hb dX4_next_0 rfl (lv_at hl 0 rfl) ?_
  refine gtF (ci := 3) (v := .int o_place) (C := RX4) (T := TX4) (N := 5) hx hb hts inX4_next_X4 hown hK hP 0 rfl rfl 2 (by decide) mwX4_next_0 rfl rfl dX4_next_1 ?_
  refine lv_if_lt (tgt := 42) hx hb dX4_next_4 (by decide) (fun c1 => ?_) (fun c1 => ?_)
  · have h := ip_s h c1
    refine lv_iconst (v := (-1 : Int32)) hx hb dX4_next_42 (by decide) ?_
    cases h
    exact hret 43 ls _ rfl dX4_next_43
  · have h := in_s h c1
    refine lv_aload_n hx hb dX4_next_7 rfl (lv_at hl 0 rfl) ?_
    refine gtF (ci := 3) (v := .int o_place) (C := RX4) (T := TX4) (N := 5) hx hb hts inX4_next_X4 hown hK hP 0 rfl rfl 2 (by decide) mwX4_next_0 rfl rfl dX4_next_8 ?_
    refine lv_aload_n hx hb dX4_next_11 rfl (lv_at hl 0 rfl) ?_
    refine gtF (ci := 3) (v := .int o_length) (C := RX4) (T := TX4) (N := 5) hx hb hts inX4_next_X4 hown hK hP 0 rfl rfl 0 (by decide) mwX4_next_1 rfl rfl dX4_next_12 ?_
    refine lv_icmp_ge (tgt := 42) hx hb dX4_next_15 (by decide) (fun c2 => ?_) (fun c2 => ?_)
    · have h := ip_s h c2
      refine lv_iconst (v := (-1 : Int32)) hx hb dX4_next_42 (by decide) ?_
      cases h
      exact hret 43 ls _ rfl dX4_next_43
    · have h := in_s h c2
      refine lv_aload_n hx hb dX4_next_18 rfl (lv_at hl 0 rfl) ?_
      refine gtF (ci := 3) (v := .int o_place) (C := RX4) (T := TX4) (N := 5) hx hb hts inX4_next_X4 hown hK hP 0 rfl rfl 2 (by decide) mwX4_next_0 rfl rfl dX4_next_19 ?_
      refine lv_aload_n hx hb dX4_next_22 rfl (lv_at hl 0 rfl) ?_
      refine gtF (ci := 3) (v := .ref o_bytes) (C := RX4) (T := TX4) (N := 5) hx hb hts inX4_next_X4 hown hK hP 0 rfl rfl 3 (by decide) mwX4_next_2 rfl rfl dX4_next_23 ?_
      refine alI (v := (120 : Int32)) hx hb hK hP 1 0 rfl rfl rfl dX4_next_26 ?_
      refine lv_icmp_ge (tgt := 42) hx hb dX4_next_27 (by decide) (fun c3 => ?_) (fun c3 => ?_)
      · have h := ip_s h c3
        refine lv_iconst (v := (-1 : Int32)) hx hb dX4_next_42 (by decide) ?_
        cases h
        exact hret 43 ls _ rfl dX4_next_43
      · have h := in_s h c3
        refine lv_aload_n hx hb dX4_next_30 rfl (lv_at hl 0 rfl) ?_
        refine gtF (ci := 3) (v := .ref o_bytes) (C := RX4) (T := TX4) (N := 5) hx hb hts inX4_next_X4 hown hK hP 0 rfl rfl 3 (by decide) mwX4_next_2 rfl rfl dX4_next_31 ?_
        refine lv_aload_n hx hb dX4_next_34 rfl (lv_at hl 0 rfl) ?_
        refine gtF (ci := 3) (v := .int o_place) (C := RX4) (T := TX4) (N := 5) hx hb hts inX4_next_X4 hown hK hP 0 rfl rfl 2 (by decide) mwX4_next_0 rfl rfl dX4_next_35 ?_
        obtain ⟨hin, y4, e_y4, h⟩ := rd_s h
        refine ldI hx hb hK hP 1 rfl hin dX4_next_38 ?_
        refine top_i e_y4 ?_
        refine lv_goto (tgt := 43) hx hb dX4_next_39 (by decide) ?_
        cases h
        exact hret 43 ls _ rfl dX4_next_43
theorem kX4_numbersOf : yX4_numbersOf.cls = yX4_numbersOf.cls ∧ yX4_numbersOf.cls ≠ "java/lang/invoke/MethodHandle" ∧ yX4_numbersOf.cls ≠ "java/lang/invoke/VarHandle" ∧ (parseMethodDescriptor yX4_numbersOf.desc).map (fun d => d.parameters.length) = some 1 := by decide +kernel
set_option maxHeartbeats 4000000 in
set_option maxRecDepth 100000 in
theorem ctX4_numbersOf (l : Launch) (D : va_G) (ca : Nat → ClassId)   (x0 : Int32) (u0 : Int32) (hf : fX4_numbersOf x0 = some u0) : MR l yX4_numbersOf wsX4_numbersOf 0 0 D ca [.int x0] [] (some (.int u0)) := by
  refine hdRi (plainFor_of_name (by decide +kernel)) rfl (Nat.le_of_ble_eq_true rfl) ?_
  intro p e s m args below meth c Q hx hb hml hown hts hP hK hret ls hl
  have hown : s.vm.findClass RX4 = some m.cls := hown
  have hl : lv_has ls 1 [(0, .int x0)] := hl
  have h := hf
  unfold fX4_numbersOf at h
  clear hf
  refine lv_iload_n hx hb dX4_numbersOf_0 rfl (lv_at hl 0 rfl) ?_
  have hsw := h
  by_cases c1 : x0 = (97 : Int32)
  · have h := ip_s h c1
    refine lv_tableIn (off := 95) (tgt := 96) hx hb dX4_numbersOf_1 (by rw [c1]; decide) (by rw [c1]; decide) (by rw [c1]; decide) (by decide) ?_
    refine lv_iconst (v := (4 : Int32)) hx hb dX4_numbersOf_96 (by decide) ?_
    cases h
    exact hret 97 ls _ rfl dX4_numbersOf_97
  have h := in_s h c1
  by_cases c2 : x0 = (101 : Int32)
  · have h := ip_s h c2
    refine lv_tableIn (off := 99) (tgt := 100) hx hb dX4_numbersOf_1 (by rw [c2]; decide) (by rw [c2]; decide) (by rw [c2]; decide) (by decide) ?_
    refine lv_iconst (v := (1 : Int32)) hx hb dX4_numbersOf_100 (by decide) ?_
    cases h
    exact hret 101 ls _ rfl dX4_numbersOf_101
  have h := in_s h c2
  by_cases c3 : x0 = (109 : Int32)
  · have h := ip_s h c3
    refine lv_tableIn (off := 97) (tgt := 98) hx hb dX4_numbersOf_1 (by rw [c3]; decide) (by rw [c3]; decide) (by rw [c3]; decide) (by decide) ?_
    refine lv_iconst (v := (2 : Int32)) hx hb dX4_numbersOf_98 (by decide) ?_
    cases h
    exact hret 99 ls _ rfl dX4_numbersOf_99
  have h := in_s h c3
  by_cases c4 : x0 = (113 : Int32)
  · have h := ip_s h c4
    refine lv_tableIn (off := 97) (tgt := 98) hx hb dX4_numbersOf_1 (by rw [c4]; decide) (by rw [c4]; decide) (by rw [c4]; decide) (by decide) ?_
    refine lv_iconst (v := (2 : Int32)) hx hb dX4_numbersOf_98 (by decide) ?_
    cases h
    exact hret 99 ls _ rfl dX4_numbersOf_99
  have h := in_s h c4
  by_cases c5 : x0 = (115 : Int32)
  · have h := ip_s h c5
    refine lv_tableIn (off := 101) (tgt := 102) hx hb dX4_numbersOf_1 (by rw [c5]; decide) (by rw [c5]; decide) (by rw [c5]; decide) (by decide) ?_
    refine lv_iconst (v := (0 : Int32)) hx hb dX4_numbersOf_102 (by decide) ?_
    cases h
    exact hret 103 ls _ rfl dX4_numbersOf_103
  have h := in_s h c5
  by_cases c6 : x0 = (116 : Int32)
  · have h := ip_s h c6
    refine lv_tableIn (off := 99) (tgt := 100) hx hb dX4_numbersOf_1 (by rw [c6]; decide) (by rw [c6]; decide) (by rw [c6]; decide) (by decide) ?_
    refine lv_iconst (v := (1 : Int32)) hx hb dX4_numbersOf_100 (by decide) ?_
    cases h
    exact hret 101 ls _ rfl dX4_numbersOf_101
  have h := in_s h c6
  by_cases c7 : x0.toInt < 97 ∨ 116 < x0.toInt
  · refine lv_tableOut (tgt := 104) hx hb dX4_numbersOf_1 c7 (by decide) ?_
    refine lv_iconst (v := (-1 : Int32)) hx hb dX4_numbersOf_104 (by decide) ?_
    cases h
    exact hret 105 ls _ rfl dX4_numbersOf_105
  refine lv_tableIn (off := 103) (tgt := 104) hx hb dX4_numbersOf_1 (fun z => c7 (Or.inl z)) (fun z => c7 (Or.inr z)) (sw_in c7 [(97 : Int32), (101 : Int32), (109 : Int32), (113 : Int32), (115 : Int32), (116 : Int32)] (fun k hk => by simp only [List.mem_cons, List.mem_nil_iff, or_false] at hk; rcases hk with rfl | rfl | rfl | rfl | rfl | rfl <;> assumption) (by decide)) (by decide) ?_
  refine lv_iconst (v := (-1 : Int32)) hx hb dX4_numbersOf_104 (by decide) ?_
  cases h
  exact hret 105 ls _ rfl dX4_numbersOf_105
theorem mwX4_skip_0 : Cond.fieldLink RX4 22 "SegmentTimes$Script" "place" "I" ∈ wsX4_skip := List.mem_of_getElem? (i := 1) rfl
theorem inX4_skip_X4 : ∀ w ∈ u_ws RX4 TX4 5, w ∈ wsX4_skip := fun w h => List.mem_cons_of_mem _ (List.mem_append_right _ (h))
theorem kX4_skip : yX4_skip.cls = RX4 ∧ yX4_skip.cls ≠ "java/lang/invoke/MethodHandle" ∧ yX4_skip.cls ≠ "java/lang/invoke/VarHandle" ∧ (parseMethodDescriptor yX4_skip.desc).map (fun d => d.parameters.length) = some 1 := by decide +kernel
set_option maxHeartbeats 4000000 in
set_option maxRecDepth 100000 in
theorem ctX4_skip (l : Launch) (D : va_G) (ca : Nat → ClassId) (o : Nat) (o_bytes : Nat) (o_numbers : Nat) (o_length : Int32) (o_command : Int32) (o_place : Int32) (o_bytes_d : Nat → Int32) (x1 : Int32) (sz : Nat) (u0 : Int32) (u1 : Int32) (hf : fX4_skip o_length o_place o_bytes_d x1 = some (u0, u1)) : MW l yX4_skip wsX4_skip 1 20 D ca [.ref o, .int x1] sz [(o, .inr (3, [.int o_length, .int o_command, .int o_place, .ref o_bytes, .ref o_numbers])), (o_bytes, .inl (ca 0, 120, .inl o_bytes_d))] (some (.int u0)) [(o, .inr (3, [.int o_length, .int o_command, .int u1, .ref o_bytes, .ref o_numbers])), (o_bytes, .inl (ca 0, 120, .inl o_bytes_d))] := by
  refine hdWz (by decide +kernel) rfl (Nat.le_of_ble_eq_true rfl) ?_
  intro p e s m args below meth c A Q hx hb hml hown hts hP hD hK hA hS hret ls hl
  have hown : s.vm.findClass RX4 = some m.cls := hown
  have hl : lv_has ls 2 [(0, .ref o), (1, .int x1)] := hl
  have h := hf
  unfold fX4_skip at h
  clear hf
  refine lv_aload_n hx hb dX4_skip_0 rfl (lv_at hl 0 rfl) ?_
  obtain ⟨r1, h_r1, h⟩ := bd_s h
  refine clVR (As := []) (rest := []) hx hb hml hown hts gX4_skip_X4_next rfl 0 kX4_next ⟨Nat.le_of_ble_eq_true rfl, Nat.le_of_ble_eq_true rfl⟩ (ctX4_next l D ca o o_bytes o_numbers o_length o_command o_place o_bytes_d  r1 h_r1) hP hK [0, 1] rfl 0 3 rfl rfl rfl rfl hl.1 rfl (Nat.le_of_ble_eq_true rfl) ⟨Nat.le_of_ble_eq_true rfl, Nat.le_of_ble_eq_true rfl⟩ dX4_skip_1 rfl ?_
  refine lv_iload_n hx hb dX4_skip_4 rfl (lv_at hl 1 rfl) ?_
  refine lv_icmp_eq (tgt := 10) hx hb dX4_skip_5 (by decide) (fun c2 => ?_) (fun c2 => ?_)
  · have h := ip_s h c2
    refine lv_aload_n hx hb dX4_skip_10 rfl (lv_at hl 0 rfl) ?_
    refine lv_dup hx hb dX4_skip_11 rfl ?_
    refine gtF (ci := 3) (v := .int o_place) (C := RX4) (T := TX4) (N := 5) hx hb hts inX4_skip_X4 hown hK hP 0 rfl rfl 2 (by decide) mwX4_skip_0 rfl rfl dX4_skip_12 ?_
    refine lv_iconst (v := (1 : Int32)) hx hb dX4_skip_15 (by decide) ?_
    refine lv_iadd hx hb dX4_skip_16 ?_
    obtain ⟨y3, e_y3, h⟩ := nm_s h
    refine top_i e_y3 ?_
    refine ptI (ci := 3) (v := .int y3) (ty := .int) (C := RX4) (T := TX4) (N := 5) (wn := [(o, .inr (3, [.int o_length, .int o_command, .int y3, .ref o_bytes, .ref o_numbers])), (o_bytes, .inl (ca 0, 120, .inl o_bytes_d))]) hx hb hts inX4_skip_X4 tyX4 tyX4_ok nmX4 hown hK hP hD hS 0 rfl rfl 2 (by decide) mwX4_skip_0 rfl rfl (by decide +kernel) rfl rfl (Nat.le_of_ble_eq_true rfl) rfl dX4_skip_17 (fun H locs hP hD hS => ?_)
    refine lv_iconst (v := (1 : Int32)) hx hb dX4_skip_20 (by decide) ?_
    obtain ⟨hz, h⟩ := zr_s h
    cases h
    exact hret 21 ls _ hz _ _ hP hD hS rfl dX4_skip_21
  · have h := in_s h c2
    refine lv_iconst (v := (0 : Int32)) hx hb dX4_skip_8 (by decide) ?_
    obtain ⟨hz, h⟩ := zr_s h
    cases h
    exact hret 9 ls _ hz _ _ hP hD hS rfl dX4_skip_9
theorem mwX4_readNumber_0 : Cond.fieldLink RX4 15 "SegmentTimes$Script" "numbers" "[I" ∈ wsX4_readNumber := List.mem_of_getElem? (i := 2) rfl
theorem mwX4_readNumber_1 : Cond.initialized yX7_isBetween.cls ∈ wsX4_readNumber := List.mem_of_getElem? (i := 15) rfl
theorem mwX4_readNumber_2 : Cond.static yX7_isBetween ∈ wsX4_readNumber := List.mem_of_getElem? (i := 14) rfl
theorem mwX4_readNumber_3 : Cond.fieldLink RX4 22 "SegmentTimes$Script" "place" "I" ∈ wsX4_readNumber := List.mem_of_getElem? (i := 1) rfl
theorem inX4_readNumber_X4 : ∀ w ∈ u_ws RX4 TX4 5, w ∈ wsX4_readNumber := fun w h => List.mem_cons_of_mem _ (List.mem_append_right _ (h))
theorem kX4_readNumber : yX4_readNumber.cls = RX4 ∧ yX4_readNumber.cls ≠ "java/lang/invoke/MethodHandle" ∧ yX4_readNumber.cls ≠ "java/lang/invoke/VarHandle" ∧ (parseMethodDescriptor yX4_readNumber.desc).map (fun d => d.parameters.length) = some 1 := by decide +kernel
set_option maxHeartbeats 4000000 in
set_option maxRecDepth 100000 in
theorem ctX4_readNumber (l : Launch) (D : va_G) (ca : Nat → ClassId) (o : Nat) (o_bytes : Nat) (o_numbers : Nat) (o_length : Int32) (o_command : Int32) (o_place : Int32) (o_bytes_d : Nat → Int32) (o_numbers_d : Nat → Int32) (x1 : Int32) (sz : Nat) (u0 : Int32) (u1 : Int32) (u2 : Nat → Int32) (hf : fX4_readNumber o_length o_place o_bytes_d o_numbers_d x1 = some (u0, u1, u2)) : MW l yX4_readNumber wsX4_readNumber 2 41 D ca [.ref o, .int x1] sz [(o, .inr (3, [.int o_length, .int o_command, .int o_place, .ref o_bytes, .ref o_numbers])), (o_bytes, .inl (ca 0, 120, .inl o_bytes_d)), (o_numbers, .inl (ca 0, 4, .inl o_numbers_d))] (some (.int u0)) [(o, .inr (3, [.int o_length, .int o_command, .int u1, .ref o_bytes, .ref o_numbers])), (o_bytes, .inl (ca 0, 120, .inl o_bytes_d)), (o_numbers, .inl (ca 0, 4, .inl u2))] := by
  refine hdWz (by decide +kernel) rfl (Nat.le_of_ble_eq_true rfl) ?_
  intro p e s m args below meth c A Q hx hb hml hown hts hP hD hK hA hS hret ls hl
  have hown : s.vm.findClass RX4 = some m.cls := hown
  have hl : lv_has ls 5 [(0, .ref o), (1, .int x1)] := hl
  have h := hf
  unfold fX4_readNumber at h
  clear hf
  have J102 : ∀ (l4 : Int32) (w_o_place : Int32) (w_o_numbers_d : Nat → Int32), jX4_readNumber_102  l4 w_o_place w_o_numbers_d = some (u0, u1, u2) → ∀ (H : Heap) (locs : List Loc), va_P D vwCl [(o, .inr (3, [.int o_length, .int o_command, .int w_o_place, .ref o_bytes, .ref o_numbers])), (o_bytes, .inl (ca 0, 120, .inl o_bytes_d)), (o_numbers, .inl (ca 0, 4, .inl w_o_numbers_d))] H → va_D A [(o, .inr (3, [.int o_length, .int o_command, .int w_o_place, .ref o_bytes, .ref o_numbers])), (o_bytes, .inl (ca 0, 120, .inl o_bytes_d)), (o_numbers, .inl (ca 0, 4, .inl w_o_numbers_d))] → va_S A s.heap H locs → ∀ ls, lv_has ls 5 [(4, .int l4)] → W p l e ({ frames := 2, cells := 0, slots := 0, locals := 41 }) s m args below meth c H locs 0 0 Q (F0 m 102 ls []) := by
    intro l4 w_o_place w_o_numbers_d h H locs hP hD hS ls hl
    unfold jX4_readNumber_102 at h
    refine lv_iload hx hb dX4_readNumber_102 (lv_at hl 0 rfl) ?_
    refine lv_if_le (tgt := 111) hx hb dX4_readNumber_104 (by decide) (fun c1 => ?_) (fun c1 => ?_)
    · have h := ip_s h c1
      refine lv_iconst (v := (0 : Int32)) hx hb dX4_readNumber_111 (by decide) ?_
      obtain ⟨hz, h⟩ := zr_s h
      cases h
      exact hret 112 ls _ hz _ _ hP hD hS rfl dX4_readNumber_112
    · have h := in_s h c1
      refine lv_iconst (v := (1 : Int32)) hx hb dX4_readNumber_107 (by decide) ?_
      refine lv_goto (tgt := 112) hx hb dX4_readNumber_108 (by decide) ?_
      obtain ⟨hz, h⟩ := zr_s h
      cases h
      exact hret 112 ls _ hz _ _ hP hD hS rfl dX4_readNumber_112
  have J101 : ∀ (l4 : Int32) (s1 : Int32) (s2 : Int32) (w_o_place : Int32) (w_o_numbers_d : Nat → Int32), jX4_readNumber_101  l4 s1 s2 w_o_place w_o_numbers_d = some (u0, u1, u2) → ∀ (H : Heap) (locs : List Loc), va_P D vwCl [(o, .inr (3, [.int o_length, .int o_command, .int w_o_place, .ref o_bytes, .ref o_numbers])), (o_bytes, .inl (ca 0, 120, .inl o_bytes_d)), (o_numbers, .inl (ca 0, 4, .inl w_o_numbers_d))] H → va_D A [(o, .inr (3, [.int o_length, .int o_command, .int w_o_place, .ref o_bytes, .ref o_numbers])), (o_bytes, .inl (ca 0, 120, .inl o_bytes_d)), (o_numbers, .inl (ca 0, 4, .inl w_o_numbers_d))] → va_S A s.heap H locs → ∀ ls, lv_has ls 5 [(4, .int l4)] → W p l e ({ frames := 2, cells := 0, slots := 0, locals := 41 }) s m args below meth c H locs 0 0 Q (F0 m 101 ls [.int s2, .int s1, .ref o_numbers]) := by
    intro l4 s1 s2 w_o_place w_o_numbers_d h H locs hP hD hS ls hl
    unfold jX4_readNumber_101 at h
    obtain ⟨hin, g1, e_g1, h⟩ := wr_s h
    refine stI (wn := [(o, .inr (3, [.int o_length, .int o_command, .int w_o_place, .ref o_bytes, .ref o_numbers])), (o_bytes, .inl (ca 0, 120, .inl o_bytes_d)), (o_numbers, .inl (ca 0, 4, .inl g1))]) hx hb hK hP hD hS 2 rfl hin e_g1 rfl dX4_readNumber_101 (fun H locs hP hD hS => ?_)
    exact J102 l4 w_o_place g1 h _ _ hP hD hS ls (lv_sub hl [0] rfl)
  have J73 : ∀ (l2 : Int32) (l3 : Int32) (l4 : Int32) (w_o_place : Int32) (w_o_numbers_d : Nat → Int32), jX4_readNumber_73 x1 l2 l3 l4 w_o_place w_o_numbers_d = some (u0, u1, u2) → ∀ (H : Heap) (locs : List Loc), va_P D vwCl [(o, .inr (3, [.int o_length, .int o_command, .int w_o_place, .ref o_bytes, .ref o_numbers])), (o_bytes, .inl (ca 0, 120, .inl o_bytes_d)), (o_numbers, .inl (ca 0, 4, .inl w_o_numbers_d))] H → va_D A [(o, .inr (3, [.int o_length, .int o_command, .int w_o_place, .ref o_bytes, .ref o_numbers])), (o_bytes, .inl (ca 0, 120, .inl o_bytes_d)), (o_numbers, .inl (ca 0, 4, .inl w_o_numbers_d))] → va_S A s.heap H locs → ∀ ls, lv_has ls 5 [(0, .ref o), (1, .int x1), (2, .int l2), (3, .int l3), (4, .int l4)] → W p l e ({ frames := 2, cells := 0, slots := 0, locals := 41 }) s m args below meth c H locs 0 0 Q (F0 m 73 ls []) := by
    intro l2 l3 l4 w_o_place w_o_numbers_d h H locs hP hD hS ls hl
    unfold jX4_readNumber_73 at h
    refine lv_iload_n hx hb dX4_readNumber_73 rfl (lv_at hl 1 rfl) ?_
    refine lv_if_lt (tgt := 102) hx hb dX4_readNumber_74 (by decide) (fun c1 => ?_) (fun c1 => ?_)
    · have h := ip_s h c1
      exact J102 l4 w_o_place w_o_numbers_d h _ _ hP hD hS ls (lv_sub hl [4] rfl)
    · have h := in_s h c1
      refine lv_iload_n hx hb dX4_readNumber_77 rfl (lv_at hl 1 rfl) ?_
      refine lv_aload_n hx hb dX4_readNumber_78 rfl (lv_at hl 0 rfl) ?_
      refine gtF (ci := 3) (v := .ref o_numbers) (C := RX4) (T := TX4) (N := 5) hx hb hts inX4_readNumber_X4 hown hK hP 0 rfl rfl 4 (by decide) mwX4_readNumber_0 rfl rfl dX4_readNumber_79 ?_
      refine alI (v := (4 : Int32)) hx hb hK hP 2 0 rfl rfl rfl dX4_readNumber_82 ?_
      refine lv_icmp_ge (tgt := 102) hx hb dX4_readNumber_83 (by decide) (fun c2 => ?_) (fun c2 => ?_)
      · have h := ip_s h c2
        exact J102 l4 w_o_place w_o_numbers_d h _ _ hP hD hS ls (lv_sub hl [4] rfl)
      · have h := in_s h c2
        refine lv_aload_n hx hb dX4_readNumber_86 rfl (lv_at hl 0 rfl) ?_
        refine gtF (ci := 3) (v := .ref o_numbers) (C := RX4) (T := TX4) (N := 5) hx hb hts inX4_readNumber_X4 hown hK hP 0 rfl rfl 4 (by decide) mwX4_readNumber_0 rfl rfl dX4_readNumber_87 ?_
        refine lv_iload_n hx hb dX4_readNumber_90 rfl (lv_at hl 1 rfl) ?_
        refine lv_iload_n hx hb dX4_readNumber_91 rfl (lv_at hl 2 rfl) ?_
        refine lv_if_eq (tgt := 100) hx hb dX4_readNumber_92 (by decide) (fun c3 => ?_) (fun c3 => ?_)
        · have h := ip_s h c3
          refine lv_iload_n hx hb dX4_readNumber_100 rfl (lv_at hl 3 rfl) ?_
          exact J101 l4 x1 l3 w_o_place w_o_numbers_d h _ _ hP hD hS ls (lv_sub hl [4] rfl)
        · have h := in_s h c3
          refine lv_iload_n hx hb dX4_readNumber_95 rfl (lv_at hl 3 rfl) ?_
          refine lv_ineg hx hb dX4_readNumber_96 ?_
          refine lv_goto (tgt := 101) hx hb dX4_readNumber_97 (by decide) ?_
          exact J101 l4 x1 (-l3) w_o_place w_o_numbers_d h _ _ hP hD hS ls (lv_sub hl [4] rfl)
  have L23 : ∀ (l2 : Int32) (w_o_numbers_d : Nat → Int32) (n : Nat) (l3 : Int32) (l4 : Int32) (w_o_place : Int32), lp (fun q => bX4_readNumber_23 o_length o_bytes_d x1 l2 w_o_numbers_d q.1 q.2.1 q.2.2) n (l3, l4, w_o_place) = some (u0, u1, u2) → ∀ (H : Heap) (locs : List Loc), va_P D vwCl [(o, .inr (3, [.int o_length, .int o_command, .int w_o_place, .ref o_bytes, .ref o_numbers])), (o_bytes, .inl (ca 0, 120, .inl o_bytes_d)), (o_numbers, .inl (ca 0, 4, .inl w_o_numbers_d))] H → va_D A [(o, .inr (3, [.int o_length, .int o_command, .int w_o_place, .ref o_bytes, .ref o_numbers])), (o_bytes, .inl (ca 0, 120, .inl o_bytes_d)), (o_numbers, .inl (ca 0, 4, .inl w_o_numbers_d))] → va_S A s.heap H locs → ∀ ls, lv_has ls 5 [(0, .ref o), (1, .int x1), (2, .int l2), (3, .int l3), (4, .int l4)] → W p l e ({ frames := 2, cells := 0, slots := 0, locals := 41 }) s m args below meth c H locs 0 0 Q (F0 m 23 ls []) := by
    intro l2 w_o_numbers_d n
    induction n with
    | zero => intro l3 l4 w_o_place h; exact (lp_0 h).elim
    | succ n ih23 =>
      intro l3 l4 w_o_place h H locs hP hD hS ls hl
      obtain ⟨q23, h, hq23⟩ := lp_s h
      have h : bX4_readNumber_23 o_length o_bytes_d x1 l2 w_o_numbers_d l3 l4 w_o_place = some q23 := h
      unfold bX4_readNumber_23 at h
      refine lv_iload hx hb dX4_readNumber_23 (lv_at hl 4 rfl) ?_
      refine lv_bipush (v := (7 : Int32)) hx hb dX4_readNumber_25 (by decide) ?_
      refine lv_icmp_ge (tgt := 73) hx hb dX4_readNumber_27 (by decide) (fun c1 => ?_) (fun c1 => ?_)
      · have h := ip_s h c1
        have h := xt_s hq23 h
        exact J73 l2 l3 l4 w_o_place w_o_numbers_d h _ _ hP hD hS ls (lv_sub hl [0, 1, 2, 3, 4] rfl)
      · have h := in_s h c1
        refine lv_aload_n hx hb dX4_readNumber_30 rfl (lv_at hl 0 rfl) ?_
        obtain ⟨r4, h_r4, h⟩ := bd_s h
        refine clVR (As := []) (rest := []) hx hb hml hown hts gX4_readNumber_X4_next rfl 0 kX4_next ⟨Nat.le_of_ble_eq_true rfl, Nat.le_of_ble_eq_true rfl⟩ (ctX4_next l D ca o o_bytes o_numbers o_length o_command w_o_place o_bytes_d  r4 h_r4) hP hK [0, 1] rfl 0 3 rfl rfl rfl rfl hl.1 rfl (Nat.le_of_ble_eq_true rfl) ⟨Nat.le_of_ble_eq_true rfl, Nat.le_of_ble_eq_true rfl⟩ dX4_readNumber_31 rfl ?_
        refine lv_bipush (v := (48 : Int32)) hx hb dX4_readNumber_34 (by decide) ?_
        refine lv_bipush (v := (57 : Int32)) hx hb dX4_readNumber_36 (by decide) ?_
        obtain ⟨r5, h_r5, h⟩ := bd_s h
        refine clNR (As := [.int r4, .int (48 : Int32), .int (57 : Int32)]) (rest := []) hx hb hml hown hts gX4_readNumber_X7_isBetween_n50 rfl 3 kX7_isBetween.2 ⟨Nat.le_of_ble_eq_true rfl, Nat.le_of_ble_eq_true rfl⟩ hK.2.2.2.2.2.1 mwX4_readNumber_1 mwX4_readNumber_2 (ctX7_isBetween l D ca   r4 (48 : Int32) (57 : Int32) r5 h_r5) hP hK [] rfl rfl hl.1 rfl (Nat.le_of_ble_eq_true rfl) ⟨Nat.le_of_ble_eq_true rfl, Nat.le_of_ble_eq_true rfl⟩ dX4_readNumber_38 rfl ?_
        refine lv_if_eq (tgt := 73) hx hb dX4_readNumber_41 (by decide) (fun c6 => ?_) (fun c6 => ?_)
        · have h := ip_s h c6
          have h := xt_s hq23 h
          exact J73 l2 l3 l4 w_o_place w_o_numbers_d h _ _ hP hD hS ls (lv_sub hl [0, 1, 2, 3, 4] rfl)
        · have h := in_s h c6
          refine lv_bipush (v := (10 : Int32)) hx hb dX4_readNumber_44 (by decide) ?_
          refine lv_iload_n hx hb dX4_readNumber_46 rfl (lv_at hl 3 rfl) ?_
          refine lv_imul hx hb dX4_readNumber_47 ?_
          refine lv_aload_n hx hb dX4_readNumber_48 rfl (lv_at hl 0 rfl) ?_
          obtain ⟨r7, h_r7, h⟩ := bd_s h
          refine clVR (As := []) (rest := [.int ((10 : Int32) * l3)]) hx hb hml hown hts gX4_readNumber_X4_next rfl 0 kX4_next ⟨Nat.le_of_ble_eq_true rfl, Nat.le_of_ble_eq_true rfl⟩ (ctX4_next l D ca o o_bytes o_numbers o_length o_command w_o_place o_bytes_d  r7 h_r7) hP hK [0, 1] rfl 0 3 rfl rfl rfl rfl hl.1 rfl (Nat.le_of_ble_eq_true rfl) ⟨Nat.le_of_ble_eq_true rfl, Nat.le_of_ble_eq_true rfl⟩ dX4_readNumber_49 rfl ?_
          refine lv_iadd hx hb dX4_readNumber_52 ?_
          refine lv_bipush (v := (48 : Int32)) hx hb dX4_readNumber_53 (by decide) ?_
          refine lv_isub hx hb dX4_readNumber_55 ?_
          obtain ⟨y8, e_y8, h⟩ := nm_s h
          refine top_i e_y8 ?_
          refine lv_istore_n (lv' := [(3, .int y8), (0, .ref o), (1, .int x1), (2, .int l2), (4, .int l4)]) hx hb dX4_readNumber_56 rfl hl (by decide) rfl (fun ls hl => ?_)
          obtain ⟨y9, e_y9, h⟩ := nm_s h
          refine lv_iinc (v := y9) (lv' := [(4, .int y9), (3, .int y8), (0, .ref o), (1, .int x1), (2, .int l2)]) hx hb dX4_readNumber_57 hl (k := 4) rfl (by rw [e_y9]; rfl) (by decide) rfl (fun ls hl => ?_)
          refine lv_aload_n hx hb dX4_readNumber_60 rfl (lv_at hl 2 rfl) ?_
          refine lv_dup hx hb dX4_readNumber_61 rfl ?_
          refine gtF (ci := 3) (v := .int w_o_place) (C := RX4) (T := TX4) (N := 5) hx hb hts inX4_readNumber_X4 hown hK hP 0 rfl rfl 2 (by decide) mwX4_readNumber_3 rfl rfl dX4_readNumber_62 ?_
          refine lv_iconst (v := (1 : Int32)) hx hb dX4_readNumber_65 (by decide) ?_
          refine lv_iadd hx hb dX4_readNumber_66 ?_
          obtain ⟨y10, e_y10, h⟩ := nm_s h
          refine top_i e_y10 ?_
          refine ptI (ci := 3) (v := .int y10) (ty := .int) (C := RX4) (T := TX4) (N := 5) (wn := [(o, .inr (3, [.int o_length, .int o_command, .int y10, .ref o_bytes, .ref o_numbers])), (o_bytes, .inl (ca 0, 120, .inl o_bytes_d)), (o_numbers, .inl (ca 0, 4, .inl w_o_numbers_d))]) hx hb hts inX4_readNumber_X4 tyX4 tyX4_ok nmX4 hown hK hP hD hS 0 rfl rfl 2 (by decide) mwX4_readNumber_3 rfl rfl (by decide +kernel) rfl rfl (Nat.le_of_ble_eq_true rfl) rfl dX4_readNumber_67 (fun H locs hP hD hS => ?_)
          refine lv_goto (tgt := 23) hx hb dX4_readNumber_70 (by decide) ?_
          exact ih23 y8 y9 y10 (lp_l hq23 h) _ _ hP hD hS ls (lv_sub hl [2, 3, 4, 1, 0] rfl)
  refine lv_aload_n hx hb dX4_readNumber_0 rfl (lv_at hl 0 rfl) ?_
  refine lv_bipush (v := (32 : Int32)) hx hb dX4_readNumber_1 (by decide) ?_
  obtain ⟨⟨r1_0, r1_1⟩, h_r1, h⟩ := bd_s h
  have h := up2_s h
  refine clVW (As := [.int (32 : Int32)]) (rest := []) (wr := [(o_numbers, .inl (ca 0, 4, .inl o_numbers_d))]) (wn := [(o_numbers, .inl (ca 0, 4, .inl o_numbers_d)), (o, .inr (3, [.int o_length, .int o_command, .int r1_1, .ref o_bytes, .ref o_numbers])), (o_bytes, .inl (ca 0, 120, .inl o_bytes_d))]) hx hb hml hown hts gX4_readNumber_X4_skip rfl 1 kX4_skip ⟨Nat.le_of_ble_eq_true rfl, Nat.le_of_ble_eq_true rfl⟩ (ctX4_skip l D ca o o_bytes o_numbers o_length o_command o_place o_bytes_d (32 : Int32) _ r1_0 r1_1 h_r1) hP hD hS hA hK [0, 1] [2] rfl (by decide) rfl (by decide) (by decide) 0 3 rfl rfl rfl rfl hl.1 rfl (Nat.le_of_ble_eq_true rfl) ⟨Nat.le_of_ble_eq_true rfl, Nat.le_of_ble_eq_true rfl⟩ dX4_readNumber_3 rfl rfl (fun H locs hP hD hS => ?_)
  refine lv_if_ne (tgt := 11) hx hb dX4_readNumber_6 (by decide) (fun c2 => ?_) (fun c2 => ?_)
  · have h := in_s h c2
    refine lv_aload_n hx hb dX4_readNumber_11 rfl (lv_at hl 0 rfl) ?_
    refine lv_bipush (v := (45 : Int32)) hx hb dX4_readNumber_12 (by decide) ?_
    obtain ⟨⟨r3_0, r3_1⟩, h_r3, h⟩ := bd_s h
    have h := up2_s h
    refine clVW (As := [.int (45 : Int32)]) (rest := []) (wr := [(o_numbers, .inl (ca 0, 4, .inl o_numbers_d))]) (wn := [(o_numbers, .inl (ca 0, 4, .inl o_numbers_d)), (o, .inr (3, [.int o_length, .int o_command, .int r3_1, .ref o_bytes, .ref o_numbers])), (o_bytes, .inl (ca 0, 120, .inl o_bytes_d))]) hx hb hml hown hts gX4_readNumber_X4_skip rfl 1 kX4_skip ⟨Nat.le_of_ble_eq_true rfl, Nat.le_of_ble_eq_true rfl⟩ (ctX4_skip l D ca o o_bytes o_numbers o_length o_command r1_1 o_bytes_d (45 : Int32) _ r3_0 r3_1 h_r3) hP hD hS hA hK [1, 2] [0] rfl (by decide) rfl (by decide) (by decide) 0 3 rfl rfl rfl rfl hl.1 rfl (Nat.le_of_ble_eq_true rfl) ⟨Nat.le_of_ble_eq_true rfl, Nat.le_of_ble_eq_true rfl⟩ dX4_readNumber_14 rfl rfl (fun H locs hP hD hS => ?_)
    refine lv_istore_n (lv' := [(2, .int r3_0), (0, .ref o), (1, .int x1)]) hx hb dX4_readNumber_17 rfl hl (by decide) rfl (fun ls hl => ?_)
    refine lv_iconst (v := (0 : Int32)) hx hb dX4_readNumber_18 (by decide) ?_
    refine lv_istore_n (lv' := [(3, .int (0 : Int32)), (2, .int r3_0), (0, .ref o), (1, .int x1)]) hx hb dX4_readNumber_19 rfl hl (by decide) rfl (fun ls hl => ?_)
    refine lv_iconst (v := (0 : Int32)) hx hb dX4_readNumber_20 (by decide) ?_
    refine lv_istore (lv' := [(4, .int (0 : Int32)), (3, .int (0 : Int32)), (2, .int r3_0), (0, .ref o), (1, .int x1)]) hx hb dX4_readNumber_21 hl (by decide) rfl (fun ls hl => ?_)
    have hP := hP.sub (ws' := [(o, .inr (3, [.int o_length, .int o_command, .int r3_1, .ref o_bytes, .ref o_numbers])), (o_bytes, .inl (ca 0, 120, .inl o_bytes_d)), (o_numbers, .inl (ca 0, 4, .inl o_numbers_d))]) [1, 2, 0] rfl
    have hD := hD.sub (ws' := [(o, .inr (3, [.int o_length, .int o_command, .int r3_1, .ref o_bytes, .ref o_numbers])), (o_bytes, .inl (ca 0, 120, .inl o_bytes_d)), (o_numbers, .inl (ca 0, 4, .inl o_numbers_d))]) [1, 2, 0] (by decide) rfl
    exact L23 r3_0 o_numbers_d fuel (0 : Int32) (0 : Int32) r3_1 h _ _ hP hD hS ls (lv_sub hl [3, 4, 2, 1, 0] rfl)
  · have h := ip_s h c2
    refine lv_iconst (v := (0 : Int32)) hx hb dX4_readNumber_9 (by decide) ?_
    obtain ⟨hz, h⟩ := zr_s h
    have hP := hP.sub (ws' := [(o, .inr (3, [.int o_length, .int o_command, .int r1_1, .ref o_bytes, .ref o_numbers])), (o_bytes, .inl (ca 0, 120, .inl o_bytes_d)), (o_numbers, .inl (ca 0, 4, .inl o_numbers_d))]) [1, 2, 0] rfl
    have hD := hD.sub (ws' := [(o, .inr (3, [.int o_length, .int o_command, .int r1_1, .ref o_bytes, .ref o_numbers])), (o_bytes, .inl (ca 0, 120, .inl o_bytes_d)), (o_numbers, .inl (ca 0, 4, .inl o_numbers_d))]) [1, 2, 0] (by decide) rfl
    cases h
    exact hret 10 ls _ hz _ _ hP hD hS rfl dX4_readNumber_10
theorem mwX4_readCommand_0 : Cond.fieldLink RX4 36 "SegmentTimes$Script" "command" "I" ∈ wsX4_readCommand := List.mem_of_getElem? (i := 1) rfl
theorem mwX4_readCommand_1 : Cond.fieldLink RX4 22 "SegmentTimes$Script" "place" "I" ∈ wsX4_readCommand := List.mem_of_getElem? (i := 2) rfl
theorem inX4_readCommand_X4 : ∀ w ∈ u_ws RX4 TX4 5, w ∈ wsX4_readCommand := fun w h => List.mem_cons_of_mem _ (List.mem_append_right _ (h))
theorem kX4_readCommand : yX4_readCommand.cls = RX4 ∧ yX4_readCommand.cls ≠ "java/lang/invoke/MethodHandle" ∧ yX4_readCommand.cls ≠ "java/lang/invoke/VarHandle" ∧ (parseMethodDescriptor yX4_readCommand.desc).map (fun d => d.parameters.length) = some 0 := by decide +kernel
set_option maxHeartbeats 4000000 in
set_option maxRecDepth 100000 in
theorem ctX4_readCommand (l : Launch) (D : va_G) (ca : Nat → ClassId) (o : Nat) (o_bytes : Nat) (o_numbers : Nat) (o_length : Int32) (o_command : Int32) (o_place : Int32) (o_bytes_d : Nat → Int32) (o_numbers_d : Nat → Int32)  (sz : Nat) (u0 : Int32) (u1 : Int32) (u2 : Int32) (u3 : Nat → Int32) (hf : fX4_readCommand o_length o_command o_place o_bytes_d o_numbers_d = some (u0, u1, u2, u3)) : MW l yX4_readCommand wsX4_readCommand 3 65 D ca [.ref o] sz [(o, .inr (3, [.int o_length, .int o_command, .int o_place, .ref o_bytes, .ref o_numbers])), (o_bytes, .inl (ca 0, 120, .inl o_bytes_d)), (o_numbers, .inl (ca 0, 4, .inl o_numbers_d))] (some (.int u0)) [(o, .inr (3, [.int o_length, .int u1, .int u2, .ref o_bytes, .ref o_numbers])), (o_bytes, .inl (ca 0, 120, .inl o_bytes_d)), (o_numbers, .inl (ca 0, 4, .inl u3))] := by
  refine hdWz (by decide +kernel) rfl (Nat.le_of_ble_eq_true rfl) ?_
  intro p e s m args below meth c A Q hx hb hml hown hts hP hD hK hA hS hret ls hl
  have hown : s.vm.findClass RX4 = some m.cls := hown
  have hl : lv_has ls 3 [(0, .ref o)] := hl
  have h := hf
  unfold fX4_readCommand at h
  clear hf
  have L35 : ∀ (l1 : Int32) (w_o_command : Int32) (n : Nat) (l2 : Int32) (w_o_place : Int32) (w_o_numbers_d : Nat → Int32), lp (fun q => bX4_readCommand_35 o_length o_bytes_d l1 w_o_command q.1 q.2.1 q.2.2) n (l2, w_o_place, w_o_numbers_d) = some (u0, u1, u2, u3) → ∀ (H : Heap) (locs : List Loc), va_P D vwCl [(o, .inr (3, [.int o_length, .int w_o_command, .int w_o_place, .ref o_bytes, .ref o_numbers])), (o_bytes, .inl (ca 0, 120, .inl o_bytes_d)), (o_numbers, .inl (ca 0, 4, .inl w_o_numbers_d))] H → va_D A [(o, .inr (3, [.int o_length, .int w_o_command, .int w_o_place, .ref o_bytes, .ref o_numbers])), (o_bytes, .inl (ca 0, 120, .inl o_bytes_d)), (o_numbers, .inl (ca 0, 4, .inl w_o_numbers_d))] → va_S A s.heap H locs → ∀ ls, lv_has ls 3 [(0, .ref o), (1, .int l1), (2, .int l2)] → W p l e ({ frames := 3, cells := 0, slots := 0, locals := 65 }) s m args below meth c H locs 0 0 Q (F0 m 35 ls []) := by
    intro l1 w_o_command n
    induction n with
    | zero => intro l2 w_o_place w_o_numbers_d h; exact (lp_0 h).elim
    | succ n ih35 =>
      intro l2 w_o_place w_o_numbers_d h H locs hP hD hS ls hl
      obtain ⟨q35, h, hq35⟩ := lp_s h
      have h : bX4_readCommand_35 o_length o_bytes_d l1 w_o_command l2 w_o_place w_o_numbers_d = some q35 := h
      unfold bX4_readCommand_35 at h
      refine lv_iload_n hx hb dX4_readCommand_35 rfl (lv_at hl 2 rfl) ?_
      refine lv_iload_n hx hb dX4_readCommand_36 rfl (lv_at hl 1 rfl) ?_
      refine lv_icmp_ge (tgt := 56) hx hb dX4_readCommand_37 (by decide) (fun c1 => ?_) (fun c1 => ?_)
      · have h := ip_s h c1
        have h := xt_s hq35 h
        refine lv_aload_n hx hb dX4_readCommand_56 rfl (lv_at hl 0 rfl) ?_
        refine lv_bipush (v := (59 : Int32)) hx hb dX4_readCommand_57 (by decide) ?_
        obtain ⟨⟨r2_0, r2_1⟩, h_r2, h⟩ := bd_s h
        have h := up2_s h
        refine clVW (As := [.int (59 : Int32)]) (rest := []) (wr := [(o_numbers, .inl (ca 0, 4, .inl w_o_numbers_d))]) (wn := [(o_numbers, .inl (ca 0, 4, .inl w_o_numbers_d)), (o, .inr (3, [.int o_length, .int w_o_command, .int r2_1, .ref o_bytes, .ref o_numbers])), (o_bytes, .inl (ca 0, 120, .inl o_bytes_d))]) hx hb hml hown hts gX4_readCommand_X4_skip rfl 1 kX4_skip ⟨Nat.le_of_ble_eq_true rfl, Nat.le_of_ble_eq_true rfl⟩ (ctX4_skip l D ca o o_bytes o_numbers o_length w_o_command w_o_place o_bytes_d (59 : Int32) _ r2_0 r2_1 h_r2) hP hD hS hA hK [0, 1] [2] rfl (by decide) rfl (by decide) (by decide) 0 3 rfl rfl rfl rfl hl.1 rfl (Nat.le_of_ble_eq_true rfl) ⟨Nat.le_of_ble_eq_true rfl, Nat.le_of_ble_eq_true rfl⟩ dX4_readCommand_59 rfl rfl (fun H locs hP hD hS => ?_)
        obtain ⟨hz, h⟩ := zr_s h
        have hP := hP.sub (ws' := [(o, .inr (3, [.int o_length, .int w_o_command, .int r2_1, .ref o_bytes, .ref o_numbers])), (o_bytes, .inl (ca 0, 120, .inl o_bytes_d)), (o_numbers, .inl (ca 0, 4, .inl w_o_numbers_d))]) [1, 2, 0] rfl
        have hD := hD.sub (ws' := [(o, .inr (3, [.int o_length, .int w_o_command, .int r2_1, .ref o_bytes, .ref o_numbers])), (o_bytes, .inl (ca 0, 120, .inl o_bytes_d)), (o_numbers, .inl (ca 0, 4, .inl w_o_numbers_d))]) [1, 2, 0] (by decide) rfl
        cases h
        exact hret 62 ls _ hz _ _ hP hD hS rfl dX4_readCommand_62
      · have h := in_s h c1
        refine lv_aload_n hx hb dX4_readCommand_40 rfl (lv_at hl 0 rfl) ?_
        refine lv_iload_n hx hb dX4_readCommand_41 rfl (lv_at hl 2 rfl) ?_
        obtain ⟨⟨r3_0, r3_1, r3_2⟩, h_r3, h⟩ := bd_s h
        have h := up3_s h
        refine clVW (As := [.int l2]) (rest := []) (wr := []) (wn := [(o, .inr (3, [.int o_length, .int w_o_command, .int r3_1, .ref o_bytes, .ref o_numbers])), (o_bytes, .inl (ca 0, 120, .inl o_bytes_d)), (o_numbers, .inl (ca 0, 4, .inl r3_2))]) hx hb hml hown hts gX4_readCommand_X4_readNumber rfl 1 kX4_readNumber ⟨Nat.le_of_ble_eq_true rfl, Nat.le_of_ble_eq_true rfl⟩ (ctX4_readNumber l D ca o o_bytes o_numbers o_length w_o_command w_o_place o_bytes_d w_o_numbers_d l2 _ r3_0 r3_1 r3_2 h_r3) hP hD hS hA hK [0, 1, 2] [] rfl (by decide) rfl (by decide) (by decide) 0 3 rfl rfl rfl rfl hl.1 rfl (Nat.le_of_ble_eq_true rfl) ⟨Nat.le_of_ble_eq_true rfl, Nat.le_of_ble_eq_true rfl⟩ dX4_readCommand_42 rfl rfl (fun H locs hP hD hS => ?_)
        refine lv_if_ne (tgt := 50) hx hb dX4_readCommand_45 (by decide) (fun c4 => ?_) (fun c4 => ?_)
        · have h := in_s h c4
          obtain ⟨y5, e_y5, h⟩ := nm_s h
          refine lv_iinc (v := y5) (lv' := [(2, .int y5), (0, .ref o), (1, .int l1)]) hx hb dX4_readCommand_50 hl (k := 2) rfl (by rw [e_y5]; rfl) (by decide) rfl (fun ls hl => ?_)
          refine lv_goto (tgt := 35) hx hb dX4_readCommand_53 (by decide) ?_
          exact ih35 y5 r3_1 r3_2 (lp_l hq35 h) _ _ hP hD hS ls (lv_sub hl [1, 2, 0] rfl)
        · have h := ip_s h c4
          have h := xt_s hq35 h
          refine lv_iconst (v := (0 : Int32)) hx hb dX4_readCommand_48 (by decide) ?_
          obtain ⟨hz, h⟩ := zr_s h
          cases h
          exact hret 49 ls _ hz _ _ hP hD hS rfl dX4_readCommand_49
  refine lv_aload_n hx hb dX4_readCommand_0 rfl (lv_at hl 0 rfl) ?_
  refine lv_aload_n hx hb dX4_readCommand_1 rfl (lv_at hl 0 rfl) ?_
  obtain ⟨r1, h_r1, h⟩ := bd_s h
  refine clVR (As := []) (rest := [.ref o]) hx hb hml hown hts gX4_readCommand_X4_next rfl 0 kX4_next ⟨Nat.le_of_ble_eq_true rfl, Nat.le_of_ble_eq_true rfl⟩ (ctX4_next l D ca o o_bytes o_numbers o_length o_command o_place o_bytes_d  r1 h_r1) hP hK [0, 1] rfl 0 3 rfl rfl rfl rfl hl.1 rfl (Nat.le_of_ble_eq_true rfl) ⟨Nat.le_of_ble_eq_true rfl, Nat.le_of_ble_eq_true rfl⟩ dX4_readCommand_2 rfl ?_
  refine ptI (ci := 3) (v := .int r1) (ty := .int) (C := RX4) (T := TX4) (N := 5) (wn := [(o, .inr (3, [.int o_length, .int r1, .int o_place, .ref o_bytes, .ref o_numbers])), (o_bytes, .inl (ca 0, 120, .inl o_bytes_d)), (o_numbers, .inl (ca 0, 4, .inl o_numbers_d))]) hx hb hts inX4_readCommand_X4 tyX4 tyX4_ok nmX4 hown hK hP hD hS 0 rfl rfl 1 (by decide) mwX4_readCommand_0 rfl rfl (by decide +kernel) rfl rfl (Nat.le_of_ble_eq_true rfl) rfl dX4_readCommand_5 (fun H locs hP hD hS => ?_)
  refine lv_aload_n hx hb dX4_readCommand_8 rfl (lv_at hl 0 rfl) ?_
  refine gtF (ci := 3) (v := .int r1) (C := RX4) (T := TX4) (N := 5) hx hb hts inX4_readCommand_X4 hown hK hP 0 rfl rfl 1 (by decide) mwX4_readCommand_0 rfl rfl dX4_readCommand_9 ?_
  obtain ⟨r2, h_r2, h⟩ := bd_s h
  refine clSR (As := [.int r1]) (rest := []) hx hb hml hown hts gX4_readCommand_X4_numbersOf rfl 1 kX4_numbersOf.2 ⟨Nat.le_of_ble_eq_true rfl, Nat.le_of_ble_eq_true rfl⟩ (ctX4_numbersOf l D ca   r1 r2 h_r2) hP hK [] rfl rfl hl.1 rfl (Nat.le_of_ble_eq_true rfl) ⟨Nat.le_of_ble_eq_true rfl, Nat.le_of_ble_eq_true rfl⟩ dX4_readCommand_12 rfl ?_
  refine lv_istore_n (lv' := [(1, .int r2), (0, .ref o)]) hx hb dX4_readCommand_15 rfl hl (by decide) rfl (fun ls hl => ?_)
  refine lv_iload_n hx hb dX4_readCommand_16 rfl (lv_at hl 0 rfl) ?_
  refine lv_iconst (v := (-1 : Int32)) hx hb dX4_readCommand_17 (by decide) ?_
  refine lv_icmp_ne (tgt := 23) hx hb dX4_readCommand_18 (by decide) (fun c3 => ?_) (fun c3 => ?_)
  · have h := in_s h c3
    refine lv_aload_n hx hb dX4_readCommand_23 rfl (lv_at hl 1 rfl) ?_
    refine lv_dup hx hb dX4_readCommand_24 rfl ?_
    refine gtF (ci := 3) (v := .int o_place) (C := RX4) (T := TX4) (N := 5) hx hb hts inX4_readCommand_X4 hown hK hP 0 rfl rfl 2 (by decide) mwX4_readCommand_1 rfl rfl dX4_readCommand_25 ?_
    refine lv_iconst (v := (1 : Int32)) hx hb dX4_readCommand_28 (by decide) ?_
    refine lv_iadd hx hb dX4_readCommand_29 ?_
    obtain ⟨y4, e_y4, h⟩ := nm_s h
    refine top_i e_y4 ?_
    refine ptI (ci := 3) (v := .int y4) (ty := .int) (C := RX4) (T := TX4) (N := 5) (wn := [(o, .inr (3, [.int o_length, .int r1, .int y4, .ref o_bytes, .ref o_numbers])), (o_bytes, .inl (ca 0, 120, .inl o_bytes_d)), (o_numbers, .inl (ca 0, 4, .inl o_numbers_d))]) hx hb hts inX4_readCommand_X4 tyX4 tyX4_ok nmX4 hown hK hP hD hS 0 rfl rfl 2 (by decide) mwX4_readCommand_1 rfl rfl (by decide +kernel) rfl rfl (Nat.le_of_ble_eq_true rfl) rfl dX4_readCommand_30 (fun H locs hP hD hS => ?_)
    refine lv_iconst (v := (0 : Int32)) hx hb dX4_readCommand_33 (by decide) ?_
    refine lv_istore_n (lv' := [(2, .int (0 : Int32)), (1, .int r2), (0, .ref o)]) hx hb dX4_readCommand_34 rfl hl (by decide) rfl (fun ls hl => ?_)
    exact L35 r2 r1 fuel (0 : Int32) y4 o_numbers_d h _ _ hP hD hS ls (lv_sub hl [2, 1, 0] rfl)
  · have h := ip_s h c3
    refine lv_iconst (v := (0 : Int32)) hx hb dX4_readCommand_21 (by decide) ?_
    obtain ⟨hz, h⟩ := zr_s h
    cases h
    exact hret 22 ls _ hz _ _ hP hD hS rfl dX4_readCommand_22
theorem mwX4_syntaxError_0 : Cond.fieldLink RX4 22 "SegmentTimes$Script" "place" "I" ∈ wsX4_syntaxError := List.mem_of_getElem? (i := 1) rfl
theorem mwX4_syntaxError_1 : Cond.fieldLink RX4 18 "SegmentTimes$Script" "length" "I" ∈ wsX4_syntaxError := List.mem_of_getElem? (i := 2) rfl
theorem inX4_syntaxError_X4 : ∀ w ∈ u_ws RX4 TX4 5, w ∈ wsX4_syntaxError := fun w h => List.mem_cons_of_mem _ (List.mem_append_right _ (h))
theorem kX4_syntaxError : yX4_syntaxError.cls = RX4 ∧ yX4_syntaxError.cls ≠ "java/lang/invoke/MethodHandle" ∧ yX4_syntaxError.cls ≠ "java/lang/invoke/VarHandle" ∧ (parseMethodDescriptor yX4_syntaxError.desc).map (fun d => d.parameters.length) = some 0 := by decide +kernel
set_option maxHeartbeats 4000000 in
set_option maxRecDepth 100000 in
theorem ctX4_syntaxError (l : Launch) (D : va_G) (ca : Nat → ClassId) (o : Nat) (o_bytes : Nat) (o_numbers : Nat) (o_length : Int32) (o_command : Int32) (o_place : Int32) (o_bytes_d : Nat → Int32) (o_numbers_d : Nat → Int32)  (sz : Nat) (u0 : Int32) (u1 : Int32) (u2 : Int32) (u3 : Nat → Int32) (hf : fX4_syntaxError o_length o_command o_place o_bytes_d o_numbers_d = some (u0, u1, u2, u3)) : MW l yX4_syntaxError wsX4_syntaxError 4 87 D ca [.ref o] sz [(o, .inr (3, [.int o_length, .int o_command, .int o_place, .ref o_bytes, .ref o_numbers])), (o_bytes, .inl (ca 0, 120, .inl o_bytes_d)), (o_numbers, .inl (ca 0, 4, .inl o_numbers_d))] (some (.int u0)) [(o, .inr (3, [.int o_length, .int u1, .int u2, .ref o_bytes, .ref o_numbers])), (o_bytes, .inl (ca 0, 120, .inl o_bytes_d)), (o_numbers, .inl (ca 0, 4, .inl u3))] := by
  refine hdWi (by decide +kernel) rfl (Nat.le_of_ble_eq_true rfl) ?_
  intro p e s m args below meth c A Q hx hb hml hown hts hP hD hK hA hS hret ls hl
  have hown : s.vm.findClass RX4 = some m.cls := hown
  have hl : lv_has ls 2 [(0, .ref o)] := hl
  have h := hf
  unfold fX4_syntaxError at h
  clear hf
  have L6 : ∀  (n : Nat) (l1 : Int32) (w_o_command : Int32) (w_o_place : Int32) (w_o_numbers_d : Nat → Int32), lp (fun q => bX4_syntaxError_6 o_length o_bytes_d  q.1 q.2.1 q.2.2.1 q.2.2.2) n (l1, w_o_command, w_o_place, w_o_numbers_d) = some (u0, u1, u2, u3) → ∀ (H : Heap) (locs : List Loc), va_P D vwCl [(o, .inr (3, [.int o_length, .int w_o_command, .int w_o_place, .ref o_bytes, .ref o_numbers])), (o_bytes, .inl (ca 0, 120, .inl o_bytes_d)), (o_numbers, .inl (ca 0, 4, .inl w_o_numbers_d))] H → va_D A [(o, .inr (3, [.int o_length, .int w_o_command, .int w_o_place, .ref o_bytes, .ref o_numbers])), (o_bytes, .inl (ca 0, 120, .inl o_bytes_d)), (o_numbers, .inl (ca 0, 4, .inl w_o_numbers_d))] → va_S A s.heap H locs → ∀ ls, lv_has ls 2 [(0, .ref o), (1, .int l1)] → W p l e ({ frames := 4, cells := 0, slots := 0, locals := 87 }) s m args below meth c H locs 0 0 Q (F0 m 6 ls []) := by
    intro  n
    induction n with
    | zero => intro l1 w_o_command w_o_place w_o_numbers_d h; exact (lp_0 h).elim
    | succ n ih6 =>
      intro l1 w_o_command w_o_place w_o_numbers_d h H locs hP hD hS ls hl
      obtain ⟨q6, h, hq6⟩ := lp_s h
      have h : bX4_syntaxError_6 o_length o_bytes_d  l1 w_o_command w_o_place w_o_numbers_d = some q6 := h
      unfold bX4_syntaxError_6 at h
      refine lv_iload_n hx hb dX4_syntaxError_6 rfl (lv_at hl 1 rfl) ?_
      refine lv_bipush (v := (120 : Int32)) hx hb dX4_syntaxError_7 (by decide) ?_
      refine lv_icmp_ge (tgt := 41) hx hb dX4_syntaxError_9 (by decide) (fun c1 => ?_) (fun c1 => ?_)
      · have h := ip_s h c1
        have h := xt_s hq6 h
        refine lv_iconst (v := (-1 : Int32)) hx hb dX4_syntaxError_41 (by decide) ?_
        cases h
        exact hret 42 ls _ _ _ hP hD hS rfl dX4_syntaxError_42
      · have h := in_s h c1
        refine lv_aload_n hx hb dX4_syntaxError_12 rfl (lv_at hl 0 rfl) ?_
        refine gtF (ci := 3) (v := .int w_o_place) (C := RX4) (T := TX4) (N := 5) hx hb hts inX4_syntaxError_X4 hown hK hP 0 rfl rfl 2 (by decide) mwX4_syntaxError_0 rfl rfl dX4_syntaxError_13 ?_
        refine lv_aload_n hx hb dX4_syntaxError_16 rfl (lv_at hl 0 rfl) ?_
        refine gtF (ci := 3) (v := .int o_length) (C := RX4) (T := TX4) (N := 5) hx hb hts inX4_syntaxError_X4 hown hK hP 0 rfl rfl 0 (by decide) mwX4_syntaxError_1 rfl rfl dX4_syntaxError_17 ?_
        refine lv_icmp_ge (tgt := 41) hx hb dX4_syntaxError_20 (by decide) (fun c2 => ?_) (fun c2 => ?_)
        · have h := ip_s h c2
          have h := xt_s hq6 h
          refine lv_iconst (v := (-1 : Int32)) hx hb dX4_syntaxError_41 (by decide) ?_
          cases h
          exact hret 42 ls _ _ _ hP hD hS rfl dX4_syntaxError_42
        · have h := in_s h c2
          refine lv_aload_n hx hb dX4_syntaxError_23 rfl (lv_at hl 0 rfl) ?_
          obtain ⟨⟨r3_0, r3_1, r3_2, r3_3⟩, h_r3, h⟩ := bd_s h
          have h := up4_s h
          refine clVW (As := []) (rest := []) (wr := []) (wn := [(o, .inr (3, [.int o_length, .int r3_1, .int r3_2, .ref o_bytes, .ref o_numbers])), (o_bytes, .inl (ca 0, 120, .inl o_bytes_d)), (o_numbers, .inl (ca 0, 4, .inl r3_3))]) hx hb hml hown hts gX4_syntaxError_X4_readCommand rfl 0 kX4_readCommand ⟨Nat.le_of_ble_eq_true rfl, Nat.le_of_ble_eq_true rfl⟩ (ctX4_readCommand l D ca o o_bytes o_numbers o_length w_o_command w_o_place o_bytes_d w_o_numbers_d  _ r3_0 r3_1 r3_2 r3_3 h_r3) hP hD hS hA hK [0, 1, 2] [] rfl (by decide) rfl (by decide) (by decide) 0 3 rfl rfl rfl rfl hl.1 rfl (Nat.le_of_ble_eq_true rfl) ⟨Nat.le_of_ble_eq_true rfl, Nat.le_of_ble_eq_true rfl⟩ dX4_syntaxError_24 rfl rfl (fun H locs hP hD hS => ?_)
          refine lv_if_ne (tgt := 35) hx hb dX4_syntaxError_27 (by decide) (fun c4 => ?_) (fun c4 => ?_)
          · have h := in_s h c4
            obtain ⟨y5, e_y5, h⟩ := nm_s h
            refine lv_iinc (v := y5) (lv' := [(1, .int y5), (0, .ref o)]) hx hb dX4_syntaxError_35 hl (k := 1) rfl (by rw [e_y5]; rfl) (by decide) rfl (fun ls hl => ?_)
            refine lv_goto (tgt := 6) hx hb dX4_syntaxError_38 (by decide) ?_
            exact ih6 y5 r3_1 r3_2 r3_3 (lp_l hq6 h) _ _ hP hD hS ls (lv_sub hl [1, 0] rfl)
          · have h := ip_s h c4
            have h := xt_s hq6 h
            refine lv_aload_n hx hb dX4_syntaxError_30 rfl (lv_at hl 0 rfl) ?_
            refine gtF (ci := 3) (v := .int r3_2) (C := RX4) (T := TX4) (N := 5) hx hb hts inX4_syntaxError_X4 hown hK hP 0 rfl rfl 2 (by decide) mwX4_syntaxError_0 rfl rfl dX4_syntaxError_31 ?_
            cases h
            exact hret 34 ls _ _ _ hP hD hS rfl dX4_syntaxError_34
  refine lv_aload_n hx hb dX4_syntaxError_0 rfl (lv_at hl 0 rfl) ?_
  obtain ⟨r1, h_r1, h⟩ := bd_s h
  refine clVW (As := []) (rest := []) (wr := [(o_bytes, .inl (ca 0, 120, .inl o_bytes_d)), (o_numbers, .inl (ca 0, 4, .inl o_numbers_d))]) (wn := [(o_bytes, .inl (ca 0, 120, .inl o_bytes_d)), (o_numbers, .inl (ca 0, 4, .inl o_numbers_d)), (o, .inr (3, [.int o_length, .int o_command, .int r1, .ref o_bytes, .ref o_numbers]))]) hx hb hml hown hts gX4_syntaxError_X4_restart rfl 0 kX4_restart ⟨Nat.le_of_ble_eq_true rfl, Nat.le_of_ble_eq_true rfl⟩ (ctX4_restart l D ca o o_bytes o_numbers o_length o_command o_place  _ r1 h_r1) hP hD hS hA hK [0] [1, 2] rfl (by decide) rfl (by decide) (by decide) 0 3 rfl rfl rfl rfl hl.1 rfl (Nat.le_of_ble_eq_true rfl) ⟨Nat.le_of_ble_eq_true rfl, Nat.le_of_ble_eq_true rfl⟩ dX4_syntaxError_1 rfl rfl (fun H locs hP hD hS => ?_)
  refine lv_iconst (v := (0 : Int32)) hx hb dX4_syntaxError_4 (by decide) ?_
  refine lv_istore_n (lv' := [(1, .int (0 : Int32)), (0, .ref o)]) hx hb dX4_syntaxError_5 rfl hl (by decide) rfl (fun ls hl => ?_)
  have hP := hP.sub (ws' := [(o, .inr (3, [.int o_length, .int o_command, .int r1, .ref o_bytes, .ref o_numbers])), (o_bytes, .inl (ca 0, 120, .inl o_bytes_d)), (o_numbers, .inl (ca 0, 4, .inl o_numbers_d))]) [2, 0, 1] rfl
  have hD := hD.sub (ws' := [(o, .inr (3, [.int o_length, .int o_command, .int r1, .ref o_bytes, .ref o_numbers])), (o_bytes, .inl (ca 0, 120, .inl o_bytes_d)), (o_numbers, .inl (ca 0, 4, .inl o_numbers_d))]) [2, 0, 1] (by decide) rfl
  exact L6  fuel (0 : Int32) o_command r1 o_numbers_d h _ _ hP hD hS ls (lv_sub hl [1, 0] rfl)
