theorem mwX6_copyFrom_0 : Cond.fieldLink RX6 15 "SegmentTimes$Store" "now" "I" ∈ wsX6_copyFrom := List.mem_of_getElem? (i := 1) rfl
theorem mwX6_copyFrom_1 : Cond.fieldLink RX6 19 "SegmentTimes$Store" "size" "I" ∈ wsX6_copyFrom := List.mem_of_getElem? (i := 2) rfl
theorem mwX6_copyFrom_2 : Cond.methodLink RX6 22 Lib.Math.min.name ∈ wsX6_copyFrom := List.mem_of_getElem? (i := 3) rfl
theorem mwX6_copyFrom_3 : Cond.static Lib.Math.min.name ∈ wsX6_copyFrom := List.mem_of_getElem? (i := 4) rfl
theorem mwX6_copyFrom_4 : Cond.initialized "java/lang/Math" ∈ wsX6_copyFrom := List.mem_of_getElem? (i := 5) rfl
theorem mwX6_copyFrom_5 : Cond.code Lib.Math.min.name Lib.Math.min.code 2 (some .int) ∈ wsX6_copyFrom := List.mem_of_getElem? (i := 6) rfl
theorem mwX6_copyFrom_6 : Cond.methodLink RX6 28 Lib.Math.max.name ∈ wsX6_copyFrom := List.mem_of_getElem? (i := 7) rfl
theorem mwX6_copyFrom_7 : Cond.static Lib.Math.max.name ∈ wsX6_copyFrom := List.mem_of_getElem? (i := 8) rfl
theorem mwX6_copyFrom_8 : Cond.code Lib.Math.max.name Lib.Math.max.code 2 (some .int) ∈ wsX6_copyFrom := List.mem_of_getElem? (i := 9) rfl
theorem mwX6_copyFrom_9 : Cond.fieldLink RX6 9 "SegmentTimes$Store" "values" "[I" ∈ wsX6_copyFrom := List.mem_of_getElem? (i := 10) rfl
theorem mwX6_copyFrom_10 : Cond.methodLink RX6 31 arraycopyName ∈ wsX6_copyFrom := List.mem_of_getElem? (i := 11) rfl
theorem mwX6_copyFrom_11 : Cond.native arraycopyName ∈ wsX6_copyFrom := List.mem_of_getElem? (i := 12) rfl
theorem mwX6_copyFrom_12 : Cond.static arraycopyName ∈ wsX6_copyFrom := List.mem_of_getElem? (i := 13) rfl
theorem mwX6_copyFrom_13 : Cond.initialized "java/lang/System" ∈ wsX6_copyFrom := List.mem_of_getElem? (i := 14) rfl
theorem inX6_copyFrom_X6 : ∀ w ∈ u_ws RX6 TX6 3, w ∈ wsX6_copyFrom := fun w h => List.mem_cons_of_mem _ (List.mem_append_right _ (h))
theorem kX6_copyFrom : yX6_copyFrom.cls = RX6 ∧ yX6_copyFrom.cls ≠ "java/lang/invoke/MethodHandle" ∧ yX6_copyFrom.cls ≠ "java/lang/invoke/VarHandle" ∧ (parseMethodDescriptor yX6_copyFrom.desc).map (fun d => d.parameters.length) = some 1 := by decide +kernel
set_option maxHeartbeats 4000000 in
set_option maxRecDepth 100000 in
theorem ctX6_copyFrom (l : Launch) (D : va_G) (ca : Nat → ClassId) (o : Nat) (o_values : Nat) (p1 : Nat) (p1_values : Nat) (o_now : Int32) (o_size : Int32) (o_values_d : Nat → Int32) (p1_now : Int32) (p1_size : Int32) (p1_values_d : Nat → Int32)  (sz : Nat) (u0 : Int32) (u1 : Int32) (u2 : Nat → Int32) (hf : fX6_copyFrom o_now o_size o_values_d p1_now p1_size p1_values_d = some (u0, u1, u2)) : MW l yX6_copyFrom wsX6_copyFrom 1 48 D ca [.ref o, .ref p1] sz [(o, .inr (5, [.int o_now, .int o_size, .ref o_values])), (o_values, .inl (ca 0, 240, .inl o_values_d)), (p1, .inr (5, [.int p1_now, .int p1_size, .ref p1_values])), (p1_values, .inl (ca 0, 240, .inl p1_values_d))] none [(o, .inr (5, [.int u0, .int u1, .ref o_values])), (o_values, .inl (ca 0, 240, .inl u2)), (p1, .inr (5, [.int p1_now, .int p1_size, .ref p1_values])), (p1_values, .inl (ca 0, 240, .inl p1_values_d))] := by
  refine hdWv (by decide +kernel) rfl (Nat.le_of_ble_eq_true rfl) rfl ?_
  intro p e s m args below meth c A Q hx hb hml hown hts hP hD hK hA hS hret ls hl
  have hown : s.vm.findClass RX6 = some m.cls := hown
  have hl : lv_has ls 2 [(0, .ref o), (1, .ref p1)] := hl
  have h := hf
  unfold fX6_copyFrom at h
  clear hf
  refine lv_aload_n hx hb dX6_copyFrom_0 rfl (lv_at hl 0 rfl) ?_
  refine lv_aload_n hx hb dX6_copyFrom_1 rfl (lv_at hl 1 rfl) ?_
  refine gtF (ci := 5) (v := .int p1_now) (C := RX6) (T := TX6) (N := 3) hx hb hts inX6_copyFrom_X6 hown hK hP 2 rfl rfl 0 (by decide) mwX6_copyFrom_0 rfl rfl dX6_copyFrom_2 ?_
  refine ptI (ci := 5) (v := .int p1_now) (ty := .int) (C := RX6) (T := TX6) (N := 3) (wn := [(o, .inr (5, [.int p1_now, .int o_size, .ref o_values])), (o_values, .inl (ca 0, 240, .inl o_values_d)), (p1, .inr (5, [.int p1_now, .int p1_size, .ref p1_values])), (p1_values, .inl (ca 0, 240, .inl p1_values_d))]) hx hb hts inX6_copyFrom_X6 tyX6 tyX6_ok nmX6 hown hK hP hD hS 0 rfl rfl 0 (by decide) mwX6_copyFrom_0 rfl rfl (by decide +kernel) rfl rfl (Nat.le_of_ble_eq_true rfl) rfl dX6_copyFrom_5 (fun H locs hP hD hS => ?_)
  refine lv_aload_n hx hb dX6_copyFrom_8 rfl (lv_at hl 0 rfl) ?_
  refine lv_iconst (v := (0 : Int32)) hx hb dX6_copyFrom_9 (by decide) ?_
  refine lv_aload_n hx hb dX6_copyFrom_10 rfl (lv_at hl 1 rfl) ?_
  refine gtF (ci := 5) (v := .int p1_size) (C := RX6) (T := TX6) (N := 3) hx hb hts inX6_copyFrom_X6 hown hK hP 2 rfl rfl 1 (by decide) mwX6_copyFrom_1 rfl rfl dX6_copyFrom_11 ?_
  refine lv_bipush (v := (40 : Int32)) hx hb dX6_copyFrom_14 (by decide) ?_
  refine va_mmin hx hb (by rw [hml]; exact hl.1.symm) hown (hts _ mwX6_copyFrom_2) (hts _ mwX6_copyFrom_3) (hts _ mwX6_copyFrom_4) (hts _ mwX6_copyFrom_5) (Nat.le_of_ble_eq_true rfl) (Nat.le_of_ble_eq_true rfl) (Nat.le_of_ble_eq_true rfl) (Nat.le_of_ble_eq_true rfl) dX6_copyFrom_16 ?_
  obtain ⟨y1, e_y1, h⟩ := nm_s h
  refine top_i e_y1 ?_
  refine va_mmax hx hb (by rw [hml]; exact hl.1.symm) hown (hts _ mwX6_copyFrom_6) (hts _ mwX6_copyFrom_7) (hts _ mwX6_copyFrom_4) (hts _ mwX6_copyFrom_8) (Nat.le_of_ble_eq_true rfl) (Nat.le_of_ble_eq_true rfl) (Nat.le_of_ble_eq_true rfl) (Nat.le_of_ble_eq_true rfl) dX6_copyFrom_19 ?_
  obtain ⟨y2, e_y2, h⟩ := nm_s h
  refine top_i e_y2 ?_
  refine ptI (ci := 5) (v := .int y2) (ty := .int) (C := RX6) (T := TX6) (N := 3) (wn := [(o, .inr (5, [.int p1_now, .int y2, .ref o_values])), (o_values, .inl (ca 0, 240, .inl o_values_d)), (p1, .inr (5, [.int p1_now, .int p1_size, .ref p1_values])), (p1_values, .inl (ca 0, 240, .inl p1_values_d))]) hx hb hts inX6_copyFrom_X6 tyX6 tyX6_ok nmX6 hown hK hP hD hS 0 rfl rfl 1 (by decide) mwX6_copyFrom_1 rfl rfl (by decide +kernel) rfl rfl (Nat.le_of_ble_eq_true rfl) rfl dX6_copyFrom_22 (fun H locs hP hD hS => ?_)
  refine lv_aload_n hx hb dX6_copyFrom_25 rfl (lv_at hl 1 rfl) ?_
  refine gtF (ci := 5) (v := .ref p1_values) (C := RX6) (T := TX6) (N := 3) hx hb hts inX6_copyFrom_X6 hown hK hP 2 rfl rfl 2 (by decide) mwX6_copyFrom_9 rfl rfl dX6_copyFrom_26 ?_
  refine lv_iconst (v := (0 : Int32)) hx hb dX6_copyFrom_29 (by decide) ?_
  refine lv_aload_n hx hb dX6_copyFrom_30 rfl (lv_at hl 0 rfl) ?_
  refine gtF (ci := 5) (v := .ref o_values) (C := RX6) (T := TX6) (N := 3) hx hb hts inX6_copyFrom_X6 hown hK hP 0 rfl rfl 2 (by decide) mwX6_copyFrom_9 rfl rfl dX6_copyFrom_31 ?_
  refine lv_iconst (v := (0 : Int32)) hx hb dX6_copyFrom_34 (by decide) ?_
  refine lv_aload_n hx hb dX6_copyFrom_35 rfl (lv_at hl 0 rfl) ?_
  refine gtF (ci := 5) (v := .int y2) (C := RX6) (T := TX6) (N := 3) hx hb hts inX6_copyFrom_X6 hown hK hP 0 rfl rfl 1 (by decide) mwX6_copyFrom_1 rfl rfl dX6_copyFrom_36 ?_
  refine lv_bipush (v := (6 : Int32)) hx hb dX6_copyFrom_39 (by decide) ?_
  refine lv_imul hx hb dX6_copyFrom_41 ?_
  obtain ⟨hac, g3, e_g3, h⟩ := ac_s h
  refine acI (wn := [(o, .inr (5, [.int p1_now, .int y2, .ref o_values])), (o_values, .inl (ca 0, 240, .inl g3)), (p1, .inr (5, [.int p1_now, .int p1_size, .ref p1_values])), (p1_values, .inl (ca 0, 240, .inl p1_values_d))]) hx hb (by rw [hml]; exact hl.1.symm) hown (hts _ mwX6_copyFrom_10) (hts _ mwX6_copyFrom_11) (hts _ mwX6_copyFrom_12) (hts _ mwX6_copyFrom_13) hK hP hD hS 3 1 rfl rfl hac e_g3 rfl (Nat.le_of_ble_eq_true rfl) (by decide +kernel) dX6_copyFrom_42 (fun H locs hP hD hS => ?_)
  cases h
  exact hret 45 ls _ _ hP hD hS rfl dX6_copyFrom_45
theorem mwX6_has_0 : Cond.fieldLink RX6 19 "SegmentTimes$Store" "size" "I" ∈ wsX6_has := List.mem_of_getElem? (i := 1) rfl
theorem inX6_has_X6 : ∀ w ∈ u_ws RX6 TX6 3, w ∈ wsX6_has := fun w h => List.mem_cons_of_mem _ (List.mem_append_right _ (h))
theorem kX6_has : yX6_has.cls = RX6 ∧ yX6_has.cls ≠ "java/lang/invoke/MethodHandle" ∧ yX6_has.cls ≠ "java/lang/invoke/VarHandle" ∧ (parseMethodDescriptor yX6_has.desc).map (fun d => d.parameters.length) = some 1 := by decide +kernel
set_option maxHeartbeats 4000000 in
set_option maxRecDepth 100000 in
theorem ctX6_has (l : Launch) (D : va_G) (ca : Nat → ClassId) (o : Nat) (o_values : Nat) (o_now : Int32) (o_size : Int32) (x1 : Int32) (u0 : Int32) (hf : fX6_has o_size x1 = some u0) : MR l yX6_has wsX6_has 0 0 D ca [.ref o, .int x1] [(o, .inr (5, [.int o_now, .int o_size, .ref o_values]))] (some (.int u0)) := by
  refine hdRz (plainFor_of_name (by decide +kernel)) rfl (Nat.le_of_ble_eq_true rfl) ?_
  intro p e s m args below meth c Q hx hb hml hown hts hP hK hret ls hl
  have hown : s.vm.findClass RX6 = some m.cls := hown
  have hl : lv_has ls 2 [(0, .ref o), (1, .int x1)] := hl
  have h := hf
  unfold fX6_has at h
  clear hf
  refine lv_iload_n hx hb dX6_has_0 rfl (lv_at hl 1 rfl) ?_
  refine lv_if_lt (tgt := 16) hx hb dX6_has_1 (by decide) (fun c1 => ?_) (fun c1 => ?_)
  · have h := ip_s h c1
    refine lv_iconst (v := (0 : Int32)) hx hb dX6_has_16 (by decide) ?_
    obtain ⟨hz, h⟩ := zr_s h
    cases h
    exact hret 17 ls _ hz rfl dX6_has_17
  · have h := in_s h c1
    refine lv_iload_n hx hb dX6_has_4 rfl (lv_at hl 1 rfl) ?_
    refine lv_aload_n hx hb dX6_has_5 rfl (lv_at hl 0 rfl) ?_
    refine gtF (ci := 5) (v := .int o_size) (C := RX6) (T := TX6) (N := 3) hx hb hts inX6_has_X6 hown hK hP 0 rfl rfl 1 (by decide) mwX6_has_0 rfl rfl dX6_has_6 ?_
    refine lv_icmp_ge (tgt := 16) hx hb dX6_has_9 (by decide) (fun c2 => ?_) (fun c2 => ?_)
    · have h := ip_s h c2
      refine lv_iconst (v := (0 : Int32)) hx hb dX6_has_16 (by decide) ?_
      obtain ⟨hz, h⟩ := zr_s h
      cases h
      exact hret 17 ls _ hz rfl dX6_has_17
    · have h := in_s h c2
      refine lv_iconst (v := (1 : Int32)) hx hb dX6_has_12 (by decide) ?_
      refine lv_goto (tgt := 17) hx hb dX6_has_13 (by decide) ?_
      obtain ⟨hz, h⟩ := zr_s h
      cases h
      exact hret 17 ls _ hz rfl dX6_has_17
theorem mwX6_isFull_0 : Cond.fieldLink RX6 19 "SegmentTimes$Store" "size" "I" ∈ wsX6_isFull := List.mem_of_getElem? (i := 1) rfl
theorem inX6_isFull_X6 : ∀ w ∈ u_ws RX6 TX6 3, w ∈ wsX6_isFull := fun w h => List.mem_cons_of_mem _ (List.mem_append_right _ (h))
theorem kX6_isFull : yX6_isFull.cls = RX6 ∧ yX6_isFull.cls ≠ "java/lang/invoke/MethodHandle" ∧ yX6_isFull.cls ≠ "java/lang/invoke/VarHandle" ∧ (parseMethodDescriptor yX6_isFull.desc).map (fun d => d.parameters.length) = some 0 := by decide +kernel
set_option maxHeartbeats 4000000 in
set_option maxRecDepth 100000 in
theorem ctX6_isFull (l : Launch) (D : va_G) (ca : Nat → ClassId) (o : Nat) (o_values : Nat) (o_now : Int32) (o_size : Int32)  (u0 : Int32) (hf : fX6_isFull o_size = some u0) : MR l yX6_isFull wsX6_isFull 0 0 D ca [.ref o] [(o, .inr (5, [.int o_now, .int o_size, .ref o_values]))] (some (.int u0)) := by
  refine hdRz (plainFor_of_name (by decide +kernel)) rfl (Nat.le_of_ble_eq_true rfl) ?_
  intro p e s m args below meth c Q hx hb hml hown hts hP hK hret ls hl
  have hown : s.vm.findClass RX6 = some m.cls := hown
  have hl : lv_has ls 1 [(0, .ref o)] := hl
  have h := hf
  unfold fX6_isFull at h
  clear hf
  refine lv_aload_n hx hb dX6_isFull_0 rfl (lv_at hl 0 rfl) ?_
  refine gtF (ci := 5) (v := .int o_size) (C := RX6) (T := TX6) (N := 3) hx hb hts inX6_isFull_X6 hown hK hP 0 rfl rfl 1 (by decide) mwX6_isFull_0 rfl rfl dX6_isFull_1 ?_
  refine lv_bipush (v := (40 : Int32)) hx hb dX6_isFull_4 (by decide) ?_
  refine lv_icmp_lt (tgt := 13) hx hb dX6_isFull_6 (by decide) (fun c1 => ?_) (fun c1 => ?_)
  · have h := ip_s h c1
    refine lv_iconst (v := (0 : Int32)) hx hb dX6_isFull_13 (by decide) ?_
    obtain ⟨hz, h⟩ := zr_s h
    cases h
    exact hret 14 ls _ hz rfl dX6_isFull_14
  · have h := in_s h c1
    refine lv_iconst (v := (1 : Int32)) hx hb dX6_isFull_9 (by decide) ?_
    refine lv_goto (tgt := 14) hx hb dX6_isFull_10 (by decide) ?_
    obtain ⟨hz, h⟩ := zr_s h
    cases h
    exact hret 14 ls _ hz rfl dX6_isFull_14
theorem mwX6_value_0 : Cond.fieldLink RX6 9 "SegmentTimes$Store" "values" "[I" ∈ wsX6_value := List.mem_of_getElem? (i := 1) rfl
theorem inX6_value_X6 : ∀ w ∈ u_ws RX6 TX6 3, w ∈ wsX6_value := fun w h => List.mem_cons_of_mem _ (List.mem_append_right _ (h))
theorem kX6_value : yX6_value.cls = RX6 ∧ yX6_value.cls ≠ "java/lang/invoke/MethodHandle" ∧ yX6_value.cls ≠ "java/lang/invoke/VarHandle" ∧ (parseMethodDescriptor yX6_value.desc).map (fun d => d.parameters.length) = some 2 := by decide +kernel
set_option maxHeartbeats 4000000 in
set_option maxRecDepth 100000 in
theorem ctX6_value (l : Launch) (D : va_G) (ca : Nat → ClassId) (o : Nat) (o_values : Nat) (o_now : Int32) (o_size : Int32) (o_values_d : Nat → Int32) (x1 : Int32) (x2 : Int32) (u0 : Int32) (hf : fX6_value o_values_d x1 x2 = some u0) : MR l yX6_value wsX6_value 0 0 D ca [.ref o, .int x1, .int x2] [(o, .inr (5, [.int o_now, .int o_size, .ref o_values])), (o_values, .inl (ca 0, 240, .inl o_values_d))] (some (.int u0)) := by
  refine hdRi (plainFor_of_name (by decide +kernel)) rfl (Nat.le_of_ble_eq_true rfl) ?_
  intro p e s m args below meth c Q hx hb hml hown hts hP hK hret ls hl
  have hown : s.vm.findClass RX6 = some m.cls := hown
  have hl : lv_has ls 4 [(0, .ref o), (1, .int x1), (2, .int x2)] := hl
  have h := hf
  unfold fX6_value at h
  clear hf
  refine lv_iload_n hx hb dX6_value_0 rfl (lv_at hl 1 rfl) ?_
  refine lv_bipush (v := (6 : Int32)) hx hb dX6_value_1 (by decide) ?_
  refine lv_imul hx hb dX6_value_3 ?_
  refine lv_iload_n hx hb dX6_value_4 rfl (lv_at hl 2 rfl) ?_
  refine lv_iadd hx hb dX6_value_5 ?_
  obtain ⟨y1, e_y1, h⟩ := nm_s h
  refine top_i e_y1 ?_
  refine lv_istore_n (lv' := [(3, .int y1), (0, .ref o), (1, .int x1), (2, .int x2)]) hx hb dX6_value_6 rfl hl (by decide) rfl (fun ls hl => ?_)
  refine lv_iload_n hx hb dX6_value_7 rfl (lv_at hl 0 rfl) ?_
  refine lv_if_lt (tgt := 29) hx hb dX6_value_8 (by decide) (fun c2 => ?_) (fun c2 => ?_)
  · have h := ip_s h c2
    refine lv_iconst (v := (0 : Int32)) hx hb dX6_value_29 (by decide) ?_
    cases h
    exact hret 30 ls _ rfl dX6_value_30
  · have h := in_s h c2
    refine lv_iload_n hx hb dX6_value_11 rfl (lv_at hl 0 rfl) ?_
    refine lv_aload_n hx hb dX6_value_12 rfl (lv_at hl 1 rfl) ?_
    refine gtF (ci := 5) (v := .ref o_values) (C := RX6) (T := TX6) (N := 3) hx hb hts inX6_value_X6 hown hK hP 0 rfl rfl 2 (by decide) mwX6_value_0 rfl rfl dX6_value_13 ?_
    refine alI (v := (240 : Int32)) hx hb hK hP 1 0 rfl rfl rfl dX6_value_16 ?_
    refine lv_icmp_ge (tgt := 29) hx hb dX6_value_17 (by decide) (fun c3 => ?_) (fun c3 => ?_)
    · have h := ip_s h c3
      refine lv_iconst (v := (0 : Int32)) hx hb dX6_value_29 (by decide) ?_
      cases h
      exact hret 30 ls _ rfl dX6_value_30
    · have h := in_s h c3
      refine lv_aload_n hx hb dX6_value_20 rfl (lv_at hl 1 rfl) ?_
      refine gtF (ci := 5) (v := .ref o_values) (C := RX6) (T := TX6) (N := 3) hx hb hts inX6_value_X6 hown hK hP 0 rfl rfl 2 (by decide) mwX6_value_0 rfl rfl dX6_value_21 ?_
      refine lv_iload_n hx hb dX6_value_24 rfl (lv_at hl 0 rfl) ?_
      obtain ⟨hin, y4, e_y4, h⟩ := rd_s h
      refine ldI hx hb hK hP 1 rfl hin dX6_value_25 ?_
      refine top_i e_y4 ?_
      refine lv_goto (tgt := 30) hx hb dX6_value_26 (by decide) ?_
      cases h
      exact hret 30 ls _ rfl dX6_value_30
theorem mwX6_set_0 : Cond.fieldLink RX6 9 "SegmentTimes$Store" "values" "[I" ∈ wsX6_set := List.mem_of_getElem? (i := 1) rfl
theorem inX6_set_X6 : ∀ w ∈ u_ws RX6 TX6 3, w ∈ wsX6_set := fun w h => List.mem_cons_of_mem _ (List.mem_append_right _ (h))
theorem kX6_set : yX6_set.cls = RX6 ∧ yX6_set.cls ≠ "java/lang/invoke/MethodHandle" ∧ yX6_set.cls ≠ "java/lang/invoke/VarHandle" ∧ (parseMethodDescriptor yX6_set.desc).map (fun d => d.parameters.length) = some 3 := by decide +kernel
set_option maxHeartbeats 4000000 in
set_option maxRecDepth 100000 in
theorem ctX6_set (l : Launch) (D : va_G) (ca : Nat → ClassId) (o : Nat) (o_values : Nat) (o_now : Int32) (o_size : Int32) (o_values_d : Nat → Int32) (x1 : Int32) (x2 : Int32) (x3 : Int32) (sz : Nat) (u0 : Nat → Int32) (hf : fX6_set o_values_d x1 x2 x3 = some u0) : MW l yX6_set wsX6_set 0 0 D ca [.ref o, .int x1, .int x2, .int x3] sz [(o, .inr (5, [.int o_now, .int o_size, .ref o_values])), (o_values, .inl (ca 0, 240, .inl o_values_d))] none [(o, .inr (5, [.int o_now, .int o_size, .ref o_values])), (o_values, .inl (ca 0, 240, .inl u0))] := by
  refine hdWv (by decide +kernel) rfl (Nat.le_of_ble_eq_true rfl) rfl ?_
  intro p e s m args below meth c A Q hx hb hml hown hts hP hD hK hA hS hret ls hl
  have hown : s.vm.findClass RX6 = some m.cls := hown
  have hl : lv_has ls 5 [(0, .ref o), (1, .int x1), (2, .int x2), (3, .int x3)] := hl
  have h := hf
  unfold fX6_set at h
  clear hf
  refine lv_iload_n hx hb dX6_set_0 rfl (lv_at hl 1 rfl) ?_
  refine lv_bipush (v := (6 : Int32)) hx hb dX6_set_1 (by decide) ?_
  refine lv_imul hx hb dX6_set_3 ?_
  refine lv_iload_n hx hb dX6_set_4 rfl (lv_at hl 2 rfl) ?_
  refine lv_iadd hx hb dX6_set_5 ?_
  obtain ⟨y1, e_y1, h⟩ := nm_s h
  refine top_i e_y1 ?_
  refine lv_istore (lv' := [(4, .int y1), (0, .ref o), (1, .int x1), (2, .int x2), (3, .int x3)]) hx hb dX6_set_6 hl (by decide) rfl (fun ls hl => ?_)
  refine lv_iload hx hb dX6_set_8 (lv_at hl 0 rfl) ?_
  refine lv_if_lt (tgt := 31) hx hb dX6_set_10 (by decide) (fun c2 => ?_) (fun c2 => ?_)
  · have h := ip_s h c2
    cases h
    exact hret 31 ls _ _ hP hD hS rfl dX6_set_31
  · have h := in_s h c2
    refine lv_iload hx hb dX6_set_13 (lv_at hl 0 rfl) ?_
    refine lv_aload_n hx hb dX6_set_15 rfl (lv_at hl 1 rfl) ?_
    refine gtF (ci := 5) (v := .ref o_values) (C := RX6) (T := TX6) (N := 3) hx hb hts inX6_set_X6 hown hK hP 0 rfl rfl 2 (by decide) mwX6_set_0 rfl rfl dX6_set_16 ?_
    refine alI (v := (240 : Int32)) hx hb hK hP 1 0 rfl rfl rfl dX6_set_19 ?_
    refine lv_icmp_ge (tgt := 31) hx hb dX6_set_20 (by decide) (fun c3 => ?_) (fun c3 => ?_)
    · have h := ip_s h c3
      cases h
      exact hret 31 ls _ _ hP hD hS rfl dX6_set_31
    · have h := in_s h c3
      refine lv_aload_n hx hb dX6_set_23 rfl (lv_at hl 1 rfl) ?_
      refine gtF (ci := 5) (v := .ref o_values) (C := RX6) (T := TX6) (N := 3) hx hb hts inX6_set_X6 hown hK hP 0 rfl rfl 2 (by decide) mwX6_set_0 rfl rfl dX6_set_24 ?_
      refine lv_iload hx hb dX6_set_27 (lv_at hl 0 rfl) ?_
      refine lv_iload_n hx hb dX6_set_29 rfl (lv_at hl 4 rfl) ?_
      obtain ⟨hin, g4, e_g4, h⟩ := wr_s h
      refine stI (wn := [(o, .inr (5, [.int o_now, .int o_size, .ref o_values])), (o_values, .inl (ca 0, 240, .inl g4))]) hx hb hK hP hD hS 1 rfl hin e_g4 rfl dX6_set_30 (fun H locs hP hD hS => ?_)
      cases h
      exact hret 31 ls _ _ hP hD hS rfl dX6_set_31
theorem mwX6_insert_0 : Cond.fieldLink RX6 19 "SegmentTimes$Store" "size" "I" ∈ wsX6_insert := List.mem_of_getElem? (i := 1) rfl
theorem inX6_insert_X6 : ∀ w ∈ u_ws RX6 TX6 3, w ∈ wsX6_insert := fun w h => List.mem_cons_of_mem _ (List.mem_append_right _ (h))
theorem kX6_insert : yX6_insert.cls = RX6 ∧ yX6_insert.cls ≠ "java/lang/invoke/MethodHandle" ∧ yX6_insert.cls ≠ "java/lang/invoke/VarHandle" ∧ (parseMethodDescriptor yX6_insert.desc).map (fun d => d.parameters.length) = some 6 := by decide +kernel
set_option maxHeartbeats 4000000 in
set_option maxRecDepth 100000 in
theorem ctX6_insert (l : Launch) (D : va_G) (ca : Nat → ClassId) (o : Nat) (o_values : Nat) (o_now : Int32) (o_size : Int32) (o_values_d : Nat → Int32) (x1 : Int32) (x2 : Int32) (x3 : Int32) (x4 : Int32) (x5 : Int32) (x6 : Int32) (sz : Nat) (u0 : Int32) (u1 : Int32) (u2 : Nat → Int32) (hf : fX6_insert o_size o_values_d x1 x2 x3 x4 x5 x6 = some (u0, u1, u2)) : MW l yX6_insert wsX6_insert 1 24 D ca [.ref o, .int x1, .int x2, .int x3, .int x4, .int x5, .int x6] sz [(o, .inr (5, [.int o_now, .int o_size, .ref o_values])), (o_values, .inl (ca 0, 240, .inl o_values_d))] (some (.int u0)) [(o, .inr (5, [.int o_now, .int u1, .ref o_values])), (o_values, .inl (ca 0, 240, .inl u2))] := by
  refine hdWi (by decide +kernel) rfl (Nat.le_of_ble_eq_true rfl) ?_
  intro p e s m args below meth c A Q hx hb hml hown hts hP hD hK hA hS hret ls hl
  have hown : s.vm.findClass RX6 = some m.cls := hown
  have hl : lv_has ls 8 [(0, .ref o), (1, .int x1), (2, .int x2), (3, .int x3), (4, .int x4), (5, .int x5), (6, .int x6)] := hl
  have h := hf
  unfold fX6_insert at h
  clear hf
  refine lv_aload_n hx hb dX6_insert_0 rfl (lv_at hl 0 rfl) ?_
  refine gtF (ci := 5) (v := .int o_size) (C := RX6) (T := TX6) (N := 3) hx hb hts inX6_insert_X6 hown hK hP 0 rfl rfl 1 (by decide) mwX6_insert_0 rfl rfl dX6_insert_1 ?_
  refine lv_istore (lv' := [(7, .int o_size), (0, .ref o), (1, .int x1), (2, .int x2), (3, .int x3), (4, .int x4), (5, .int x5), (6, .int x6)]) hx hb dX6_insert_4 hl (by decide) rfl (fun ls hl => ?_)
  refine lv_aload_n hx hb dX6_insert_6 rfl (lv_at hl 1 rfl) ?_
  refine lv_iload hx hb dX6_insert_7 (lv_at hl 0 rfl) ?_
  refine lv_iconst (v := (0 : Int32)) hx hb dX6_insert_9 (by decide) ?_
  refine lv_iload_n hx hb dX6_insert_10 rfl (lv_at hl 2 rfl) ?_
  obtain ⟨r1, h_r1, h⟩ := bd_s h
  refine clVW (As := [.int o_size, .int (0 : Int32), .int x1]) (rest := []) (wr := []) (wn := [(o, .inr (5, [.int o_now, .int o_size, .ref o_values])), (o_values, .inl (ca 0, 240, .inl r1))]) hx hb hml hown hts gX6_insert_X6_set rfl 3 kX6_set ⟨Nat.le_of_ble_eq_true rfl, Nat.le_of_ble_eq_true rfl⟩ (ctX6_set l D ca o o_values o_now o_size o_values_d o_size (0 : Int32) x1 _ r1 h_r1) hP hD hS hA hK [0, 1] [] rfl (by decide) rfl (by decide) (by decide) 0 5 rfl rfl rfl rfl hl.1 rfl (Nat.le_of_ble_eq_true rfl) ⟨Nat.le_of_ble_eq_true rfl, Nat.le_of_ble_eq_true rfl⟩ dX6_insert_11 rfl rfl (fun H locs hP hD hS => ?_)
  refine lv_aload_n hx hb dX6_insert_14 rfl (lv_at hl 1 rfl) ?_
  refine lv_iload hx hb dX6_insert_15 (lv_at hl 0 rfl) ?_
  refine lv_iconst (v := (1 : Int32)) hx hb dX6_insert_17 (by decide) ?_
  refine lv_iload_n hx hb dX6_insert_18 rfl (lv_at hl 3 rfl) ?_
  obtain ⟨r2, h_r2, h⟩ := bd_s h
  refine clVW (As := [.int o_size, .int (1 : Int32), .int x2]) (rest := []) (wr := []) (wn := [(o, .inr (5, [.int o_now, .int o_size, .ref o_values])), (o_values, .inl (ca 0, 240, .inl r2))]) hx hb hml hown hts gX6_insert_X6_set rfl 3 kX6_set ⟨Nat.le_of_ble_eq_true rfl, Nat.le_of_ble_eq_true rfl⟩ (ctX6_set l D ca o o_values o_now o_size r1 o_size (1 : Int32) x2 _ r2 h_r2) hP hD hS hA hK [0, 1] [] rfl (by decide) rfl (by decide) (by decide) 0 5 rfl rfl rfl rfl hl.1 rfl (Nat.le_of_ble_eq_true rfl) ⟨Nat.le_of_ble_eq_true rfl, Nat.le_of_ble_eq_true rfl⟩ dX6_insert_19 rfl rfl (fun H locs hP hD hS => ?_)
  refine lv_aload_n hx hb dX6_insert_22 rfl (lv_at hl 1 rfl) ?_
  refine lv_iload hx hb dX6_insert_23 (lv_at hl 0 rfl) ?_
  refine lv_iconst (v := (2 : Int32)) hx hb dX6_insert_25 (by decide) ?_
  refine lv_iload_n hx hb dX6_insert_26 rfl (lv_at hl 4 rfl) ?_
  obtain ⟨r3, h_r3, h⟩ := bd_s h
  refine clVW (As := [.int o_size, .int (2 : Int32), .int x3]) (rest := []) (wr := []) (wn := [(o, .inr (5, [.int o_now, .int o_size, .ref o_values])), (o_values, .inl (ca 0, 240, .inl r3))]) hx hb hml hown hts gX6_insert_X6_set rfl 3 kX6_set ⟨Nat.le_of_ble_eq_true rfl, Nat.le_of_ble_eq_true rfl⟩ (ctX6_set l D ca o o_values o_now o_size r2 o_size (2 : Int32) x3 _ r3 h_r3) hP hD hS hA hK [0, 1] [] rfl (by decide) rfl (by decide) (by decide) 0 5 rfl rfl rfl rfl hl.1 rfl (Nat.le_of_ble_eq_true rfl) ⟨Nat.le_of_ble_eq_true rfl, Nat.le_of_ble_eq_true rfl⟩ dX6_insert_27 rfl rfl (fun H locs hP hD hS => ?_)
  refine lv_aload_n hx hb dX6_insert_30 rfl (lv_at hl 1 rfl) ?_
  refine lv_iload hx hb dX6_insert_31 (lv_at hl 0 rfl) ?_
  refine lv_iconst (v := (3 : Int32)) hx hb dX6_insert_33 (by decide) ?_
  refine lv_iload hx hb dX6_insert_34 (lv_at hl 5 rfl) ?_
  obtain ⟨r4, h_r4, h⟩ := bd_s h
  refine clVW (As := [.int o_size, .int (3 : Int32), .int x4]) (rest := []) (wr := []) (wn := [(o, .inr (5, [.int o_now, .int o_size, .ref o_values])), (o_values, .inl (ca 0, 240, .inl r4))]) hx hb hml hown hts gX6_insert_X6_set rfl 3 kX6_set ⟨Nat.le_of_ble_eq_true rfl, Nat.le_of_ble_eq_true rfl⟩ (ctX6_set l D ca o o_values o_now o_size r3 o_size (3 : Int32) x4 _ r4 h_r4) hP hD hS hA hK [0, 1] [] rfl (by decide) rfl (by decide) (by decide) 0 5 rfl rfl rfl rfl hl.1 rfl (Nat.le_of_ble_eq_true rfl) ⟨Nat.le_of_ble_eq_true rfl, Nat.le_of_ble_eq_true rfl⟩ dX6_insert_36 rfl rfl (fun H locs hP hD hS => ?_)
  refine lv_aload_n hx hb dX6_insert_39 rfl (lv_at hl 1 rfl) ?_
  refine lv_iload hx hb dX6_insert_40 (lv_at hl 0 rfl) ?_
  refine lv_iconst (v := (4 : Int32)) hx hb dX6_insert_42 (by decide) ?_
  refine lv_iload hx hb dX6_insert_43 (lv_at hl 6 rfl) ?_
  obtain ⟨r5, h_r5, h⟩ := bd_s h
  refine clVW (As := [.int o_size, .int (4 : Int32), .int x5]) (rest := []) (wr := []) (wn := [(o, .inr (5, [.int o_now, .int o_size, .ref o_values])), (o_values, .inl (ca 0, 240, .inl r5))]) hx hb hml hown hts gX6_insert_X6_set rfl 3 kX6_set ⟨Nat.le_of_ble_eq_true rfl, Nat.le_of_ble_eq_true rfl⟩ (ctX6_set l D ca o o_values o_now o_size r4 o_size (4 : Int32) x5 _ r5 h_r5) hP hD hS hA hK [0, 1] [] rfl (by decide) rfl (by decide) (by decide) 0 5 rfl rfl rfl rfl hl.1 rfl (Nat.le_of_ble_eq_true rfl) ⟨Nat.le_of_ble_eq_true rfl, Nat.le_of_ble_eq_true rfl⟩ dX6_insert_45 rfl rfl (fun H locs hP hD hS => ?_)
  refine lv_aload_n hx hb dX6_insert_48 rfl (lv_at hl 1 rfl) ?_
  refine lv_iload hx hb dX6_insert_49 (lv_at hl 0 rfl) ?_
  refine lv_iconst (v := (5 : Int32)) hx hb dX6_insert_51 (by decide) ?_
  refine lv_iload hx hb dX6_insert_52 (lv_at hl 7 rfl) ?_
  obtain ⟨r6, h_r6, h⟩ := bd_s h
  refine clVW (As := [.int o_size, .int (5 : Int32), .int x6]) (rest := []) (wr := []) (wn := [(o, .inr (5, [.int o_now, .int o_size, .ref o_values])), (o_values, .inl (ca 0, 240, .inl r6))]) hx hb hml hown hts gX6_insert_X6_set rfl 3 kX6_set ⟨Nat.le_of_ble_eq_true rfl, Nat.le_of_ble_eq_true rfl⟩ (ctX6_set l D ca o o_values o_now o_size r5 o_size (5 : Int32) x6 _ r6 h_r6) hP hD hS hA hK [0, 1] [] rfl (by decide) rfl (by decide) (by decide) 0 5 rfl rfl rfl rfl hl.1 rfl (Nat.le_of_ble_eq_true rfl) ⟨Nat.le_of_ble_eq_true rfl, Nat.le_of_ble_eq_true rfl⟩ dX6_insert_54 rfl rfl (fun H locs hP hD hS => ?_)
  refine lv_aload_n hx hb dX6_insert_57 rfl (lv_at hl 1 rfl) ?_
  refine lv_dup hx hb dX6_insert_58 rfl ?_
  refine gtF (ci := 5) (v := .int o_size) (C := RX6) (T := TX6) (N := 3) hx hb hts inX6_insert_X6 hown hK hP 0 rfl rfl 1 (by decide) mwX6_insert_0 rfl rfl dX6_insert_59 ?_
  refine lv_iconst (v := (1 : Int32)) hx hb dX6_insert_62 (by decide) ?_
  refine lv_iadd hx hb dX6_insert_63 ?_
  obtain ⟨y7, e_y7, h⟩ := nm_s h
  refine top_i e_y7 ?_
  refine ptI (ci := 5) (v := .int y7) (ty := .int) (C := RX6) (T := TX6) (N := 3) (wn := [(o, .inr (5, [.int o_now, .int y7, .ref o_values])), (o_values, .inl (ca 0, 240, .inl r6))]) hx hb hts inX6_insert_X6 tyX6 tyX6_ok nmX6 hown hK hP hD hS 0 rfl rfl 1 (by decide) mwX6_insert_0 rfl rfl (by decide +kernel) rfl rfl (Nat.le_of_ble_eq_true rfl) rfl dX6_insert_64 (fun H locs hP hD hS => ?_)
  refine lv_iload hx hb dX6_insert_67 (lv_at hl 0 rfl) ?_
  cases h
  exact hret 69 ls _ _ _ hP hD hS rfl dX6_insert_69
theorem kX6_isLive : yX6_isLive.cls = RX6 ∧ yX6_isLive.cls ≠ "java/lang/invoke/MethodHandle" ∧ yX6_isLive.cls ≠ "java/lang/invoke/VarHandle" ∧ (parseMethodDescriptor yX6_isLive.desc).map (fun d => d.parameters.length) = some 2 := by decide +kernel
set_option maxHeartbeats 4000000 in
set_option maxRecDepth 100000 in
theorem ctX6_isLive (l : Launch) (D : va_G) (ca : Nat → ClassId) (o : Nat) (o_values : Nat) (o_now : Int32) (o_size : Int32) (o_values_d : Nat → Int32) (x1 : Int32) (x2 : Int32) (u0 : Int32) (hf : fX6_isLive o_values_d x1 x2 = some u0) : MR l yX6_isLive wsX6_isLive 1 23 D ca [.ref o, .int x1, .int x2] [(o, .inr (5, [.int o_now, .int o_size, .ref o_values])), (o_values, .inl (ca 0, 240, .inl o_values_d))] (some (.int u0)) := by
  refine hdRz (plainFor_of_name (by decide +kernel)) rfl (Nat.le_of_ble_eq_true rfl) ?_
  intro p e s m args below meth c Q hx hb hml hown hts hP hK hret ls hl
  have hown : s.vm.findClass RX6 = some m.cls := hown
  have hl : lv_has ls 3 [(0, .ref o), (1, .int x1), (2, .int x2)] := hl
  have h := hf
  unfold fX6_isLive at h
  clear hf
  refine lv_aload_n hx hb dX6_isLive_0 rfl (lv_at hl 0 rfl) ?_
  refine lv_iload_n hx hb dX6_isLive_1 rfl (lv_at hl 1 rfl) ?_
  refine lv_iconst (v := (4 : Int32)) hx hb dX6_isLive_2 (by decide) ?_
  obtain ⟨r1, h_r1, h⟩ := bd_s h
  refine clVR (As := [.int x1, .int (4 : Int32)]) (rest := []) hx hb hml hown hts gX6_isLive_X6_value rfl 2 kX6_value ⟨Nat.le_of_ble_eq_true rfl, Nat.le_of_ble_eq_true rfl⟩ (ctX6_value l D ca o o_values o_now o_size o_values_d x1 (4 : Int32) r1 h_r1) hP hK [0, 1] rfl 0 5 rfl rfl rfl rfl hl.1 rfl (Nat.le_of_ble_eq_true rfl) ⟨Nat.le_of_ble_eq_true rfl, Nat.le_of_ble_eq_true rfl⟩ dX6_isLive_3 rfl ?_
  refine lv_iload_n hx hb dX6_isLive_6 rfl (lv_at hl 2 rfl) ?_
  refine lv_icmp_gt (tgt := 24) hx hb dX6_isLive_7 (by decide) (fun c2 => ?_) (fun c2 => ?_)
  · have h := ip_s h c2
    refine lv_iconst (v := (0 : Int32)) hx hb dX6_isLive_24 (by decide) ?_
    obtain ⟨hz, h⟩ := zr_s h
    cases h
    exact hret 25 ls _ hz rfl dX6_isLive_25
  · have h := in_s h c2
    refine lv_iload_n hx hb dX6_isLive_10 rfl (lv_at hl 2 rfl) ?_
    refine lv_aload_n hx hb dX6_isLive_11 rfl (lv_at hl 0 rfl) ?_
    refine lv_iload_n hx hb dX6_isLive_12 rfl (lv_at hl 1 rfl) ?_
    refine lv_iconst (v := (5 : Int32)) hx hb dX6_isLive_13 (by decide) ?_
    obtain ⟨r3, h_r3, h⟩ := bd_s h
    refine clVR (As := [.int x1, .int (5 : Int32)]) (rest := [.int x2]) hx hb hml hown hts gX6_isLive_X6_value rfl 2 kX6_value ⟨Nat.le_of_ble_eq_true rfl, Nat.le_of_ble_eq_true rfl⟩ (ctX6_value l D ca o o_values o_now o_size o_values_d x1 (5 : Int32) r3 h_r3) hP hK [0, 1] rfl 0 5 rfl rfl rfl rfl hl.1 rfl (Nat.le_of_ble_eq_true rfl) ⟨Nat.le_of_ble_eq_true rfl, Nat.le_of_ble_eq_true rfl⟩ dX6_isLive_14 rfl ?_
    refine lv_icmp_ge (tgt := 24) hx hb dX6_isLive_17 (by decide) (fun c4 => ?_) (fun c4 => ?_)
    · have h := ip_s h c4
      refine lv_iconst (v := (0 : Int32)) hx hb dX6_isLive_24 (by decide) ?_
      obtain ⟨hz, h⟩ := zr_s h
      cases h
      exact hret 25 ls _ hz rfl dX6_isLive_25
    · have h := in_s h c4
      refine lv_iconst (v := (1 : Int32)) hx hb dX6_isLive_20 (by decide) ?_
      refine lv_goto (tgt := 25) hx hb dX6_isLive_21 (by decide) ?_
      obtain ⟨hz, h⟩ := zr_s h
      cases h
      exact hret 25 ls _ hz rfl dX6_isLive_25
theorem kX6_covers : yX6_covers.cls = RX6 ∧ yX6_covers.cls ≠ "java/lang/invoke/MethodHandle" ∧ yX6_covers.cls ≠ "java/lang/invoke/VarHandle" ∧ (parseMethodDescriptor yX6_covers.desc).map (fun d => d.parameters.length) = some 2 := by decide +kernel
set_option maxHeartbeats 4000000 in
set_option maxRecDepth 100000 in
theorem ctX6_covers (l : Launch) (D : va_G) (ca : Nat → ClassId) (o : Nat) (o_values : Nat) (o_now : Int32) (o_size : Int32) (o_values_d : Nat → Int32) (x1 : Int32) (x2 : Int32) (u0 : Int32) (hf : fX6_covers o_values_d x1 x2 = some u0) : MR l yX6_covers wsX6_covers 1 23 D ca [.ref o, .int x1, .int x2] [(o, .inr (5, [.int o_now, .int o_size, .ref o_values])), (o_values, .inl (ca 0, 240, .inl o_values_d))] (some (.int u0)) := by
  refine hdRz (plainFor_of_name (by decide +kernel)) rfl (Nat.le_of_ble_eq_true rfl) ?_
  intro p e s m args below meth c Q hx hb hml hown hts hP hK hret ls hl
  have hown : s.vm.findClass RX6 = some m.cls := hown
  have hl : lv_has ls 3 [(0, .ref o), (1, .int x1), (2, .int x2)] := hl
  have h := hf
  unfold fX6_covers at h
  clear hf
  refine lv_aload_n hx hb dX6_covers_0 rfl (lv_at hl 0 rfl) ?_
  refine lv_iload_n hx hb dX6_covers_1 rfl (lv_at hl 1 rfl) ?_
  refine lv_iconst (v := (2 : Int32)) hx hb dX6_covers_2 (by decide) ?_
  obtain ⟨r1, h_r1, h⟩ := bd_s h
  refine clVR (As := [.int x1, .int (2 : Int32)]) (rest := []) hx hb hml hown hts gX6_covers_X6_value rfl 2 kX6_value ⟨Nat.le_of_ble_eq_true rfl, Nat.le_of_ble_eq_true rfl⟩ (ctX6_value l D ca o o_values o_now o_size o_values_d x1 (2 : Int32) r1 h_r1) hP hK [0, 1] rfl 0 5 rfl rfl rfl rfl hl.1 rfl (Nat.le_of_ble_eq_true rfl) ⟨Nat.le_of_ble_eq_true rfl, Nat.le_of_ble_eq_true rfl⟩ dX6_covers_3 rfl ?_
  refine lv_iload_n hx hb dX6_covers_6 rfl (lv_at hl 2 rfl) ?_
  refine lv_icmp_gt (tgt := 24) hx hb dX6_covers_7 (by decide) (fun c2 => ?_) (fun c2 => ?_)
  · have h := ip_s h c2
    refine lv_iconst (v := (0 : Int32)) hx hb dX6_covers_24 (by decide) ?_
    obtain ⟨hz, h⟩ := zr_s h
    cases h
    exact hret 25 ls _ hz rfl dX6_covers_25
  · have h := in_s h c2
    refine lv_iload_n hx hb dX6_covers_10 rfl (lv_at hl 2 rfl) ?_
    refine lv_aload_n hx hb dX6_covers_11 rfl (lv_at hl 0 rfl) ?_
    refine lv_iload_n hx hb dX6_covers_12 rfl (lv_at hl 1 rfl) ?_
    refine lv_iconst (v := (3 : Int32)) hx hb dX6_covers_13 (by decide) ?_
    obtain ⟨r3, h_r3, h⟩ := bd_s h
    refine clVR (As := [.int x1, .int (3 : Int32)]) (rest := [.int x2]) hx hb hml hown hts gX6_covers_X6_value rfl 2 kX6_value ⟨Nat.le_of_ble_eq_true rfl, Nat.le_of_ble_eq_true rfl⟩ (ctX6_value l D ca o o_values o_now o_size o_values_d x1 (3 : Int32) r3 h_r3) hP hK [0, 1] rfl 0 5 rfl rfl rfl rfl hl.1 rfl (Nat.le_of_ble_eq_true rfl) ⟨Nat.le_of_ble_eq_true rfl, Nat.le_of_ble_eq_true rfl⟩ dX6_covers_14 rfl ?_
    refine lv_icmp_gt (tgt := 24) hx hb dX6_covers_17 (by decide) (fun c4 => ?_) (fun c4 => ?_)
    · have h := ip_s h c4
      refine lv_iconst (v := (0 : Int32)) hx hb dX6_covers_24 (by decide) ?_
      obtain ⟨hz, h⟩ := zr_s h
      cases h
      exact hret 25 ls _ hz rfl dX6_covers_25
    · have h := in_s h c4
      refine lv_iconst (v := (1 : Int32)) hx hb dX6_covers_20 (by decide) ?_
      refine lv_goto (tgt := 25) hx hb dX6_covers_21 (by decide) ?_
      obtain ⟨hz, h⟩ := zr_s h
      cases h
      exact hret 25 ls _ hz rfl dX6_covers_25
theorem kX6_isThere : yX6_isThere.cls = RX6 ∧ yX6_isThere.cls ≠ "java/lang/invoke/MethodHandle" ∧ yX6_isThere.cls ≠ "java/lang/invoke/VarHandle" ∧ (parseMethodDescriptor yX6_isThere.desc).map (fun d => d.parameters.length) = some 3 := by decide +kernel
set_option maxHeartbeats 4000000 in
set_option maxRecDepth 100000 in
theorem ctX6_isThere (l : Launch) (D : va_G) (ca : Nat → ClassId) (o : Nat) (o_values : Nat) (o_now : Int32) (o_size : Int32) (o_values_d : Nat → Int32) (x1 : Int32) (x2 : Int32) (x3 : Int32) (u0 : Int32) (hf : fX6_isThere o_values_d x1 x2 x3 = some u0) : MR l yX6_isThere wsX6_isThere 2 45 D ca [.ref o, .int x1, .int x2, .int x3] [(o, .inr (5, [.int o_now, .int o_size, .ref o_values])), (o_values, .inl (ca 0, 240, .inl o_values_d))] (some (.int u0)) := by
  refine hdRz (plainFor_of_name (by decide +kernel)) rfl (Nat.le_of_ble_eq_true rfl) ?_
  intro p e s m args below meth c Q hx hb hml hown hts hP hK hret ls hl
  have hown : s.vm.findClass RX6 = some m.cls := hown
  have hl : lv_has ls 4 [(0, .ref o), (1, .int x1), (2, .int x2), (3, .int x3)] := hl
  have h := hf
  unfold fX6_isThere at h
  clear hf
  refine lv_aload_n hx hb dX6_isThere_0 rfl (lv_at hl 0 rfl) ?_
  refine lv_iload_n hx hb dX6_isThere_1 rfl (lv_at hl 1 rfl) ?_
  refine lv_iload_n hx hb dX6_isThere_2 rfl (lv_at hl 2 rfl) ?_
  obtain ⟨r1, h_r1, h⟩ := bd_s h
  refine clVR (As := [.int x1, .int x2]) (rest := []) hx hb hml hown hts gX6_isThere_X6_covers rfl 2 kX6_covers ⟨Nat.le_of_ble_eq_true rfl, Nat.le_of_ble_eq_true rfl⟩ (ctX6_covers l D ca o o_values o_now o_size o_values_d x1 x2 r1 h_r1) hP hK [0, 1] rfl 0 5 rfl rfl rfl rfl hl.1 rfl (Nat.le_of_ble_eq_true rfl) ⟨Nat.le_of_ble_eq_true rfl, Nat.le_of_ble_eq_true rfl⟩ dX6_isThere_3 rfl ?_
  refine lv_if_eq (tgt := 22) hx hb dX6_isThere_6 (by decide) (fun c2 => ?_) (fun c2 => ?_)
  · have h := ip_s h c2
    refine lv_iconst (v := (0 : Int32)) hx hb dX6_isThere_22 (by decide) ?_
    obtain ⟨hz, h⟩ := zr_s h
    cases h
    exact hret 23 ls _ hz rfl dX6_isThere_23
  · have h := in_s h c2
    refine lv_aload_n hx hb dX6_isThere_9 rfl (lv_at hl 0 rfl) ?_
    refine lv_iload_n hx hb dX6_isThere_10 rfl (lv_at hl 1 rfl) ?_
    refine lv_iload_n hx hb dX6_isThere_11 rfl (lv_at hl 3 rfl) ?_
    obtain ⟨r3, h_r3, h⟩ := bd_s h
    refine clVR (As := [.int x1, .int x3]) (rest := []) hx hb hml hown hts gX6_isThere_X6_isLive rfl 2 kX6_isLive ⟨Nat.le_of_ble_eq_true rfl, Nat.le_of_ble_eq_true rfl⟩ (ctX6_isLive l D ca o o_values o_now o_size o_values_d x1 x3 r3 h_r3) hP hK [0, 1] rfl 0 5 rfl rfl rfl rfl hl.1 rfl (Nat.le_of_ble_eq_true rfl) ⟨Nat.le_of_ble_eq_true rfl, Nat.le_of_ble_eq_true rfl⟩ dX6_isThere_12 rfl ?_
    refine lv_if_eq (tgt := 22) hx hb dX6_isThere_15 (by decide) (fun c4 => ?_) (fun c4 => ?_)
    · have h := ip_s h c4
      refine lv_iconst (v := (0 : Int32)) hx hb dX6_isThere_22 (by decide) ?_
      obtain ⟨hz, h⟩ := zr_s h
      cases h
      exact hret 23 ls _ hz rfl dX6_isThere_23
    · have h := in_s h c4
      refine lv_iconst (v := (1 : Int32)) hx hb dX6_isThere_18 (by decide) ?_
      refine lv_goto (tgt := 23) hx hb dX6_isThere_19 (by decide) ?_
      obtain ⟨hz, h⟩ := zr_s h
      cases h
      exact hret 23 ls _ hz rfl dX6_isThere_23
theorem kX6_height : yX6_height.cls = RX6 ∧ yX6_height.cls ≠ "java/lang/invoke/MethodHandle" ∧ yX6_height.cls ≠ "java/lang/invoke/VarHandle" ∧ (parseMethodDescriptor yX6_height.desc).map (fun d => d.parameters.length) = some 2 := by decide +kernel
set_option maxHeartbeats 4000000 in
set_option maxRecDepth 100000 in
theorem ctX6_height (l : Launch) (D : va_G) (ca : Nat → ClassId) (o : Nat) (o_values : Nat) (o_now : Int32) (o_size : Int32) (o_values_d : Nat → Int32) (x1 : Int32) (x2 : Int32) (u0 : Int32) (hf : fX6_height o_values_d x1 x2 = some u0) : MR l yX6_height wsX6_height 1 23 D ca [.ref o, .int x1, .int x2] [(o, .inr (5, [.int o_now, .int o_size, .ref o_values])), (o_values, .inl (ca 0, 240, .inl o_values_d))] (some (.int u0)) := by
  refine hdRi (plainFor_of_name (by decide +kernel)) rfl (Nat.le_of_ble_eq_true rfl) ?_
  intro p e s m args below meth c Q hx hb hml hown hts hP hK hret ls hl
  have hown : s.vm.findClass RX6 = some m.cls := hown
  have hl : lv_has ls 3 [(0, .ref o), (1, .int x1), (2, .int x2)] := hl
  have h := hf
  unfold fX6_height at h
  clear hf
  refine lv_aload_n hx hb dX6_height_0 rfl (lv_at hl 0 rfl) ?_
  refine lv_iload_n hx hb dX6_height_1 rfl (lv_at hl 1 rfl) ?_
  refine lv_iconst (v := (0 : Int32)) hx hb dX6_height_2 (by decide) ?_
  obtain ⟨r1, h_r1, h⟩ := bd_s h
  refine clVR (As := [.int x1, .int (0 : Int32)]) (rest := []) hx hb hml hown hts gX6_height_X6_value rfl 2 kX6_value ⟨Nat.le_of_ble_eq_true rfl, Nat.le_of_ble_eq_true rfl⟩ (ctX6_value l D ca o o_values o_now o_size o_values_d x1 (0 : Int32) r1 h_r1) hP hK [0, 1] rfl 0 5 rfl rfl rfl rfl hl.1 rfl (Nat.le_of_ble_eq_true rfl) ⟨Nat.le_of_ble_eq_true rfl, Nat.le_of_ble_eq_true rfl⟩ dX6_height_3 rfl ?_
  refine lv_iload_n hx hb dX6_height_6 rfl (lv_at hl 2 rfl) ?_
  refine lv_imul hx hb dX6_height_7 ?_
  refine lv_aload_n hx hb dX6_height_8 rfl (lv_at hl 0 rfl) ?_
  refine lv_iload_n hx hb dX6_height_9 rfl (lv_at hl 1 rfl) ?_
  refine lv_iconst (v := (1 : Int32)) hx hb dX6_height_10 (by decide) ?_
  obtain ⟨r2, h_r2, h⟩ := bd_s h
  refine clVR (As := [.int x1, .int (1 : Int32)]) (rest := [.int (r1 * x2)]) hx hb hml hown hts gX6_height_X6_value rfl 2 kX6_value ⟨Nat.le_of_ble_eq_true rfl, Nat.le_of_ble_eq_true rfl⟩ (ctX6_value l D ca o o_values o_now o_size o_values_d x1 (1 : Int32) r2 h_r2) hP hK [0, 1] rfl 0 5 rfl rfl rfl rfl hl.1 rfl (Nat.le_of_ble_eq_true rfl) ⟨Nat.le_of_ble_eq_true rfl, Nat.le_of_ble_eq_true rfl⟩ dX6_height_11 rfl ?_
  refine lv_iadd hx hb dX6_height_14 ?_
  cases h
  exact hret 15 ls _ rfl dX6_height_15
theorem mwX6_firstAt_0 : Cond.fieldLink RX6 19 "SegmentTimes$Store" "size" "I" ∈ wsX6_firstAt := List.mem_of_getElem? (i := 1) rfl
theorem inX6_firstAt_X6 : ∀ w ∈ u_ws RX6 TX6 3, w ∈ wsX6_firstAt := fun w h => List.mem_cons_of_mem _ (List.mem_append_right _ (h))
theorem kX6_firstAt : yX6_firstAt.cls = RX6 ∧ yX6_firstAt.cls ≠ "java/lang/invoke/MethodHandle" ∧ yX6_firstAt.cls ≠ "java/lang/invoke/VarHandle" ∧ (parseMethodDescriptor yX6_firstAt.desc).map (fun d => d.parameters.length) = some 2 := by decide +kernel
set_option maxHeartbeats 4000000 in
set_option maxRecDepth 100000 in
theorem ctX6_firstAt (l : Launch) (D : va_G) (ca : Nat → ClassId) (o : Nat) (o_values : Nat) (o_now : Int32) (o_size : Int32) (o_values_d : Nat → Int32) (x1 : Int32) (x2 : Int32) (u0 : Int32) (hf : fX6_firstAt o_size o_values_d x1 x2 = some u0) : MR l yX6_firstAt wsX6_firstAt 3 68 D ca [.ref o, .int x1, .int x2] [(o, .inr (5, [.int o_now, .int o_size, .ref o_values])), (o_values, .inl (ca 0, 240, .inl o_values_d))] (some (.int u0)) := by
  refine hdRi (plainFor_of_name (by decide +kernel)) rfl (Nat.le_of_ble_eq_true rfl) ?_
  intro p e s m args below meth c Q hx hb hml hown hts hP hK hret ls hl
  have hown : s.vm.findClass RX6 = some m.cls := hown
  have hl : lv_has ls 7 [(0, .ref o), (1, .int x1), (2, .int x2)] := hl
  have h := hf
  unfold fX6_firstAt at h
  clear hf
  have L8 : ∀  (n : Nat) (l3 : Int32) (l4 : Int32) (l5 : Int32), lp (fun q => bX6_firstAt_8 o_size o_values_d x1 x2  q.1 q.2.1 q.2.2) n (l3, l4, l5) = some u0 → ∀ ls, lv_has ls 7 [(0, .ref o), (1, .int x1), (2, .int x2), (3, .int l3), (4, .int l4), (5, .int l5)] → W p l e ({ frames := 3, cells := 0, slots := 0, locals := 68 }) s m args below meth c s.heap [] 0 0 Q (F0 m 8 ls []) := by
    intro  n
    induction n with
    | zero => intro l3 l4 l5 h; exact (lp_0 h).elim
    | succ n ih8 =>
      intro l3 l4 l5 h ls hl
      obtain ⟨q8, h, hq8⟩ := lp_s h
      have h : bX6_firstAt_8 o_size o_values_d x1 x2  l3 l4 l5 = some q8 := h
      unfold bX6_firstAt_8 at h
      have J49 : ∀ (l5 : Int32) (l6 : Int32), jX6_firstAt_49  l5 l6 = some q8 → ∀ ls, lv_has ls 7 [(0, .ref o), (1, .int x1), (2, .int x2), (5, .int l5), (6, .int l6)] → W p l e ({ frames := 3, cells := 0, slots := 0, locals := 68 }) s m args below meth c s.heap [] 0 0 Q (F0 m 49 ls []) := by
        intro l5 l6 h ls hl
        unfold jX6_firstAt_49 at h
        refine lv_iload hx hb dX6_firstAt_49 (lv_at hl 3 rfl) ?_
        refine lv_istore_n (lv' := [(3, .int l5), (0, .ref o), (1, .int x1), (2, .int x2), (5, .int l5), (6, .int l6)]) hx hb dX6_firstAt_51 rfl hl (by decide) rfl (fun ls hl => ?_)
        refine lv_iload hx hb dX6_firstAt_52 (lv_at hl 5 rfl) ?_
        refine lv_istore (lv' := [(4, .int l6), (3, .int l5), (0, .ref o), (1, .int x1), (2, .int x2), (5, .int l5), (6, .int l6)]) hx hb dX6_firstAt_54 hl (by decide) rfl (fun ls hl => ?_)
        obtain ⟨y1, e_y1, h⟩ := nm_s h
        refine lv_iinc (v := y1) (lv' := [(5, .int y1), (4, .int l6), (3, .int l5), (0, .ref o), (1, .int x1), (2, .int x2), (6, .int l6)]) hx hb dX6_firstAt_56 hl (k := 5) rfl (by rw [e_y1]; rfl) (by decide) rfl (fun ls hl => ?_)
        refine lv_goto (tgt := 8) hx hb dX6_firstAt_59 (by decide) ?_
        exact ih8 l5 l6 y1 (lp_l hq8 h) ls (lv_sub hl [3, 4, 5, 2, 1, 0] rfl)
      refine lv_iload hx hb dX6_firstAt_8 (lv_at hl 5 rfl) ?_
      refine lv_aload_n hx hb dX6_firstAt_10 rfl (lv_at hl 0 rfl) ?_
      refine gtF (ci := 5) (v := .int o_size) (C := RX6) (T := TX6) (N := 3) hx hb hts inX6_firstAt_X6 hown hK hP 0 rfl rfl 1 (by decide) mwX6_firstAt_0 rfl rfl dX6_firstAt_11 ?_
      refine lv_icmp_ge (tgt := 62) hx hb dX6_firstAt_14 (by decide) (fun c1 => ?_) (fun c1 => ?_)
      · have h := ip_s h c1
        have h := xt_s hq8 h
        refine lv_iload_n hx hb dX6_firstAt_62 rfl (lv_at hl 3 rfl) ?_
        cases h
        exact hret 63 ls _ rfl dX6_firstAt_63
      · have h := in_s h c1
        refine lv_aload_n hx hb dX6_firstAt_17 rfl (lv_at hl 0 rfl) ?_
        refine lv_iload hx hb dX6_firstAt_18 (lv_at hl 5 rfl) ?_
        refine lv_iload_n hx hb dX6_firstAt_20 rfl (lv_at hl 1 rfl) ?_
        refine lv_iload_n hx hb dX6_firstAt_21 rfl (lv_at hl 2 rfl) ?_
        obtain ⟨r2, h_r2, h⟩ := bd_s h
        refine clVR (As := [.int l5, .int x1, .int x2]) (rest := []) hx hb hml hown hts gX6_firstAt_X6_isThere rfl 3 kX6_isThere ⟨Nat.le_of_ble_eq_true rfl, Nat.le_of_ble_eq_true rfl⟩ (ctX6_isThere l D ca o o_values o_now o_size o_values_d l5 x1 x2 r2 h_r2) hP hK [0, 1] rfl 0 5 rfl rfl rfl rfl hl.1 rfl (Nat.le_of_ble_eq_true rfl) ⟨Nat.le_of_ble_eq_true rfl, Nat.le_of_ble_eq_true rfl⟩ dX6_firstAt_22 rfl ?_
        refine lv_if_eq (tgt := 56) hx hb dX6_firstAt_25 (by decide) (fun c3 => ?_) (fun c3 => ?_)
        · have h := ip_s h c3
          obtain ⟨y4, e_y4, h⟩ := nm_s h
          refine lv_iinc (v := y4) (lv' := [(5, .int y4), (0, .ref o), (1, .int x1), (2, .int x2), (3, .int l3), (4, .int l4)]) hx hb dX6_firstAt_56 hl (k := 5) rfl (by rw [e_y4]; rfl) (by decide) rfl (fun ls hl => ?_)
          refine lv_goto (tgt := 8) hx hb dX6_firstAt_59 (by decide) ?_
          exact ih8 l3 l4 y4 (lp_l hq8 h) ls (lv_sub hl [1, 2, 3, 4, 5, 0] rfl)
        · have h := in_s h c3
          refine lv_aload_n hx hb dX6_firstAt_28 rfl (lv_at hl 0 rfl) ?_
          refine lv_iload hx hb dX6_firstAt_29 (lv_at hl 5 rfl) ?_
          refine lv_iload_n hx hb dX6_firstAt_31 rfl (lv_at hl 1 rfl) ?_
          obtain ⟨r5, h_r5, h⟩ := bd_s h
          refine clVR (As := [.int l5, .int x1]) (rest := []) hx hb hml hown hts gX6_firstAt_X6_height rfl 2 kX6_height ⟨Nat.le_of_ble_eq_true rfl, Nat.le_of_ble_eq_true rfl⟩ (ctX6_height l D ca o o_values o_now o_size o_values_d l5 x1 r5 h_r5) hP hK [0, 1] rfl 0 5 rfl rfl rfl rfl hl.1 rfl (Nat.le_of_ble_eq_true rfl) ⟨Nat.le_of_ble_eq_true rfl, Nat.le_of_ble_eq_true rfl⟩ dX6_firstAt_32 rfl ?_
          refine lv_istore (lv' := [(6, .int r5), (0, .ref o), (1, .int x1), (2, .int x2), (3, .int l3), (4, .int l4), (5, .int l5)]) hx hb dX6_firstAt_35 hl (by decide) rfl (fun ls hl => ?_)
          refine lv_iload_n hx hb dX6_firstAt_37 rfl (lv_at hl 4 rfl) ?_
          refine lv_iconst (v := (-1 : Int32)) hx hb dX6_firstAt_38 (by decide) ?_
          refine lv_icmp_eq (tgt := 49) hx hb dX6_firstAt_39 (by decide) (fun c6 => ?_) (fun c6 => ?_)
          · have h := ip_s h c6
            exact J49 l5 r5 h ls (lv_sub hl [1, 2, 3, 6, 0] rfl)
          · have h := in_s h c6
            refine lv_iload hx hb dX6_firstAt_42 (lv_at hl 0 rfl) ?_
            refine lv_iload hx hb dX6_firstAt_44 (lv_at hl 5 rfl) ?_
            refine lv_icmp_ge (tgt := 56) hx hb dX6_firstAt_46 (by decide) (fun c7 => ?_) (fun c7 => ?_)
            · have h := ip_s h c7
              obtain ⟨y8, e_y8, h⟩ := nm_s h
              refine lv_iinc (v := y8) (lv' := [(5, .int y8), (6, .int r5), (0, .ref o), (1, .int x1), (2, .int x2), (3, .int l3), (4, .int l4)]) hx hb dX6_firstAt_56 hl (k := 6) rfl (by rw [e_y8]; rfl) (by decide) rfl (fun ls hl => ?_)
              refine lv_goto (tgt := 8) hx hb dX6_firstAt_59 (by decide) ?_
              exact ih8 l3 l4 y8 (lp_l hq8 h) ls (lv_sub hl [2, 3, 4, 5, 6, 0] rfl)
            · have h := in_s h c7
              exact J49 l5 r5 h ls (lv_sub hl [1, 2, 3, 6, 0] rfl)
  refine lv_iconst (v := (-1 : Int32)) hx hb dX6_firstAt_0 (by decide) ?_
  refine lv_istore_n (lv' := [(3, .int (-1 : Int32)), (0, .ref o), (1, .int x1), (2, .int x2)]) hx hb dX6_firstAt_1 rfl hl (by decide) rfl (fun ls hl => ?_)
  refine lv_iconst (v := (0 : Int32)) hx hb dX6_firstAt_2 (by decide) ?_
  refine lv_istore (lv' := [(4, .int (0 : Int32)), (3, .int (-1 : Int32)), (0, .ref o), (1, .int x1), (2, .int x2)]) hx hb dX6_firstAt_3 hl (by decide) rfl (fun ls hl => ?_)
  refine lv_iconst (v := (0 : Int32)) hx hb dX6_firstAt_5 (by decide) ?_
  refine lv_istore (lv' := [(5, .int (0 : Int32)), (4, .int (0 : Int32)), (3, .int (-1 : Int32)), (0, .ref o), (1, .int x1), (2, .int x2)]) hx hb dX6_firstAt_6 hl (by decide) rfl (fun ls hl => ?_)
  exact L8  fuel (-1 : Int32) (0 : Int32) (0 : Int32) h ls (lv_sub hl [3, 4, 5, 2, 1, 0] rfl)
theorem mwX6_countAhead_0 : Cond.fieldLink RX6 19 "SegmentTimes$Store" "size" "I" ∈ wsX6_countAhead := List.mem_of_getElem? (i := 1) rfl
theorem inX6_countAhead_X6 : ∀ w ∈ u_ws RX6 TX6 3, w ∈ wsX6_countAhead := fun w h => List.mem_cons_of_mem _ (List.mem_append_right _ (h))
theorem kX6_countAhead : yX6_countAhead.cls = RX6 ∧ yX6_countAhead.cls ≠ "java/lang/invoke/MethodHandle" ∧ yX6_countAhead.cls ≠ "java/lang/invoke/VarHandle" ∧ (parseMethodDescriptor yX6_countAhead.desc).map (fun d => d.parameters.length) = some 3 := by decide +kernel
set_option maxHeartbeats 4000000 in
set_option maxRecDepth 100000 in
theorem ctX6_countAhead (l : Launch) (D : va_G) (ca : Nat → ClassId) (o : Nat) (o_values : Nat) (o_now : Int32) (o_size : Int32) (o_values_d : Nat → Int32) (x1 : Int32) (x2 : Int32) (x3 : Int32) (u0 : Int32) (hf : fX6_countAhead o_size o_values_d x1 x2 x3 = some u0) : MR l yX6_countAhead wsX6_countAhead 3 68 D ca [.ref o, .int x1, .int x2, .int x3] [(o, .inr (5, [.int o_now, .int o_size, .ref o_values])), (o_values, .inl (ca 0, 240, .inl o_values_d))] (some (.int u0)) := by
  refine hdRi (plainFor_of_name (by decide +kernel)) rfl (Nat.le_of_ble_eq_true rfl) ?_
  intro p e s m args below meth c Q hx hb hml hown hts hP hK hret ls hl
  have hown : s.vm.findClass RX6 = some m.cls := hown
  have hl : lv_has ls 8 [(0, .ref o), (1, .int x1), (2, .int x2), (3, .int x3)] := hl
  have h := hf
  unfold fX6_countAhead at h
  clear hf
  have L14 : ∀ (l4 : Int32) (n : Nat) (l5 : Int32) (l6 : Int32), lp (fun q => bX6_countAhead_14 o_size o_values_d x1 x2 x3 l4 q.1 q.2) n (l5, l6) = some u0 → ∀ ls, lv_has ls 8 [(0, .ref o), (1, .int x1), (2, .int x2), (3, .int x3), (4, .int l4), (5, .int l5), (6, .int l6)] → W p l e ({ frames := 3, cells := 0, slots := 0, locals := 68 }) s m args below meth c s.heap [] 0 0 Q (F0 m 14 ls []) := by
    intro l4 n
    induction n with
    | zero => intro l5 l6 h; exact (lp_0 h).elim
    | succ n ih14 =>
      intro l5 l6 h ls hl
      obtain ⟨q14, h, hq14⟩ := lp_s h
      have h : bX6_countAhead_14 o_size o_values_d x1 x2 x3 l4 l5 l6 = some q14 := h
      unfold bX6_countAhead_14 at h
      have J38 : ∀ (l5 : Int32) (l6 : Int32) (s0 : Int32), jX6_countAhead_38 o_values_d x2 x3 l5 l6 s0 = some q14 → ∀ ls, lv_has ls 8 [(0, .ref o), (1, .int x1), (2, .int x2), (3, .int x3), (4, .int l4), (5, .int l5), (6, .int l6)] → W p l e ({ frames := 3, cells := 0, slots := 0, locals := 68 }) s m args below meth c s.heap [] 0 0 Q (F0 m 38 ls [.int s0]) := by
        intro l5 l6 s0 h ls hl
        unfold jX6_countAhead_38 at h
        refine lv_istore (lv' := [(7, .int s0), (0, .ref o), (1, .int x1), (2, .int x2), (3, .int x3), (4, .int l4), (5, .int l5), (6, .int l6)]) hx hb dX6_countAhead_38 hl (by decide) rfl (fun ls hl => ?_)
        refine lv_aload_n hx hb dX6_countAhead_40 rfl (lv_at hl 1 rfl) ?_
        refine lv_iload hx hb dX6_countAhead_41 (lv_at hl 7 rfl) ?_
        refine lv_iload_n hx hb dX6_countAhead_43 rfl (lv_at hl 3 rfl) ?_
        refine lv_iload_n hx hb dX6_countAhead_44 rfl (lv_at hl 4 rfl) ?_
        obtain ⟨r1, h_r1, h⟩ := bd_s h
        refine clVR (As := [.int l6, .int x2, .int x3]) (rest := []) hx hb hml hown hts gX6_countAhead_X6_isThere rfl 3 kX6_isThere ⟨Nat.le_of_ble_eq_true rfl, Nat.le_of_ble_eq_true rfl⟩ (ctX6_isThere l D ca o o_values o_now o_size o_values_d l6 x2 x3 r1 h_r1) hP hK [0, 1] rfl 0 5 rfl rfl rfl rfl hl.1 rfl (Nat.le_of_ble_eq_true rfl) ⟨Nat.le_of_ble_eq_true rfl, Nat.le_of_ble_eq_true rfl⟩ dX6_countAhead_45 rfl ?_
        refine lv_if_eq (tgt := 66) hx hb dX6_countAhead_48 (by decide) (fun c2 => ?_) (fun c2 => ?_)
        · have h := ip_s h c2
          obtain ⟨y3, e_y3, h⟩ := nm_s h
          refine lv_iinc (v := y3) (lv' := [(6, .int y3), (7, .int s0), (0, .ref o), (1, .int x1), (2, .int x2), (3, .int x3), (4, .int l4), (5, .int l5)]) hx hb dX6_countAhead_66 hl (k := 7) rfl (by rw [e_y3]; rfl) (by decide) rfl (fun ls hl => ?_)
          refine lv_goto (tgt := 14) hx hb dX6_countAhead_69 (by decide) ?_
          exact ih14 l5 y3 (lp_l hq14 h) ls (lv_sub hl [2, 3, 4, 5, 6, 7, 0] rfl)
        · have h := in_s h c2
          refine lv_aload_n hx hb dX6_countAhead_51 rfl (lv_at hl 1 rfl) ?_
          refine lv_iload hx hb dX6_countAhead_52 (lv_at hl 7 rfl) ?_
          refine lv_iload_n hx hb dX6_countAhead_54 rfl (lv_at hl 3 rfl) ?_
          obtain ⟨r4, h_r4, h⟩ := bd_s h
          refine clVR (As := [.int l6, .int x2]) (rest := []) hx hb hml hown hts gX6_countAhead_X6_height rfl 2 kX6_height ⟨Nat.le_of_ble_eq_true rfl, Nat.le_of_ble_eq_true rfl⟩ (ctX6_height l D ca o o_values o_now o_size o_values_d l6 x2 r4 h_r4) hP hK [0, 1] rfl 0 5 rfl rfl rfl rfl hl.1 rfl (Nat.le_of_ble_eq_true rfl) ⟨Nat.le_of_ble_eq_true rfl, Nat.le_of_ble_eq_true rfl⟩ dX6_countAhead_55 rfl ?_
          refine lv_iload hx hb dX6_countAhead_58 (lv_at hl 0 rfl) ?_
          refine lv_icmp_ge (tgt := 66) hx hb dX6_countAhead_60 (by decide) (fun c5 => ?_) (fun c5 => ?_)
          · have h := ip_s h c5
            obtain ⟨y6, e_y6, h⟩ := nm_s h
            refine lv_iinc (v := y6) (lv' := [(6, .int y6), (7, .int s0), (0, .ref o), (1, .int x1), (2, .int x2), (3, .int x3), (4, .int l4), (5, .int l5)]) hx hb dX6_countAhead_66 hl (k := 7) rfl (by rw [e_y6]; rfl) (by decide) rfl (fun ls hl => ?_)
            refine lv_goto (tgt := 14) hx hb dX6_countAhead_69 (by decide) ?_
            exact ih14 l5 y6 (lp_l hq14 h) ls (lv_sub hl [2, 3, 4, 5, 6, 7, 0] rfl)
          · have h := in_s h c5
            obtain ⟨y7, e_y7, h⟩ := nm_s h
            refine lv_iinc (v := y7) (lv' := [(5, .int y7), (7, .int s0), (0, .ref o), (1, .int x1), (2, .int x2), (3, .int x3), (4, .int l4), (6, .int l6)]) hx hb dX6_countAhead_63 hl (k := 6) rfl (by rw [e_y7]; rfl) (by decide) rfl (fun ls hl => ?_)
            obtain ⟨y8, e_y8, h⟩ := nm_s h
            refine lv_iinc (v := y8) (lv' := [(6, .int y8), (5, .int y7), (7, .int s0), (0, .ref o), (1, .int x1), (2, .int x2), (3, .int x3), (4, .int l4)]) hx hb dX6_countAhead_66 hl (k := 7) rfl (by rw [e_y8]; rfl) (by decide) rfl (fun ls hl => ?_)
            refine lv_goto (tgt := 14) hx hb dX6_countAhead_69 (by decide) ?_
            exact ih14 y7 y8 (lp_l hq14 h) ls (lv_sub hl [3, 4, 5, 6, 7, 1, 0] rfl)
      refine lv_iload hx hb dX6_countAhead_14 (lv_at hl 6 rfl) ?_
      refine lv_aload_n hx hb dX6_countAhead_16 rfl (lv_at hl 0 rfl) ?_
      refine gtF (ci := 5) (v := .int o_size) (C := RX6) (T := TX6) (N := 3) hx hb hts inX6_countAhead_X6 hown hK hP 0 rfl rfl 1 (by decide) mwX6_countAhead_0 rfl rfl dX6_countAhead_17 ?_
      refine lv_icmp_ge (tgt := 72) hx hb dX6_countAhead_20 (by decide) (fun c1 => ?_) (fun c1 => ?_)
      · have h := ip_s h c1
        have h := xt_s hq14 h
        refine lv_iload hx hb dX6_countAhead_72 (lv_at hl 5 rfl) ?_
        cases h
        exact hret 74 ls _ rfl dX6_countAhead_74
      · have h := in_s h c1
        refine lv_iload hx hb dX6_countAhead_23 (lv_at hl 6 rfl) ?_
        refine lv_iload_n hx hb dX6_countAhead_25 rfl (lv_at hl 1 rfl) ?_
        refine lv_icmp_ge (tgt := 36) hx hb dX6_countAhead_26 (by decide) (fun c2 => ?_) (fun c2 => ?_)
        · have h := ip_s h c2
          refine lv_iload hx hb dX6_countAhead_36 (lv_at hl 4 rfl) ?_
          exact J38 l5 l6 l4 h ls (lv_sub hl [0, 1, 2, 3, 4, 5, 6] rfl)
        · have h := in_s h c2
          refine lv_iload hx hb dX6_countAhead_29 (lv_at hl 4 rfl) ?_
          refine lv_iconst (v := (1 : Int32)) hx hb dX6_countAhead_31 (by decide) ?_
          refine lv_iadd hx hb dX6_countAhead_32 ?_
          refine lv_goto (tgt := 38) hx hb dX6_countAhead_33 (by decide) ?_
          exact J38 l5 l6 (l4 + (1 : Int32)) h ls (lv_sub hl [0, 1, 2, 3, 4, 5, 6] rfl)
  refine lv_aload_n hx hb dX6_countAhead_0 rfl (lv_at hl 0 rfl) ?_
  refine lv_iload_n hx hb dX6_countAhead_1 rfl (lv_at hl 1 rfl) ?_
  refine lv_iload_n hx hb dX6_countAhead_2 rfl (lv_at hl 2 rfl) ?_
  obtain ⟨r1, h_r1, h⟩ := bd_s h
  refine clVR (As := [.int x1, .int x2]) (rest := []) hx hb hml hown hts gX6_countAhead_X6_height rfl 2 kX6_height ⟨Nat.le_of_ble_eq_true rfl, Nat.le_of_ble_eq_true rfl⟩ (ctX6_height l D ca o o_values o_now o_size o_values_d x1 x2 r1 h_r1) hP hK [0, 1] rfl 0 5 rfl rfl rfl rfl hl.1 rfl (Nat.le_of_ble_eq_true rfl) ⟨Nat.le_of_ble_eq_true rfl, Nat.le_of_ble_eq_true rfl⟩ dX6_countAhead_3 rfl ?_
  refine lv_istore (lv' := [(4, .int r1), (0, .ref o), (1, .int x1), (2, .int x2), (3, .int x3)]) hx hb dX6_countAhead_6 hl (by decide) rfl (fun ls hl => ?_)
  refine lv_iconst (v := (0 : Int32)) hx hb dX6_countAhead_8 (by decide) ?_
  refine lv_istore (lv' := [(5, .int (0 : Int32)), (4, .int r1), (0, .ref o), (1, .int x1), (2, .int x2), (3, .int x3)]) hx hb dX6_countAhead_9 hl (by decide) rfl (fun ls hl => ?_)
  refine lv_iconst (v := (0 : Int32)) hx hb dX6_countAhead_11 (by decide) ?_
  refine lv_istore (lv' := [(6, .int (0 : Int32)), (5, .int (0 : Int32)), (4, .int r1), (0, .ref o), (1, .int x1), (2, .int x2), (3, .int x3)]) hx hb dX6_countAhead_12 hl (by decide) rfl (fun ls hl => ?_)
  exact L14 r1 fuel (0 : Int32) (0 : Int32) h ls (lv_sub hl [3, 4, 5, 6, 2, 1, 0] rfl)
theorem mwX6_atPlace_0 : Cond.fieldLink RX6 19 "SegmentTimes$Store" "size" "I" ∈ wsX6_atPlace := List.mem_of_getElem? (i := 1) rfl
theorem inX6_atPlace_X6 : ∀ w ∈ u_ws RX6 TX6 3, w ∈ wsX6_atPlace := fun w h => List.mem_cons_of_mem _ (List.mem_append_right _ (h))
theorem kX6_atPlace : yX6_atPlace.cls = RX6 ∧ yX6_atPlace.cls ≠ "java/lang/invoke/MethodHandle" ∧ yX6_atPlace.cls ≠ "java/lang/invoke/VarHandle" ∧ (parseMethodDescriptor yX6_atPlace.desc).map (fun d => d.parameters.length) = some 3 := by decide +kernel
set_option maxHeartbeats 4000000 in
set_option maxRecDepth 100000 in
theorem ctX6_atPlace (l : Launch) (D : va_G) (ca : Nat → ClassId) (o : Nat) (o_values : Nat) (o_now : Int32) (o_size : Int32) (o_values_d : Nat → Int32) (x1 : Int32) (x2 : Int32) (x3 : Int32) (u0 : Int32) (hf : fX6_atPlace o_size o_values_d x1 x2 x3 = some u0) : MR l yX6_atPlace wsX6_atPlace 4 95 D ca [.ref o, .int x1, .int x2, .int x3] [(o, .inr (5, [.int o_now, .int o_size, .ref o_values])), (o_values, .inl (ca 0, 240, .inl o_values_d))] (some (.int u0)) := by
  refine hdRi (plainFor_of_name (by decide +kernel)) rfl (Nat.le_of_ble_eq_true rfl) ?_
  intro p e s m args below meth c Q hx hb hml hown hts hP hK hret ls hl
  have hown : s.vm.findClass RX6 = some m.cls := hown
  have hl : lv_has ls 5 [(0, .ref o), (1, .int x1), (2, .int x2), (3, .int x3)] := hl
  have h := hf
  unfold fX6_atPlace at h
  clear hf
  have L3 : ∀  (n : Nat) (l4 : Int32), lp (fun q => bX6_atPlace_3 o_size o_values_d x1 x2 x3  q) n l4 = some u0 → ∀ ls, lv_has ls 5 [(0, .ref o), (1, .int x1), (2, .int x2), (3, .int x3), (4, .int l4)] → W p l e ({ frames := 4, cells := 0, slots := 0, locals := 95 }) s m args below meth c s.heap [] 0 0 Q (F0 m 3 ls []) := by
    intro  n
    induction n with
    | zero => intro l4 h; exact (lp_0 h).elim
    | succ n ih3 =>
      intro l4 h ls hl
      obtain ⟨q3, h, hq3⟩ := lp_s h
      have h : bX6_atPlace_3 o_size o_values_d x1 x2 x3  l4 = some q3 := h
      unfold bX6_atPlace_3 at h
      refine lv_iload hx hb dX6_atPlace_3 (lv_at hl 4 rfl) ?_
      refine lv_aload_n hx hb dX6_atPlace_5 rfl (lv_at hl 0 rfl) ?_
      refine gtF (ci := 5) (v := .int o_size) (C := RX6) (T := TX6) (N := 3) hx hb hts inX6_atPlace_X6 hown hK hP 0 rfl rfl 1 (by decide) mwX6_atPlace_0 rfl rfl dX6_atPlace_6 ?_
      refine lv_icmp_ge (tgt := 44) hx hb dX6_atPlace_9 (by decide) (fun c1 => ?_) (fun c1 => ?_)
      · have h := ip_s h c1
        have h := xt_s hq3 h
        refine lv_iconst (v := (-1 : Int32)) hx hb dX6_atPlace_44 (by decide) ?_
        cases h
        exact hret 45 ls _ rfl dX6_atPlace_45
      · have h := in_s h c1
        refine lv_aload_n hx hb dX6_atPlace_12 rfl (lv_at hl 0 rfl) ?_
        refine lv_iload hx hb dX6_atPlace_13 (lv_at hl 4 rfl) ?_
        refine lv_iload_n hx hb dX6_atPlace_15 rfl (lv_at hl 1 rfl) ?_
        refine lv_iload_n hx hb dX6_atPlace_16 rfl (lv_at hl 2 rfl) ?_
        obtain ⟨r2, h_r2, h⟩ := bd_s h
        refine clVR (As := [.int l4, .int x1, .int x2]) (rest := []) hx hb hml hown hts gX6_atPlace_X6_isThere rfl 3 kX6_isThere ⟨Nat.le_of_ble_eq_true rfl, Nat.le_of_ble_eq_true rfl⟩ (ctX6_isThere l D ca o o_values o_now o_size o_values_d l4 x1 x2 r2 h_r2) hP hK [0, 1] rfl 0 5 rfl rfl rfl rfl hl.1 rfl (Nat.le_of_ble_eq_true rfl) ⟨Nat.le_of_ble_eq_true rfl, Nat.le_of_ble_eq_true rfl⟩ dX6_atPlace_17 rfl ?_
        refine lv_if_eq (tgt := 38) hx hb dX6_atPlace_20 (by decide) (fun c3 => ?_) (fun c3 => ?_)
        · have h := ip_s h c3
          obtain ⟨y4, e_y4, h⟩ := nm_s h
          refine lv_iinc (v := y4) (lv' := [(4, .int y4), (0, .ref o), (1, .int x1), (2, .int x2), (3, .int x3)]) hx hb dX6_atPlace_38 hl (k := 4) rfl (by rw [e_y4]; rfl) (by decide) rfl (fun ls hl => ?_)
          refine lv_goto (tgt := 3) hx hb dX6_atPlace_41 (by decide) ?_
          exact ih3 y4 (lp_l hq3 h) ls (lv_sub hl [1, 2, 3, 4, 0] rfl)
        · have h := in_s h c3
          refine lv_aload_n hx hb dX6_atPlace_23 rfl (lv_at hl 0 rfl) ?_
          refine lv_iload hx hb dX6_atPlace_24 (lv_at hl 4 rfl) ?_
          refine lv_iload_n hx hb dX6_atPlace_26 rfl (lv_at hl 1 rfl) ?_
          refine lv_iload_n hx hb dX6_atPlace_27 rfl (lv_at hl 2 rfl) ?_
          obtain ⟨r5, h_r5, h⟩ := bd_s h
          refine clVR (As := [.int l4, .int x1, .int x2]) (rest := []) hx hb hml hown hts gX6_atPlace_X6_countAhead rfl 3 kX6_countAhead ⟨Nat.le_of_ble_eq_true rfl, Nat.le_of_ble_eq_true rfl⟩ (ctX6_countAhead l D ca o o_values o_now o_size o_values_d l4 x1 x2 r5 h_r5) hP hK [0, 1] rfl 0 5 rfl rfl rfl rfl hl.1 rfl (Nat.le_of_ble_eq_true rfl) ⟨Nat.le_of_ble_eq_true rfl, Nat.le_of_ble_eq_true rfl⟩ dX6_atPlace_28 rfl ?_
          refine lv_iload_n hx hb dX6_atPlace_31 rfl (lv_at hl 3 rfl) ?_
          refine lv_icmp_ne (tgt := 38) hx hb dX6_atPlace_32 (by decide) (fun c6 => ?_) (fun c6 => ?_)
          · have h := in_s h c6
            obtain ⟨y7, e_y7, h⟩ := nm_s h
            refine lv_iinc (v := y7) (lv' := [(4, .int y7), (0, .ref o), (1, .int x1), (2, .int x2), (3, .int x3)]) hx hb dX6_atPlace_38 hl (k := 4) rfl (by rw [e_y7]; rfl) (by decide) rfl (fun ls hl => ?_)
            refine lv_goto (tgt := 3) hx hb dX6_atPlace_41 (by decide) ?_
            exact ih3 y7 (lp_l hq3 h) ls (lv_sub hl [1, 2, 3, 4, 0] rfl)
          · have h := ip_s h c6
            have h := xt_s hq3 h
            refine lv_iload hx hb dX6_atPlace_35 (lv_at hl 4 rfl) ?_
            cases h
            exact hret 37 ls _ rfl dX6_atPlace_37
  refine lv_iconst (v := (0 : Int32)) hx hb dX6_atPlace_0 (by decide) ?_
  refine lv_istore (lv' := [(4, .int (0 : Int32)), (0, .ref o), (1, .int x1), (2, .int x2), (3, .int x3)]) hx hb dX6_atPlace_1 hl (by decide) rfl (fun ls hl => ?_)
  exact L3  fuel (0 : Int32) h ls (lv_sub hl [1, 2, 3, 4, 0] rfl)
theorem mwX6_countBelow_0 : Cond.fieldLink RX6 19 "SegmentTimes$Store" "size" "I" ∈ wsX6_countBelow := List.mem_of_getElem? (i := 1) rfl
theorem inX6_countBelow_X6 : ∀ w ∈ u_ws RX6 TX6 3, w ∈ wsX6_countBelow := fun w h => List.mem_cons_of_mem _ (List.mem_append_right _ (h))
theorem kX6_countBelow : yX6_countBelow.cls = RX6 ∧ yX6_countBelow.cls ≠ "java/lang/invoke/MethodHandle" ∧ yX6_countBelow.cls ≠ "java/lang/invoke/VarHandle" ∧ (parseMethodDescriptor yX6_countBelow.desc).map (fun d => d.parameters.length) = some 3 := by decide +kernel
set_option maxHeartbeats 4000000 in
set_option maxRecDepth 100000 in
theorem ctX6_countBelow (l : Launch) (D : va_G) (ca : Nat → ClassId) (o : Nat) (o_values : Nat) (o_now : Int32) (o_size : Int32) (o_values_d : Nat → Int32) (x1 : Int32) (x2 : Int32) (x3 : Int64) (u0 : Int32) (hf : fX6_countBelow o_size o_values_d x1 x2 x3 = some u0) : MR l yX6_countBelow wsX6_countBelow 3 68 D ca [.ref o, .int x1, .int x2, .long x3] [(o, .inr (5, [.int o_now, .int o_size, .ref o_values])), (o_values, .inl (ca 0, 240, .inl o_values_d))] (some (.int u0)) := by
  refine hdRi (plainFor_of_name (by decide +kernel)) rfl (Nat.le_of_ble_eq_true rfl) ?_
  intro p e s m args below meth c Q hx hb hml hown hts hP hK hret ls hl
  have hown : s.vm.findClass RX6 = some m.cls := hown
  have hl : lv_has ls 7 [(0, .ref o), (1, .int x1), (2, .int x2), (3, .long x3)] := hl
  have h := hf
  unfold fX6_countBelow at h
  clear hf
  have L6 : ∀  (n : Nat) (l5 : Int32) (l6 : Int32), lp (fun q => bX6_countBelow_6 o_size o_values_d x1 x2 x3  q.1 q.2) n (l5, l6) = some u0 → ∀ ls, lv_has ls 7 [(0, .ref o), (1, .int x1), (2, .int x2), (3, .long x3), (5, .int l5), (6, .int l6)] → W p l e ({ frames := 3, cells := 0, slots := 0, locals := 68 }) s m args below meth c s.heap [] 0 0 Q (F0 m 6 ls []) := by
    intro  n
    induction n with
    | zero => intro l5 l6 h; exact (lp_0 h).elim
    | succ n ih6 =>
      intro l5 l6 h ls hl
      obtain ⟨q6, h, hq6⟩ := lp_s h
      have h : bX6_countBelow_6 o_size o_values_d x1 x2 x3  l5 l6 = some q6 := h
      unfold bX6_countBelow_6 at h
      refine lv_iload hx hb dX6_countBelow_6 (lv_at hl 5 rfl) ?_
      refine lv_aload_n hx hb dX6_countBelow_8 rfl (lv_at hl 0 rfl) ?_
      refine gtF (ci := 5) (v := .int o_size) (C := RX6) (T := TX6) (N := 3) hx hb hts inX6_countBelow_X6 hown hK hP 0 rfl rfl 1 (by decide) mwX6_countBelow_0 rfl rfl dX6_countBelow_9 ?_
      refine lv_icmp_ge (tgt := 48) hx hb dX6_countBelow_12 (by decide) (fun c1 => ?_) (fun c1 => ?_)
      · have h := ip_s h c1
        have h := xt_s hq6 h
        refine lv_iload hx hb dX6_countBelow_48 (lv_at hl 4 rfl) ?_
        cases h
        exact hret 50 ls _ rfl dX6_countBelow_50
      · have h := in_s h c1
        refine lv_aload_n hx hb dX6_countBelow_15 rfl (lv_at hl 0 rfl) ?_
        refine lv_iload hx hb dX6_countBelow_16 (lv_at hl 5 rfl) ?_
        refine lv_iload_n hx hb dX6_countBelow_18 rfl (lv_at hl 1 rfl) ?_
        refine lv_iload_n hx hb dX6_countBelow_19 rfl (lv_at hl 2 rfl) ?_
        obtain ⟨r2, h_r2, h⟩ := bd_s h
        refine clVR (As := [.int l6, .int x1, .int x2]) (rest := []) hx hb hml hown hts gX6_countBelow_X6_isThere rfl 3 kX6_isThere ⟨Nat.le_of_ble_eq_true rfl, Nat.le_of_ble_eq_true rfl⟩ (ctX6_isThere l D ca o o_values o_now o_size o_values_d l6 x1 x2 r2 h_r2) hP hK [0, 1] rfl 0 5 rfl rfl rfl rfl hl.1 rfl (Nat.le_of_ble_eq_true rfl) ⟨Nat.le_of_ble_eq_true rfl, Nat.le_of_ble_eq_true rfl⟩ dX6_countBelow_20 rfl ?_
        refine lv_if_eq (tgt := 42) hx hb dX6_countBelow_23 (by decide) (fun c3 => ?_) (fun c3 => ?_)
        · have h := ip_s h c3
          obtain ⟨y4, e_y4, h⟩ := nm_s h
          refine lv_iinc (v := y4) (lv' := [(6, .int y4), (0, .ref o), (1, .int x1), (2, .int x2), (3, .long x3), (5, .int l5)]) hx hb dX6_countBelow_42 hl (k := 5) rfl (by rw [e_y4]; rfl) (by decide) rfl (fun ls hl => ?_)
          refine lv_goto (tgt := 6) hx hb dX6_countBelow_45 (by decide) ?_
          exact ih6 l5 y4 (lp_l hq6 h) ls (lv_sub hl [1, 2, 3, 4, 5, 0] rfl)
        · have h := in_s h c3
          refine lv_aload_n hx hb dX6_countBelow_26 rfl (lv_at hl 0 rfl) ?_
          refine lv_iload hx hb dX6_countBelow_27 (lv_at hl 5 rfl) ?_
          refine lv_iload_n hx hb dX6_countBelow_29 rfl (lv_at hl 1 rfl) ?_
          obtain ⟨r5, h_r5, h⟩ := bd_s h
          refine clVR (As := [.int l6, .int x1]) (rest := []) hx hb hml hown hts gX6_countBelow_X6_height rfl 2 kX6_height ⟨Nat.le_of_ble_eq_true rfl, Nat.le_of_ble_eq_true rfl⟩ (ctX6_height l D ca o o_values o_now o_size o_values_d l6 x1 r5 h_r5) hP hK [0, 1] rfl 0 5 rfl rfl rfl rfl hl.1 rfl (Nat.le_of_ble_eq_true rfl) ⟨Nat.le_of_ble_eq_true rfl, Nat.le_of_ble_eq_true rfl⟩ dX6_countBelow_30 rfl ?_
          refine lv_i2l (v := (r5).toInt64) hx hb dX6_countBelow_33 rfl ?_
          refine lv_lload_n hx hb dX6_countBelow_34 rfl (lv_at hl 3 rfl) ?_
          refine W.lcmp hx hb dX6_countBelow_35 ?_
          refine lv_if_ge (tgt := 42) hx hb dX6_countBelow_36 (by decide) (fun c6 => ?_) (fun c6 => ?_)
          · have h := ip_s h c6
            obtain ⟨y7, e_y7, h⟩ := nm_s h
            refine lv_iinc (v := y7) (lv' := [(6, .int y7), (0, .ref o), (1, .int x1), (2, .int x2), (3, .long x3), (5, .int l5)]) hx hb dX6_countBelow_42 hl (k := 5) rfl (by rw [e_y7]; rfl) (by decide) rfl (fun ls hl => ?_)
            refine lv_goto (tgt := 6) hx hb dX6_countBelow_45 (by decide) ?_
            exact ih6 l5 y7 (lp_l hq6 h) ls (lv_sub hl [1, 2, 3, 4, 5, 0] rfl)
          · have h := in_s h c6
            obtain ⟨y8, e_y8, h⟩ := nm_s h
            refine lv_iinc (v := y8) (lv' := [(5, .int y8), (0, .ref o), (1, .int x1), (2, .int x2), (3, .long x3), (6, .int l6)]) hx hb dX6_countBelow_39 hl (k := 4) rfl (by rw [e_y8]; rfl) (by decide) rfl (fun ls hl => ?_)
            obtain ⟨y9, e_y9, h⟩ := nm_s h
            refine lv_iinc (v := y9) (lv' := [(6, .int y9), (5, .int y8), (0, .ref o), (1, .int x1), (2, .int x2), (3, .long x3)]) hx hb dX6_countBelow_42 hl (k := 5) rfl (by rw [e_y9]; rfl) (by decide) rfl (fun ls hl => ?_)
            refine lv_goto (tgt := 6) hx hb dX6_countBelow_45 (by decide) ?_
            exact ih6 y8 y9 (lp_l hq6 h) ls (lv_sub hl [2, 3, 4, 5, 1, 0] rfl)
  refine lv_iconst (v := (0 : Int32)) hx hb dX6_countBelow_0 (by decide) ?_
  refine lv_istore (lv' := [(5, .int (0 : Int32)), (0, .ref o), (1, .int x1), (2, .int x2), (3, .long x3)]) hx hb dX6_countBelow_1 hl (by decide) rfl (fun ls hl => ?_)
  refine lv_iconst (v := (0 : Int32)) hx hb dX6_countBelow_3 (by decide) ?_
  refine lv_istore (lv' := [(6, .int (0 : Int32)), (5, .int (0 : Int32)), (0, .ref o), (1, .int x1), (2, .int x2), (3, .long x3)]) hx hb dX6_countBelow_4 hl (by decide) rfl (fun ls hl => ?_)
  exact L6  fuel (0 : Int32) (0 : Int32) h ls (lv_sub hl [2, 3, 4, 5, 1, 0] rfl)
theorem mwX6_crossing_0 : Cond.methodLink RX6 28 Lib.Math.max.name ∈ wsX6_crossing := List.mem_of_getElem? (i := 1) rfl
theorem mwX6_crossing_1 : Cond.static Lib.Math.max.name ∈ wsX6_crossing := List.mem_of_getElem? (i := 2) rfl
theorem mwX6_crossing_2 : Cond.initialized "java/lang/Math" ∈ wsX6_crossing := List.mem_of_getElem? (i := 3) rfl
theorem mwX6_crossing_3 : Cond.code Lib.Math.max.name Lib.Math.max.code 2 (some .int) ∈ wsX6_crossing := List.mem_of_getElem? (i := 4) rfl
theorem mwX6_crossing_4 : Cond.methodLink RX6 22 Lib.Math.min.name ∈ wsX6_crossing := List.mem_of_getElem? (i := 5) rfl
theorem mwX6_crossing_5 : Cond.static Lib.Math.min.name ∈ wsX6_crossing := List.mem_of_getElem? (i := 6) rfl
theorem mwX6_crossing_6 : Cond.code Lib.Math.min.name Lib.Math.min.code 2 (some .int) ∈ wsX6_crossing := List.mem_of_getElem? (i := 7) rfl
theorem kX6_crossing : yX6_crossing.cls = RX6 ∧ yX6_crossing.cls ≠ "java/lang/invoke/MethodHandle" ∧ yX6_crossing.cls ≠ "java/lang/invoke/VarHandle" ∧ (parseMethodDescriptor yX6_crossing.desc).map (fun d => d.parameters.length) = some 4 := by decide +kernel
set_option maxHeartbeats 4000000 in
set_option maxRecDepth 100000 in
theorem ctX6_crossing (l : Launch) (D : va_G) (ca : Nat → ClassId) (o : Nat) (o_values : Nat) (o_now : Int32) (o_size : Int32) (o_values_d : Nat → Int32) (x1 : Int32) (x2 : Int32) (x3 : Int32) (x4 : Int32) (u0 : Int32) (hf : fX6_crossing o_values_d x1 x2 x3 x4 = some u0) : MR l yX6_crossing wsX6_crossing 1 48 D ca [.ref o, .int x1, .int x2, .int x3, .int x4] [(o, .inr (5, [.int o_now, .int o_size, .ref o_values])), (o_values, .inl (ca 0, 240, .inl o_values_d))] (some (.int u0)) := by
  refine hdRi (plainFor_of_name (by decide +kernel)) rfl (Nat.le_of_ble_eq_true rfl) ?_
  intro p e s m args below meth c Q hx hb hml hown hts hP hK hret ls hl
  have hown : s.vm.findClass RX6 = some m.cls := hown
  have hl : lv_has ls 10 [(0, .ref o), (1, .int x1), (2, .int x2), (3, .int x3), (4, .int x4)] := hl
  have h := hf
  unfold fX6_crossing at h
  clear hf
  refine lv_iload_n hx hb dX6_crossing_0 rfl (lv_at hl 3 rfl) ?_
  refine lv_aload_n hx hb dX6_crossing_1 rfl (lv_at hl 0 rfl) ?_
  refine lv_iload_n hx hb dX6_crossing_2 rfl (lv_at hl 1 rfl) ?_
  refine lv_iconst (v := (2 : Int32)) hx hb dX6_crossing_3 (by decide) ?_
  obtain ⟨r1, h_r1, h⟩ := bd_s h
  refine clVR (As := [.int x1, .int (2 : Int32)]) (rest := [.int x3]) hx hb hml hown hts gX6_crossing_X6_value rfl 2 kX6_value ⟨Nat.le_of_ble_eq_true rfl, Nat.le_of_ble_eq_true rfl⟩ (ctX6_value l D ca o o_values o_now o_size o_values_d x1 (2 : Int32) r1 h_r1) hP hK [0, 1] rfl 0 5 rfl rfl rfl rfl hl.1 rfl (Nat.le_of_ble_eq_true rfl) ⟨Nat.le_of_ble_eq_true rfl, Nat.le_of_ble_eq_true rfl⟩ dX6_crossing_4 rfl ?_
  refine lv_aload_n hx hb dX6_crossing_7 rfl (lv_at hl 0 rfl) ?_
  refine lv_iload_n hx hb dX6_crossing_8 rfl (lv_at hl 2 rfl) ?_
  refine lv_iconst (v := (2 : Int32)) hx hb dX6_crossing_9 (by decide) ?_
  obtain ⟨r2, h_r2, h⟩ := bd_s h
  refine clVR (As := [.int x2, .int (2 : Int32)]) (rest := [.int r1, .int x3]) hx hb hml hown hts gX6_crossing_X6_value rfl 2 kX6_value ⟨Nat.le_of_ble_eq_true rfl, Nat.le_of_ble_eq_true rfl⟩ (ctX6_value l D ca o o_values o_now o_size o_values_d x2 (2 : Int32) r2 h_r2) hP hK [0, 1] rfl 0 5 rfl rfl rfl rfl hl.1 rfl (Nat.le_of_ble_eq_true rfl) ⟨Nat.le_of_ble_eq_true rfl, Nat.le_of_ble_eq_true rfl⟩ dX6_crossing_10 rfl ?_
  refine va_mmax hx hb (by rw [hml]; exact hl.1.symm) hown (hts _ mwX6_crossing_0) (hts _ mwX6_crossing_1) (hts _ mwX6_crossing_2) (hts _ mwX6_crossing_3) (Nat.le_of_ble_eq_true rfl) (Nat.le_of_ble_eq_true rfl) (Nat.le_of_ble_eq_true rfl) (Nat.le_of_ble_eq_true rfl) dX6_crossing_13 ?_
  obtain ⟨y3, e_y3, h⟩ := nm_s h
  refine top_i e_y3 ?_
  refine va_mmax hx hb (by rw [hml]; exact hl.1.symm) hown (hts _ mwX6_crossing_0) (hts _ mwX6_crossing_1) (hts _ mwX6_crossing_2) (hts _ mwX6_crossing_3) (Nat.le_of_ble_eq_true rfl) (Nat.le_of_ble_eq_true rfl) (Nat.le_of_ble_eq_true rfl) (Nat.le_of_ble_eq_true rfl) dX6_crossing_16 ?_
  obtain ⟨y4, e_y4, h⟩ := nm_s h
  refine top_i e_y4 ?_
  refine lv_istore (lv' := [(5, .int y4), (0, .ref o), (1, .int x1), (2, .int x2), (3, .int x3), (4, .int x4)]) hx hb dX6_crossing_19 hl (by decide) rfl (fun ls hl => ?_)
  refine lv_aload_n hx hb dX6_crossing_21 rfl (lv_at hl 1 rfl) ?_
  refine lv_iload_n hx hb dX6_crossing_22 rfl (lv_at hl 2 rfl) ?_
  refine lv_iconst (v := (3 : Int32)) hx hb dX6_crossing_23 (by decide) ?_
  obtain ⟨r5, h_r5, h⟩ := bd_s h
  refine clVR (As := [.int x1, .int (3 : Int32)]) (rest := []) hx hb hml hown hts gX6_crossing_X6_value rfl 2 kX6_value ⟨Nat.le_of_ble_eq_true rfl, Nat.le_of_ble_eq_true rfl⟩ (ctX6_value l D ca o o_values o_now o_size o_values_d x1 (3 : Int32) r5 h_r5) hP hK [0, 1] rfl 0 5 rfl rfl rfl rfl hl.1 rfl (Nat.le_of_ble_eq_true rfl) ⟨Nat.le_of_ble_eq_true rfl, Nat.le_of_ble_eq_true rfl⟩ dX6_crossing_24 rfl ?_
  refine lv_aload_n hx hb dX6_crossing_27 rfl (lv_at hl 1 rfl) ?_
  refine lv_iload_n hx hb dX6_crossing_28 rfl (lv_at hl 3 rfl) ?_
  refine lv_iconst (v := (3 : Int32)) hx hb dX6_crossing_29 (by decide) ?_
  obtain ⟨r6, h_r6, h⟩ := bd_s h
  refine clVR (As := [.int x2, .int (3 : Int32)]) (rest := [.int r5]) hx hb hml hown hts gX6_crossing_X6_value rfl 2 kX6_value ⟨Nat.le_of_ble_eq_true rfl, Nat.le_of_ble_eq_true rfl⟩ (ctX6_value l D ca o o_values o_now o_size o_values_d x2 (3 : Int32) r6 h_r6) hP hK [0, 1] rfl 0 5 rfl rfl rfl rfl hl.1 rfl (Nat.le_of_ble_eq_true rfl) ⟨Nat.le_of_ble_eq_true rfl, Nat.le_of_ble_eq_true rfl⟩ dX6_crossing_30 rfl ?_
  refine va_mmin hx hb (by rw [hml]; exact hl.1.symm) hown (hts _ mwX6_crossing_4) (hts _ mwX6_crossing_5) (hts _ mwX6_crossing_2) (hts _ mwX6_crossing_6) (Nat.le_of_ble_eq_true rfl) (Nat.le_of_ble_eq_true rfl) (Nat.le_of_ble_eq_true rfl) (Nat.le_of_ble_eq_true rfl) dX6_crossing_33 ?_
  obtain ⟨y7, e_y7, h⟩ := nm_s h
  refine top_i e_y7 ?_
  refine lv_istore (lv' := [(6, .int y7), (5, .int y4), (0, .ref o), (1, .int x1), (2, .int x2), (3, .int x3), (4, .int x4)]) hx hb dX6_crossing_36 hl (by decide) rfl (fun ls hl => ?_)
  refine lv_aload_n hx hb dX6_crossing_38 rfl (lv_at hl 2 rfl) ?_
  refine lv_iload_n hx hb dX6_crossing_39 rfl (lv_at hl 4 rfl) ?_
  refine lv_iconst (v := (0 : Int32)) hx hb dX6_crossing_40 (by decide) ?_
  obtain ⟨r8, h_r8, h⟩ := bd_s h
  refine clVR (As := [.int x2, .int (0 : Int32)]) (rest := []) hx hb hml hown hts gX6_crossing_X6_value rfl 2 kX6_value ⟨Nat.le_of_ble_eq_true rfl, Nat.le_of_ble_eq_true rfl⟩ (ctX6_value l D ca o o_values o_now o_size o_values_d x2 (0 : Int32) r8 h_r8) hP hK [0, 1] rfl 0 5 rfl rfl rfl rfl hl.1 rfl (Nat.le_of_ble_eq_true rfl) ⟨Nat.le_of_ble_eq_true rfl, Nat.le_of_ble_eq_true rfl⟩ dX6_crossing_41 rfl ?_
  refine lv_aload_n hx hb dX6_crossing_44 rfl (lv_at hl 2 rfl) ?_
  refine lv_iload_n hx hb dX6_crossing_45 rfl (lv_at hl 3 rfl) ?_
  refine lv_iconst (v := (0 : Int32)) hx hb dX6_crossing_46 (by decide) ?_
  obtain ⟨r9, h_r9, h⟩ := bd_s h
  refine clVR (As := [.int x1, .int (0 : Int32)]) (rest := [.int r8]) hx hb hml hown hts gX6_crossing_X6_value rfl 2 kX6_value ⟨Nat.le_of_ble_eq_true rfl, Nat.le_of_ble_eq_true rfl⟩ (ctX6_value l D ca o o_values o_now o_size o_values_d x1 (0 : Int32) r9 h_r9) hP hK [0, 1] rfl 0 5 rfl rfl rfl rfl hl.1 rfl (Nat.le_of_ble_eq_true rfl) ⟨Nat.le_of_ble_eq_true rfl, Nat.le_of_ble_eq_true rfl⟩ dX6_crossing_47 rfl ?_
  refine lv_isub hx hb dX6_crossing_50 ?_
  obtain ⟨y10, e_y10, h⟩ := nm_s h
  refine top_i e_y10 ?_
  refine lv_istore (lv' := [(7, .int y10), (6, .int y7), (5, .int y4), (0, .ref o), (1, .int x1), (2, .int x2), (3, .int x3), (4, .int x4)]) hx hb dX6_crossing_51 hl (by decide) rfl (fun ls hl => ?_)
  refine lv_aload_n hx hb dX6_crossing_53 rfl (lv_at hl 3 rfl) ?_
  refine lv_iload_n hx hb dX6_crossing_54 rfl (lv_at hl 5 rfl) ?_
  refine lv_iconst (v := (1 : Int32)) hx hb dX6_crossing_55 (by decide) ?_
  obtain ⟨r11, h_r11, h⟩ := bd_s h
  refine clVR (As := [.int x2, .int (1 : Int32)]) (rest := []) hx hb hml hown hts gX6_crossing_X6_value rfl 2 kX6_value ⟨Nat.le_of_ble_eq_true rfl, Nat.le_of_ble_eq_true rfl⟩ (ctX6_value l D ca o o_values o_now o_size o_values_d x2 (1 : Int32) r11 h_r11) hP hK [0, 1] rfl 0 5 rfl rfl rfl rfl hl.1 rfl (Nat.le_of_ble_eq_true rfl) ⟨Nat.le_of_ble_eq_true rfl, Nat.le_of_ble_eq_true rfl⟩ dX6_crossing_56 rfl ?_
  refine lv_aload_n hx hb dX6_crossing_59 rfl (lv_at hl 3 rfl) ?_
  refine lv_iload_n hx hb dX6_crossing_60 rfl (lv_at hl 4 rfl) ?_
  refine lv_iconst (v := (1 : Int32)) hx hb dX6_crossing_61 (by decide) ?_
  obtain ⟨r12, h_r12, h⟩ := bd_s h
  refine clVR (As := [.int x1, .int (1 : Int32)]) (rest := [.int r11]) hx hb hml hown hts gX6_crossing_X6_value rfl 2 kX6_value ⟨Nat.le_of_ble_eq_true rfl, Nat.le_of_ble_eq_true rfl⟩ (ctX6_value l D ca o o_values o_now o_size o_values_d x1 (1 : Int32) r12 h_r12) hP hK [0, 1] rfl 0 5 rfl rfl rfl rfl hl.1 rfl (Nat.le_of_ble_eq_true rfl) ⟨Nat.le_of_ble_eq_true rfl, Nat.le_of_ble_eq_true rfl⟩ dX6_crossing_62 rfl ?_
  refine lv_isub hx hb dX6_crossing_65 ?_
  refine lv_iload hx hb dX6_crossing_66 (lv_at hl 7 rfl) ?_
  refine lv_isub hx hb dX6_crossing_68 ?_
  obtain ⟨y13, e_y13, h⟩ := nm_s h
  refine top_i e_y13 ?_
  refine lv_istore (lv' := [(8, .int y13), (7, .int y10), (6, .int y7), (5, .int y4), (0, .ref o), (1, .int x1), (2, .int x2), (3, .int x3), (4, .int x4)]) hx hb dX6_crossing_69 hl (by decide) rfl (fun ls hl => ?_)
  refine lv_iload hx hb dX6_crossing_71 (lv_at hl 3 rfl) ?_
  refine lv_iload hx hb dX6_crossing_73 (lv_at hl 2 rfl) ?_
  refine lv_icmp_le (tgt := 80) hx hb dX6_crossing_75 (by decide) (fun c14 => ?_) (fun c14 => ?_)
  · have h := ip_s h c14
    refine lv_iload hx hb dX6_crossing_80 (lv_at hl 1 rfl) ?_
    refine lv_iload hx hb dX6_crossing_82 (lv_at hl 3 rfl) ?_
    refine lv_imul hx hb dX6_crossing_84 ?_
    refine lv_iload hx hb dX6_crossing_85 (lv_at hl 0 rfl) ?_
    refine lv_iadd hx hb dX6_crossing_87 ?_
    refine lv_if_ge (tgt := 94) hx hb dX6_crossing_88 (by decide) (fun c15 => ?_) (fun c15 => ?_)
    · have h := ip_s h c15
      refine lv_iload hx hb dX6_crossing_94 (lv_at hl 1 rfl) ?_
      refine lv_if_lt (tgt := 101) hx hb dX6_crossing_96 (by decide) (fun c16 => ?_) (fun c16 => ?_)
      · have h := ip_s h c16
        refine lv_iload hx hb dX6_crossing_101 (lv_at hl 0 rfl) ?_
        refine lv_iload hx hb dX6_crossing_103 (lv_at hl 1 rfl) ?_
        refine lv_ineg hx hb dX6_crossing_105 ?_
        obtain ⟨hne, h⟩ := dv_s h
        refine lv_idiv hx hb dX6_crossing_106 hne ?_
        refine lv_iconst (v := (1 : Int32)) hx hb dX6_crossing_107 (by decide) ?_
        refine lv_iadd hx hb dX6_crossing_108 ?_
        obtain ⟨y17, e_y17, h⟩ := nm_s h
        refine top_i e_y17 ?_
        refine lv_istore (lv' := [(9, .int y17), (8, .int y13), (7, .int y10), (6, .int y7), (5, .int y4), (0, .ref o), (1, .int x1), (2, .int x2), (3, .int x3), (4, .int x4)]) hx hb dX6_crossing_109 hl (by decide) rfl (fun ls hl => ?_)
        refine lv_iload hx hb dX6_crossing_111 (lv_at hl 0 rfl) ?_
        refine lv_iload hx hb dX6_crossing_113 (lv_at hl 3 rfl) ?_
        refine lv_icmp_gt (tgt := 123) hx hb dX6_crossing_115 (by decide) (fun c18 => ?_) (fun c18 => ?_)
        · have h := ip_s h c18
          refine lv_iconst (v := (-1 : Int32)) hx hb dX6_crossing_123 (by decide) ?_
          cases h
          exact hret 124 ls _ rfl dX6_crossing_124
        · have h := in_s h c18
          refine lv_iload hx hb dX6_crossing_118 (lv_at hl 0 rfl) ?_
          refine lv_goto (tgt := 124) hx hb dX6_crossing_120 (by decide) ?_
          cases h
          exact hret 124 ls _ rfl dX6_crossing_124
      · have h := in_s h c16
        refine lv_iconst (v := (-1 : Int32)) hx hb dX6_crossing_99 (by decide) ?_
        cases h
        exact hret 100 ls _ rfl dX6_crossing_100
    · have h := in_s h c15
      refine lv_iload hx hb dX6_crossing_91 (lv_at hl 3 rfl) ?_
      cases h
      exact hret 93 ls _ rfl dX6_crossing_93
  · have h := in_s h c14
    refine lv_iconst (v := (-1 : Int32)) hx hb dX6_crossing_78 (by decide) ?_
    cases h
    exact hret 79 ls _ rfl dX6_crossing_79
theorem mwX6_lastLed_0 : Cond.fieldLink RX6 19 "SegmentTimes$Store" "size" "I" ∈ wsX6_lastLed := List.mem_of_getElem? (i := 1) rfl
theorem inX6_lastLed_X6 : ∀ w ∈ u_ws RX6 TX6 3, w ∈ wsX6_lastLed := fun w h => List.mem_cons_of_mem _ (List.mem_append_right _ (h))
theorem kX6_lastLed : yX6_lastLed.cls = RX6 ∧ yX6_lastLed.cls ≠ "java/lang/invoke/MethodHandle" ∧ yX6_lastLed.cls ≠ "java/lang/invoke/VarHandle" ∧ (parseMethodDescriptor yX6_lastLed.desc).map (fun d => d.parameters.length) = some 3 := by decide +kernel
set_option maxHeartbeats 4000000 in
set_option maxRecDepth 100000 in
theorem ctX6_lastLed (l : Launch) (D : va_G) (ca : Nat → ClassId) (o : Nat) (o_values : Nat) (o_now : Int32) (o_size : Int32) (o_values_d : Nat → Int32) (x1 : Int32) (x2 : Int32) (x3 : Int32) (u0 : Int32) (hf : fX6_lastLed o_size o_values_d x1 x2 x3 = some u0) : MR l yX6_lastLed wsX6_lastLed 2 77 D ca [.ref o, .int x1, .int x2, .int x3] [(o, .inr (5, [.int o_now, .int o_size, .ref o_values])), (o_values, .inl (ca 0, 240, .inl o_values_d))] (some (.int u0)) := by
  refine hdRi (plainFor_of_name (by decide +kernel)) rfl (Nat.le_of_ble_eq_true rfl) ?_
  intro p e s m args below meth c Q hx hb hml hown hts hP hK hret ls hl
  have hown : s.vm.findClass RX6 = some m.cls := hown
  have hl : lv_has ls 7 [(0, .ref o), (1, .int x1), (2, .int x2), (3, .int x3)] := hl
  have h := hf
  unfold fX6_lastLed at h
  clear hf
  have L22 : ∀  (n : Nat) (l4 : Int32) (l5 : Int32), lp (fun q => bX6_lastLed_22 o_size o_values_d x1 x2 x3  q.1 q.2) n (l4, l5) = some u0 → ∀ ls, lv_has ls 7 [(0, .ref o), (1, .int x1), (2, .int x2), (3, .int x3), (4, .int l4), (5, .int l5)] → W p l e ({ frames := 2, cells := 0, slots := 0, locals := 77 }) s m args below meth c s.heap [] 0 0 Q (F0 m 22 ls []) := by
    intro  n
    induction n with
    | zero => intro l4 l5 h; exact (lp_0 h).elim
    | succ n ih22 =>
      intro l4 l5 h ls hl
      obtain ⟨q22, h, hq22⟩ := lp_s h
      have h : bX6_lastLed_22 o_size o_values_d x1 x2 x3  l4 l5 = some q22 := h
      unfold bX6_lastLed_22 at h
      have J83 : ∀ (l4 : Int32) (l5 : Int32) (s0 : Int32), jX6_lastLed_83 x2 l4 l5 s0 = some q22 → ∀ ls, lv_has ls 7 [(0, .ref o), (1, .int x1), (2, .int x2), (3, .int x3), (4, .int l4), (5, .int l5)] → W p l e ({ frames := 2, cells := 0, slots := 0, locals := 77 }) s m args below meth c s.heap [] 0 0 Q (F0 m 83 ls [.int s0]) := by
        intro l4 l5 s0 h ls hl
        unfold jX6_lastLed_83 at h
        refine lv_istore (lv' := [(6, .int s0), (0, .ref o), (1, .int x1), (2, .int x2), (3, .int x3), (4, .int l4), (5, .int l5)]) hx hb dX6_lastLed_83 hl (by decide) rfl (fun ls hl => ?_)
        refine lv_iload hx hb dX6_lastLed_85 (lv_at hl 0 rfl) ?_
        refine lv_iload_n hx hb dX6_lastLed_87 rfl (lv_at hl 3 rfl) ?_
        refine lv_icmp_le (tgt := 104) hx hb dX6_lastLed_88 (by decide) (fun c1 => ?_) (fun c1 => ?_)
        · have h := ip_s h c1
          obtain ⟨y2, e_y2, h⟩ := nm_s h
          refine lv_iinc (v := y2) (lv' := [(5, .int y2), (6, .int s0), (0, .ref o), (1, .int x1), (2, .int x2), (3, .int x3), (4, .int l4)]) hx hb dX6_lastLed_104 hl (k := 6) rfl (by rw [e_y2]; rfl) (by decide) rfl (fun ls hl => ?_)
          refine lv_goto (tgt := 22) hx hb dX6_lastLed_107 (by decide) ?_
          exact ih22 l4 y2 (lp_l hq22 h) ls (lv_sub hl [2, 3, 4, 5, 6, 0] rfl)
        · have h := in_s h c1
          refine lv_iload hx hb dX6_lastLed_91 (lv_at hl 0 rfl) ?_
          refine lv_iload hx hb dX6_lastLed_93 (lv_at hl 5 rfl) ?_
          refine lv_icmp_gt (tgt := 104) hx hb dX6_lastLed_95 (by decide) (fun c3 => ?_) (fun c3 => ?_)
          · have h := ip_s h c3
            obtain ⟨y4, e_y4, h⟩ := nm_s h
            refine lv_iinc (v := y4) (lv' := [(5, .int y4), (6, .int s0), (0, .ref o), (1, .int x1), (2, .int x2), (3, .int x3), (4, .int l4)]) hx hb dX6_lastLed_104 hl (k := 6) rfl (by rw [e_y4]; rfl) (by decide) rfl (fun ls hl => ?_)
            refine lv_goto (tgt := 22) hx hb dX6_lastLed_107 (by decide) ?_
            exact ih22 l4 y4 (lp_l hq22 h) ls (lv_sub hl [2, 3, 4, 5, 6, 0] rfl)
          · have h := in_s h c3
            refine lv_iload hx hb dX6_lastLed_98 (lv_at hl 0 rfl) ?_
            refine lv_iconst (v := (1 : Int32)) hx hb dX6_lastLed_100 (by decide) ?_
            refine lv_isub hx hb dX6_lastLed_101 ?_
            obtain ⟨y5, e_y5, h⟩ := nm_s h
            refine top_i e_y5 ?_
            refine lv_istore (lv' := [(4, .int y5), (6, .int s0), (0, .ref o), (1, .int x1), (2, .int x2), (3, .int x3), (5, .int l5)]) hx hb dX6_lastLed_102 hl (by decide) rfl (fun ls hl => ?_)
            obtain ⟨y6, e_y6, h⟩ := nm_s h
            refine lv_iinc (v := y6) (lv' := [(5, .int y6), (4, .int y5), (6, .int s0), (0, .ref o), (1, .int x1), (2, .int x2), (3, .int x3)]) hx hb dX6_lastLed_104 hl (k := 6) rfl (by rw [e_y6]; rfl) (by decide) rfl (fun ls hl => ?_)
            refine lv_goto (tgt := 22) hx hb dX6_lastLed_107 (by decide) ?_
            exact ih22 y5 y6 (lp_l hq22 h) ls (lv_sub hl [3, 4, 5, 6, 1, 0] rfl)
      have J80 : ∀ (l4 : Int32) (l5 : Int32) (s1 : Int32) (s2 : Int32) (s3 : Int32) (s4 : Int32), jX6_lastLed_80 o_values_d x2 l4 l5 s1 s2 s3 s4 = some q22 → ∀ ls, lv_has ls 7 [(0, .ref o), (1, .int x1), (2, .int x2), (3, .int x3), (4, .int l4), (5, .int l5)] → W p l e ({ frames := 2, cells := 0, slots := 0, locals := 77 }) s m args below meth c s.heap [] 0 0 Q (F0 m 80 ls [.int s4, .int s3, .int s2, .int s1, .ref o]) := by
        intro l4 l5 s1 s2 s3 s4 h ls hl
        unfold jX6_lastLed_80 at h
        obtain ⟨r1, h_r1, h⟩ := bd_s h
        refine clVR (As := [.int s1, .int s2, .int s3, .int s4]) (rest := []) hx hb hml hown hts gX6_lastLed_X6_crossing rfl 4 kX6_crossing ⟨Nat.le_of_ble_eq_true rfl, Nat.le_of_ble_eq_true rfl⟩ (ctX6_crossing l D ca o o_values o_now o_size o_values_d s1 s2 s3 s4 r1 h_r1) hP hK [0, 1] rfl 0 5 rfl rfl rfl rfl hl.1 rfl (Nat.le_of_ble_eq_true rfl) ⟨Nat.le_of_ble_eq_true rfl, Nat.le_of_ble_eq_true rfl⟩ dX6_lastLed_80 rfl ?_
        exact J83 l4 l5 r1 h ls (lv_sub hl [0, 1, 2, 3, 4, 5] rfl)
      refine lv_iload hx hb dX6_lastLed_22 (lv_at hl 5 rfl) ?_
      refine lv_aload_n hx hb dX6_lastLed_24 rfl (lv_at hl 0 rfl) ?_
      refine gtF (ci := 5) (v := .int o_size) (C := RX6) (T := TX6) (N := 3) hx hb hts inX6_lastLed_X6 hown hK hP 0 rfl rfl 1 (by decide) mwX6_lastLed_0 rfl rfl dX6_lastLed_25 ?_
      refine lv_icmp_ge (tgt := 110) hx hb dX6_lastLed_28 (by decide) (fun c1 => ?_) (fun c1 => ?_)
      · have h := ip_s h c1
        have h := xt_s hq22 h
        refine lv_iload hx hb dX6_lastLed_110 (lv_at hl 4 rfl) ?_
        cases h
        exact hret 112 ls _ rfl dX6_lastLed_112
      · have h := in_s h c1
        refine lv_iload hx hb dX6_lastLed_31 (lv_at hl 5 rfl) ?_
        refine lv_iload_n hx hb dX6_lastLed_33 rfl (lv_at hl 1 rfl) ?_
        refine lv_icmp_eq (tgt := 104) hx hb dX6_lastLed_34 (by decide) (fun c2 => ?_) (fun c2 => ?_)
        · have h := ip_s h c2
          obtain ⟨y3, e_y3, h⟩ := nm_s h
          refine lv_iinc (v := y3) (lv' := [(5, .int y3), (0, .ref o), (1, .int x1), (2, .int x2), (3, .int x3), (4, .int l4)]) hx hb dX6_lastLed_104 hl (k := 5) rfl (by rw [e_y3]; rfl) (by decide) rfl (fun ls hl => ?_)
          refine lv_goto (tgt := 22) hx hb dX6_lastLed_107 (by decide) ?_
          exact ih22 l4 y3 (lp_l hq22 h) ls (lv_sub hl [1, 2, 3, 4, 5, 0] rfl)
        · have h := in_s h c2
          refine lv_aload_n hx hb dX6_lastLed_37 rfl (lv_at hl 0 rfl) ?_
          refine lv_iload hx hb dX6_lastLed_38 (lv_at hl 5 rfl) ?_
          refine lv_iload_n hx hb dX6_lastLed_40 rfl (lv_at hl 3 rfl) ?_
          obtain ⟨r4, h_r4, h⟩ := bd_s h
          refine clVR (As := [.int l5, .int x3]) (rest := []) hx hb hml hown hts gX6_lastLed_X6_isLive rfl 2 kX6_isLive ⟨Nat.le_of_ble_eq_true rfl, Nat.le_of_ble_eq_true rfl⟩ (ctX6_isLive l D ca o o_values o_now o_size o_values_d l5 x3 r4 h_r4) hP hK [0, 1] rfl 0 5 rfl rfl rfl rfl hl.1 rfl (Nat.le_of_ble_eq_true rfl) ⟨Nat.le_of_ble_eq_true rfl, Nat.le_of_ble_eq_true rfl⟩ dX6_lastLed_41 rfl ?_
          refine lv_if_eq (tgt := 104) hx hb dX6_lastLed_44 (by decide) (fun c5 => ?_) (fun c5 => ?_)
          · have h := ip_s h c5
            obtain ⟨y6, e_y6, h⟩ := nm_s h
            refine lv_iinc (v := y6) (lv' := [(5, .int y6), (0, .ref o), (1, .int x1), (2, .int x2), (3, .int x3), (4, .int l4)]) hx hb dX6_lastLed_104 hl (k := 5) rfl (by rw [e_y6]; rfl) (by decide) rfl (fun ls hl => ?_)
            refine lv_goto (tgt := 22) hx hb dX6_lastLed_107 (by decide) ?_
            exact ih22 l4 y6 (lp_l hq22 h) ls (lv_sub hl [1, 2, 3, 4, 5, 0] rfl)
          · have h := in_s h c5
            refine lv_iload_n hx hb dX6_lastLed_47 rfl (lv_at hl 1 rfl) ?_
            refine lv_iconst (v := (-1 : Int32)) hx hb dX6_lastLed_48 (by decide) ?_
            refine lv_icmp_ne (tgt := 62) hx hb dX6_lastLed_49 (by decide) (fun c7 => ?_) (fun c7 => ?_)
            · have h := in_s h c7
              refine lv_aload_n hx hb dX6_lastLed_62 rfl (lv_at hl 0 rfl) ?_
              refine lv_iload_n hx hb dX6_lastLed_63 rfl (lv_at hl 1 rfl) ?_
              refine lv_iload hx hb dX6_lastLed_64 (lv_at hl 5 rfl) ?_
              refine lv_iload_n hx hb dX6_lastLed_66 rfl (lv_at hl 2 rfl) ?_
              refine lv_iconst (v := (1 : Int32)) hx hb dX6_lastLed_67 (by decide) ?_
              refine lv_iadd hx hb dX6_lastLed_68 ?_
              refine lv_iload hx hb dX6_lastLed_69 (lv_at hl 5 rfl) ?_
              refine lv_iload_n hx hb dX6_lastLed_71 rfl (lv_at hl 1 rfl) ?_
              refine lv_icmp_ge (tgt := 79) hx hb dX6_lastLed_72 (by decide) (fun c8 => ?_) (fun c8 => ?_)
              · have h := ip_s h c8
                refine lv_iconst (v := (0 : Int32)) hx hb dX6_lastLed_79 (by decide) ?_
                exact J80 l4 l5 x1 l5 (x2 + (1 : Int32)) (0 : Int32) h ls (lv_sub hl [0, 1, 2, 3, 4, 5] rfl)
              · have h := in_s h c8
                refine lv_iconst (v := (1 : Int32)) hx hb dX6_lastLed_75 (by decide) ?_
                refine lv_goto (tgt := 80) hx hb dX6_lastLed_76 (by decide) ?_
                exact J80 l4 l5 x1 l5 (x2 + (1 : Int32)) (1 : Int32) h ls (lv_sub hl [0, 1, 2, 3, 4, 5] rfl)
            · have h := ip_s h c7
              refine lv_aload_n hx hb dX6_lastLed_52 rfl (lv_at hl 0 rfl) ?_
              refine lv_iload hx hb dX6_lastLed_53 (lv_at hl 5 rfl) ?_
              refine lv_iconst (v := (2 : Int32)) hx hb dX6_lastLed_55 (by decide) ?_
              obtain ⟨r9, h_r9, h⟩ := bd_s h
              refine clVR (As := [.int l5, .int (2 : Int32)]) (rest := []) hx hb hml hown hts gX6_lastLed_X6_value rfl 2 kX6_value ⟨Nat.le_of_ble_eq_true rfl, Nat.le_of_ble_eq_true rfl⟩ (ctX6_value l D ca o o_values o_now o_size o_values_d l5 (2 : Int32) r9 h_r9) hP hK [0, 1] rfl 0 5 rfl rfl rfl rfl hl.1 rfl (Nat.le_of_ble_eq_true rfl) ⟨Nat.le_of_ble_eq_true rfl, Nat.le_of_ble_eq_true rfl⟩ dX6_lastLed_56 rfl ?_
              refine lv_goto (tgt := 83) hx hb dX6_lastLed_59 (by decide) ?_
              exact J83 l4 l5 r9 h ls (lv_sub hl [0, 1, 2, 3, 4, 5] rfl)
  refine lv_iload_n hx hb dX6_lastLed_0 rfl (lv_at hl 1 rfl) ?_
  refine lv_iconst (v := (-1 : Int32)) hx hb dX6_lastLed_1 (by decide) ?_
  refine lv_icmp_ne (tgt := 11) hx hb dX6_lastLed_2 (by decide) (fun c1 => ?_) (fun c1 => ?_)
  · have h := in_s h c1
    refine lv_aload_n hx hb dX6_lastLed_11 rfl (lv_at hl 0 rfl) ?_
    refine lv_iload_n hx hb dX6_lastLed_12 rfl (lv_at hl 1 rfl) ?_
    refine lv_iconst (v := (3 : Int32)) hx hb dX6_lastLed_13 (by decide) ?_
    obtain ⟨r2, h_r2, h⟩ := bd_s h
    refine clVR (As := [.int x1, .int (3 : Int32)]) (rest := []) hx hb hml hown hts gX6_lastLed_X6_value rfl 2 kX6_value ⟨Nat.le_of_ble_eq_true rfl, Nat.le_of_ble_eq_true rfl⟩ (ctX6_value l D ca o o_values o_now o_size o_values_d x1 (3 : Int32) r2 h_r2) hP hK [0, 1] rfl 0 5 rfl rfl rfl rfl hl.1 rfl (Nat.le_of_ble_eq_true rfl) ⟨Nat.le_of_ble_eq_true rfl, Nat.le_of_ble_eq_true rfl⟩ dX6_lastLed_14 rfl ?_
    refine lv_istore (lv' := [(4, .int r2), (0, .ref o), (1, .int x1), (2, .int x2), (3, .int x3)]) hx hb dX6_lastLed_17 hl (by decide) rfl (fun ls hl => ?_)
    refine lv_iconst (v := (0 : Int32)) hx hb dX6_lastLed_19 (by decide) ?_
    refine lv_istore (lv' := [(5, .int (0 : Int32)), (4, .int r2), (0, .ref o), (1, .int x1), (2, .int x2), (3, .int x3)]) hx hb dX6_lastLed_20 hl (by decide) rfl (fun ls hl => ?_)
    exact L22  fuel r2 (0 : Int32) h ls (lv_sub hl [2, 3, 4, 5, 1, 0] rfl)
  · have h := ip_s h c1
    refine lv_sipush (v := (255 : Int32)) hx hb dX6_lastLed_5 (by decide) ?_
    refine lv_goto (tgt := 17) hx hb dX6_lastLed_8 (by decide) ?_
    refine lv_istore (lv' := [(4, .int (255 : Int32)), (0, .ref o), (1, .int x1), (2, .int x2), (3, .int x3)]) hx hb dX6_lastLed_17 hl (by decide) rfl (fun ls hl => ?_)
    refine lv_iconst (v := (0 : Int32)) hx hb dX6_lastLed_19 (by decide) ?_
    refine lv_istore (lv' := [(5, .int (0 : Int32)), (4, .int (255 : Int32)), (0, .ref o), (1, .int x1), (2, .int x2), (3, .int x3)]) hx hb dX6_lastLed_20 hl (by decide) rfl (fun ls hl => ?_)
    exact L22  fuel (255 : Int32) (0 : Int32) h ls (lv_sub hl [2, 3, 4, 5, 1, 0] rfl)
