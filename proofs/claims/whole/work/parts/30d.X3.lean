theorem mwX7_mixed_0 : Cond.constantLong RX7 298 (31) ∈ wsX7_mixed := List.mem_of_getElem? (i := 1) rfl
theorem kX7_mixed : yX7_mixed.cls = yX7_mixed.cls ∧ yX7_mixed.cls ≠ "java/lang/invoke/MethodHandle" ∧ yX7_mixed.cls ≠ "java/lang/invoke/VarHandle" ∧ (parseMethodDescriptor yX7_mixed.desc).map (fun d => d.parameters.length) = some 2 := by decide +kernel
set_option maxHeartbeats 4000000 in
set_option maxRecDepth 100000 in
theorem ctX7_mixed (l : Launch) (D : va_G) (ca : Nat → ClassId)   (x0 : Int64) (x2 : Int64) (u0 : Int64) (hf : fX7_mixed x0 x2 = some u0) : MR l yX7_mixed wsX7_mixed 0 0 D ca [.long x0, .long x2] [] (some (.long u0)) := by
  refine hdRl (plainFor_of_name (by decide +kernel)) rfl (Nat.le_of_ble_eq_true rfl) ?_
  intro p e s m args below meth c Q hx hb hml hown hts hP hK hret ls hl
  have hown : s.vm.findClass RX7 = some m.cls := hown
  have hl : lv_has ls 4 [(0, .long x0), (2, .long x2)] := hl
  have h := hf
  unfold fX7_mixed at h
  clear hf
  refine lv_ldc2 (v := (31 : Int64)) hx hb hown (hts _ mwX7_mixed_0) dX7_mixed_0 ?_
  refine lv_lload_n hx hb dX7_mixed_3 rfl (lv_at hl 0 rfl) ?_
  refine lv_lmul hx hb dX7_mixed_4 ?_
  refine lv_lload_n hx hb dX7_mixed_5 rfl (lv_at hl 1 rfl) ?_
  refine lv_ladd hx hb dX7_mixed_6 ?_
  cases h
  exact hret 7 ls _ rfl dX7_mixed_7
theorem mwX6_mixedInto_0 : Cond.fieldLink RX6 15 "SegmentTimes$Store" "now" "I" ∈ wsX6_mixedInto := List.mem_of_getElem? (i := 1) rfl
theorem mwX6_mixedInto_1 : Cond.initialized yX7_mixed.cls ∈ wsX6_mixedInto := List.mem_of_getElem? (i := 4) rfl
theorem mwX6_mixedInto_2 : Cond.static yX7_mixed ∈ wsX6_mixedInto := List.mem_of_getElem? (i := 3) rfl
theorem mwX6_mixedInto_3 : Cond.fieldLink RX6 19 "SegmentTimes$Store" "size" "I" ∈ wsX6_mixedInto := List.mem_of_getElem? (i := 2) rfl
theorem inX6_mixedInto_X6 : ∀ w ∈ u_ws RX6 TX6 3, w ∈ wsX6_mixedInto := fun w h => List.mem_cons_of_mem _ (List.mem_append_right _ (h))
theorem kX6_mixedInto : yX6_mixedInto.cls = RX6 ∧ yX6_mixedInto.cls ≠ "java/lang/invoke/MethodHandle" ∧ yX6_mixedInto.cls ≠ "java/lang/invoke/VarHandle" ∧ (parseMethodDescriptor yX6_mixedInto.desc).map (fun d => d.parameters.length) = some 1 := by decide +kernel
set_option maxHeartbeats 4000000 in
set_option maxRecDepth 100000 in
theorem ctX6_mixedInto (l : Launch) (D : va_G) (ca : Nat → ClassId) (o : Nat) (o_values : Nat) (o_now : Int32) (o_size : Int32) (o_values_d : Nat → Int32) (x1 : Int64) (u0 : Int64) (hf : fX6_mixedInto o_now o_size o_values_d x1 = some u0) : MR l yX6_mixedInto wsX6_mixedInto 1 23 D ca [.ref o, .long x1] [(o, .inr (5, [.int o_now, .int o_size, .ref o_values])), (o_values, .inl (ca 0, 240, .inl o_values_d))] (some (.long u0)) := by
  refine hdRl (plainFor_of_name (by decide +kernel)) rfl (Nat.le_of_ble_eq_true rfl) ?_
  intro p e s m args below meth c Q hx hb hml hown hts hP hK hret ls hl
  have hown : s.vm.findClass RX6 = some m.cls := hown
  have hl : lv_has ls 5 [(0, .ref o), (1, .long x1)] := hl
  have h := hf
  unfold fX6_mixedInto at h
  clear hf
  have L22 : ∀  (n : Nat) (l1 : Int64) (l3 : Int32), lp (fun q => bX6_mixedInto_22 o_size o_values_d  q.1 q.2) n (l1, l3) = some u0 → ∀ ls, lv_has ls 5 [(0, .ref o), (1, .long l1), (3, .int l3)] → W p l e ({ frames := 1, cells := 0, slots := 0, locals := 23 }) s m args below meth c s.heap [] 0 0 Q (F0 m 22 ls []) := by
    intro  n
    induction n with
    | zero => intro l1 l3 h; exact (lp_0 h).elim
    | succ n ih22 =>
      intro l1 l3 h ls hl
      obtain ⟨q22, h, hq22⟩ := lp_s h
      have h : bX6_mixedInto_22 o_size o_values_d  l1 l3 = some q22 := h
      unfold bX6_mixedInto_22 at h
      have L33 : ∀ (l3 : Int32) (n : Nat) (l1 : Int64) (l4 : Int32), lp (fun q => bX6_mixedInto_33 o_values_d l3 q.1 q.2) n (l1, l4) = some q22 → ∀ ls, lv_has ls 5 [(0, .ref o), (1, .long l1), (3, .int l3), (4, .int l4)] → W p l e ({ frames := 1, cells := 0, slots := 0, locals := 23 }) s m args below meth c s.heap [] 0 0 Q (F0 m 33 ls []) := by
        intro l3 n
        induction n with
        | zero => intro l1 l4 h; exact (lp_0 h).elim
        | succ n ih33 =>
          intro l1 l4 h ls hl
          obtain ⟨q33, h, hq33⟩ := lp_s h
          have h : bX6_mixedInto_33 o_values_d l3 l1 l4 = some q33 := h
          unfold bX6_mixedInto_33 at h
          refine lv_iload hx hb dX6_mixedInto_33 (lv_at hl 3 rfl) ?_
          refine lv_bipush (v := (6 : Int32)) hx hb dX6_mixedInto_35 (by decide) ?_
          refine lv_icmp_ge (tgt := 59) hx hb dX6_mixedInto_37 (by decide) (fun c1 => ?_) (fun c1 => ?_)
          · have h := ip_s h c1
            have h := xt_s hq33 h
            obtain ⟨y2, e_y2, h⟩ := nm_s h
            refine lv_iinc (v := y2) (lv' := [(3, .int y2), (0, .ref o), (1, .long l1), (4, .int l4)]) hx hb dX6_mixedInto_59 hl (k := 2) rfl (by rw [e_y2]; rfl) (by decide) rfl (fun ls hl => ?_)
            refine lv_goto (tgt := 22) hx hb dX6_mixedInto_62 (by decide) ?_
            exact ih22 l1 y2 (lp_l hq22 h) ls (lv_sub hl [1, 2, 0] rfl)
          · have h := in_s h c1
            refine lv_lload_n hx hb dX6_mixedInto_40 rfl (lv_at hl 1 rfl) ?_
            refine lv_aload_n hx hb dX6_mixedInto_41 rfl (lv_at hl 0 rfl) ?_
            refine lv_iload_n hx hb dX6_mixedInto_42 rfl (lv_at hl 2 rfl) ?_
            refine lv_iload hx hb dX6_mixedInto_43 (lv_at hl 3 rfl) ?_
            obtain ⟨r3, h_r3, h⟩ := bd_s h
            refine clVR (As := [.int l3, .int l4]) (rest := [.long l1]) hx hb hml hown hts gX6_mixedInto_X6_value rfl 2 kX6_value ⟨Nat.le_of_ble_eq_true rfl, Nat.le_of_ble_eq_true rfl⟩ (ctX6_value l D ca o o_values o_now o_size o_values_d l3 l4 r3 h_r3) hP hK [0, 1] rfl 0 5 rfl rfl rfl rfl hl.1 rfl (Nat.le_of_ble_eq_true rfl) ⟨Nat.le_of_ble_eq_true rfl, Nat.le_of_ble_eq_true rfl⟩ dX6_mixedInto_45 rfl ?_
            refine lv_i2l (v := (r3).toInt64) hx hb dX6_mixedInto_48 rfl ?_
            obtain ⟨r4, h_r4, h⟩ := bd_s h
            refine clNR (As := [.long l1, .long (r3).toInt64]) (rest := []) hx hb hml hown hts gX6_mixedInto_X7_mixed_n79 rfl 2 kX7_mixed.2 ⟨Nat.le_of_ble_eq_true rfl, Nat.le_of_ble_eq_true rfl⟩ hK.2.1 mwX6_mixedInto_1 mwX6_mixedInto_2 (ctX7_mixed l D ca   l1 ((r3).toInt64) r4 h_r4) hP hK [] rfl rfl hl.1 rfl (Nat.le_of_ble_eq_true rfl) ⟨Nat.le_of_ble_eq_true rfl, Nat.le_of_ble_eq_true rfl⟩ dX6_mixedInto_49 rfl ?_
            refine lv_lstore_n (lv' := [(1, .long r4), (0, .ref o), (3, .int l3), (4, .int l4)]) hx hb dX6_mixedInto_52 rfl hl (by decide) rfl (fun ls hl => ?_)
            obtain ⟨y5, e_y5, h⟩ := nm_s h
            refine lv_iinc (v := y5) (lv' := [(4, .int y5), (1, .long r4), (0, .ref o), (3, .int l3)]) hx hb dX6_mixedInto_53 hl (k := 3) rfl (by rw [e_y5]; rfl) (by decide) rfl (fun ls hl => ?_)
            refine lv_goto (tgt := 33) hx hb dX6_mixedInto_56 (by decide) ?_
            exact ih33 r4 y5 (lp_l hq33 h) ls (lv_sub hl [2, 1, 3, 0] rfl)
      refine lv_iload_n hx hb dX6_mixedInto_22 rfl (lv_at hl 2 rfl) ?_
      refine lv_aload_n hx hb dX6_mixedInto_23 rfl (lv_at hl 0 rfl) ?_
      refine gtF (ci := 5) (v := .int o_size) (C := RX6) (T := TX6) (N := 3) hx hb hts inX6_mixedInto_X6 hown hK hP 0 rfl rfl 1 (by decide) mwX6_mixedInto_3 rfl rfl dX6_mixedInto_24 ?_
      refine lv_icmp_ge (tgt := 65) hx hb dX6_mixedInto_27 (by decide) (fun c1 => ?_) (fun c1 => ?_)
      · have h := ip_s h c1
        have h := xt_s hq22 h
        refine lv_lload_n hx hb dX6_mixedInto_65 rfl (lv_at hl 1 rfl) ?_
        cases h
        exact hret 66 ls _ rfl dX6_mixedInto_66
      · have h := in_s h c1
        refine lv_iconst (v := (0 : Int32)) hx hb dX6_mixedInto_30 (by decide) ?_
        refine lv_istore (lv' := [(4, .int (0 : Int32)), (0, .ref o), (1, .long l1), (3, .int l3)]) hx hb dX6_mixedInto_31 hl (by decide) rfl (fun ls hl => ?_)
        exact L33 l3 fuel l1 (0 : Int32) h ls (lv_sub hl [1, 2, 3, 0] rfl)
  refine lv_lload_n hx hb dX6_mixedInto_0 rfl (lv_at hl 1 rfl) ?_
  refine lv_aload_n hx hb dX6_mixedInto_1 rfl (lv_at hl 0 rfl) ?_
  refine gtF (ci := 5) (v := .int o_now) (C := RX6) (T := TX6) (N := 3) hx hb hts inX6_mixedInto_X6 hown hK hP 0 rfl rfl 0 (by decide) mwX6_mixedInto_0 rfl rfl dX6_mixedInto_2 ?_
  refine lv_i2l (v := (o_now).toInt64) hx hb dX6_mixedInto_5 rfl ?_
  obtain ⟨r1, h_r1, h⟩ := bd_s h
  refine clNR (As := [.long x1, .long (o_now).toInt64]) (rest := []) hx hb hml hown hts gX6_mixedInto_X7_mixed_n79 rfl 2 kX7_mixed.2 ⟨Nat.le_of_ble_eq_true rfl, Nat.le_of_ble_eq_true rfl⟩ hK.2.1 mwX6_mixedInto_1 mwX6_mixedInto_2 (ctX7_mixed l D ca   x1 ((o_now).toInt64) r1 h_r1) hP hK [] rfl rfl hl.1 rfl (Nat.le_of_ble_eq_true rfl) ⟨Nat.le_of_ble_eq_true rfl, Nat.le_of_ble_eq_true rfl⟩ dX6_mixedInto_6 rfl ?_
  refine lv_lstore_n (lv' := [(1, .long r1), (0, .ref o)]) hx hb dX6_mixedInto_9 rfl hl (by decide) rfl (fun ls hl => ?_)
  refine lv_lload_n hx hb dX6_mixedInto_10 rfl (lv_at hl 0 rfl) ?_
  refine lv_aload_n hx hb dX6_mixedInto_11 rfl (lv_at hl 1 rfl) ?_
  refine gtF (ci := 5) (v := .int o_size) (C := RX6) (T := TX6) (N := 3) hx hb hts inX6_mixedInto_X6 hown hK hP 0 rfl rfl 1 (by decide) mwX6_mixedInto_3 rfl rfl dX6_mixedInto_12 ?_
  refine lv_i2l (v := (o_size).toInt64) hx hb dX6_mixedInto_15 rfl ?_
  obtain ⟨r2, h_r2, h⟩ := bd_s h
  refine clNR (As := [.long r1, .long (o_size).toInt64]) (rest := []) hx hb hml hown hts gX6_mixedInto_X7_mixed_n79 rfl 2 kX7_mixed.2 ⟨Nat.le_of_ble_eq_true rfl, Nat.le_of_ble_eq_true rfl⟩ hK.2.1 mwX6_mixedInto_1 mwX6_mixedInto_2 (ctX7_mixed l D ca   r1 ((o_size).toInt64) r2 h_r2) hP hK [] rfl rfl hl.1 rfl (Nat.le_of_ble_eq_true rfl) ⟨Nat.le_of_ble_eq_true rfl, Nat.le_of_ble_eq_true rfl⟩ dX6_mixedInto_16 rfl ?_
  refine lv_lstore_n (lv' := [(1, .long r2), (0, .ref o)]) hx hb dX6_mixedInto_19 rfl hl (by decide) rfl (fun ls hl => ?_)
  refine lv_iconst (v := (0 : Int32)) hx hb dX6_mixedInto_20 (by decide) ?_
  refine lv_istore_n (lv' := [(3, .int (0 : Int32)), (1, .long r2), (0, .ref o)]) hx hb dX6_mixedInto_21 rfl hl (by decide) rfl (fun ls hl => ?_)
  exact L22  fuel r2 (0 : Int32) h ls (lv_sub hl [2, 1, 0] rfl)
theorem mwX3_copyFrom_0 : Cond.fieldLink RX3 15 "SegmentTimes$Queries" "size" "I" ∈ wsX3_copyFrom := List.mem_of_getElem? (i := 1) rfl
theorem mwX3_copyFrom_1 : Cond.methodLink RX3 19 Lib.Math.min.name ∈ wsX3_copyFrom := List.mem_of_getElem? (i := 2) rfl
theorem mwX3_copyFrom_2 : Cond.static Lib.Math.min.name ∈ wsX3_copyFrom := List.mem_of_getElem? (i := 3) rfl
theorem mwX3_copyFrom_3 : Cond.initialized "java/lang/Math" ∈ wsX3_copyFrom := List.mem_of_getElem? (i := 4) rfl
theorem mwX3_copyFrom_4 : Cond.code Lib.Math.min.name Lib.Math.min.code 2 (some .int) ∈ wsX3_copyFrom := List.mem_of_getElem? (i := 5) rfl
theorem mwX3_copyFrom_5 : Cond.methodLink RX3 25 Lib.Math.max.name ∈ wsX3_copyFrom := List.mem_of_getElem? (i := 6) rfl
theorem mwX3_copyFrom_6 : Cond.static Lib.Math.max.name ∈ wsX3_copyFrom := List.mem_of_getElem? (i := 7) rfl
theorem mwX3_copyFrom_7 : Cond.code Lib.Math.max.name Lib.Math.max.code 2 (some .int) ∈ wsX3_copyFrom := List.mem_of_getElem? (i := 8) rfl
theorem mwX3_copyFrom_8 : Cond.fieldLink RX3 9 "SegmentTimes$Queries" "values" "[I" ∈ wsX3_copyFrom := List.mem_of_getElem? (i := 9) rfl
theorem mwX3_copyFrom_9 : Cond.methodLink RX3 28 arraycopyName ∈ wsX3_copyFrom := List.mem_of_getElem? (i := 10) rfl
theorem mwX3_copyFrom_10 : Cond.native arraycopyName ∈ wsX3_copyFrom := List.mem_of_getElem? (i := 11) rfl
theorem mwX3_copyFrom_11 : Cond.static arraycopyName ∈ wsX3_copyFrom := List.mem_of_getElem? (i := 12) rfl
theorem mwX3_copyFrom_12 : Cond.initialized "java/lang/System" ∈ wsX3_copyFrom := List.mem_of_getElem? (i := 13) rfl
theorem inX3_copyFrom_X3 : ∀ w ∈ u_ws RX3 TX3 2, w ∈ wsX3_copyFrom := fun w h => List.mem_cons_of_mem _ (List.mem_append_right _ (h))
theorem kX3_copyFrom : yX3_copyFrom.cls = RX3 ∧ yX3_copyFrom.cls ≠ "java/lang/invoke/MethodHandle" ∧ yX3_copyFrom.cls ≠ "java/lang/invoke/VarHandle" ∧ (parseMethodDescriptor yX3_copyFrom.desc).map (fun d => d.parameters.length) = some 1 := by decide +kernel
set_option maxHeartbeats 4000000 in
set_option maxRecDepth 100000 in
theorem ctX3_copyFrom (l : Launch) (D : va_G) (ca : Nat → ClassId) (o : Nat) (o_values : Nat) (p1 : Nat) (p1_values : Nat) (o_size : Int32) (o_values_d : Nat → Int32) (p1_size : Int32) (p1_values_d : Nat → Int32)  (sz : Nat) (u0 : Int32) (u1 : Nat → Int32) (hf : fX3_copyFrom o_size o_values_d p1_size p1_values_d = some (u0, u1)) : MW l yX3_copyFrom wsX3_copyFrom 1 48 D ca [.ref o, .ref p1] sz [(o, .inr (2, [.int o_size, .ref o_values])), (o_values, .inl (ca 0, 180, .inl o_values_d)), (p1, .inr (2, [.int p1_size, .ref p1_values])), (p1_values, .inl (ca 0, 180, .inl p1_values_d))] none [(o, .inr (2, [.int u0, .ref o_values])), (o_values, .inl (ca 0, 180, .inl u1)), (p1, .inr (2, [.int p1_size, .ref p1_values])), (p1_values, .inl (ca 0, 180, .inl p1_values_d))] := by
  refine hdWv (by decide +kernel) rfl (Nat.le_of_ble_eq_true rfl) rfl ?_
  intro p e s m args below meth c A Q hx hb hml hown hts hP hD hK hA hS hret ls hl
  have hown : s.vm.findClass RX3 = some m.cls := hown
  have hl : lv_has ls 2 [(0, .ref o), (1, .ref p1)] := hl
  have h := hf
  unfold fX3_copyFrom at h
  clear hf
  refine lv_aload_n hx hb dX3_copyFrom_0 rfl (lv_at hl 0 rfl) ?_
  refine lv_iconst (v := (0 : Int32)) hx hb dX3_copyFrom_1 (by decide) ?_
  refine lv_aload_n hx hb dX3_copyFrom_2 rfl (lv_at hl 1 rfl) ?_
  refine gtF (ci := 2) (v := .int p1_size) (C := RX3) (T := TX3) (N := 2) hx hb hts inX3_copyFrom_X3 hown hK hP 2 rfl rfl 0 (by decide) mwX3_copyFrom_0 rfl rfl dX3_copyFrom_3 ?_
  refine lv_bipush (v := (30 : Int32)) hx hb dX3_copyFrom_6 (by decide) ?_
  refine va_mmin hx hb (by rw [hml]; exact hl.1.symm) hown (hts _ mwX3_copyFrom_1) (hts _ mwX3_copyFrom_2) (hts _ mwX3_copyFrom_3) (hts _ mwX3_copyFrom_4) (Nat.le_of_ble_eq_true rfl) (Nat.le_of_ble_eq_true rfl) (Nat.le_of_ble_eq_true rfl) (Nat.le_of_ble_eq_true rfl) dX3_copyFrom_8 ?_
  obtain ⟨y1, e_y1, h⟩ := nm_s h
  refine top_i e_y1 ?_
  refine va_mmax hx hb (by rw [hml]; exact hl.1.symm) hown (hts _ mwX3_copyFrom_5) (hts _ mwX3_copyFrom_6) (hts _ mwX3_copyFrom_3) (hts _ mwX3_copyFrom_7) (Nat.le_of_ble_eq_true rfl) (Nat.le_of_ble_eq_true rfl) (Nat.le_of_ble_eq_true rfl) (Nat.le_of_ble_eq_true rfl) dX3_copyFrom_11 ?_
  obtain ⟨y2, e_y2, h⟩ := nm_s h
  refine top_i e_y2 ?_
  refine ptI (ci := 2) (v := .int y2) (ty := .int) (C := RX3) (T := TX3) (N := 2) (wn := [(o, .inr (2, [.int y2, .ref o_values])), (o_values, .inl (ca 0, 180, .inl o_values_d)), (p1, .inr (2, [.int p1_size, .ref p1_values])), (p1_values, .inl (ca 0, 180, .inl p1_values_d))]) hx hb hts inX3_copyFrom_X3 tyX3 tyX3_ok nmX3 hown hK hP hD hS 0 rfl rfl 0 (by decide) mwX3_copyFrom_0 rfl rfl (by decide +kernel) rfl rfl (Nat.le_of_ble_eq_true rfl) rfl dX3_copyFrom_14 (fun H locs hP hD hS => ?_)
  refine lv_aload_n hx hb dX3_copyFrom_17 rfl (lv_at hl 1 rfl) ?_
  refine gtF (ci := 2) (v := .ref p1_values) (C := RX3) (T := TX3) (N := 2) hx hb hts inX3_copyFrom_X3 hown hK hP 2 rfl rfl 1 (by decide) mwX3_copyFrom_8 rfl rfl dX3_copyFrom_18 ?_
  refine lv_iconst (v := (0 : Int32)) hx hb dX3_copyFrom_21 (by decide) ?_
  refine lv_aload_n hx hb dX3_copyFrom_22 rfl (lv_at hl 0 rfl) ?_
  refine gtF (ci := 2) (v := .ref o_values) (C := RX3) (T := TX3) (N := 2) hx hb hts inX3_copyFrom_X3 hown hK hP 0 rfl rfl 1 (by decide) mwX3_copyFrom_8 rfl rfl dX3_copyFrom_23 ?_
  refine lv_iconst (v := (0 : Int32)) hx hb dX3_copyFrom_26 (by decide) ?_
  refine lv_aload_n hx hb dX3_copyFrom_27 rfl (lv_at hl 0 rfl) ?_
  refine gtF (ci := 2) (v := .int y2) (C := RX3) (T := TX3) (N := 2) hx hb hts inX3_copyFrom_X3 hown hK hP 0 rfl rfl 0 (by decide) mwX3_copyFrom_0 rfl rfl dX3_copyFrom_28 ?_
  refine lv_bipush (v := (6 : Int32)) hx hb dX3_copyFrom_31 (by decide) ?_
  refine lv_imul hx hb dX3_copyFrom_33 ?_
  obtain ⟨hac, g3, e_g3, h⟩ := ac_s h
  refine acI (wn := [(o, .inr (2, [.int y2, .ref o_values])), (o_values, .inl (ca 0, 180, .inl g3)), (p1, .inr (2, [.int p1_size, .ref p1_values])), (p1_values, .inl (ca 0, 180, .inl p1_values_d))]) hx hb (by rw [hml]; exact hl.1.symm) hown (hts _ mwX3_copyFrom_9) (hts _ mwX3_copyFrom_10) (hts _ mwX3_copyFrom_11) (hts _ mwX3_copyFrom_12) hK hP hD hS 3 1 rfl rfl hac e_g3 rfl (Nat.le_of_ble_eq_true rfl) (by decide +kernel) dX3_copyFrom_34 (fun H locs hP hD hS => ?_)
  cases h
  exact hret 37 ls _ _ hP hD hS rfl dX3_copyFrom_37
theorem mwX3_isFull_0 : Cond.fieldLink RX3 15 "SegmentTimes$Queries" "size" "I" ∈ wsX3_isFull := List.mem_of_getElem? (i := 1) rfl
theorem inX3_isFull_X3 : ∀ w ∈ u_ws RX3 TX3 2, w ∈ wsX3_isFull := fun w h => List.mem_cons_of_mem _ (List.mem_append_right _ (h))
theorem kX3_isFull : yX3_isFull.cls = RX3 ∧ yX3_isFull.cls ≠ "java/lang/invoke/MethodHandle" ∧ yX3_isFull.cls ≠ "java/lang/invoke/VarHandle" ∧ (parseMethodDescriptor yX3_isFull.desc).map (fun d => d.parameters.length) = some 0 := by decide +kernel
set_option maxHeartbeats 4000000 in
set_option maxRecDepth 100000 in
theorem ctX3_isFull (l : Launch) (D : va_G) (ca : Nat → ClassId) (o : Nat) (o_values : Nat) (o_size : Int32)  (u0 : Int32) (hf : fX3_isFull o_size = some u0) : MR l yX3_isFull wsX3_isFull 0 0 D ca [.ref o] [(o, .inr (2, [.int o_size, .ref o_values]))] (some (.int u0)) := by
  refine hdRz (plainFor_of_name (by decide +kernel)) rfl (Nat.le_of_ble_eq_true rfl) ?_
  intro p e s m args below meth c Q hx hb hml hown hts hP hK hret ls hl
  have hown : s.vm.findClass RX3 = some m.cls := hown
  have hl : lv_has ls 1 [(0, .ref o)] := hl
  have h := hf
  unfold fX3_isFull at h
  clear hf
  refine lv_aload_n hx hb dX3_isFull_0 rfl (lv_at hl 0 rfl) ?_
  refine gtF (ci := 2) (v := .int o_size) (C := RX3) (T := TX3) (N := 2) hx hb hts inX3_isFull_X3 hown hK hP 0 rfl rfl 0 (by decide) mwX3_isFull_0 rfl rfl dX3_isFull_1 ?_
  refine lv_bipush (v := (30 : Int32)) hx hb dX3_isFull_4 (by decide) ?_
  refine lv_icmp_lt (tgt := 13) hx hb dX3_isFull_6 (by decide) (fun c1 => ?_) (fun c1 => ?_)
  · have h := ip_s h c1
    refine lv_iconst (v := (0 : Int32)) hx hb dX3_isFull_13 (by decide) ?_
    obtain ⟨hz, h⟩ := zr_s h
    cases h
    exact hret 14 ls _ hz rfl dX3_isFull_14
  · have h := in_s h c1
    refine lv_iconst (v := (1 : Int32)) hx hb dX3_isFull_9 (by decide) ?_
    refine lv_goto (tgt := 14) hx hb dX3_isFull_10 (by decide) ?_
    obtain ⟨hz, h⟩ := zr_s h
    cases h
    exact hret 14 ls _ hz rfl dX3_isFull_14
theorem mwX3_value_0 : Cond.fieldLink RX3 9 "SegmentTimes$Queries" "values" "[I" ∈ wsX3_value := List.mem_of_getElem? (i := 1) rfl
theorem inX3_value_X3 : ∀ w ∈ u_ws RX3 TX3 2, w ∈ wsX3_value := fun w h => List.mem_cons_of_mem _ (List.mem_append_right _ (h))
theorem kX3_value : yX3_value.cls = RX3 ∧ yX3_value.cls ≠ "java/lang/invoke/MethodHandle" ∧ yX3_value.cls ≠ "java/lang/invoke/VarHandle" ∧ (parseMethodDescriptor yX3_value.desc).map (fun d => d.parameters.length) = some 2 := by decide +kernel
set_option maxHeartbeats 4000000 in
set_option maxRecDepth 100000 in
theorem ctX3_value (l : Launch) (D : va_G) (ca : Nat → ClassId) (o : Nat) (o_values : Nat) (o_size : Int32) (o_values_d : Nat → Int32) (x1 : Int32) (x2 : Int32) (u0 : Int32) (hf : fX3_value o_values_d x1 x2 = some u0) : MR l yX3_value wsX3_value 0 0 D ca [.ref o, .int x1, .int x2] [(o, .inr (2, [.int o_size, .ref o_values])), (o_values, .inl (ca 0, 180, .inl o_values_d))] (some (.int u0)) := by
  refine hdRi (plainFor_of_name (by decide +kernel)) rfl (Nat.le_of_ble_eq_true rfl) ?_
  intro p e s m args below meth c Q hx hb hml hown hts hP hK hret ls hl
  have hown : s.vm.findClass RX3 = some m.cls := hown
  have hl : lv_has ls 4 [(0, .ref o), (1, .int x1), (2, .int x2)] := hl
  have h := hf
  unfold fX3_value at h
  clear hf
  refine lv_iload_n hx hb dX3_value_0 rfl (lv_at hl 1 rfl) ?_
  refine lv_bipush (v := (6 : Int32)) hx hb dX3_value_1 (by decide) ?_
  refine lv_imul hx hb dX3_value_3 ?_
  refine lv_iload_n hx hb dX3_value_4 rfl (lv_at hl 2 rfl) ?_
  refine lv_iadd hx hb dX3_value_5 ?_
  obtain ⟨y1, e_y1, h⟩ := nm_s h
  refine top_i e_y1 ?_
  refine lv_istore_n (lv' := [(3, .int y1), (0, .ref o), (1, .int x1), (2, .int x2)]) hx hb dX3_value_6 rfl hl (by decide) rfl (fun ls hl => ?_)
  refine lv_iload_n hx hb dX3_value_7 rfl (lv_at hl 0 rfl) ?_
  refine lv_if_lt (tgt := 29) hx hb dX3_value_8 (by decide) (fun c2 => ?_) (fun c2 => ?_)
  · have h := ip_s h c2
    refine lv_iconst (v := (0 : Int32)) hx hb dX3_value_29 (by decide) ?_
    cases h
    exact hret 30 ls _ rfl dX3_value_30
  · have h := in_s h c2
    refine lv_iload_n hx hb dX3_value_11 rfl (lv_at hl 0 rfl) ?_
    refine lv_aload_n hx hb dX3_value_12 rfl (lv_at hl 1 rfl) ?_
    refine gtF (ci := 2) (v := .ref o_values) (C := RX3) (T := TX3) (N := 2) hx hb hts inX3_value_X3 hown hK hP 0 rfl rfl 1 (by decide) mwX3_value_0 rfl rfl dX3_value_13 ?_
    refine alI (v := (180 : Int32)) hx hb hK hP 1 0 rfl rfl rfl dX3_value_16 ?_
    refine lv_icmp_ge (tgt := 29) hx hb dX3_value_17 (by decide) (fun c3 => ?_) (fun c3 => ?_)
    · have h := ip_s h c3
      refine lv_iconst (v := (0 : Int32)) hx hb dX3_value_29 (by decide) ?_
      cases h
      exact hret 30 ls _ rfl dX3_value_30
    · have h := in_s h c3
      refine lv_aload_n hx hb dX3_value_20 rfl (lv_at hl 1 rfl) ?_
      refine gtF (ci := 2) (v := .ref o_values) (C := RX3) (T := TX3) (N := 2) hx hb hts inX3_value_X3 hown hK hP 0 rfl rfl 1 (by decide) mwX3_value_0 rfl rfl dX3_value_21 ?_
      refine lv_iload_n hx hb dX3_value_24 rfl (lv_at hl 0 rfl) ?_
      obtain ⟨hin, y4, e_y4, h⟩ := rd_s h
      refine ldI hx hb hK hP 1 rfl hin dX3_value_25 ?_
      refine top_i e_y4 ?_
      refine lv_goto (tgt := 30) hx hb dX3_value_26 (by decide) ?_
      cases h
      exact hret 30 ls _ rfl dX3_value_30
theorem mwX3_set_0 : Cond.fieldLink RX3 9 "SegmentTimes$Queries" "values" "[I" ∈ wsX3_set := List.mem_of_getElem? (i := 1) rfl
theorem inX3_set_X3 : ∀ w ∈ u_ws RX3 TX3 2, w ∈ wsX3_set := fun w h => List.mem_cons_of_mem _ (List.mem_append_right _ (h))
theorem kX3_set : yX3_set.cls = RX3 ∧ yX3_set.cls ≠ "java/lang/invoke/MethodHandle" ∧ yX3_set.cls ≠ "java/lang/invoke/VarHandle" ∧ (parseMethodDescriptor yX3_set.desc).map (fun d => d.parameters.length) = some 3 := by decide +kernel
set_option maxHeartbeats 4000000 in
set_option maxRecDepth 100000 in
theorem ctX3_set (l : Launch) (D : va_G) (ca : Nat → ClassId) (o : Nat) (o_values : Nat) (o_size : Int32) (o_values_d : Nat → Int32) (x1 : Int32) (x2 : Int32) (x3 : Int32) (sz : Nat) (u0 : Nat → Int32) (hf : fX3_set o_values_d x1 x2 x3 = some u0) : MW l yX3_set wsX3_set 0 0 D ca [.ref o, .int x1, .int x2, .int x3] sz [(o, .inr (2, [.int o_size, .ref o_values])), (o_values, .inl (ca 0, 180, .inl o_values_d))] none [(o, .inr (2, [.int o_size, .ref o_values])), (o_values, .inl (ca 0, 180, .inl u0))] := by
  refine hdWv (by decide +kernel) rfl (Nat.le_of_ble_eq_true rfl) rfl ?_
  intro p e s m args below meth c A Q hx hb hml hown hts hP hD hK hA hS hret ls hl
  have hown : s.vm.findClass RX3 = some m.cls := hown
  have hl : lv_has ls 5 [(0, .ref o), (1, .int x1), (2, .int x2), (3, .int x3)] := hl
  have h := hf
  unfold fX3_set at h
  clear hf
  refine lv_iload_n hx hb dX3_set_0 rfl (lv_at hl 1 rfl) ?_
  refine lv_bipush (v := (6 : Int32)) hx hb dX3_set_1 (by decide) ?_
  refine lv_imul hx hb dX3_set_3 ?_
  refine lv_iload_n hx hb dX3_set_4 rfl (lv_at hl 2 rfl) ?_
  refine lv_iadd hx hb dX3_set_5 ?_
  obtain ⟨y1, e_y1, h⟩ := nm_s h
  refine top_i e_y1 ?_
  refine lv_istore (lv' := [(4, .int y1), (0, .ref o), (1, .int x1), (2, .int x2), (3, .int x3)]) hx hb dX3_set_6 hl (by decide) rfl (fun ls hl => ?_)
  refine lv_iload hx hb dX3_set_8 (lv_at hl 0 rfl) ?_
  refine lv_if_lt (tgt := 31) hx hb dX3_set_10 (by decide) (fun c2 => ?_) (fun c2 => ?_)
  · have h := ip_s h c2
    cases h
    exact hret 31 ls _ _ hP hD hS rfl dX3_set_31
  · have h := in_s h c2
    refine lv_iload hx hb dX3_set_13 (lv_at hl 0 rfl) ?_
    refine lv_aload_n hx hb dX3_set_15 rfl (lv_at hl 1 rfl) ?_
    refine gtF (ci := 2) (v := .ref o_values) (C := RX3) (T := TX3) (N := 2) hx hb hts inX3_set_X3 hown hK hP 0 rfl rfl 1 (by decide) mwX3_set_0 rfl rfl dX3_set_16 ?_
    refine alI (v := (180 : Int32)) hx hb hK hP 1 0 rfl rfl rfl dX3_set_19 ?_
    refine lv_icmp_ge (tgt := 31) hx hb dX3_set_20 (by decide) (fun c3 => ?_) (fun c3 => ?_)
    · have h := ip_s h c3
      cases h
      exact hret 31 ls _ _ hP hD hS rfl dX3_set_31
    · have h := in_s h c3
      refine lv_aload_n hx hb dX3_set_23 rfl (lv_at hl 1 rfl) ?_
      refine gtF (ci := 2) (v := .ref o_values) (C := RX3) (T := TX3) (N := 2) hx hb hts inX3_set_X3 hown hK hP 0 rfl rfl 1 (by decide) mwX3_set_0 rfl rfl dX3_set_24 ?_
      refine lv_iload hx hb dX3_set_27 (lv_at hl 0 rfl) ?_
      refine lv_iload_n hx hb dX3_set_29 rfl (lv_at hl 4 rfl) ?_
      obtain ⟨hin, g4, e_g4, h⟩ := wr_s h
      refine stI (wn := [(o, .inr (2, [.int o_size, .ref o_values])), (o_values, .inl (ca 0, 180, .inl g4))]) hx hb hK hP hD hS 1 rfl hin e_g4 rfl dX3_set_30 (fun H locs hP hD hS => ?_)
      cases h
      exact hret 31 ls _ _ hP hD hS rfl dX3_set_31
theorem mwX3_insert_0 : Cond.fieldLink RX3 15 "SegmentTimes$Queries" "size" "I" ∈ wsX3_insert := List.mem_of_getElem? (i := 1) rfl
theorem inX3_insert_X3 : ∀ w ∈ u_ws RX3 TX3 2, w ∈ wsX3_insert := fun w h => List.mem_cons_of_mem _ (List.mem_append_right _ (h))
theorem kX3_insert : yX3_insert.cls = RX3 ∧ yX3_insert.cls ≠ "java/lang/invoke/MethodHandle" ∧ yX3_insert.cls ≠ "java/lang/invoke/VarHandle" ∧ (parseMethodDescriptor yX3_insert.desc).map (fun d => d.parameters.length) = some 2 := by decide +kernel
set_option maxHeartbeats 4000000 in
set_option maxRecDepth 100000 in
theorem ctX3_insert (l : Launch) (D : va_G) (ca : Nat → ClassId) (o : Nat) (o_values : Nat) (o_size : Int32) (o_values_d : Nat → Int32) (x1 : Int32) (x2 : Int32) (sz : Nat) (u0 : Int32) (u1 : Int32) (u2 : Nat → Int32) (hf : fX3_insert o_size o_values_d x1 x2 = some (u0, u1, u2)) : MW l yX3_insert wsX3_insert 1 24 D ca [.ref o, .int x1, .int x2] sz [(o, .inr (2, [.int o_size, .ref o_values])), (o_values, .inl (ca 0, 180, .inl o_values_d))] (some (.int u0)) [(o, .inr (2, [.int u1, .ref o_values])), (o_values, .inl (ca 0, 180, .inl u2))] := by
  refine hdWi (by decide +kernel) rfl (Nat.le_of_ble_eq_true rfl) ?_
  intro p e s m args below meth c A Q hx hb hml hown hts hP hD hK hA hS hret ls hl
  have hown : s.vm.findClass RX3 = some m.cls := hown
  have hl : lv_has ls 4 [(0, .ref o), (1, .int x1), (2, .int x2)] := hl
  have h := hf
  unfold fX3_insert at h
  clear hf
  refine lv_aload_n hx hb dX3_insert_0 rfl (lv_at hl 0 rfl) ?_
  refine gtF (ci := 2) (v := .int o_size) (C := RX3) (T := TX3) (N := 2) hx hb hts inX3_insert_X3 hown hK hP 0 rfl rfl 0 (by decide) mwX3_insert_0 rfl rfl dX3_insert_1 ?_
  refine lv_istore_n (lv' := [(3, .int o_size), (0, .ref o), (1, .int x1), (2, .int x2)]) hx hb dX3_insert_4 rfl hl (by decide) rfl (fun ls hl => ?_)
  refine lv_aload_n hx hb dX3_insert_5 rfl (lv_at hl 1 rfl) ?_
  refine lv_iload_n hx hb dX3_insert_6 rfl (lv_at hl 0 rfl) ?_
  refine lv_iconst (v := (0 : Int32)) hx hb dX3_insert_7 (by decide) ?_
  refine lv_iload_n hx hb dX3_insert_8 rfl (lv_at hl 2 rfl) ?_
  obtain ⟨r1, h_r1, h⟩ := bd_s h
  refine clVW (As := [.int o_size, .int (0 : Int32), .int x1]) (rest := []) (wr := []) (wn := [(o, .inr (2, [.int o_size, .ref o_values])), (o_values, .inl (ca 0, 180, .inl r1))]) hx hb hml hown hts gX3_insert_X3_set rfl 3 kX3_set ⟨Nat.le_of_ble_eq_true rfl, Nat.le_of_ble_eq_true rfl⟩ (ctX3_set l D ca o o_values o_size o_values_d o_size (0 : Int32) x1 _ r1 h_r1) hP hD hS hA hK [0, 1] [] rfl (by decide) rfl (by decide) (by decide) 0 2 rfl rfl rfl rfl hl.1 rfl (Nat.le_of_ble_eq_true rfl) ⟨Nat.le_of_ble_eq_true rfl, Nat.le_of_ble_eq_true rfl⟩ dX3_insert_9 rfl rfl (fun H locs hP hD hS => ?_)
  refine lv_aload_n hx hb dX3_insert_12 rfl (lv_at hl 1 rfl) ?_
  refine lv_iload_n hx hb dX3_insert_13 rfl (lv_at hl 0 rfl) ?_
  refine lv_iconst (v := (1 : Int32)) hx hb dX3_insert_14 (by decide) ?_
  refine lv_iload_n hx hb dX3_insert_15 rfl (lv_at hl 3 rfl) ?_
  obtain ⟨r2, h_r2, h⟩ := bd_s h
  refine clVW (As := [.int o_size, .int (1 : Int32), .int x2]) (rest := []) (wr := []) (wn := [(o, .inr (2, [.int o_size, .ref o_values])), (o_values, .inl (ca 0, 180, .inl r2))]) hx hb hml hown hts gX3_insert_X3_set rfl 3 kX3_set ⟨Nat.le_of_ble_eq_true rfl, Nat.le_of_ble_eq_true rfl⟩ (ctX3_set l D ca o o_values o_size r1 o_size (1 : Int32) x2 _ r2 h_r2) hP hD hS hA hK [0, 1] [] rfl (by decide) rfl (by decide) (by decide) 0 2 rfl rfl rfl rfl hl.1 rfl (Nat.le_of_ble_eq_true rfl) ⟨Nat.le_of_ble_eq_true rfl, Nat.le_of_ble_eq_true rfl⟩ dX3_insert_16 rfl rfl (fun H locs hP hD hS => ?_)
  refine lv_aload_n hx hb dX3_insert_19 rfl (lv_at hl 1 rfl) ?_
  refine lv_iload_n hx hb dX3_insert_20 rfl (lv_at hl 0 rfl) ?_
  refine lv_iconst (v := (2 : Int32)) hx hb dX3_insert_21 (by decide) ?_
  refine lv_iconst (v := (0 : Int32)) hx hb dX3_insert_22 (by decide) ?_
  obtain ⟨r3, h_r3, h⟩ := bd_s h
  refine clVW (As := [.int o_size, .int (2 : Int32), .int (0 : Int32)]) (rest := []) (wr := []) (wn := [(o, .inr (2, [.int o_size, .ref o_values])), (o_values, .inl (ca 0, 180, .inl r3))]) hx hb hml hown hts gX3_insert_X3_set rfl 3 kX3_set ⟨Nat.le_of_ble_eq_true rfl, Nat.le_of_ble_eq_true rfl⟩ (ctX3_set l D ca o o_values o_size r2 o_size (2 : Int32) (0 : Int32) _ r3 h_r3) hP hD hS hA hK [0, 1] [] rfl (by decide) rfl (by decide) (by decide) 0 2 rfl rfl rfl rfl hl.1 rfl (Nat.le_of_ble_eq_true rfl) ⟨Nat.le_of_ble_eq_true rfl, Nat.le_of_ble_eq_true rfl⟩ dX3_insert_23 rfl rfl (fun H locs hP hD hS => ?_)
  refine lv_aload_n hx hb dX3_insert_26 rfl (lv_at hl 1 rfl) ?_
  refine lv_dup hx hb dX3_insert_27 rfl ?_
  refine gtF (ci := 2) (v := .int o_size) (C := RX3) (T := TX3) (N := 2) hx hb hts inX3_insert_X3 hown hK hP 0 rfl rfl 0 (by decide) mwX3_insert_0 rfl rfl dX3_insert_28 ?_
  refine lv_iconst (v := (1 : Int32)) hx hb dX3_insert_31 (by decide) ?_
  refine lv_iadd hx hb dX3_insert_32 ?_
  obtain ⟨y4, e_y4, h⟩ := nm_s h
  refine top_i e_y4 ?_
  refine ptI (ci := 2) (v := .int y4) (ty := .int) (C := RX3) (T := TX3) (N := 2) (wn := [(o, .inr (2, [.int y4, .ref o_values])), (o_values, .inl (ca 0, 180, .inl r3))]) hx hb hts inX3_insert_X3 tyX3 tyX3_ok nmX3 hown hK hP hD hS 0 rfl rfl 0 (by decide) mwX3_insert_0 rfl rfl (by decide +kernel) rfl rfl (Nat.le_of_ble_eq_true rfl) rfl dX3_insert_33 (fun H locs hP hD hS => ?_)
  refine lv_iload_n hx hb dX3_insert_36 rfl (lv_at hl 0 rfl) ?_
  cases h
  exact hret 37 ls _ _ _ hP hD hS rfl dX3_insert_37
theorem mwX3_removeAll_0 : Cond.fieldLink RX3 15 "SegmentTimes$Queries" "size" "I" ∈ wsX3_removeAll := List.mem_of_getElem? (i := 1) rfl
theorem inX3_removeAll_X3 : ∀ w ∈ u_ws RX3 TX3 2, w ∈ wsX3_removeAll := fun w h => List.mem_cons_of_mem _ (List.mem_append_right _ (h))
theorem kX3_removeAll : yX3_removeAll.cls = RX3 ∧ yX3_removeAll.cls ≠ "java/lang/invoke/MethodHandle" ∧ yX3_removeAll.cls ≠ "java/lang/invoke/VarHandle" ∧ (parseMethodDescriptor yX3_removeAll.desc).map (fun d => d.parameters.length) = some 0 := by decide +kernel
set_option maxHeartbeats 4000000 in
set_option maxRecDepth 100000 in
theorem ctX3_removeAll (l : Launch) (D : va_G) (ca : Nat → ClassId) (o : Nat) (o_values : Nat) (o_size : Int32)  (sz : Nat) (u0 : Int32) (u1 : Int32) (hf : fX3_removeAll o_size = some (u0, u1)) : MW l yX3_removeAll wsX3_removeAll 0 0 D ca [.ref o] sz [(o, .inr (2, [.int o_size, .ref o_values]))] (some (.int u0)) [(o, .inr (2, [.int u1, .ref o_values]))] := by
  refine hdWi (by decide +kernel) rfl (Nat.le_of_ble_eq_true rfl) ?_
  intro p e s m args below meth c A Q hx hb hml hown hts hP hD hK hA hS hret ls hl
  have hown : s.vm.findClass RX3 = some m.cls := hown
  have hl : lv_has ls 2 [(0, .ref o)] := hl
  have h := hf
  unfold fX3_removeAll at h
  clear hf
  refine lv_aload_n hx hb dX3_removeAll_0 rfl (lv_at hl 0 rfl) ?_
  refine gtF (ci := 2) (v := .int o_size) (C := RX3) (T := TX3) (N := 2) hx hb hts inX3_removeAll_X3 hown hK hP 0 rfl rfl 0 (by decide) mwX3_removeAll_0 rfl rfl dX3_removeAll_1 ?_
  refine lv_istore_n (lv' := [(1, .int o_size), (0, .ref o)]) hx hb dX3_removeAll_4 rfl hl (by decide) rfl (fun ls hl => ?_)
  refine lv_aload_n hx hb dX3_removeAll_5 rfl (lv_at hl 1 rfl) ?_
  refine lv_iconst (v := (0 : Int32)) hx hb dX3_removeAll_6 (by decide) ?_
  refine ptI (ci := 2) (v := .int (0 : Int32)) (ty := .int) (C := RX3) (T := TX3) (N := 2) (wn := [(o, .inr (2, [.int (0 : Int32), .ref o_values]))]) hx hb hts inX3_removeAll_X3 tyX3 tyX3_ok nmX3 hown hK hP hD hS 0 rfl rfl 0 (by decide) mwX3_removeAll_0 rfl rfl (by decide +kernel) rfl rfl (Nat.le_of_ble_eq_true rfl) rfl dX3_removeAll_7 (fun H locs hP hD hS => ?_)
  refine lv_iload_n hx hb dX3_removeAll_10 rfl (lv_at hl 0 rfl) ?_
  cases h
  exact hret 11 ls _ _ _ hP hD hS rfl dX3_removeAll_11
theorem mwX3_answerAll_0 : Cond.fieldLink RX3 15 "SegmentTimes$Queries" "size" "I" ∈ wsX3_answerAll := List.mem_of_getElem? (i := 1) rfl
theorem mwX3_answerAll_1 : Cond.constantLong RX3 51 (9223372036854775807) ∈ wsX3_answerAll := List.mem_of_getElem? (i := 2) rfl
theorem inX3_answerAll_X3 : ∀ w ∈ u_ws RX3 TX3 2, w ∈ wsX3_answerAll := fun w h => List.mem_cons_of_mem _ (List.mem_append_left _ (List.mem_append_right _ (h)))
theorem kX3_answerAll : yX3_answerAll.cls = RX3 ∧ yX3_answerAll.cls ≠ "java/lang/invoke/MethodHandle" ∧ yX3_answerAll.cls ≠ "java/lang/invoke/VarHandle" ∧ (parseMethodDescriptor yX3_answerAll.desc).map (fun d => d.parameters.length) = some 1 := by decide +kernel
set_option maxHeartbeats 4000000 in
set_option maxRecDepth 100000 in
theorem ctX3_answerAll (l : Launch) (D : va_G) (ca : Nat → ClassId) (o : Nat) (o_values : Nat) (p1 : Nat) (p1_values : Nat) (o_size : Int32) (o_values_d : Nat → Int32) (p1_now : Int32) (p1_size : Int32) (p1_values_d : Nat → Int32)  (sz : Nat) (u0 : Int32) (u1 : Nat → Int32) (hf : fX3_answerAll o_size o_values_d p1_size p1_values_d = some (u0, u1)) : MW l yX3_answerAll wsX3_answerAll 4 94 D ca [.ref o, .ref p1] sz [(o, .inr (2, [.int o_size, .ref o_values])), (o_values, .inl (ca 0, 180, .inl o_values_d)), (p1, .inr (5, [.int p1_now, .int p1_size, .ref p1_values])), (p1_values, .inl (ca 0, 240, .inl p1_values_d))] (some (.int u0)) [(o, .inr (2, [.int o_size, .ref o_values])), (o_values, .inl (ca 0, 180, .inl u1)), (p1, .inr (5, [.int p1_now, .int p1_size, .ref p1_values])), (p1_values, .inl (ca 0, 240, .inl p1_values_d))] := by
  refine hdWi (by decide +kernel) rfl (Nat.le_of_ble_eq_true rfl) ?_
  intro p e s m args below meth c A Q hx hb hml hown hts hP hD hK hA hS hret ls hl
  have hown : s.vm.findClass RX3 = some m.cls := hown
  have hl : lv_has ls 7 [(0, .ref o), (1, .ref p1)] := hl
  have h := hf
  unfold fX3_answerAll at h
  clear hf
  have L4 : ∀  (n : Nat) (l2 : Int32) (l3 : Int32) (w_o_values_d : Nat → Int32), lp (fun q => bX3_answerAll_4 o_size p1_size p1_values_d  q.1 q.2.1 q.2.2) n (l2, l3, w_o_values_d) = some (u0, u1) → ∀ (H : Heap) (locs : List Loc), va_P D vwCl [(o, .inr (2, [.int o_size, .ref o_values])), (o_values, .inl (ca 0, 180, .inl w_o_values_d)), (p1, .inr (5, [.int p1_now, .int p1_size, .ref p1_values])), (p1_values, .inl (ca 0, 240, .inl p1_values_d))] H → va_D A [(o, .inr (2, [.int o_size, .ref o_values])), (o_values, .inl (ca 0, 180, .inl w_o_values_d)), (p1, .inr (5, [.int p1_now, .int p1_size, .ref p1_values])), (p1_values, .inl (ca 0, 240, .inl p1_values_d))] → va_S A s.heap H locs → ∀ ls, lv_has ls 7 [(0, .ref o), (1, .ref p1), (2, .int l2), (3, .int l3)] → W p l e ({ frames := 4, cells := 0, slots := 0, locals := 94 }) s m args below meth c H locs 0 0 Q (F0 m 4 ls []) := by
    intro  n
    induction n with
    | zero => intro l2 l3 w_o_values_d h; exact (lp_0 h).elim
    | succ n ih4 =>
      intro l2 l3 w_o_values_d h H locs hP hD hS ls hl
      obtain ⟨q4, h, hq4⟩ := lp_s h
      have h : bX3_answerAll_4 o_size p1_size p1_values_d  l2 l3 w_o_values_d = some q4 := h
      unfold bX3_answerAll_4 at h
      have J66 : ∀ (l2 : Int32) (l3 : Int32) (l4 : Int32) (l5 : Int32) (l6 : Int32) (s1 : Int32) (s2 : Int32) (s3 : Int32) (w_o_values_d : Nat → Int32), jX3_answerAll_66 p1_size p1_values_d l2 l3 l4 l5 l6 s1 s2 s3 w_o_values_d = some q4 → ∀ (H : Heap) (locs : List Loc), va_P D vwCl [(o, .inr (2, [.int o_size, .ref o_values])), (o_values, .inl (ca 0, 180, .inl w_o_values_d)), (p1, .inr (5, [.int p1_now, .int p1_size, .ref p1_values])), (p1_values, .inl (ca 0, 240, .inl p1_values_d))] H → va_D A [(o, .inr (2, [.int o_size, .ref o_values])), (o_values, .inl (ca 0, 180, .inl w_o_values_d)), (p1, .inr (5, [.int p1_now, .int p1_size, .ref p1_values])), (p1_values, .inl (ca 0, 240, .inl p1_values_d))] → va_S A s.heap H locs → ∀ ls, lv_has ls 7 [(0, .ref o), (1, .ref p1), (2, .int l2), (3, .int l3), (4, .int l4), (5, .int l5), (6, .int l6)] → W p l e ({ frames := 4, cells := 0, slots := 0, locals := 94 }) s m args below meth c H locs 0 0 Q (F0 m 66 ls [.int s3, .int s2, .int s1, .ref o]) := by
        intro l2 l3 l4 l5 l6 s1 s2 s3 w_o_values_d h H locs hP hD hS ls hl
        unfold jX3_answerAll_66 at h
        obtain ⟨r1, h_r1, h⟩ := bd_s h
        refine clVW (As := [.int s1, .int s2, .int s3]) (rest := []) (wr := [(p1, .inr (5, [.int p1_now, .int p1_size, .ref p1_values])), (p1_values, .inl (ca 0, 240, .inl p1_values_d))]) (wn := [(p1, .inr (5, [.int p1_now, .int p1_size, .ref p1_values])), (p1_values, .inl (ca 0, 240, .inl p1_values_d)), (o, .inr (2, [.int o_size, .ref o_values])), (o_values, .inl (ca 0, 180, .inl r1))]) hx hb hml hown hts gX3_answerAll_X3_set rfl 3 kX3_set ⟨Nat.le_of_ble_eq_true rfl, Nat.le_of_ble_eq_true rfl⟩ (ctX3_set l D ca o o_values o_size w_o_values_d s1 s2 s3 _ r1 h_r1) hP hD hS hA hK [0, 1] [2, 3] rfl (by decide) rfl (by decide) (by decide) 0 2 rfl rfl rfl rfl hl.1 rfl (Nat.le_of_ble_eq_true rfl) ⟨Nat.le_of_ble_eq_true rfl, Nat.le_of_ble_eq_true rfl⟩ dX3_answerAll_66 rfl rfl (fun H locs hP hD hS => ?_)
        refine lv_aload_n hx hb dX3_answerAll_69 rfl (lv_at hl 0 rfl) ?_
        refine lv_iload_n hx hb dX3_answerAll_70 rfl (lv_at hl 3 rfl) ?_
        refine lv_iconst (v := (4 : Int32)) hx hb dX3_answerAll_71 (by decide) ?_
        refine lv_iload hx hb dX3_answerAll_72 (lv_at hl 6 rfl) ?_
        obtain ⟨r2, h_r2, h⟩ := bd_s h
        refine clVW (As := [.int l3, .int (4 : Int32), .int l6]) (rest := []) (wr := [(p1, .inr (5, [.int p1_now, .int p1_size, .ref p1_values])), (p1_values, .inl (ca 0, 240, .inl p1_values_d))]) (wn := [(p1, .inr (5, [.int p1_now, .int p1_size, .ref p1_values])), (p1_values, .inl (ca 0, 240, .inl p1_values_d)), (o, .inr (2, [.int o_size, .ref o_values])), (o_values, .inl (ca 0, 180, .inl r2))]) hx hb hml hown hts gX3_answerAll_X3_set rfl 3 kX3_set ⟨Nat.le_of_ble_eq_true rfl, Nat.le_of_ble_eq_true rfl⟩ (ctX3_set l D ca o o_values o_size r1 l3 (4 : Int32) l6 _ r2 h_r2) hP hD hS hA hK [2, 3] [0, 1] rfl (by decide) rfl (by decide) (by decide) 0 2 rfl rfl rfl rfl hl.1 rfl (Nat.le_of_ble_eq_true rfl) ⟨Nat.le_of_ble_eq_true rfl, Nat.le_of_ble_eq_true rfl⟩ dX3_answerAll_74 rfl rfl (fun H locs hP hD hS => ?_)
        refine lv_aload_n hx hb dX3_answerAll_77 rfl (lv_at hl 0 rfl) ?_
        refine lv_iload_n hx hb dX3_answerAll_78 rfl (lv_at hl 3 rfl) ?_
        refine lv_iconst (v := (5 : Int32)) hx hb dX3_answerAll_79 (by decide) ?_
        refine lv_aload_n hx hb dX3_answerAll_80 rfl (lv_at hl 1 rfl) ?_
        refine lv_iload hx hb dX3_answerAll_81 (lv_at hl 4 rfl) ?_
        refine lv_iload hx hb dX3_answerAll_83 (lv_at hl 5 rfl) ?_
        refine lv_ldc2 (v := (9223372036854775807 : Int64)) hx hb hown (hts _ mwX3_answerAll_1) dX3_answerAll_85 ?_
        obtain ⟨r3, h_r3, h⟩ := bd_s h
        refine clVR (As := [.int l4, .int l5, .long (9223372036854775807 : Int64)]) (rest := [.int (5 : Int32), .int l3, .ref o]) hx hb hml hown hts gX3_answerAll_X6_countBelow rfl 3 kX6_countBelow ⟨Nat.le_of_ble_eq_true rfl, Nat.le_of_ble_eq_true rfl⟩ (ctX6_countBelow l D ca p1 p1_values p1_now p1_size p1_values_d l4 l5 (9223372036854775807 : Int64) r3 h_r3) hP hK [0, 1] rfl 0 5 rfl rfl rfl rfl hl.1 rfl (Nat.le_of_ble_eq_true rfl) ⟨Nat.le_of_ble_eq_true rfl, Nat.le_of_ble_eq_true rfl⟩ dX3_answerAll_88 rfl ?_
        obtain ⟨r4, h_r4, h⟩ := bd_s h
        refine clVW (As := [.int l3, .int (5 : Int32), .int r3]) (rest := []) (wr := [(p1, .inr (5, [.int p1_now, .int p1_size, .ref p1_values])), (p1_values, .inl (ca 0, 240, .inl p1_values_d))]) (wn := [(p1, .inr (5, [.int p1_now, .int p1_size, .ref p1_values])), (p1_values, .inl (ca 0, 240, .inl p1_values_d)), (o, .inr (2, [.int o_size, .ref o_values])), (o_values, .inl (ca 0, 180, .inl r4))]) hx hb hml hown hts gX3_answerAll_X3_set rfl 3 kX3_set ⟨Nat.le_of_ble_eq_true rfl, Nat.le_of_ble_eq_true rfl⟩ (ctX3_set l D ca o o_values o_size r2 l3 (5 : Int32) r3 _ r4 h_r4) hP hD hS hA hK [2, 3] [0, 1] rfl (by decide) rfl (by decide) (by decide) 0 2 rfl rfl rfl rfl hl.1 rfl (Nat.le_of_ble_eq_true rfl) ⟨Nat.le_of_ble_eq_true rfl, Nat.le_of_ble_eq_true rfl⟩ dX3_answerAll_91 rfl rfl (fun H locs hP hD hS => ?_)
        refine lv_iload hx hb dX3_answerAll_94 (lv_at hl 6 rfl) ?_
        refine lv_iconst (v := (-1 : Int32)) hx hb dX3_answerAll_96 (by decide) ?_
        refine lv_icmp_eq (tgt := 103) hx hb dX3_answerAll_97 (by decide) (fun c5 => ?_) (fun c5 => ?_)
        · have h := ip_s h c5
          obtain ⟨y6, e_y6, h⟩ := nm_s h
          refine lv_iinc (v := y6) (lv' := [(3, .int y6), (0, .ref o), (1, .ref p1), (2, .int l2), (4, .int l4), (5, .int l5), (6, .int l6)]) hx hb dX3_answerAll_103 hl (k := 3) rfl (by rw [e_y6]; rfl) (by decide) rfl (fun ls hl => ?_)
          refine lv_goto (tgt := 4) hx hb dX3_answerAll_106 (by decide) ?_
          have hP := hP.sub (ws' := [(o, .inr (2, [.int o_size, .ref o_values])), (o_values, .inl (ca 0, 180, .inl r4)), (p1, .inr (5, [.int p1_now, .int p1_size, .ref p1_values])), (p1_values, .inl (ca 0, 240, .inl p1_values_d))]) [2, 3, 0, 1] rfl
          have hD := hD.sub (ws' := [(o, .inr (2, [.int o_size, .ref o_values])), (o_values, .inl (ca 0, 180, .inl r4)), (p1, .inr (5, [.int p1_now, .int p1_size, .ref p1_values])), (p1_values, .inl (ca 0, 240, .inl p1_values_d))]) [2, 3, 0, 1] (by decide) rfl
          exact ih4 l2 y6 r4 (lp_l hq4 h) _ _ hP hD hS ls (lv_sub hl [1, 2, 3, 0] rfl)
        · have h := in_s h c5
          obtain ⟨y7, e_y7, h⟩ := nm_s h
          refine lv_iinc (v := y7) (lv' := [(2, .int y7), (0, .ref o), (1, .ref p1), (3, .int l3), (4, .int l4), (5, .int l5), (6, .int l6)]) hx hb dX3_answerAll_100 hl (k := 2) rfl (by rw [e_y7]; rfl) (by decide) rfl (fun ls hl => ?_)
          obtain ⟨y8, e_y8, h⟩ := nm_s h
          refine lv_iinc (v := y8) (lv' := [(3, .int y8), (2, .int y7), (0, .ref o), (1, .ref p1), (4, .int l4), (5, .int l5), (6, .int l6)]) hx hb dX3_answerAll_103 hl (k := 3) rfl (by rw [e_y8]; rfl) (by decide) rfl (fun ls hl => ?_)
          refine lv_goto (tgt := 4) hx hb dX3_answerAll_106 (by decide) ?_
          have hP := hP.sub (ws' := [(o, .inr (2, [.int o_size, .ref o_values])), (o_values, .inl (ca 0, 180, .inl r4)), (p1, .inr (5, [.int p1_now, .int p1_size, .ref p1_values])), (p1_values, .inl (ca 0, 240, .inl p1_values_d))]) [2, 3, 0, 1] rfl
          have hD := hD.sub (ws' := [(o, .inr (2, [.int o_size, .ref o_values])), (o_values, .inl (ca 0, 180, .inl r4)), (p1, .inr (5, [.int p1_now, .int p1_size, .ref p1_values])), (p1_values, .inl (ca 0, 240, .inl p1_values_d))]) [2, 3, 0, 1] (by decide) rfl
          exact ih4 y7 y8 r4 (lp_l hq4 h) _ _ hP hD hS ls (lv_sub hl [2, 3, 1, 0] rfl)
      refine lv_iload_n hx hb dX3_answerAll_4 rfl (lv_at hl 3 rfl) ?_
      refine lv_aload_n hx hb dX3_answerAll_5 rfl (lv_at hl 0 rfl) ?_
      refine gtF (ci := 2) (v := .int o_size) (C := RX3) (T := TX3) (N := 2) hx hb hts inX3_answerAll_X3 hown hK hP 0 rfl rfl 0 (by decide) mwX3_answerAll_0 rfl rfl dX3_answerAll_6 ?_
      refine lv_icmp_ge (tgt := 109) hx hb dX3_answerAll_9 (by decide) (fun c1 => ?_) (fun c1 => ?_)
      · have h := ip_s h c1
        have h := xt_s hq4 h
        refine lv_iload_n hx hb dX3_answerAll_109 rfl (lv_at hl 2 rfl) ?_
        cases h
        exact hret 110 ls _ _ _ hP hD hS rfl dX3_answerAll_110
      · have h := in_s h c1
        refine lv_aload_n hx hb dX3_answerAll_12 rfl (lv_at hl 0 rfl) ?_
        refine lv_iload_n hx hb dX3_answerAll_13 rfl (lv_at hl 3 rfl) ?_
        refine lv_iconst (v := (0 : Int32)) hx hb dX3_answerAll_14 (by decide) ?_
        obtain ⟨r2, h_r2, h⟩ := bd_s h
        refine clVR (As := [.int l3, .int (0 : Int32)]) (rest := []) hx hb hml hown hts gX3_answerAll_X3_value rfl 2 kX3_value ⟨Nat.le_of_ble_eq_true rfl, Nat.le_of_ble_eq_true rfl⟩ (ctX3_value l D ca o o_values o_size w_o_values_d l3 (0 : Int32) r2 h_r2) hP hK [0, 1] rfl 0 2 rfl rfl rfl rfl hl.1 rfl (Nat.le_of_ble_eq_true rfl) ⟨Nat.le_of_ble_eq_true rfl, Nat.le_of_ble_eq_true rfl⟩ dX3_answerAll_15 rfl ?_
        refine lv_istore (lv' := [(4, .int r2), (0, .ref o), (1, .ref p1), (2, .int l2), (3, .int l3)]) hx hb dX3_answerAll_18 hl (by decide) rfl (fun ls hl => ?_)
        refine lv_aload_n hx hb dX3_answerAll_20 rfl (lv_at hl 1 rfl) ?_
        refine lv_iload_n hx hb dX3_answerAll_21 rfl (lv_at hl 4 rfl) ?_
        refine lv_iconst (v := (1 : Int32)) hx hb dX3_answerAll_22 (by decide) ?_
        obtain ⟨r3, h_r3, h⟩ := bd_s h
        refine clVR (As := [.int l3, .int (1 : Int32)]) (rest := []) hx hb hml hown hts gX3_answerAll_X3_value rfl 2 kX3_value ⟨Nat.le_of_ble_eq_true rfl, Nat.le_of_ble_eq_true rfl⟩ (ctX3_value l D ca o o_values o_size w_o_values_d l3 (1 : Int32) r3 h_r3) hP hK [0, 1] rfl 0 2 rfl rfl rfl rfl hl.1 rfl (Nat.le_of_ble_eq_true rfl) ⟨Nat.le_of_ble_eq_true rfl, Nat.le_of_ble_eq_true rfl⟩ dX3_answerAll_23 rfl ?_
        refine lv_istore (lv' := [(5, .int r3), (4, .int r2), (0, .ref o), (1, .ref p1), (2, .int l2), (3, .int l3)]) hx hb dX3_answerAll_26 hl (by decide) rfl (fun ls hl => ?_)
        refine lv_aload_n hx hb dX3_answerAll_28 rfl (lv_at hl 3 rfl) ?_
        refine lv_iload hx hb dX3_answerAll_29 (lv_at hl 1 rfl) ?_
        refine lv_iload hx hb dX3_answerAll_31 (lv_at hl 0 rfl) ?_
        obtain ⟨r4, h_r4, h⟩ := bd_s h
        refine clVR (As := [.int r2, .int r3]) (rest := []) hx hb hml hown hts gX3_answerAll_X6_firstAt rfl 2 kX6_firstAt ⟨Nat.le_of_ble_eq_true rfl, Nat.le_of_ble_eq_true rfl⟩ (ctX6_firstAt l D ca p1 p1_values p1_now p1_size p1_values_d r2 r3 r4 h_r4) hP hK [2, 3] rfl 0 5 rfl rfl rfl rfl hl.1 rfl (Nat.le_of_ble_eq_true rfl) ⟨Nat.le_of_ble_eq_true rfl, Nat.le_of_ble_eq_true rfl⟩ dX3_answerAll_33 rfl ?_
        refine lv_istore (lv' := [(6, .int r4), (5, .int r3), (4, .int r2), (0, .ref o), (1, .ref p1), (2, .int l2), (3, .int l3)]) hx hb dX3_answerAll_36 hl (by decide) rfl (fun ls hl => ?_)
        refine lv_aload_n hx hb dX3_answerAll_38 rfl (lv_at hl 3 rfl) ?_
        refine lv_iload_n hx hb dX3_answerAll_39 rfl (lv_at hl 6 rfl) ?_
        refine lv_iconst (v := (2 : Int32)) hx hb dX3_answerAll_40 (by decide) ?_
        refine lv_iconst (v := (1 : Int32)) hx hb dX3_answerAll_41 (by decide) ?_
        obtain ⟨r5, h_r5, h⟩ := bd_s h
        refine clVW (As := [.int l3, .int (2 : Int32), .int (1 : Int32)]) (rest := []) (wr := [(p1, .inr (5, [.int p1_now, .int p1_size, .ref p1_values])), (p1_values, .inl (ca 0, 240, .inl p1_values_d))]) (wn := [(p1, .inr (5, [.int p1_now, .int p1_size, .ref p1_values])), (p1_values, .inl (ca 0, 240, .inl p1_values_d)), (o, .inr (2, [.int o_size, .ref o_values])), (o_values, .inl (ca 0, 180, .inl r5))]) hx hb hml hown hts gX3_answerAll_X3_set rfl 3 kX3_set ⟨Nat.le_of_ble_eq_true rfl, Nat.le_of_ble_eq_true rfl⟩ (ctX3_set l D ca o o_values o_size w_o_values_d l3 (2 : Int32) (1 : Int32) _ r5 h_r5) hP hD hS hA hK [0, 1] [2, 3] rfl (by decide) rfl (by decide) (by decide) 0 2 rfl rfl rfl rfl hl.1 rfl (Nat.le_of_ble_eq_true rfl) ⟨Nat.le_of_ble_eq_true rfl, Nat.le_of_ble_eq_true rfl⟩ dX3_answerAll_42 rfl rfl (fun H locs hP hD hS => ?_)
        refine lv_aload_n hx hb dX3_answerAll_45 rfl (lv_at hl 3 rfl) ?_
        refine lv_iload_n hx hb dX3_answerAll_46 rfl (lv_at hl 6 rfl) ?_
        refine lv_iconst (v := (3 : Int32)) hx hb dX3_answerAll_47 (by decide) ?_
        refine lv_iload hx hb dX3_answerAll_48 (lv_at hl 0 rfl) ?_
        refine lv_iconst (v := (-1 : Int32)) hx hb dX3_answerAll_50 (by decide) ?_
        refine lv_icmp_ne (tgt := 58) hx hb dX3_answerAll_51 (by decide) (fun c6 => ?_) (fun c6 => ?_)
        · have h := in_s h c6
          refine lv_aload_n hx hb dX3_answerAll_58 rfl (lv_at hl 4 rfl) ?_
          refine lv_iload hx hb dX3_answerAll_59 (lv_at hl 0 rfl) ?_
          refine lv_iload hx hb dX3_answerAll_61 (lv_at hl 2 rfl) ?_
          obtain ⟨r7, h_r7, h⟩ := bd_s h
          refine clVR (As := [.int r4, .int r2]) (rest := [.int (3 : Int32), .int l3, .ref o]) hx hb hml hown hts gX3_answerAll_X6_height rfl 2 kX6_height ⟨Nat.le_of_ble_eq_true rfl, Nat.le_of_ble_eq_true rfl⟩ (ctX6_height l D ca p1 p1_values p1_now p1_size p1_values_d r4 r2 r7 h_r7) hP hK [0, 1] rfl 0 5 rfl rfl rfl rfl hl.1 rfl (Nat.le_of_ble_eq_true rfl) ⟨Nat.le_of_ble_eq_true rfl, Nat.le_of_ble_eq_true rfl⟩ dX3_answerAll_63 rfl ?_
          have hP := hP.sub (ws' := [(o, .inr (2, [.int o_size, .ref o_values])), (o_values, .inl (ca 0, 180, .inl r5)), (p1, .inr (5, [.int p1_now, .int p1_size, .ref p1_values])), (p1_values, .inl (ca 0, 240, .inl p1_values_d))]) [2, 3, 0, 1] rfl
          have hD := hD.sub (ws' := [(o, .inr (2, [.int o_size, .ref o_values])), (o_values, .inl (ca 0, 180, .inl r5)), (p1, .inr (5, [.int p1_now, .int p1_size, .ref p1_values])), (p1_values, .inl (ca 0, 240, .inl p1_values_d))]) [2, 3, 0, 1] (by decide) rfl
          exact J66 l2 l3 r2 r3 r4 l3 (3 : Int32) r7 r5 h _ _ hP hD hS ls (lv_sub hl [3, 4, 5, 6, 2, 1, 0] rfl)
        · have h := ip_s h c6
          refine lv_iconst (v := (0 : Int32)) hx hb dX3_answerAll_54 (by decide) ?_
          refine lv_goto (tgt := 66) hx hb dX3_answerAll_55 (by decide) ?_
          have hP := hP.sub (ws' := [(o, .inr (2, [.int o_size, .ref o_values])), (o_values, .inl (ca 0, 180, .inl r5)), (p1, .inr (5, [.int p1_now, .int p1_size, .ref p1_values])), (p1_values, .inl (ca 0, 240, .inl p1_values_d))]) [2, 3, 0, 1] rfl
          have hD := hD.sub (ws' := [(o, .inr (2, [.int o_size, .ref o_values])), (o_values, .inl (ca 0, 180, .inl r5)), (p1, .inr (5, [.int p1_now, .int p1_size, .ref p1_values])), (p1_values, .inl (ca 0, 240, .inl p1_values_d))]) [2, 3, 0, 1] (by decide) rfl
          exact J66 l2 l3 r2 r3 r4 l3 (3 : Int32) (0 : Int32) r5 h _ _ hP hD hS ls (lv_sub hl [3, 4, 5, 6, 2, 1, 0] rfl)
  refine lv_iconst (v := (0 : Int32)) hx hb dX3_answerAll_0 (by decide) ?_
  refine lv_istore_n (lv' := [(2, .int (0 : Int32)), (0, .ref o), (1, .ref p1)]) hx hb dX3_answerAll_1 rfl hl (by decide) rfl (fun ls hl => ?_)
  refine lv_iconst (v := (0 : Int32)) hx hb dX3_answerAll_2 (by decide) ?_
  refine lv_istore_n (lv' := [(3, .int (0 : Int32)), (2, .int (0 : Int32)), (0, .ref o), (1, .ref p1)]) hx hb dX3_answerAll_3 rfl hl (by decide) rfl (fun ls hl => ?_)
  exact L4  fuel (0 : Int32) (0 : Int32) o_values_d h _ _ hP hD hS ls (lv_sub hl [2, 3, 1, 0] rfl)
theorem kX3_isAnswered : yX3_isAnswered.cls = RX3 ∧ yX3_isAnswered.cls ≠ "java/lang/invoke/MethodHandle" ∧ yX3_isAnswered.cls ≠ "java/lang/invoke/VarHandle" ∧ (parseMethodDescriptor yX3_isAnswered.desc).map (fun d => d.parameters.length) = some 1 := by decide +kernel
set_option maxHeartbeats 4000000 in
set_option maxRecDepth 100000 in
theorem ctX3_isAnswered (l : Launch) (D : va_G) (ca : Nat → ClassId) (o : Nat) (o_values : Nat) (o_size : Int32) (o_values_d : Nat → Int32) (x1 : Int32) (u0 : Int32) (hf : fX3_isAnswered o_values_d x1 = some u0) : MR l yX3_isAnswered wsX3_isAnswered 1 23 D ca [.ref o, .int x1] [(o, .inr (2, [.int o_size, .ref o_values])), (o_values, .inl (ca 0, 180, .inl o_values_d))] (some (.int u0)) := by
  refine hdRz (plainFor_of_name (by decide +kernel)) rfl (Nat.le_of_ble_eq_true rfl) ?_
  intro p e s m args below meth c Q hx hb hml hown hts hP hK hret ls hl
  have hown : s.vm.findClass RX3 = some m.cls := hown
  have hl : lv_has ls 2 [(0, .ref o), (1, .int x1)] := hl
  have h := hf
  unfold fX3_isAnswered at h
  clear hf
  refine lv_aload_n hx hb dX3_isAnswered_0 rfl (lv_at hl 0 rfl) ?_
  refine lv_iload_n hx hb dX3_isAnswered_1 rfl (lv_at hl 1 rfl) ?_
  refine lv_iconst (v := (2 : Int32)) hx hb dX3_isAnswered_2 (by decide) ?_
  obtain ⟨r1, h_r1, h⟩ := bd_s h
  refine clVR (As := [.int x1, .int (2 : Int32)]) (rest := []) hx hb hml hown hts gX3_isAnswered_X3_value rfl 2 kX3_value ⟨Nat.le_of_ble_eq_true rfl, Nat.le_of_ble_eq_true rfl⟩ (ctX3_value l D ca o o_values o_size o_values_d x1 (2 : Int32) r1 h_r1) hP hK [0, 1] rfl 0 2 rfl rfl rfl rfl hl.1 rfl (Nat.le_of_ble_eq_true rfl) ⟨Nat.le_of_ble_eq_true rfl, Nat.le_of_ble_eq_true rfl⟩ dX3_isAnswered_3 rfl ?_
  refine lv_iconst (v := (1 : Int32)) hx hb dX3_isAnswered_6 (by decide) ?_
  refine lv_icmp_ne (tgt := 14) hx hb dX3_isAnswered_7 (by decide) (fun c2 => ?_) (fun c2 => ?_)
  · have h := in_s h c2
    refine lv_iconst (v := (0 : Int32)) hx hb dX3_isAnswered_14 (by decide) ?_
    obtain ⟨hz, h⟩ := zr_s h
    cases h
    exact hret 15 ls _ hz rfl dX3_isAnswered_15
  · have h := ip_s h c2
    refine lv_iconst (v := (1 : Int32)) hx hb dX3_isAnswered_10 (by decide) ?_
    refine lv_goto (tgt := 15) hx hb dX3_isAnswered_11 (by decide) ?_
    obtain ⟨hz, h⟩ := zr_s h
    cases h
    exact hret 15 ls _ hz rfl dX3_isAnswered_15
theorem mwX3_answerValue_0 : Cond.constantLong RX3 51 (9223372036854775807) ∈ wsX3_answerValue := List.mem_of_getElem? (i := 1) rfl
theorem kX3_answerValue : yX3_answerValue.cls = RX3 ∧ yX3_answerValue.cls ≠ "java/lang/invoke/MethodHandle" ∧ yX3_answerValue.cls ≠ "java/lang/invoke/VarHandle" ∧ (parseMethodDescriptor yX3_answerValue.desc).map (fun d => d.parameters.length) = some 2 := by decide +kernel
set_option maxHeartbeats 4000000 in
set_option maxRecDepth 100000 in
theorem ctX3_answerValue (l : Launch) (D : va_G) (ca : Nat → ClassId) (o : Nat) (o_values : Nat) (o_size : Int32) (o_values_d : Nat → Int32) (x1 : Int32) (x2 : Int32) (u0 : Int64) (hf : fX3_answerValue o_values_d x1 x2 = some u0) : MR l yX3_answerValue wsX3_answerValue 1 23 D ca [.ref o, .int x1, .int x2] [(o, .inr (2, [.int o_size, .ref o_values])), (o_values, .inl (ca 0, 180, .inl o_values_d))] (some (.long u0)) := by
  refine hdRl (plainFor_of_name (by decide +kernel)) rfl (Nat.le_of_ble_eq_true rfl) ?_
  intro p e s m args below meth c Q hx hb hml hown hts hP hK hret ls hl
  have hown : s.vm.findClass RX3 = some m.cls := hown
  have hl : lv_has ls 3 [(0, .ref o), (1, .int x1), (2, .int x2)] := hl
  have h := hf
  unfold fX3_answerValue at h
  clear hf
  have J18 : jX3_answerValue_18 o_values_d x1 x2  = some u0 → ∀ ls, lv_has ls 3 [(0, .ref o), (1, .int x1), (2, .int x2)] → W p l e ({ frames := 1, cells := 0, slots := 0, locals := 23 }) s m args below meth c s.heap [] 0 0 Q (F0 m 18 ls []) := by
    intro  h ls hl
    unfold jX3_answerValue_18 at h
    refine lv_aload_n hx hb dX3_answerValue_18 rfl (lv_at hl 0 rfl) ?_
    refine lv_iload_n hx hb dX3_answerValue_19 rfl (lv_at hl 1 rfl) ?_
    refine lv_iconst (v := (3 : Int32)) hx hb dX3_answerValue_20 (by decide) ?_
    refine lv_iload_n hx hb dX3_answerValue_21 rfl (lv_at hl 2 rfl) ?_
    refine lv_iadd hx hb dX3_answerValue_22 ?_
    obtain ⟨r1, h_r1, h⟩ := bd_s h
    refine clVR (As := [.int x1, .int ((3 : Int32) + x2)]) (rest := []) hx hb hml hown hts gX3_answerValue_X3_value rfl 2 kX3_value ⟨Nat.le_of_ble_eq_true rfl, Nat.le_of_ble_eq_true rfl⟩ (ctX3_value l D ca o o_values o_size o_values_d x1 ((3 : Int32) + x2) r1 h_r1) hP hK [0, 1] rfl 0 2 rfl rfl rfl rfl hl.1 rfl (Nat.le_of_ble_eq_true rfl) ⟨Nat.le_of_ble_eq_true rfl, Nat.le_of_ble_eq_true rfl⟩ dX3_answerValue_23 rfl ?_
    refine lv_i2l (v := (r1).toInt64) hx hb dX3_answerValue_26 rfl ?_
    cases h
    exact hret 27 ls _ rfl dX3_answerValue_27
  refine lv_iload_n hx hb dX3_answerValue_0 rfl (lv_at hl 2 rfl) ?_
  refine lv_if_ne (tgt := 18) hx hb dX3_answerValue_1 (by decide) (fun c1 => ?_) (fun c1 => ?_)
  · have h := in_s h c1
    exact J18  h ls (lv_sub hl [0, 1, 2] rfl)
  · have h := ip_s h c1
    refine lv_aload_n hx hb dX3_answerValue_4 rfl (lv_at hl 0 rfl) ?_
    refine lv_iload_n hx hb dX3_answerValue_5 rfl (lv_at hl 1 rfl) ?_
    refine lv_iconst (v := (4 : Int32)) hx hb dX3_answerValue_6 (by decide) ?_
    obtain ⟨r2, h_r2, h⟩ := bd_s h
    refine clVR (As := [.int x1, .int (4 : Int32)]) (rest := []) hx hb hml hown hts gX3_answerValue_X3_value rfl 2 kX3_value ⟨Nat.le_of_ble_eq_true rfl, Nat.le_of_ble_eq_true rfl⟩ (ctX3_value l D ca o o_values o_size o_values_d x1 (4 : Int32) r2 h_r2) hP hK [0, 1] rfl 0 2 rfl rfl rfl rfl hl.1 rfl (Nat.le_of_ble_eq_true rfl) ⟨Nat.le_of_ble_eq_true rfl, Nat.le_of_ble_eq_true rfl⟩ dX3_answerValue_7 rfl ?_
    refine lv_iconst (v := (-1 : Int32)) hx hb dX3_answerValue_10 (by decide) ?_
    refine lv_icmp_ne (tgt := 18) hx hb dX3_answerValue_11 (by decide) (fun c3 => ?_) (fun c3 => ?_)
    · have h := in_s h c3
      exact J18  h ls (lv_sub hl [0, 1, 2] rfl)
    · have h := ip_s h c3
      refine lv_ldc2 (v := (9223372036854775807 : Int64)) hx hb hown (hts _ mwX3_answerValue_0) dX3_answerValue_14 ?_
      cases h
      exact hret 17 ls _ rfl dX3_answerValue_17
theorem mwX3_mixedInto_0 : Cond.fieldLink RX3 15 "SegmentTimes$Queries" "size" "I" ∈ wsX3_mixedInto := List.mem_of_getElem? (i := 1) rfl
theorem mwX3_mixedInto_1 : Cond.initialized yX7_mixed.cls ∈ wsX3_mixedInto := List.mem_of_getElem? (i := 3) rfl
theorem mwX3_mixedInto_2 : Cond.static yX7_mixed ∈ wsX3_mixedInto := List.mem_of_getElem? (i := 2) rfl
theorem inX3_mixedInto_X3 : ∀ w ∈ u_ws RX3 TX3 2, w ∈ wsX3_mixedInto := fun w h => List.mem_cons_of_mem _ (List.mem_append_right _ (h))
theorem kX3_mixedInto : yX3_mixedInto.cls = RX3 ∧ yX3_mixedInto.cls ≠ "java/lang/invoke/MethodHandle" ∧ yX3_mixedInto.cls ≠ "java/lang/invoke/VarHandle" ∧ (parseMethodDescriptor yX3_mixedInto.desc).map (fun d => d.parameters.length) = some 1 := by decide +kernel
set_option maxHeartbeats 4000000 in
set_option maxRecDepth 100000 in
theorem ctX3_mixedInto (l : Launch) (D : va_G) (ca : Nat → ClassId) (o : Nat) (o_values : Nat) (o_size : Int32) (o_values_d : Nat → Int32) (x1 : Int64) (u0 : Int64) (hf : fX3_mixedInto o_size o_values_d x1 = some u0) : MR l yX3_mixedInto wsX3_mixedInto 2 45 D ca [.ref o, .long x1] [(o, .inr (2, [.int o_size, .ref o_values])), (o_values, .inl (ca 0, 180, .inl o_values_d))] (some (.long u0)) := by
  refine hdRl (plainFor_of_name (by decide +kernel)) rfl (Nat.le_of_ble_eq_true rfl) ?_
  intro p e s m args below meth c Q hx hb hml hown hts hP hK hret ls hl
  have hown : s.vm.findClass RX3 = some m.cls := hown
  have hl : lv_has ls 5 [(0, .ref o), (1, .long x1)] := hl
  have h := hf
  unfold fX3_mixedInto at h
  clear hf
  have L12 : ∀  (n : Nat) (l1 : Int64) (l3 : Int32), lp (fun q => bX3_mixedInto_12 o_size o_values_d  q.1 q.2) n (l1, l3) = some u0 → ∀ ls, lv_has ls 5 [(0, .ref o), (1, .long l1), (3, .int l3)] → W p l e ({ frames := 2, cells := 0, slots := 0, locals := 45 }) s m args below meth c s.heap [] 0 0 Q (F0 m 12 ls []) := by
    intro  n
    induction n with
    | zero => intro l1 l3 h; exact (lp_0 h).elim
    | succ n ih12 =>
      intro l1 l3 h ls hl
      obtain ⟨q12, h, hq12⟩ := lp_s h
      have h : bX3_mixedInto_12 o_size o_values_d  l1 l3 = some q12 := h
      unfold bX3_mixedInto_12 at h
      have L67 : ∀ (l3 : Int32) (n : Nat) (l1 : Int64) (l4 : Int32), lp (fun q => bX3_mixedInto_67 o_values_d l3 q.1 q.2) n (l1, l4) = some q12 → ∀ ls, lv_has ls 5 [(0, .ref o), (1, .long l1), (3, .int l3), (4, .int l4)] → W p l e ({ frames := 2, cells := 0, slots := 0, locals := 45 }) s m args below meth c s.heap [] 0 0 Q (F0 m 67 ls []) := by
        intro l3 n
        induction n with
        | zero => intro l1 l4 h; exact (lp_0 h).elim
        | succ n ih67 =>
          intro l1 l4 h ls hl
          obtain ⟨q67, h, hq67⟩ := lp_s h
          have h : bX3_mixedInto_67 o_values_d l3 l1 l4 = some q67 := h
          unfold bX3_mixedInto_67 at h
          refine lv_iload hx hb dX3_mixedInto_67 (lv_at hl 3 rfl) ?_
          refine lv_iconst (v := (3 : Int32)) hx hb dX3_mixedInto_69 (by decide) ?_
          refine lv_icmp_ge (tgt := 91) hx hb dX3_mixedInto_70 (by decide) (fun c1 => ?_) (fun c1 => ?_)
          · have h := ip_s h c1
            have h := xt_s hq67 h
            obtain ⟨y2, e_y2, h⟩ := nm_s h
            refine lv_iinc (v := y2) (lv' := [(3, .int y2), (0, .ref o), (1, .long l1), (4, .int l4)]) hx hb dX3_mixedInto_91 hl (k := 2) rfl (by rw [e_y2]; rfl) (by decide) rfl (fun ls hl => ?_)
            refine lv_goto (tgt := 12) hx hb dX3_mixedInto_94 (by decide) ?_
            exact ih12 l1 y2 (lp_l hq12 h) ls (lv_sub hl [1, 2, 0] rfl)
          · have h := in_s h c1
            refine lv_lload_n hx hb dX3_mixedInto_73 rfl (lv_at hl 1 rfl) ?_
            refine lv_aload_n hx hb dX3_mixedInto_74 rfl (lv_at hl 0 rfl) ?_
            refine lv_iload_n hx hb dX3_mixedInto_75 rfl (lv_at hl 2 rfl) ?_
            refine lv_iload hx hb dX3_mixedInto_76 (lv_at hl 3 rfl) ?_
            obtain ⟨r3, h_r3, h⟩ := bd_s h
            refine clVR (As := [.int l3, .int l4]) (rest := [.long l1]) hx hb hml hown hts gX3_mixedInto_X3_answerValue rfl 2 kX3_answerValue ⟨Nat.le_of_ble_eq_true rfl, Nat.le_of_ble_eq_true rfl⟩ (ctX3_answerValue l D ca o o_values o_size o_values_d l3 l4 r3 h_r3) hP hK [0, 1] rfl 0 2 rfl rfl rfl rfl hl.1 rfl (Nat.le_of_ble_eq_true rfl) ⟨Nat.le_of_ble_eq_true rfl, Nat.le_of_ble_eq_true rfl⟩ dX3_mixedInto_78 rfl ?_
            obtain ⟨r4, h_r4, h⟩ := bd_s h
            refine clNR (As := [.long l1, .long r3]) (rest := []) hx hb hml hown hts gX3_mixedInto_X7_mixed_n57 rfl 2 kX7_mixed.2 ⟨Nat.le_of_ble_eq_true rfl, Nat.le_of_ble_eq_true rfl⟩ hK.2.2.1 mwX3_mixedInto_1 mwX3_mixedInto_2 (ctX7_mixed l D ca   l1 r3 r4 h_r4) hP hK [] rfl rfl hl.1 rfl (Nat.le_of_ble_eq_true rfl) ⟨Nat.le_of_ble_eq_true rfl, Nat.le_of_ble_eq_true rfl⟩ dX3_mixedInto_81 rfl ?_
            refine lv_lstore_n (lv' := [(1, .long r4), (0, .ref o), (3, .int l3), (4, .int l4)]) hx hb dX3_mixedInto_84 rfl hl (by decide) rfl (fun ls hl => ?_)
            obtain ⟨y5, e_y5, h⟩ := nm_s h
            refine lv_iinc (v := y5) (lv' := [(4, .int y5), (1, .long r4), (0, .ref o), (3, .int l3)]) hx hb dX3_mixedInto_85 hl (k := 3) rfl (by rw [e_y5]; rfl) (by decide) rfl (fun ls hl => ?_)
            refine lv_goto (tgt := 67) hx hb dX3_mixedInto_88 (by decide) ?_
            exact ih67 r4 y5 (lp_l hq67 h) ls (lv_sub hl [2, 1, 3, 0] rfl)
      refine lv_iload_n hx hb dX3_mixedInto_12 rfl (lv_at hl 2 rfl) ?_
      refine lv_aload_n hx hb dX3_mixedInto_13 rfl (lv_at hl 0 rfl) ?_
      refine gtF (ci := 2) (v := .int o_size) (C := RX3) (T := TX3) (N := 2) hx hb hts inX3_mixedInto_X3 hown hK hP 0 rfl rfl 0 (by decide) mwX3_mixedInto_0 rfl rfl dX3_mixedInto_14 ?_
      refine lv_icmp_ge (tgt := 97) hx hb dX3_mixedInto_17 (by decide) (fun c1 => ?_) (fun c1 => ?_)
      · have h := ip_s h c1
        have h := xt_s hq12 h
        refine lv_lload_n hx hb dX3_mixedInto_97 rfl (lv_at hl 1 rfl) ?_
        cases h
        exact hret 98 ls _ rfl dX3_mixedInto_98
      · have h := in_s h c1
        refine lv_lload_n hx hb dX3_mixedInto_20 rfl (lv_at hl 1 rfl) ?_
        refine lv_aload_n hx hb dX3_mixedInto_21 rfl (lv_at hl 0 rfl) ?_
        refine lv_iload_n hx hb dX3_mixedInto_22 rfl (lv_at hl 2 rfl) ?_
        refine lv_iconst (v := (0 : Int32)) hx hb dX3_mixedInto_23 (by decide) ?_
        obtain ⟨r2, h_r2, h⟩ := bd_s h
        refine clVR (As := [.int l3, .int (0 : Int32)]) (rest := [.long l1]) hx hb hml hown hts gX3_mixedInto_X3_value rfl 2 kX3_value ⟨Nat.le_of_ble_eq_true rfl, Nat.le_of_ble_eq_true rfl⟩ (ctX3_value l D ca o o_values o_size o_values_d l3 (0 : Int32) r2 h_r2) hP hK [0, 1] rfl 0 2 rfl rfl rfl rfl hl.1 rfl (Nat.le_of_ble_eq_true rfl) ⟨Nat.le_of_ble_eq_true rfl, Nat.le_of_ble_eq_true rfl⟩ dX3_mixedInto_24 rfl ?_
        refine lv_i2l (v := (r2).toInt64) hx hb dX3_mixedInto_27 rfl ?_
        obtain ⟨r3, h_r3, h⟩ := bd_s h
        refine clNR (As := [.long l1, .long (r2).toInt64]) (rest := []) hx hb hml hown hts gX3_mixedInto_X7_mixed_n57 rfl 2 kX7_mixed.2 ⟨Nat.le_of_ble_eq_true rfl, Nat.le_of_ble_eq_true rfl⟩ hK.2.2.1 mwX3_mixedInto_1 mwX3_mixedInto_2 (ctX7_mixed l D ca   l1 ((r2).toInt64) r3 h_r3) hP hK [] rfl rfl hl.1 rfl (Nat.le_of_ble_eq_true rfl) ⟨Nat.le_of_ble_eq_true rfl, Nat.le_of_ble_eq_true rfl⟩ dX3_mixedInto_28 rfl ?_
        refine lv_lstore_n (lv' := [(1, .long r3), (0, .ref o), (3, .int l3)]) hx hb dX3_mixedInto_31 rfl hl (by decide) rfl (fun ls hl => ?_)
        refine lv_lload_n hx hb dX3_mixedInto_32 rfl (lv_at hl 0 rfl) ?_
        refine lv_aload_n hx hb dX3_mixedInto_33 rfl (lv_at hl 1 rfl) ?_
        refine lv_iload_n hx hb dX3_mixedInto_34 rfl (lv_at hl 2 rfl) ?_
        refine lv_iconst (v := (1 : Int32)) hx hb dX3_mixedInto_35 (by decide) ?_
        obtain ⟨r4, h_r4, h⟩ := bd_s h
        refine clVR (As := [.int l3, .int (1 : Int32)]) (rest := [.long r3]) hx hb hml hown hts gX3_mixedInto_X3_value rfl 2 kX3_value ⟨Nat.le_of_ble_eq_true rfl, Nat.le_of_ble_eq_true rfl⟩ (ctX3_value l D ca o o_values o_size o_values_d l3 (1 : Int32) r4 h_r4) hP hK [0, 1] rfl 0 2 rfl rfl rfl rfl hl.1 rfl (Nat.le_of_ble_eq_true rfl) ⟨Nat.le_of_ble_eq_true rfl, Nat.le_of_ble_eq_true rfl⟩ dX3_mixedInto_36 rfl ?_
        refine lv_i2l (v := (r4).toInt64) hx hb dX3_mixedInto_39 rfl ?_
        obtain ⟨r5, h_r5, h⟩ := bd_s h
        refine clNR (As := [.long r3, .long (r4).toInt64]) (rest := []) hx hb hml hown hts gX3_mixedInto_X7_mixed_n57 rfl 2 kX7_mixed.2 ⟨Nat.le_of_ble_eq_true rfl, Nat.le_of_ble_eq_true rfl⟩ hK.2.2.1 mwX3_mixedInto_1 mwX3_mixedInto_2 (ctX7_mixed l D ca   r3 ((r4).toInt64) r5 h_r5) hP hK [] rfl rfl hl.1 rfl (Nat.le_of_ble_eq_true rfl) ⟨Nat.le_of_ble_eq_true rfl, Nat.le_of_ble_eq_true rfl⟩ dX3_mixedInto_40 rfl ?_
        refine lv_lstore_n (lv' := [(1, .long r5), (0, .ref o), (3, .int l3)]) hx hb dX3_mixedInto_43 rfl hl (by decide) rfl (fun ls hl => ?_)
        refine lv_lload_n hx hb dX3_mixedInto_44 rfl (lv_at hl 0 rfl) ?_
        refine lv_aload_n hx hb dX3_mixedInto_45 rfl (lv_at hl 1 rfl) ?_
        refine lv_iload_n hx hb dX3_mixedInto_46 rfl (lv_at hl 2 rfl) ?_
        refine lv_iconst (v := (2 : Int32)) hx hb dX3_mixedInto_47 (by decide) ?_
        obtain ⟨r6, h_r6, h⟩ := bd_s h
        refine clVR (As := [.int l3, .int (2 : Int32)]) (rest := [.long r5]) hx hb hml hown hts gX3_mixedInto_X3_value rfl 2 kX3_value ⟨Nat.le_of_ble_eq_true rfl, Nat.le_of_ble_eq_true rfl⟩ (ctX3_value l D ca o o_values o_size o_values_d l3 (2 : Int32) r6 h_r6) hP hK [0, 1] rfl 0 2 rfl rfl rfl rfl hl.1 rfl (Nat.le_of_ble_eq_true rfl) ⟨Nat.le_of_ble_eq_true rfl, Nat.le_of_ble_eq_true rfl⟩ dX3_mixedInto_48 rfl ?_
        refine lv_i2l (v := (r6).toInt64) hx hb dX3_mixedInto_51 rfl ?_
        obtain ⟨r7, h_r7, h⟩ := bd_s h
        refine clNR (As := [.long r5, .long (r6).toInt64]) (rest := []) hx hb hml hown hts gX3_mixedInto_X7_mixed_n57 rfl 2 kX7_mixed.2 ⟨Nat.le_of_ble_eq_true rfl, Nat.le_of_ble_eq_true rfl⟩ hK.2.2.1 mwX3_mixedInto_1 mwX3_mixedInto_2 (ctX7_mixed l D ca   r5 ((r6).toInt64) r7 h_r7) hP hK [] rfl rfl hl.1 rfl (Nat.le_of_ble_eq_true rfl) ⟨Nat.le_of_ble_eq_true rfl, Nat.le_of_ble_eq_true rfl⟩ dX3_mixedInto_52 rfl ?_
        refine lv_lstore_n (lv' := [(1, .long r7), (0, .ref o), (3, .int l3)]) hx hb dX3_mixedInto_55 rfl hl (by decide) rfl (fun ls hl => ?_)
        refine lv_aload_n hx hb dX3_mixedInto_56 rfl (lv_at hl 1 rfl) ?_
        refine lv_iload_n hx hb dX3_mixedInto_57 rfl (lv_at hl 2 rfl) ?_
        obtain ⟨r8, h_r8, h⟩ := bd_s h
        refine clVR (As := [.int l3]) (rest := []) hx hb hml hown hts gX3_mixedInto_X3_isAnswered rfl 1 kX3_isAnswered ⟨Nat.le_of_ble_eq_true rfl, Nat.le_of_ble_eq_true rfl⟩ (ctX3_isAnswered l D ca o o_values o_size o_values_d l3 r8 h_r8) hP hK [0, 1] rfl 0 2 rfl rfl rfl rfl hl.1 rfl (Nat.le_of_ble_eq_true rfl) ⟨Nat.le_of_ble_eq_true rfl, Nat.le_of_ble_eq_true rfl⟩ dX3_mixedInto_58 rfl ?_
        refine lv_if_eq (tgt := 91) hx hb dX3_mixedInto_61 (by decide) (fun c9 => ?_) (fun c9 => ?_)
        · have h := ip_s h c9
          obtain ⟨y10, e_y10, h⟩ := nm_s h
          refine lv_iinc (v := y10) (lv' := [(3, .int y10), (1, .long r7), (0, .ref o)]) hx hb dX3_mixedInto_91 hl (k := 2) rfl (by rw [e_y10]; rfl) (by decide) rfl (fun ls hl => ?_)
          refine lv_goto (tgt := 12) hx hb dX3_mixedInto_94 (by decide) ?_
          exact ih12 r7 y10 (lp_l hq12 h) ls (lv_sub hl [2, 1, 0] rfl)
        · have h := in_s h c9
          refine lv_iconst (v := (0 : Int32)) hx hb dX3_mixedInto_64 (by decide) ?_
          refine lv_istore (lv' := [(4, .int (0 : Int32)), (1, .long r7), (0, .ref o), (3, .int l3)]) hx hb dX3_mixedInto_65 hl (by decide) rfl (fun ls hl => ?_)
          exact L67 l3 fuel r7 (0 : Int32) h ls (lv_sub hl [2, 1, 3, 0] rfl)
  refine lv_lload_n hx hb dX3_mixedInto_0 rfl (lv_at hl 1 rfl) ?_
  refine lv_aload_n hx hb dX3_mixedInto_1 rfl (lv_at hl 0 rfl) ?_
  refine gtF (ci := 2) (v := .int o_size) (C := RX3) (T := TX3) (N := 2) hx hb hts inX3_mixedInto_X3 hown hK hP 0 rfl rfl 0 (by decide) mwX3_mixedInto_0 rfl rfl dX3_mixedInto_2 ?_
  refine lv_i2l (v := (o_size).toInt64) hx hb dX3_mixedInto_5 rfl ?_
  obtain ⟨r1, h_r1, h⟩ := bd_s h
  refine clNR (As := [.long x1, .long (o_size).toInt64]) (rest := []) hx hb hml hown hts gX3_mixedInto_X7_mixed_n57 rfl 2 kX7_mixed.2 ⟨Nat.le_of_ble_eq_true rfl, Nat.le_of_ble_eq_true rfl⟩ hK.2.2.1 mwX3_mixedInto_1 mwX3_mixedInto_2 (ctX7_mixed l D ca   x1 ((o_size).toInt64) r1 h_r1) hP hK [] rfl rfl hl.1 rfl (Nat.le_of_ble_eq_true rfl) ⟨Nat.le_of_ble_eq_true rfl, Nat.le_of_ble_eq_true rfl⟩ dX3_mixedInto_6 rfl ?_
  refine lv_lstore_n (lv' := [(1, .long r1), (0, .ref o)]) hx hb dX3_mixedInto_9 rfl hl (by decide) rfl (fun ls hl => ?_)
  refine lv_iconst (v := (0 : Int32)) hx hb dX3_mixedInto_10 (by decide) ?_
  refine lv_istore_n (lv' := [(3, .int (0 : Int32)), (1, .long r1), (0, .ref o)]) hx hb dX3_mixedInto_11 rfl hl (by decide) rfl (fun ls hl => ?_)
  exact L12  fuel r1 (0 : Int32) h ls (lv_sub hl [2, 1, 0] rfl)
