theorem kJ9_floorMod_7cf53 : yJ9_floorMod_7cf53.cls = yJ9_floorMod_7cf53.cls ∧ yJ9_floorMod_7cf53.cls ≠ "java/lang/invoke/MethodHandle" ∧ yJ9_floorMod_7cf53.cls ≠ "java/lang/invoke/VarHandle" ∧ (parseMethodDescriptor yJ9_floorMod_7cf53.desc).map (fun d => d.parameters.length) = some 2 := by decide +kernel
set_option maxHeartbeats 4000000 in
set_option maxRecDepth 100000 in
theorem ctJ9_floorMod_7cf53 (l : Launch) (D : va_G) (ca : Nat → ClassId)   (x0 : Int32) (x1 : Int32) (u0 : Int32) (hf : fJ9_floorMod_7cf53 x0 x1 = some u0) : MR l yJ9_floorMod_7cf53 wsJ9_floorMod_7cf53 0 0 D ca [.int x0, .int x1] [] (some (.int u0)) := by
  refine hdRi (by decide +kernel) rfl (Nat.le_of_ble_eq_true rfl) ?_
  intro p e s m args below meth c Q hx hb hml hown hts hP hK hret ls hl
  have hown : s.vm.findClass RJ9 = some m.cls := hown
  have hl : lv_has ls 3 [(0, .int x0), (1, .int x1)] := hl
  have h := hf
  unfold fJ9_floorMod_7cf53 at h
  clear hf
  refine lv_iload_n hx hb dJ9_floorMod_7cf53_0 rfl (lv_at hl 0 rfl) ?_
  refine lv_iload_n hx hb dJ9_floorMod_7cf53_1 rfl (lv_at hl 1 rfl) ?_
  obtain ⟨hne, h⟩ := dv_s h
  refine lv_irem hx hb dJ9_floorMod_7cf53_2 hne ?_
  obtain ⟨y1, e_y1, h⟩ := nm_s h
  refine top_i e_y1 ?_
  refine lv_istore_n (lv' := [(2, .int y1), (0, .int x0), (1, .int x1)]) hx hb dJ9_floorMod_7cf53_3 rfl hl (by decide) rfl (fun ls hl => ?_)
  refine lv_iload_n hx hb dJ9_floorMod_7cf53_4 rfl (lv_at hl 1 rfl) ?_
  refine lv_iload_n hx hb dJ9_floorMod_7cf53_5 rfl (lv_at hl 2 rfl) ?_
  refine lv_ixor hx hb dJ9_floorMod_7cf53_6 ?_
  refine lv_if_ge (tgt := 18) hx hb dJ9_floorMod_7cf53_7 (by decide) (fun c2 => ?_) (fun c2 => ?_)
  · have h := ip_s h c2
    refine lv_iload_n hx hb dJ9_floorMod_7cf53_18 rfl (lv_at hl 0 rfl) ?_
    cases h
    exact hret 19 ls _ rfl dJ9_floorMod_7cf53_19
  · have h := in_s h c2
    refine lv_iload_n hx hb dJ9_floorMod_7cf53_10 rfl (lv_at hl 0 rfl) ?_
    refine lv_if_eq (tgt := 18) hx hb dJ9_floorMod_7cf53_11 (by decide) (fun c3 => ?_) (fun c3 => ?_)
    · have h := ip_s h c3
      refine lv_iload_n hx hb dJ9_floorMod_7cf53_18 rfl (lv_at hl 0 rfl) ?_
      cases h
      exact hret 19 ls _ rfl dJ9_floorMod_7cf53_19
    · have h := in_s h c3
      refine lv_iload_n hx hb dJ9_floorMod_7cf53_14 rfl (lv_at hl 0 rfl) ?_
      refine lv_iload_n hx hb dJ9_floorMod_7cf53_15 rfl (lv_at hl 2 rfl) ?_
      refine lv_iadd hx hb dJ9_floorMod_7cf53_16 ?_
      cases h
      exact hret 17 ls _ rfl dJ9_floorMod_7cf53_17
theorem kX7_isBetween : yX7_isBetween.cls = yX7_isBetween.cls ∧ yX7_isBetween.cls ≠ "java/lang/invoke/MethodHandle" ∧ yX7_isBetween.cls ≠ "java/lang/invoke/VarHandle" ∧ (parseMethodDescriptor yX7_isBetween.desc).map (fun d => d.parameters.length) = some 3 := by decide +kernel
set_option maxHeartbeats 4000000 in
set_option maxRecDepth 100000 in
theorem ctX7_isBetween (l : Launch) (D : va_G) (ca : Nat → ClassId)   (x0 : Int32) (x1 : Int32) (x2 : Int32) (u0 : Int32) (hf : fX7_isBetween x0 x1 x2 = some u0) : MR l yX7_isBetween wsX7_isBetween 0 0 D ca [.int x0, .int x1, .int x2] [] (some (.int u0)) := by
  refine hdRz (plainFor_of_name (by decide +kernel)) rfl (Nat.le_of_ble_eq_true rfl) ?_
  intro p e s m args below meth c Q hx hb hml hown hts hP hK hret ls hl
  have hown : s.vm.findClass RX7 = some m.cls := hown
  have hl : lv_has ls 3 [(0, .int x0), (1, .int x1), (2, .int x2)] := hl
  have h := hf
  unfold fX7_isBetween at h
  clear hf
  refine lv_iload_n hx hb dX7_isBetween_0 rfl (lv_at hl 1 rfl) ?_
  refine lv_iload_n hx hb dX7_isBetween_1 rfl (lv_at hl 0 rfl) ?_
  refine lv_icmp_gt (tgt := 14) hx hb dX7_isBetween_2 (by decide) (fun c1 => ?_) (fun c1 => ?_)
  · have h := ip_s h c1
    refine lv_iconst (v := (0 : Int32)) hx hb dX7_isBetween_14 (by decide) ?_
    obtain ⟨hz, h⟩ := zr_s h
    cases h
    exact hret 15 ls _ hz rfl dX7_isBetween_15
  · have h := in_s h c1
    refine lv_iload_n hx hb dX7_isBetween_5 rfl (lv_at hl 0 rfl) ?_
    refine lv_iload_n hx hb dX7_isBetween_6 rfl (lv_at hl 2 rfl) ?_
    refine lv_icmp_gt (tgt := 14) hx hb dX7_isBetween_7 (by decide) (fun c2 => ?_) (fun c2 => ?_)
    · have h := ip_s h c2
      refine lv_iconst (v := (0 : Int32)) hx hb dX7_isBetween_14 (by decide) ?_
      obtain ⟨hz, h⟩ := zr_s h
      cases h
      exact hret 15 ls _ hz rfl dX7_isBetween_15
    · have h := in_s h c2
      refine lv_iconst (v := (1 : Int32)) hx hb dX7_isBetween_10 (by decide) ?_
      refine lv_goto (tgt := 15) hx hb dX7_isBetween_11 (by decide) ?_
      obtain ⟨hz, h⟩ := zr_s h
      cases h
      exact hret 15 ls _ hz rfl dX7_isBetween_15
theorem mwX0_isInterval_0 : Cond.initialized yX7_isBetween.cls ∈ wsX0_isInterval := List.mem_of_getElem? (i := 2) rfl
theorem mwX0_isInterval_1 : Cond.static yX7_isBetween ∈ wsX0_isInterval := List.mem_of_getElem? (i := 1) rfl
theorem kX0_isInterval : yX0_isInterval.cls = yX0_isInterval.cls ∧ yX0_isInterval.cls ≠ "java/lang/invoke/MethodHandle" ∧ yX0_isInterval.cls ≠ "java/lang/invoke/VarHandle" ∧ (parseMethodDescriptor yX0_isInterval.desc).map (fun d => d.parameters.length) = some 2 := by decide +kernel
set_option maxHeartbeats 4000000 in
set_option maxRecDepth 100000 in
theorem ctX0_isInterval (l : Launch) (D : va_G) (ca : Nat → ClassId)   (x0 : Int32) (x1 : Int32) (u0 : Int32) (hf : fX0_isInterval x0 x1 = some u0) : MR l yX0_isInterval wsX0_isInterval 1 22 D ca [.int x0, .int x1] [] (some (.int u0)) := by
  refine hdRz (plainFor_of_name (by decide +kernel)) rfl (Nat.le_of_ble_eq_true rfl) ?_
  intro p e s m args below meth c Q hx hb hml hown hts hP hK hret ls hl
  have hown : s.vm.findClass RX0 = some m.cls := hown
  have hl : lv_has ls 2 [(0, .int x0), (1, .int x1)] := hl
  have h := hf
  unfold fX0_isInterval at h
  clear hf
  refine lv_iload_n hx hb dX0_isInterval_0 rfl (lv_at hl 1 rfl) ?_
  refine lv_iconst (v := (1 : Int32)) hx hb dX0_isInterval_1 (by decide) ?_
  refine lv_sipush (v := (16384 : Int32)) hx hb dX0_isInterval_2 (by decide) ?_
  obtain ⟨r1, h_r1, h⟩ := bd_s h
  refine clNR (As := [.int x1, .int (1 : Int32), .int (16384 : Int32)]) (rest := []) hx hb hml hown hts gX0_isInterval_X7_isBetween_n9 rfl 3 kX7_isBetween.2 ⟨Nat.le_of_ble_eq_true rfl, Nat.le_of_ble_eq_true rfl⟩ hK.2.2.2.2.2.2 mwX0_isInterval_0 mwX0_isInterval_1 (ctX7_isBetween l D ca   x1 (1 : Int32) (16384 : Int32) r1 h_r1) hP hK [] rfl rfl hl.1 rfl (Nat.le_of_ble_eq_true rfl) ⟨Nat.le_of_ble_eq_true rfl, Nat.le_of_ble_eq_true rfl⟩ dX0_isInterval_5 rfl ?_
  refine lv_if_eq (tgt := 44) hx hb dX0_isInterval_8 (by decide) (fun c2 => ?_) (fun c2 => ?_)
  · have h := ip_s h c2
    refine lv_iconst (v := (0 : Int32)) hx hb dX0_isInterval_44 (by decide) ?_
    obtain ⟨hz, h⟩ := zr_s h
    cases h
    exact hret 45 ls _ hz rfl dX0_isInterval_45
  · have h := in_s h c2
    refine lv_iload_n hx hb dX0_isInterval_11 rfl (lv_at hl 1 rfl) ?_
    refine lv_iload_n hx hb dX0_isInterval_12 rfl (lv_at hl 1 rfl) ?_
    refine lv_iconst (v := (1 : Int32)) hx hb dX0_isInterval_13 (by decide) ?_
    refine lv_isub hx hb dX0_isInterval_14 ?_
    refine lv_iand hx hb dX0_isInterval_15 ?_
    refine lv_if_ne (tgt := 44) hx hb dX0_isInterval_16 (by decide) (fun c3 => ?_) (fun c3 => ?_)
    · have h := in_s h c3
      refine lv_iconst (v := (0 : Int32)) hx hb dX0_isInterval_44 (by decide) ?_
      obtain ⟨hz, h⟩ := zr_s h
      cases h
      exact hret 45 ls _ hz rfl dX0_isInterval_45
    · have h := ip_s h c3
      refine lv_iload_n hx hb dX0_isInterval_19 rfl (lv_at hl 0 rfl) ?_
      refine lv_iconst (v := (0 : Int32)) hx hb dX0_isInterval_20 (by decide) ?_
      refine lv_sipush (v := (16384 : Int32)) hx hb dX0_isInterval_21 (by decide) ?_
      refine lv_iload_n hx hb dX0_isInterval_24 rfl (lv_at hl 1 rfl) ?_
      refine lv_isub hx hb dX0_isInterval_25 ?_
      obtain ⟨r4, h_r4, h⟩ := bd_s h
      refine clNR (As := [.int x0, .int (0 : Int32), .int ((16384 : Int32) - x1)]) (rest := []) hx hb hml hown hts gX0_isInterval_X7_isBetween_n9 rfl 3 kX7_isBetween.2 ⟨Nat.le_of_ble_eq_true rfl, Nat.le_of_ble_eq_true rfl⟩ hK.2.2.2.2.2.2 mwX0_isInterval_0 mwX0_isInterval_1 (ctX7_isBetween l D ca   x0 (0 : Int32) ((16384 : Int32) - x1) r4 h_r4) hP hK [] rfl rfl hl.1 rfl (Nat.le_of_ble_eq_true rfl) ⟨Nat.le_of_ble_eq_true rfl, Nat.le_of_ble_eq_true rfl⟩ dX0_isInterval_26 rfl ?_
      refine lv_if_eq (tgt := 44) hx hb dX0_isInterval_29 (by decide) (fun c5 => ?_) (fun c5 => ?_)
      · have h := ip_s h c5
        refine lv_iconst (v := (0 : Int32)) hx hb dX0_isInterval_44 (by decide) ?_
        obtain ⟨hz, h⟩ := zr_s h
        cases h
        exact hret 45 ls _ hz rfl dX0_isInterval_45
      · have h := in_s h c5
        refine lv_iload_n hx hb dX0_isInterval_32 rfl (lv_at hl 0 rfl) ?_
        refine lv_iload_n hx hb dX0_isInterval_33 rfl (lv_at hl 1 rfl) ?_
        refine lv_iconst (v := (1 : Int32)) hx hb dX0_isInterval_34 (by decide) ?_
        refine lv_isub hx hb dX0_isInterval_35 ?_
        refine lv_iand hx hb dX0_isInterval_36 ?_
        refine lv_if_ne (tgt := 44) hx hb dX0_isInterval_37 (by decide) (fun c6 => ?_) (fun c6 => ?_)
        · have h := in_s h c6
          refine lv_iconst (v := (0 : Int32)) hx hb dX0_isInterval_44 (by decide) ?_
          obtain ⟨hz, h⟩ := zr_s h
          cases h
          exact hret 45 ls _ hz rfl dX0_isInterval_45
        · have h := ip_s h c6
          refine lv_iconst (v := (1 : Int32)) hx hb dX0_isInterval_40 (by decide) ?_
          refine lv_goto (tgt := 45) hx hb dX0_isInterval_41 (by decide) ?_
          obtain ⟨hz, h⟩ := zr_s h
          cases h
          exact hret 45 ls _ hz rfl dX0_isInterval_45
theorem kX0_largest : yX0_largest.cls = yX0_largest.cls ∧ yX0_largest.cls ≠ "java/lang/invoke/MethodHandle" ∧ yX0_largest.cls ≠ "java/lang/invoke/VarHandle" ∧ (parseMethodDescriptor yX0_largest.desc).map (fun d => d.parameters.length) = some 2 := by decide +kernel
set_option maxHeartbeats 4000000 in
set_option maxRecDepth 100000 in
theorem ctX0_largest (l : Launch) (D : va_G) (ca : Nat → ClassId)   (x0 : Int32) (x1 : Int32) (u0 : Int32) (hf : fX0_largest x0 x1 = some u0) : MR l yX0_largest wsX0_largest 0 0 D ca [.int x0, .int x1] [] (some (.int u0)) := by
  refine hdRi (plainFor_of_name (by decide +kernel)) rfl (Nat.le_of_ble_eq_true rfl) ?_
  intro p e s m args below meth c Q hx hb hml hown hts hP hK hret ls hl
  have hown : s.vm.findClass RX0 = some m.cls := hown
  have hl : lv_has ls 3 [(0, .int x0), (1, .int x1)] := hl
  have h := hf
  unfold fX0_largest at h
  clear hf
  have L15 : ∀  (n : Nat) (l2 : Int32), lp (fun q => bX0_largest_15 x0 x1  q) n l2 = some u0 → ∀ ls, lv_has ls 3 [(0, .int x0), (1, .int x1), (2, .int l2)] → W p l e ({ frames := 0, cells := 0, slots := 0, locals := 0 }) s m args below meth c s.heap [] 0 0 Q (F0 m 15 ls []) := by
    intro  n
    induction n with
    | zero => intro l2 h; exact (lp_0 h).elim
    | succ n ih15 =>
      intro l2 h ls hl
      obtain ⟨q15, h, hq15⟩ := lp_s h
      have h : bX0_largest_15 x0 x1  l2 = some q15 := h
      unfold bX0_largest_15 at h
      refine lv_iload_n hx hb dX0_largest_15 rfl (lv_at hl 2 rfl) ?_
      refine lv_iconst (v := (1 : Int32)) hx hb dX0_largest_16 (by decide) ?_
      refine lv_icmp_le (tgt := 34) hx hb dX0_largest_17 (by decide) (fun c1 => ?_) (fun c1 => ?_)
      · have h := ip_s h c1
        have h := xt_s hq15 h
        refine lv_iload_n hx hb dX0_largest_34 rfl (lv_at hl 2 rfl) ?_
        cases h
        exact hret 35 ls _ rfl dX0_largest_35
      · have h := in_s h c1
        refine lv_iload_n hx hb dX0_largest_20 rfl (lv_at hl 2 rfl) ?_
        refine lv_iload_n hx hb dX0_largest_21 rfl (lv_at hl 1 rfl) ?_
        refine lv_iload_n hx hb dX0_largest_22 rfl (lv_at hl 0 rfl) ?_
        refine lv_isub hx hb dX0_largest_23 ?_
        refine lv_icmp_le (tgt := 34) hx hb dX0_largest_24 (by decide) (fun c2 => ?_) (fun c2 => ?_)
        · have h := ip_s h c2
          have h := xt_s hq15 h
          refine lv_iload_n hx hb dX0_largest_34 rfl (lv_at hl 2 rfl) ?_
          cases h
          exact hret 35 ls _ rfl dX0_largest_35
        · have h := in_s h c2
          refine lv_iload_n hx hb dX0_largest_27 rfl (lv_at hl 2 rfl) ?_
          refine lv_iconst (v := (2 : Int32)) hx hb dX0_largest_28 (by decide) ?_
          obtain ⟨hne, h⟩ := dv_s h
          refine lv_idiv hx hb dX0_largest_29 hne ?_
          obtain ⟨y3, e_y3, h⟩ := nm_s h
          refine top_i e_y3 ?_
          refine lv_istore_n (lv' := [(2, .int y3), (0, .int x0), (1, .int x1)]) hx hb dX0_largest_30 rfl hl (by decide) rfl (fun ls hl => ?_)
          refine lv_goto (tgt := 15) hx hb dX0_largest_31 (by decide) ?_
          exact ih15 y3 (lp_l hq15 h) ls (lv_sub hl [1, 2, 0] rfl)
  refine lv_iload_n hx hb dX0_largest_0 rfl (lv_at hl 0 rfl) ?_
  refine lv_if_ne (tgt := 10) hx hb dX0_largest_1 (by decide) (fun c1 => ?_) (fun c1 => ?_)
  · have h := in_s h c1
    refine lv_iload_n hx hb dX0_largest_10 rfl (lv_at hl 0 rfl) ?_
    refine lv_iload_n hx hb dX0_largest_11 rfl (lv_at hl 0 rfl) ?_
    refine lv_ineg hx hb dX0_largest_12 ?_
    refine lv_iand hx hb dX0_largest_13 ?_
    obtain ⟨y2, e_y2, h⟩ := nm_s h
    refine top_i e_y2 ?_
    refine lv_istore_n (lv' := [(2, .int y2), (0, .int x0), (1, .int x1)]) hx hb dX0_largest_14 rfl hl (by decide) rfl (fun ls hl => ?_)
    exact L15  fuel y2 h ls (lv_sub hl [1, 2, 0] rfl)
  · have h := ip_s h c1
    refine lv_sipush (v := (16384 : Int32)) hx hb dX0_largest_4 (by decide) ?_
    refine lv_goto (tgt := 14) hx hb dX0_largest_7 (by decide) ?_
    refine lv_istore_n (lv' := [(2, .int (16384 : Int32)), (0, .int x0), (1, .int x1)]) hx hb dX0_largest_14 rfl hl (by decide) rfl (fun ls hl => ?_)
    exact L15  fuel (16384 : Int32) h ls (lv_sub hl [1, 2, 0] rfl)
theorem kX0_count : yX0_count.cls = yX0_count.cls ∧ yX0_count.cls ≠ "java/lang/invoke/MethodHandle" ∧ yX0_count.cls ≠ "java/lang/invoke/VarHandle" ∧ (parseMethodDescriptor yX0_count.desc).map (fun d => d.parameters.length) = some 2 := by decide +kernel
set_option maxHeartbeats 4000000 in
set_option maxRecDepth 100000 in
theorem ctX0_count (l : Launch) (D : va_G) (ca : Nat → ClassId)   (x0 : Int32) (x1 : Int32) (u0 : Int32) (hf : fX0_count x0 x1 = some u0) : MR l yX0_count wsX0_count 1 22 D ca [.int x0, .int x1] [] (some (.int u0)) := by
  refine hdRi (plainFor_of_name (by decide +kernel)) rfl (Nat.le_of_ble_eq_true rfl) ?_
  intro p e s m args below meth c Q hx hb hml hown hts hP hK hret ls hl
  have hown : s.vm.findClass RX0 = some m.cls := hown
  have hl : lv_has ls 4 [(0, .int x0), (1, .int x1)] := hl
  have h := hf
  unfold fX0_count at h
  clear hf
  have L4 : ∀  (n : Nat) (l2 : Int32) (l3 : Int32), lp (fun q => bX0_count_4 x1  q.1 q.2) n (l2, l3) = some u0 → ∀ ls, lv_has ls 4 [(1, .int x1), (2, .int l2), (3, .int l3)] → W p l e ({ frames := 1, cells := 0, slots := 0, locals := 22 }) s m args below meth c s.heap [] 0 0 Q (F0 m 4 ls []) := by
    intro  n
    induction n with
    | zero => intro l2 l3 h; exact (lp_0 h).elim
    | succ n ih4 =>
      intro l2 l3 h ls hl
      obtain ⟨q4, h, hq4⟩ := lp_s h
      have h : bX0_count_4 x1  l2 l3 = some q4 := h
      unfold bX0_count_4 at h
      refine lv_iload_n hx hb dX0_count_4 rfl (lv_at hl 1 rfl) ?_
      refine lv_sipush (v := (16384 : Int32)) hx hb dX0_count_5 (by decide) ?_
      refine lv_icmp_ge (tgt := 30) hx hb dX0_count_8 (by decide) (fun c1 => ?_) (fun c1 => ?_)
      · have h := ip_s h c1
        have h := xt_s hq4 h
        refine lv_iload_n hx hb dX0_count_30 rfl (lv_at hl 1 rfl) ?_
        cases h
        exact hret 31 ls _ rfl dX0_count_31
      · have h := in_s h c1
        refine lv_iload_n hx hb dX0_count_11 rfl (lv_at hl 2 rfl) ?_
        refine lv_iload_n hx hb dX0_count_12 rfl (lv_at hl 0 rfl) ?_
        refine lv_icmp_ge (tgt := 30) hx hb dX0_count_13 (by decide) (fun c2 => ?_) (fun c2 => ?_)
        · have h := ip_s h c2
          have h := xt_s hq4 h
          refine lv_iload_n hx hb dX0_count_30 rfl (lv_at hl 1 rfl) ?_
          cases h
          exact hret 31 ls _ rfl dX0_count_31
        · have h := in_s h c2
          refine lv_iload_n hx hb dX0_count_16 rfl (lv_at hl 2 rfl) ?_
          refine lv_iload_n hx hb dX0_count_17 rfl (lv_at hl 2 rfl) ?_
          refine lv_iload_n hx hb dX0_count_18 rfl (lv_at hl 0 rfl) ?_
          obtain ⟨r3, h_r3, h⟩ := bd_s h
          refine clSR (As := [.int l3, .int x1]) (rest := [.int l3]) hx hb hml hown hts gX0_count_X0_largest rfl 2 kX0_largest.2 ⟨Nat.le_of_ble_eq_true rfl, Nat.le_of_ble_eq_true rfl⟩ (ctX0_largest l D ca   l3 x1 r3 h_r3) hP hK [] rfl rfl hl.1 rfl (Nat.le_of_ble_eq_true rfl) ⟨Nat.le_of_ble_eq_true rfl, Nat.le_of_ble_eq_true rfl⟩ dX0_count_19 rfl ?_
          refine lv_iadd hx hb dX0_count_22 ?_
          obtain ⟨y4, e_y4, h⟩ := nm_s h
          refine top_i e_y4 ?_
          refine lv_istore_n (lv' := [(3, .int y4), (1, .int x1), (2, .int l2)]) hx hb dX0_count_23 rfl hl (by decide) rfl (fun ls hl => ?_)
          obtain ⟨y5, e_y5, h⟩ := nm_s h
          refine lv_iinc (v := y5) (lv' := [(2, .int y5), (3, .int y4), (1, .int x1)]) hx hb dX0_count_24 hl (k := 2) rfl (by rw [e_y5]; rfl) (by decide) rfl (fun ls hl => ?_)
          refine lv_goto (tgt := 4) hx hb dX0_count_27 (by decide) ?_
          exact ih4 y5 y4 (lp_l hq4 h) ls (lv_sub hl [2, 0, 1] rfl)
  refine lv_iconst (v := (0 : Int32)) hx hb dX0_count_0 (by decide) ?_
  refine lv_istore_n (lv' := [(2, .int (0 : Int32)), (0, .int x0), (1, .int x1)]) hx hb dX0_count_1 rfl hl (by decide) rfl (fun ls hl => ?_)
  refine lv_iload_n hx hb dX0_count_2 rfl (lv_at hl 1 rfl) ?_
  refine lv_istore_n (lv' := [(3, .int x0), (2, .int (0 : Int32)), (0, .int x0), (1, .int x1)]) hx hb dX0_count_3 rfl hl (by decide) rfl (fun ls hl => ?_)
  exact L4  fuel (0 : Int32) x0 h ls (lv_sub hl [3, 1, 0] rfl)
theorem kX0_firstTick : yX0_firstTick.cls = yX0_firstTick.cls ∧ yX0_firstTick.cls ≠ "java/lang/invoke/MethodHandle" ∧ yX0_firstTick.cls ≠ "java/lang/invoke/VarHandle" ∧ (parseMethodDescriptor yX0_firstTick.desc).map (fun d => d.parameters.length) = some 3 := by decide +kernel
set_option maxHeartbeats 4000000 in
set_option maxRecDepth 100000 in
theorem ctX0_firstTick (l : Launch) (D : va_G) (ca : Nat → ClassId)   (x0 : Int32) (x1 : Int32) (x2 : Int32) (u0 : Int32) (hf : fX0_firstTick x0 x1 x2 = some u0) : MR l yX0_firstTick wsX0_firstTick 1 22 D ca [.int x0, .int x1, .int x2] [] (some (.int u0)) := by
  refine hdRi (plainFor_of_name (by decide +kernel)) rfl (Nat.le_of_ble_eq_true rfl) ?_
  intro p e s m args below meth c Q hx hb hml hown hts hP hK hret ls hl
  have hown : s.vm.findClass RX0 = some m.cls := hown
  have hl : lv_has ls 5 [(0, .int x0), (1, .int x1), (2, .int x2)] := hl
  have h := hf
  unfold fX0_firstTick at h
  clear hf
  have J30 : ∀ (l3 : Int32), jX0_firstTick_30 x1 x2 l3 = some u0 → ∀ ls, lv_has ls 5 [(1, .int x1), (2, .int x2), (3, .int l3)] → W p l e ({ frames := 1, cells := 0, slots := 0, locals := 22 }) s m args below meth c s.heap [] 0 0 Q (F0 m 30 ls []) := by
    intro l3 h ls hl
    unfold jX0_firstTick_30 at h
    refine lv_iload_n hx hb dX0_firstTick_30 rfl (lv_at hl 1 rfl) ?_
    refine lv_if_lt (tgt := 43) hx hb dX0_firstTick_31 (by decide) (fun c1 => ?_) (fun c1 => ?_)
    · have h := ip_s h c1
      refine lv_iconst (v := (-1 : Int32)) hx hb dX0_firstTick_43 (by decide) ?_
      cases h
      exact hret 44 ls _ rfl dX0_firstTick_44
    · have h := in_s h c1
      refine lv_iload_n hx hb dX0_firstTick_34 rfl (lv_at hl 2 rfl) ?_
      refine lv_iload_n hx hb dX0_firstTick_35 rfl (lv_at hl 0 rfl) ?_
      refine lv_icmp_ge (tgt := 43) hx hb dX0_firstTick_36 (by decide) (fun c2 => ?_) (fun c2 => ?_)
      · have h := ip_s h c2
        refine lv_iconst (v := (-1 : Int32)) hx hb dX0_firstTick_43 (by decide) ?_
        cases h
        exact hret 44 ls _ rfl dX0_firstTick_44
      · have h := in_s h c2
        refine lv_iload_n hx hb dX0_firstTick_39 rfl (lv_at hl 2 rfl) ?_
        refine lv_goto (tgt := 44) hx hb dX0_firstTick_40 (by decide) ?_
        cases h
        exact hret 44 ls _ rfl dX0_firstTick_44
  have L5 : ∀  (n : Nat) (l3 : Int32) (l4 : Int32), lp (fun q => bX0_firstTick_5 x1 x2  q.1 q.2) n (l3, l4) = some u0 → ∀ ls, lv_has ls 5 [(1, .int x1), (2, .int x2), (3, .int l3), (4, .int l4)] → W p l e ({ frames := 1, cells := 0, slots := 0, locals := 22 }) s m args below meth c s.heap [] 0 0 Q (F0 m 5 ls []) := by
    intro  n
    induction n with
    | zero => intro l3 l4 h; exact (lp_0 h).elim
    | succ n ih5 =>
      intro l3 l4 h ls hl
      obtain ⟨q5, h, hq5⟩ := lp_s h
      have h : bX0_firstTick_5 x1 x2  l3 l4 = some q5 := h
      unfold bX0_firstTick_5 at h
      refine lv_iload hx hb dX0_firstTick_5 (lv_at hl 3 rfl) ?_
      refine lv_iload_n hx hb dX0_firstTick_7 rfl (lv_at hl 1 rfl) ?_
      refine lv_icmp_ge (tgt := 30) hx hb dX0_firstTick_8 (by decide) (fun c1 => ?_) (fun c1 => ?_)
      · have h := ip_s h c1
        have h := xt_s hq5 h
        exact J30 l3 h ls (lv_sub hl [0, 1, 2] rfl)
      · have h := in_s h c1
        refine lv_iload_n hx hb dX0_firstTick_11 rfl (lv_at hl 2 rfl) ?_
        refine lv_iload_n hx hb dX0_firstTick_12 rfl (lv_at hl 0 rfl) ?_
        refine lv_icmp_ge (tgt := 30) hx hb dX0_firstTick_13 (by decide) (fun c3 => ?_) (fun c3 => ?_)
        · have h := ip_s h c3
          have h := xt_s hq5 h
          exact J30 l3 h ls (lv_sub hl [0, 1, 2] rfl)
        · have h := in_s h c3
          refine lv_iload_n hx hb dX0_firstTick_16 rfl (lv_at hl 2 rfl) ?_
          refine lv_iload_n hx hb dX0_firstTick_17 rfl (lv_at hl 2 rfl) ?_
          refine lv_iload_n hx hb dX0_firstTick_18 rfl (lv_at hl 0 rfl) ?_
          obtain ⟨r4, h_r4, h⟩ := bd_s h
          refine clSR (As := [.int l3, .int x1]) (rest := [.int l3]) hx hb hml hown hts gX0_firstTick_X0_largest rfl 2 kX0_largest.2 ⟨Nat.le_of_ble_eq_true rfl, Nat.le_of_ble_eq_true rfl⟩ (ctX0_largest l D ca   l3 x1 r4 h_r4) hP hK [] rfl rfl hl.1 rfl (Nat.le_of_ble_eq_true rfl) ⟨Nat.le_of_ble_eq_true rfl, Nat.le_of_ble_eq_true rfl⟩ dX0_firstTick_19 rfl ?_
          refine lv_iadd hx hb dX0_firstTick_22 ?_
          obtain ⟨y5, e_y5, h⟩ := nm_s h
          refine top_i e_y5 ?_
          refine lv_istore_n (lv' := [(3, .int y5), (1, .int x1), (2, .int x2), (4, .int l4)]) hx hb dX0_firstTick_23 rfl hl (by decide) rfl (fun ls hl => ?_)
          obtain ⟨y6, e_y6, h⟩ := nm_s h
          refine lv_iinc (v := y6) (lv' := [(4, .int y6), (3, .int y5), (1, .int x1), (2, .int x2)]) hx hb dX0_firstTick_24 hl (k := 3) rfl (by rw [e_y6]; rfl) (by decide) rfl (fun ls hl => ?_)
          refine lv_goto (tgt := 5) hx hb dX0_firstTick_27 (by decide) ?_
          exact ih5 y5 y6 (lp_l hq5 h) ls (lv_sub hl [2, 3, 1, 0] rfl)
  refine lv_iload_n hx hb dX0_firstTick_0 rfl (lv_at hl 0 rfl) ?_
  refine lv_istore_n (lv' := [(3, .int x0), (0, .int x0), (1, .int x1), (2, .int x2)]) hx hb dX0_firstTick_1 rfl hl (by decide) rfl (fun ls hl => ?_)
  refine lv_iconst (v := (0 : Int32)) hx hb dX0_firstTick_2 (by decide) ?_
  refine lv_istore (lv' := [(4, .int (0 : Int32)), (3, .int x0), (0, .int x0), (1, .int x1), (2, .int x2)]) hx hb dX0_firstTick_3 hl (by decide) rfl (fun ls hl => ?_)
  exact L5  fuel x0 (0 : Int32) h ls (lv_sub hl [3, 4, 1, 0] rfl)
theorem kX0_holds : yX0_holds.cls = yX0_holds.cls ∧ yX0_holds.cls ≠ "java/lang/invoke/MethodHandle" ∧ yX0_holds.cls ≠ "java/lang/invoke/VarHandle" ∧ (parseMethodDescriptor yX0_holds.desc).map (fun d => d.parameters.length) = some 4 := by decide +kernel
set_option maxHeartbeats 4000000 in
set_option maxRecDepth 100000 in
theorem ctX0_holds (l : Launch) (D : va_G) (ca : Nat → ClassId)   (x0 : Int32) (x1 : Int32) (x2 : Int32) (x3 : Int32) (u0 : Int32) (hf : fX0_holds x0 x1 x2 x3 = some u0) : MR l yX0_holds wsX0_holds 0 0 D ca [.int x0, .int x1, .int x2, .int x3] [] (some (.int u0)) := by
  refine hdRz (plainFor_of_name (by decide +kernel)) rfl (Nat.le_of_ble_eq_true rfl) ?_
  intro p e s m args below meth c Q hx hb hml hown hts hP hK hret ls hl
  have hown : s.vm.findClass RX0 = some m.cls := hown
  have hl : lv_has ls 6 [(0, .int x0), (1, .int x1), (2, .int x2), (3, .int x3)] := hl
  have h := hf
  unfold fX0_holds at h
  clear hf
  refine lv_iload_n hx hb dX0_holds_0 rfl (lv_at hl 2 rfl) ?_
  refine lv_iload_n hx hb dX0_holds_1 rfl (lv_at hl 0 rfl) ?_
  refine lv_icmp_lt (tgt := 12) hx hb dX0_holds_2 (by decide) (fun c1 => ?_) (fun c1 => ?_)
  · have h := ip_s h c1
    refine lv_iconst (v := (0 : Int32)) hx hb dX0_holds_12 (by decide) ?_
    obtain ⟨hz, h⟩ := zr_s h
    cases h
    exact hret 13 ls _ hz rfl dX0_holds_13
  · have h := in_s h c1
    refine lv_iload_n hx hb dX0_holds_5 rfl (lv_at hl 2 rfl) ?_
    refine lv_iload_n hx hb dX0_holds_6 rfl (lv_at hl 3 rfl) ?_
    refine lv_iadd hx hb dX0_holds_7 ?_
    refine lv_iload_n hx hb dX0_holds_8 rfl (lv_at hl 1 rfl) ?_
    refine lv_icmp_le (tgt := 14) hx hb dX0_holds_9 (by decide) (fun c2 => ?_) (fun c2 => ?_)
    · have h := ip_s h c2
      refine lv_iconst (v := (2 : Int32)) hx hb dX0_holds_14 (by decide) ?_
      refine lv_iload_n hx hb dX0_holds_15 rfl (lv_at hl 3 rfl) ?_
      refine lv_imul hx hb dX0_holds_16 ?_
      obtain ⟨y3, e_y3, h⟩ := nm_s h
      refine top_i e_y3 ?_
      refine lv_istore (lv' := [(4, .int y3), (0, .int x0), (1, .int x1), (2, .int x2), (3, .int x3)]) hx hb dX0_holds_17 hl (by decide) rfl (fun ls hl => ?_)
      refine lv_iload_n hx hb dX0_holds_19 rfl (lv_at hl 3 rfl) ?_
      refine lv_iload hx hb dX0_holds_20 (lv_at hl 0 rfl) ?_
      refine lv_ineg hx hb dX0_holds_22 ?_
      refine lv_iand hx hb dX0_holds_23 ?_
      obtain ⟨y4, e_y4, h⟩ := nm_s h
      refine top_i e_y4 ?_
      refine lv_istore (lv' := [(5, .int y4), (4, .int y3), (0, .int x0), (1, .int x1), (2, .int x2), (3, .int x3)]) hx hb dX0_holds_24 hl (by decide) rfl (fun ls hl => ?_)
      refine lv_iload hx hb dX0_holds_26 (lv_at hl 1 rfl) ?_
      refine lv_sipush (v := (16384 : Int32)) hx hb dX0_holds_28 (by decide) ?_
      refine lv_icmp_gt (tgt := 49) hx hb dX0_holds_31 (by decide) (fun c5 => ?_) (fun c5 => ?_)
      · have h := ip_s h c5
        refine lv_iconst (v := (1 : Int32)) hx hb dX0_holds_49 (by decide) ?_
        refine lv_goto (tgt := 54) hx hb dX0_holds_50 (by decide) ?_
        obtain ⟨hz, h⟩ := zr_s h
        cases h
        exact hret 54 ls _ hz rfl dX0_holds_54
      · have h := in_s h c5
        refine lv_iload hx hb dX0_holds_34 (lv_at hl 0 rfl) ?_
        refine lv_iload_n hx hb dX0_holds_36 rfl (lv_at hl 2 rfl) ?_
        refine lv_icmp_lt (tgt := 49) hx hb dX0_holds_37 (by decide) (fun c6 => ?_) (fun c6 => ?_)
        · have h := ip_s h c6
          refine lv_iconst (v := (1 : Int32)) hx hb dX0_holds_49 (by decide) ?_
          refine lv_goto (tgt := 54) hx hb dX0_holds_50 (by decide) ?_
          obtain ⟨hz, h⟩ := zr_s h
          cases h
          exact hret 54 ls _ hz rfl dX0_holds_54
        · have h := in_s h c6
          refine lv_iload hx hb dX0_holds_40 (lv_at hl 0 rfl) ?_
          refine lv_iload hx hb dX0_holds_42 (lv_at hl 1 rfl) ?_
          refine lv_iadd hx hb dX0_holds_44 ?_
          refine lv_iload_n hx hb dX0_holds_45 rfl (lv_at hl 3 rfl) ?_
          refine lv_icmp_le (tgt := 53) hx hb dX0_holds_46 (by decide) (fun c7 => ?_) (fun c7 => ?_)
          · have h := ip_s h c7
            refine lv_iconst (v := (0 : Int32)) hx hb dX0_holds_53 (by decide) ?_
            obtain ⟨hz, h⟩ := zr_s h
            cases h
            exact hret 54 ls _ hz rfl dX0_holds_54
          · have h := in_s h c7
            refine lv_iconst (v := (1 : Int32)) hx hb dX0_holds_49 (by decide) ?_
            refine lv_goto (tgt := 54) hx hb dX0_holds_50 (by decide) ?_
            obtain ⟨hz, h⟩ := zr_s h
            cases h
            exact hret 54 ls _ hz rfl dX0_holds_54
    · have h := in_s h c2
      refine lv_iconst (v := (0 : Int32)) hx hb dX0_holds_12 (by decide) ?_
      obtain ⟨hz, h⟩ := zr_s h
      cases h
      exact hret 13 ls _ hz rfl dX0_holds_13
