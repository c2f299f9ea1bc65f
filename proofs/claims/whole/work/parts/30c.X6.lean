theorem mwX6_nextTurn_0 : Cond.fieldLink RX6 19 "SegmentTimes$Store" "size" "I" ∈ wsX6_nextTurn := List.mem_of_getElem? (i := 1) rfl
theorem inX6_nextTurn_X6 : ∀ w ∈ u_ws RX6 TX6 3, w ∈ wsX6_nextTurn := fun w h => List.mem_cons_of_mem _ (List.mem_append_right _ (h))
theorem kX6_nextTurn : yX6_nextTurn.cls = RX6 ∧ yX6_nextTurn.cls ≠ "java/lang/invoke/MethodHandle" ∧ yX6_nextTurn.cls ≠ "java/lang/invoke/VarHandle" ∧ (parseMethodDescriptor yX6_nextTurn.desc).map (fun d => d.parameters.length) = some 2 := by decide +kernel
set_option maxHeartbeats 4000000 in
set_option maxRecDepth 100000 in
theorem ctX6_nextTurn (l : Launch) (D : va_G) (ca : Nat → ClassId) (o : Nat) (o_values : Nat) (o_now : Int32) (o_size : Int32) (o_values_d : Nat → Int32) (x1 : Int32) (x2 : Int32) (u0 : Int32) (hf : fX6_nextTurn o_size o_values_d x1 x2 = some u0) : MR l yX6_nextTurn wsX6_nextTurn 2 45 D ca [.ref o, .int x1, .int x2] [(o, .inr (5, [.int o_now, .int o_size, .ref o_values])), (o_values, .inl (ca 0, 240, .inl o_values_d))] (some (.int u0)) := by
  refine hdRi (plainFor_of_name (by decide +kernel)) rfl (Nat.le_of_ble_eq_true rfl) ?_
  intro p e s m args below meth c Q hx hb hml hown hts hP hK hret ls hl
  have hown : s.vm.findClass RX6 = some m.cls := hown
  have hl : lv_has ls 7 [(0, .ref o), (1, .int x1), (2, .int x2)] := hl
  have h := hf
  unfold fX6_nextTurn at h
  clear hf
  have L7 : ∀  (n : Nat) (l3 : Int32) (l4 : Int32), lp (fun q => bX6_nextTurn_7 o_size o_values_d x1 x2  q.1 q.2) n (l3, l4) = some u0 → ∀ ls, lv_has ls 7 [(0, .ref o), (1, .int x1), (2, .int x2), (3, .int l3), (4, .int l4)] → W p l e ({ frames := 2, cells := 0, slots := 0, locals := 45 }) s m args below meth c s.heap [] 0 0 Q (F0 m 7 ls []) := by
    intro  n
    induction n with
    | zero => intro l3 l4 h; exact (lp_0 h).elim
    | succ n ih7 =>
      intro l3 l4 h ls hl
      obtain ⟨q7, h, hq7⟩ := lp_s h
      have h : bX6_nextTurn_7 o_size o_values_d x1 x2  l3 l4 = some q7 := h
      unfold bX6_nextTurn_7 at h
      have J59 : ∀ (l3 : Int32) (l4 : Int32) (l6 : Int32), jX6_nextTurn_59 x2 l3 l4 l6 = some q7 → ∀ ls, lv_has ls 7 [(0, .ref o), (1, .int x1), (2, .int x2), (3, .int l3), (4, .int l4), (6, .int l6)] → W p l e ({ frames := 2, cells := 0, slots := 0, locals := 45 }) s m args below meth c s.heap [] 0 0 Q (F0 m 59 ls []) := by
        intro l3 l4 l6 h ls hl
        unfold jX6_nextTurn_59 at h
        refine lv_iload hx hb dX6_nextTurn_59 (lv_at hl 5 rfl) ?_
        refine lv_iload_n hx hb dX6_nextTurn_61 rfl (lv_at hl 2 rfl) ?_
        refine lv_icmp_le (tgt := 74) hx hb dX6_nextTurn_62 (by decide) (fun c1 => ?_) (fun c1 => ?_)
        · have h := ip_s h c1
          obtain ⟨y2, e_y2, h⟩ := nm_s h
          refine lv_iinc (v := y2) (lv' := [(4, .int y2), (0, .ref o), (1, .int x1), (2, .int x2), (3, .int l3), (6, .int l6)]) hx hb dX6_nextTurn_74 hl (k := 4) rfl (by rw [e_y2]; rfl) (by decide) rfl (fun ls hl => ?_)
          refine lv_goto (tgt := 7) hx hb dX6_nextTurn_77 (by decide) ?_
          exact ih7 l3 y2 (lp_l hq7 h) ls (lv_sub hl [1, 2, 3, 4, 0] rfl)
        · have h := in_s h c1
          refine lv_iload hx hb dX6_nextTurn_65 (lv_at hl 5 rfl) ?_
          refine lv_iload_n hx hb dX6_nextTurn_67 rfl (lv_at hl 3 rfl) ?_
          refine lv_icmp_ge (tgt := 74) hx hb dX6_nextTurn_68 (by decide) (fun c3 => ?_) (fun c3 => ?_)
          · have h := ip_s h c3
            obtain ⟨y4, e_y4, h⟩ := nm_s h
            refine lv_iinc (v := y4) (lv' := [(4, .int y4), (0, .ref o), (1, .int x1), (2, .int x2), (3, .int l3), (6, .int l6)]) hx hb dX6_nextTurn_74 hl (k := 4) rfl (by rw [e_y4]; rfl) (by decide) rfl (fun ls hl => ?_)
            refine lv_goto (tgt := 7) hx hb dX6_nextTurn_77 (by decide) ?_
            exact ih7 l3 y4 (lp_l hq7 h) ls (lv_sub hl [1, 2, 3, 4, 0] rfl)
          · have h := in_s h c3
            refine lv_iload hx hb dX6_nextTurn_71 (lv_at hl 5 rfl) ?_
            refine lv_istore_n (lv' := [(3, .int l6), (0, .ref o), (1, .int x1), (2, .int x2), (4, .int l4), (6, .int l6)]) hx hb dX6_nextTurn_73 rfl hl (by decide) rfl (fun ls hl => ?_)
            obtain ⟨y5, e_y5, h⟩ := nm_s h
            refine lv_iinc (v := y5) (lv' := [(4, .int y5), (3, .int l6), (0, .ref o), (1, .int x1), (2, .int x2), (6, .int l6)]) hx hb dX6_nextTurn_74 hl (k := 4) rfl (by rw [e_y5]; rfl) (by decide) rfl (fun ls hl => ?_)
            refine lv_goto (tgt := 7) hx hb dX6_nextTurn_77 (by decide) ?_
            exact ih7 l6 y5 (lp_l hq7 h) ls (lv_sub hl [2, 3, 4, 1, 0] rfl)
      refine lv_iload hx hb dX6_nextTurn_7 (lv_at hl 4 rfl) ?_
      refine lv_aload_n hx hb dX6_nextTurn_9 rfl (lv_at hl 0 rfl) ?_
      refine gtF (ci := 5) (v := .int o_size) (C := RX6) (T := TX6) (N := 3) hx hb hts inX6_nextTurn_X6 hown hK hP 0 rfl rfl 1 (by decide) mwX6_nextTurn_0 rfl rfl dX6_nextTurn_10 ?_
      refine lv_icmp_ge (tgt := 80) hx hb dX6_nextTurn_13 (by decide) (fun c1 => ?_) (fun c1 => ?_)
      · have h := ip_s h c1
        have h := xt_s hq7 h
        refine lv_iload_n hx hb dX6_nextTurn_80 rfl (lv_at hl 3 rfl) ?_
        cases h
        exact hret 81 ls _ rfl dX6_nextTurn_81
      · have h := in_s h c1
        refine lv_aload_n hx hb dX6_nextTurn_16 rfl (lv_at hl 0 rfl) ?_
        refine lv_iload hx hb dX6_nextTurn_17 (lv_at hl 4 rfl) ?_
        refine lv_iload_n hx hb dX6_nextTurn_19 rfl (lv_at hl 1 rfl) ?_
        obtain ⟨r2, h_r2, h⟩ := bd_s h
        refine clVR (As := [.int l4, .int x1]) (rest := []) hx hb hml hown hts gX6_nextTurn_X6_covers rfl 2 kX6_covers ⟨Nat.le_of_ble_eq_true rfl, Nat.le_of_ble_eq_true rfl⟩ (ctX6_covers l D ca o o_values o_now o_size o_values_d l4 x1 r2 h_r2) hP hK [0, 1] rfl 0 5 rfl rfl rfl rfl hl.1 rfl (Nat.le_of_ble_eq_true rfl) ⟨Nat.le_of_ble_eq_true rfl, Nat.le_of_ble_eq_true rfl⟩ dX6_nextTurn_20 rfl ?_
        refine lv_if_eq (tgt := 74) hx hb dX6_nextTurn_23 (by decide) (fun c3 => ?_) (fun c3 => ?_)
        · have h := ip_s h c3
          obtain ⟨y4, e_y4, h⟩ := nm_s h
          refine lv_iinc (v := y4) (lv' := [(4, .int y4), (0, .ref o), (1, .int x1), (2, .int x2), (3, .int l3)]) hx hb dX6_nextTurn_74 hl (k := 4) rfl (by rw [e_y4]; rfl) (by decide) rfl (fun ls hl => ?_)
          refine lv_goto (tgt := 7) hx hb dX6_nextTurn_77 (by decide) ?_
          exact ih7 l3 y4 (lp_l hq7 h) ls (lv_sub hl [1, 2, 3, 4, 0] rfl)
        · have h := in_s h c3
          refine lv_aload_n hx hb dX6_nextTurn_26 rfl (lv_at hl 0 rfl) ?_
          refine lv_iload hx hb dX6_nextTurn_27 (lv_at hl 4 rfl) ?_
          refine lv_iconst (v := (4 : Int32)) hx hb dX6_nextTurn_29 (by decide) ?_
          obtain ⟨r5, h_r5, h⟩ := bd_s h
          refine clVR (As := [.int l4, .int (4 : Int32)]) (rest := []) hx hb hml hown hts gX6_nextTurn_X6_value rfl 2 kX6_value ⟨Nat.le_of_ble_eq_true rfl, Nat.le_of_ble_eq_true rfl⟩ (ctX6_value l D ca o o_values o_now o_size o_values_d l4 (4 : Int32) r5 h_r5) hP hK [0, 1] rfl 0 5 rfl rfl rfl rfl hl.1 rfl (Nat.le_of_ble_eq_true rfl) ⟨Nat.le_of_ble_eq_true rfl, Nat.le_of_ble_eq_true rfl⟩ dX6_nextTurn_30 rfl ?_
          refine lv_istore (lv' := [(5, .int r5), (0, .ref o), (1, .int x1), (2, .int x2), (3, .int l3), (4, .int l4)]) hx hb dX6_nextTurn_33 hl (by decide) rfl (fun ls hl => ?_)
          refine lv_aload_n hx hb dX6_nextTurn_35 rfl (lv_at hl 1 rfl) ?_
          refine lv_iload hx hb dX6_nextTurn_36 (lv_at hl 5 rfl) ?_
          refine lv_iconst (v := (5 : Int32)) hx hb dX6_nextTurn_38 (by decide) ?_
          obtain ⟨r6, h_r6, h⟩ := bd_s h
          refine clVR (As := [.int l4, .int (5 : Int32)]) (rest := []) hx hb hml hown hts gX6_nextTurn_X6_value rfl 2 kX6_value ⟨Nat.le_of_ble_eq_true rfl, Nat.le_of_ble_eq_true rfl⟩ (ctX6_value l D ca o o_values o_now o_size o_values_d l4 (5 : Int32) r6 h_r6) hP hK [0, 1] rfl 0 5 rfl rfl rfl rfl hl.1 rfl (Nat.le_of_ble_eq_true rfl) ⟨Nat.le_of_ble_eq_true rfl, Nat.le_of_ble_eq_true rfl⟩ dX6_nextTurn_39 rfl ?_
          refine lv_istore (lv' := [(6, .int r6), (5, .int r5), (0, .ref o), (1, .int x1), (2, .int x2), (3, .int l3), (4, .int l4)]) hx hb dX6_nextTurn_42 hl (by decide) rfl (fun ls hl => ?_)
          refine lv_iload hx hb dX6_nextTurn_44 (lv_at hl 1 rfl) ?_
          refine lv_iload_n hx hb dX6_nextTurn_46 rfl (lv_at hl 4 rfl) ?_
          refine lv_icmp_le (tgt := 59) hx hb dX6_nextTurn_47 (by decide) (fun c7 => ?_) (fun c7 => ?_)
          · have h := ip_s h c7
            exact J59 l3 l4 r6 h ls (lv_sub hl [2, 3, 4, 5, 6, 0] rfl)
          · have h := in_s h c7
            refine lv_iload hx hb dX6_nextTurn_50 (lv_at hl 1 rfl) ?_
            refine lv_iload_n hx hb dX6_nextTurn_52 rfl (lv_at hl 5 rfl) ?_
            refine lv_icmp_ge (tgt := 59) hx hb dX6_nextTurn_53 (by decide) (fun c8 => ?_) (fun c8 => ?_)
            · have h := ip_s h c8
              exact J59 l3 l4 r6 h ls (lv_sub hl [2, 3, 4, 5, 6, 0] rfl)
            · have h := in_s h c8
              refine lv_iload hx hb dX6_nextTurn_56 (lv_at hl 1 rfl) ?_
              refine lv_istore_n (lv' := [(3, .int r5), (6, .int r6), (5, .int r5), (0, .ref o), (1, .int x1), (2, .int x2), (4, .int l4)]) hx hb dX6_nextTurn_58 rfl hl (by decide) rfl (fun ls hl => ?_)
              exact J59 r5 l4 r6 h ls (lv_sub hl [3, 4, 5, 0, 6, 1] rfl)
  refine lv_sipush (v := (16385 : Int32)) hx hb dX6_nextTurn_0 (by decide) ?_
  refine lv_istore_n (lv' := [(3, .int (16385 : Int32)), (0, .ref o), (1, .int x1), (2, .int x2)]) hx hb dX6_nextTurn_3 rfl hl (by decide) rfl (fun ls hl => ?_)
  refine lv_iconst (v := (0 : Int32)) hx hb dX6_nextTurn_4 (by decide) ?_
  refine lv_istore (lv' := [(4, .int (0 : Int32)), (3, .int (16385 : Int32)), (0, .ref o), (1, .int x1), (2, .int x2)]) hx hb dX6_nextTurn_5 hl (by decide) rfl (fun ls hl => ?_)
  exact L7  fuel (16385 : Int32) (0 : Int32) h ls (lv_sub hl [2, 3, 4, 1, 0] rfl)
theorem kX6_changeAfter : yX6_changeAfter.cls = RX6 ∧ yX6_changeAfter.cls ≠ "java/lang/invoke/MethodHandle" ∧ yX6_changeAfter.cls ≠ "java/lang/invoke/VarHandle" ∧ (parseMethodDescriptor yX6_changeAfter.desc).map (fun d => d.parameters.length) = some 2 := by decide +kernel
set_option maxHeartbeats 4000000 in
set_option maxRecDepth 100000 in
theorem ctX6_changeAfter (l : Launch) (D : va_G) (ca : Nat → ClassId) (o : Nat) (o_values : Nat) (o_now : Int32) (o_size : Int32) (o_values_d : Nat → Int32) (x1 : Int32) (x2 : Int32) (u0 : Int32) (hf : fX6_changeAfter o_size o_values_d x1 x2 = some u0) : MR l yX6_changeAfter wsX6_changeAfter 4 94 D ca [.ref o, .int x1, .int x2] [(o, .inr (5, [.int o_now, .int o_size, .ref o_values])), (o_values, .inl (ca 0, 240, .inl o_values_d))] (some (.int u0)) := by
  refine hdRi (plainFor_of_name (by decide +kernel)) rfl (Nat.le_of_ble_eq_true rfl) ?_
  intro p e s m args below meth c Q hx hb hml hown hts hP hK hret ls hl
  have hown : s.vm.findClass RX6 = some m.cls := hown
  have hl : lv_has ls 6 [(0, .ref o), (1, .int x1), (2, .int x2)] := hl
  have h := hf
  unfold fX6_changeAfter at h
  clear hf
  have L18 : ∀ (l3 : Int32) (n : Nat) (l4 : Int32) (l5 : Int32), lp (fun q => bX6_changeAfter_18 o_size o_values_d x1 l3 q.1 q.2) n (l4, l5) = some u0 → ∀ ls, lv_has ls 6 [(0, .ref o), (1, .int x1), (3, .int l3), (4, .int l4), (5, .int l5)] → W p l e ({ frames := 4, cells := 0, slots := 0, locals := 94 }) s m args below meth c s.heap [] 0 0 Q (F0 m 18 ls []) := by
    intro l3 n
    induction n with
    | zero => intro l4 l5 h; exact (lp_0 h).elim
    | succ n ih18 =>
      intro l4 l5 h ls hl
      obtain ⟨q18, h, hq18⟩ := lp_s h
      have h : bX6_changeAfter_18 o_size o_values_d x1 l3 l4 l5 = some q18 := h
      unfold bX6_changeAfter_18 at h
      refine lv_iload hx hb dX6_changeAfter_18 (lv_at hl 4 rfl) ?_
      refine lv_sipush (v := (16384 : Int32)) hx hb dX6_changeAfter_20 (by decide) ?_
      refine lv_icmp_gt (tgt := 63) hx hb dX6_changeAfter_23 (by decide) (fun c1 => ?_) (fun c1 => ?_)
      · have h := ip_s h c1
        have h := xt_s hq18 h
        refine lv_iconst (v := (-1 : Int32)) hx hb dX6_changeAfter_63 (by decide) ?_
        cases h
        exact hret 64 ls _ rfl dX6_changeAfter_64
      · have h := in_s h c1
        refine lv_iload hx hb dX6_changeAfter_26 (lv_at hl 3 rfl) ?_
        refine lv_sipush (v := (16384 : Int32)) hx hb dX6_changeAfter_28 (by decide) ?_
        refine lv_icmp_gt (tgt := 63) hx hb dX6_changeAfter_31 (by decide) (fun c2 => ?_) (fun c2 => ?_)
        · have h := ip_s h c2
          have h := xt_s hq18 h
          refine lv_iconst (v := (-1 : Int32)) hx hb dX6_changeAfter_63 (by decide) ?_
          cases h
          exact hret 64 ls _ rfl dX6_changeAfter_64
        · have h := in_s h c2
          refine lv_aload_n hx hb dX6_changeAfter_34 rfl (lv_at hl 0 rfl) ?_
          refine lv_iload_n hx hb dX6_changeAfter_35 rfl (lv_at hl 1 rfl) ?_
          refine lv_iload hx hb dX6_changeAfter_36 (lv_at hl 3 rfl) ?_
          obtain ⟨r3, h_r3, h⟩ := bd_s h
          refine clVR (As := [.int x1, .int l4]) (rest := []) hx hb hml hown hts gX6_changeAfter_X6_firstAt rfl 2 kX6_firstAt ⟨Nat.le_of_ble_eq_true rfl, Nat.le_of_ble_eq_true rfl⟩ (ctX6_firstAt l D ca o o_values o_now o_size o_values_d x1 l4 r3 h_r3) hP hK [0, 1] rfl 0 5 rfl rfl rfl rfl hl.1 rfl (Nat.le_of_ble_eq_true rfl) ⟨Nat.le_of_ble_eq_true rfl, Nat.le_of_ble_eq_true rfl⟩ dX6_changeAfter_38 rfl ?_
          refine lv_iload_n hx hb dX6_changeAfter_41 rfl (lv_at hl 2 rfl) ?_
          refine lv_icmp_eq (tgt := 48) hx hb dX6_changeAfter_42 (by decide) (fun c4 => ?_) (fun c4 => ?_)
          · have h := ip_s h c4
            refine lv_aload_n hx hb dX6_changeAfter_48 rfl (lv_at hl 0 rfl) ?_
            refine lv_iload_n hx hb dX6_changeAfter_49 rfl (lv_at hl 1 rfl) ?_
            refine lv_iload hx hb dX6_changeAfter_50 (lv_at hl 3 rfl) ?_
            obtain ⟨r5, h_r5, h⟩ := bd_s h
            refine clVR (As := [.int x1, .int l4]) (rest := []) hx hb hml hown hts gX6_changeAfter_X6_nextTurn rfl 2 kX6_nextTurn ⟨Nat.le_of_ble_eq_true rfl, Nat.le_of_ble_eq_true rfl⟩ (ctX6_nextTurn l D ca o o_values o_now o_size o_values_d x1 l4 r5 h_r5) hP hK [0, 1] rfl 0 5 rfl rfl rfl rfl hl.1 rfl (Nat.le_of_ble_eq_true rfl) ⟨Nat.le_of_ble_eq_true rfl, Nat.le_of_ble_eq_true rfl⟩ dX6_changeAfter_52 rfl ?_
            refine lv_istore (lv' := [(4, .int r5), (0, .ref o), (1, .int x1), (3, .int l3), (5, .int l5)]) hx hb dX6_changeAfter_55 hl (by decide) rfl (fun ls hl => ?_)
            obtain ⟨y6, e_y6, h⟩ := nm_s h
            refine lv_iinc (v := y6) (lv' := [(5, .int y6), (4, .int r5), (0, .ref o), (1, .int x1), (3, .int l3)]) hx hb dX6_changeAfter_57 hl (k := 4) rfl (by rw [e_y6]; rfl) (by decide) rfl (fun ls hl => ?_)
            refine lv_goto (tgt := 18) hx hb dX6_changeAfter_60 (by decide) ?_
            exact ih18 r5 y6 (lp_l hq18 h) ls (lv_sub hl [2, 3, 4, 1, 0] rfl)
          · have h := in_s h c4
            have h := xt_s hq18 h
            refine lv_iload hx hb dX6_changeAfter_45 (lv_at hl 3 rfl) ?_
            cases h
            exact hret 47 ls _ rfl dX6_changeAfter_47
  refine lv_aload_n hx hb dX6_changeAfter_0 rfl (lv_at hl 0 rfl) ?_
  refine lv_iload_n hx hb dX6_changeAfter_1 rfl (lv_at hl 1 rfl) ?_
  refine lv_iload_n hx hb dX6_changeAfter_2 rfl (lv_at hl 2 rfl) ?_
  obtain ⟨r1, h_r1, h⟩ := bd_s h
  refine clVR (As := [.int x1, .int x2]) (rest := []) hx hb hml hown hts gX6_changeAfter_X6_firstAt rfl 2 kX6_firstAt ⟨Nat.le_of_ble_eq_true rfl, Nat.le_of_ble_eq_true rfl⟩ (ctX6_firstAt l D ca o o_values o_now o_size o_values_d x1 x2 r1 h_r1) hP hK [0, 1] rfl 0 5 rfl rfl rfl rfl hl.1 rfl (Nat.le_of_ble_eq_true rfl) ⟨Nat.le_of_ble_eq_true rfl, Nat.le_of_ble_eq_true rfl⟩ dX6_changeAfter_3 rfl ?_
  refine lv_istore_n (lv' := [(3, .int r1), (0, .ref o), (1, .int x1), (2, .int x2)]) hx hb dX6_changeAfter_6 rfl hl (by decide) rfl (fun ls hl => ?_)
  refine lv_aload_n hx hb dX6_changeAfter_7 rfl (lv_at hl 1 rfl) ?_
  refine lv_iload_n hx hb dX6_changeAfter_8 rfl (lv_at hl 2 rfl) ?_
  refine lv_iload_n hx hb dX6_changeAfter_9 rfl (lv_at hl 3 rfl) ?_
  obtain ⟨r2, h_r2, h⟩ := bd_s h
  refine clVR (As := [.int x1, .int x2]) (rest := []) hx hb hml hown hts gX6_changeAfter_X6_nextTurn rfl 2 kX6_nextTurn ⟨Nat.le_of_ble_eq_true rfl, Nat.le_of_ble_eq_true rfl⟩ (ctX6_nextTurn l D ca o o_values o_now o_size o_values_d x1 x2 r2 h_r2) hP hK [0, 1] rfl 0 5 rfl rfl rfl rfl hl.1 rfl (Nat.le_of_ble_eq_true rfl) ⟨Nat.le_of_ble_eq_true rfl, Nat.le_of_ble_eq_true rfl⟩ dX6_changeAfter_10 rfl ?_
  refine lv_istore (lv' := [(4, .int r2), (3, .int r1), (0, .ref o), (1, .int x1), (2, .int x2)]) hx hb dX6_changeAfter_13 hl (by decide) rfl (fun ls hl => ?_)
  refine lv_iconst (v := (0 : Int32)) hx hb dX6_changeAfter_15 (by decide) ?_
  refine lv_istore (lv' := [(5, .int (0 : Int32)), (4, .int r2), (3, .int r1), (0, .ref o), (1, .int x1), (2, .int x2)]) hx hb dX6_changeAfter_16 hl (by decide) rfl (fun ls hl => ?_)
  exact L18 r1 fuel r2 (0 : Int32) h ls (lv_sub hl [3, 4, 2, 1, 0] rfl)
theorem kX6_countChanges : yX6_countChanges.cls = RX6 ∧ yX6_countChanges.cls ≠ "java/lang/invoke/MethodHandle" ∧ yX6_countChanges.cls ≠ "java/lang/invoke/VarHandle" ∧ (parseMethodDescriptor yX6_countChanges.desc).map (fun d => d.parameters.length) = some 3 := by decide +kernel
set_option maxHeartbeats 4000000 in
set_option maxRecDepth 100000 in
theorem ctX6_countChanges (l : Launch) (D : va_G) (ca : Nat → ClassId) (o : Nat) (o_values : Nat) (o_now : Int32) (o_size : Int32) (o_values_d : Nat → Int32) (x1 : Int32) (x2 : Int32) (x3 : Int32) (u0 : Int32) (hf : fX6_countChanges o_size o_values_d x1 x2 x3 = some u0) : MR l yX6_countChanges wsX6_countChanges 5 119 D ca [.ref o, .int x1, .int x2, .int x3] [(o, .inr (5, [.int o_now, .int o_size, .ref o_values])), (o_values, .inl (ca 0, 240, .inl o_values_d))] (some (.int u0)) := by
  refine hdRi (plainFor_of_name (by decide +kernel)) rfl (Nat.le_of_ble_eq_true rfl) ?_
  intro p e s m args below meth c Q hx hb hml hown hts hP hK hret ls hl
  have hown : s.vm.findClass RX6 = some m.cls := hown
  have hl : lv_has ls 6 [(0, .ref o), (1, .int x1), (2, .int x2), (3, .int x3)] := hl
  have h := hf
  unfold fX6_countChanges at h
  clear hf
  have L11 : ∀  (n : Nat) (l4 : Int32) (l5 : Int32), lp (fun q => bX6_countChanges_11 o_size o_values_d x1 x3  q.1 q.2) n (l4, l5) = some u0 → ∀ ls, lv_has ls 6 [(0, .ref o), (1, .int x1), (3, .int x3), (4, .int l4), (5, .int l5)] → W p l e ({ frames := 5, cells := 0, slots := 0, locals := 119 }) s m args below meth c s.heap [] 0 0 Q (F0 m 11 ls []) := by
    intro  n
    induction n with
    | zero => intro l4 l5 h; exact (lp_0 h).elim
    | succ n ih11 =>
      intro l4 l5 h ls hl
      obtain ⟨q11, h, hq11⟩ := lp_s h
      have h : bX6_countChanges_11 o_size o_values_d x1 x3  l4 l5 = some q11 := h
      unfold bX6_countChanges_11 at h
      refine lv_iload hx hb dX6_countChanges_11 (lv_at hl 4 rfl) ?_
      refine lv_sipush (v := (16384 : Int32)) hx hb dX6_countChanges_13 (by decide) ?_
      refine lv_icmp_gt (tgt := 46) hx hb dX6_countChanges_16 (by decide) (fun c1 => ?_) (fun c1 => ?_)
      · have h := ip_s h c1
        have h := xt_s hq11 h
        refine lv_iload hx hb dX6_countChanges_46 (lv_at hl 4 rfl) ?_
        cases h
        exact hret 48 ls _ rfl dX6_countChanges_48
      · have h := in_s h c1
        refine lv_iload hx hb dX6_countChanges_19 (lv_at hl 3 rfl) ?_
        refine lv_iconst (v := (-1 : Int32)) hx hb dX6_countChanges_21 (by decide) ?_
        refine lv_icmp_eq (tgt := 46) hx hb dX6_countChanges_22 (by decide) (fun c2 => ?_) (fun c2 => ?_)
        · have h := ip_s h c2
          have h := xt_s hq11 h
          refine lv_iload hx hb dX6_countChanges_46 (lv_at hl 4 rfl) ?_
          cases h
          exact hret 48 ls _ rfl dX6_countChanges_48
        · have h := in_s h c2
          refine lv_iload hx hb dX6_countChanges_25 (lv_at hl 3 rfl) ?_
          refine lv_iload_n hx hb dX6_countChanges_27 rfl (lv_at hl 2 rfl) ?_
          refine lv_icmp_gt (tgt := 46) hx hb dX6_countChanges_28 (by decide) (fun c3 => ?_) (fun c3 => ?_)
          · have h := ip_s h c3
            have h := xt_s hq11 h
            refine lv_iload hx hb dX6_countChanges_46 (lv_at hl 4 rfl) ?_
            cases h
            exact hret 48 ls _ rfl dX6_countChanges_48
          · have h := in_s h c3
            obtain ⟨y4, e_y4, h⟩ := nm_s h
            refine lv_iinc (v := y4) (lv' := [(5, .int y4), (0, .ref o), (1, .int x1), (3, .int x3), (4, .int l4)]) hx hb dX6_countChanges_31 hl (k := 4) rfl (by rw [e_y4]; rfl) (by decide) rfl (fun ls hl => ?_)
            refine lv_aload_n hx hb dX6_countChanges_34 rfl (lv_at hl 1 rfl) ?_
            refine lv_iload_n hx hb dX6_countChanges_35 rfl (lv_at hl 2 rfl) ?_
            refine lv_iload hx hb dX6_countChanges_36 (lv_at hl 4 rfl) ?_
            obtain ⟨r5, h_r5, h⟩ := bd_s h
            refine clVR (As := [.int x1, .int l4]) (rest := []) hx hb hml hown hts gX6_countChanges_X6_changeAfter rfl 2 kX6_changeAfter ⟨Nat.le_of_ble_eq_true rfl, Nat.le_of_ble_eq_true rfl⟩ (ctX6_changeAfter l D ca o o_values o_now o_size o_values_d x1 l4 r5 h_r5) hP hK [0, 1] rfl 0 5 rfl rfl rfl rfl hl.1 rfl (Nat.le_of_ble_eq_true rfl) ⟨Nat.le_of_ble_eq_true rfl, Nat.le_of_ble_eq_true rfl⟩ dX6_countChanges_38 rfl ?_
            refine lv_istore (lv' := [(4, .int r5), (5, .int y4), (0, .ref o), (1, .int x1), (3, .int x3)]) hx hb dX6_countChanges_41 hl (by decide) rfl (fun ls hl => ?_)
            refine lv_goto (tgt := 11) hx hb dX6_countChanges_43 (by decide) ?_
            exact ih11 r5 y4 (lp_l hq11 h) ls (lv_sub hl [2, 3, 4, 0, 1] rfl)
  refine lv_aload_n hx hb dX6_countChanges_0 rfl (lv_at hl 0 rfl) ?_
  refine lv_iload_n hx hb dX6_countChanges_1 rfl (lv_at hl 1 rfl) ?_
  refine lv_iload_n hx hb dX6_countChanges_2 rfl (lv_at hl 2 rfl) ?_
  obtain ⟨r1, h_r1, h⟩ := bd_s h
  refine clVR (As := [.int x1, .int x2]) (rest := []) hx hb hml hown hts gX6_countChanges_X6_changeAfter rfl 2 kX6_changeAfter ⟨Nat.le_of_ble_eq_true rfl, Nat.le_of_ble_eq_true rfl⟩ (ctX6_changeAfter l D ca o o_values o_now o_size o_values_d x1 x2 r1 h_r1) hP hK [0, 1] rfl 0 5 rfl rfl rfl rfl hl.1 rfl (Nat.le_of_ble_eq_true rfl) ⟨Nat.le_of_ble_eq_true rfl, Nat.le_of_ble_eq_true rfl⟩ dX6_countChanges_3 rfl ?_
  refine lv_istore (lv' := [(4, .int r1), (0, .ref o), (1, .int x1), (2, .int x2), (3, .int x3)]) hx hb dX6_countChanges_6 hl (by decide) rfl (fun ls hl => ?_)
  refine lv_iconst (v := (0 : Int32)) hx hb dX6_countChanges_8 (by decide) ?_
  refine lv_istore (lv' := [(5, .int (0 : Int32)), (4, .int r1), (0, .ref o), (1, .int x1), (2, .int x2), (3, .int x3)]) hx hb dX6_countChanges_9 hl (by decide) rfl (fun ls hl => ?_)
  exact L11  fuel r1 (0 : Int32) h ls (lv_sub hl [2, 3, 5, 1, 0] rfl)
theorem mwX6_extremeMinimum_0 : Cond.constantLong RX6 77 (9223372036854775807) ∈ wsX6_extremeMinimum := List.mem_of_getElem? (i := 1) rfl
theorem kX6_extremeMinimum : yX6_extremeMinimum.cls = RX6 ∧ yX6_extremeMinimum.cls ≠ "java/lang/invoke/MethodHandle" ∧ yX6_extremeMinimum.cls ≠ "java/lang/invoke/VarHandle" ∧ (parseMethodDescriptor yX6_extremeMinimum.desc).map (fun d => d.parameters.length) = some 4 := by decide +kernel
set_option maxHeartbeats 4000000 in
set_option maxRecDepth 100000 in
theorem ctX6_extremeMinimum (l : Launch) (D : va_G) (ca : Nat → ClassId) (o : Nat) (o_values : Nat) (o_now : Int32) (o_size : Int32) (o_values_d : Nat → Int32) (x1 : Int32) (x2 : Int32) (x3 : Int32) (x4 : Int32) (u0 : Int64) (hf : fX6_extremeMinimum o_size o_values_d x1 x2 x3 x4 = some u0) : MR l yX6_extremeMinimum wsX6_extremeMinimum 4 94 D ca [.ref o, .int x1, .int x2, .int x3, .int x4] [(o, .inr (5, [.int o_now, .int o_size, .ref o_values])), (o_values, .inl (ca 0, 240, .inl o_values_d))] (some (.long u0)) := by
  refine hdRl (plainFor_of_name (by decide +kernel)) rfl (Nat.le_of_ble_eq_true rfl) ?_
  intro p e s m args below meth c Q hx hb hml hown hts hP hK hret ls hl
  have hown : s.vm.findClass RX6 = some m.cls := hown
  have hl : lv_has ls 12 [(0, .ref o), (1, .int x1), (2, .int x2), (3, .int x3), (4, .int x4)] := hl
  have h := hf
  unfold fX6_extremeMinimum at h
  clear hf
  have L11 : ∀  (n : Nat) (l5 : Int64) (l7 : Int32) (l8 : Int32), lp (fun q => bX6_extremeMinimum_11 o_size o_values_d x1 x3 x4  q.1 q.2.1 q.2.2) n (l5, l7, l8) = some u0 → ∀ ls, lv_has ls 12 [(0, .ref o), (1, .int x1), (3, .int x3), (4, .int x4), (5, .long l5), (7, .int l7), (8, .int l8)] → W p l e ({ frames := 4, cells := 0, slots := 0, locals := 94 }) s m args below meth c s.heap [] 0 0 Q (F0 m 11 ls []) := by
    intro  n
    induction n with
    | zero => intro l5 l7 l8 h; exact (lp_0 h).elim
    | succ n ih11 =>
      intro l5 l7 l8 h ls hl
      obtain ⟨q11, h, hq11⟩ := lp_s h
      have h : bX6_extremeMinimum_11 o_size o_values_d x1 x3 x4  l5 l7 l8 = some q11 := h
      unfold bX6_extremeMinimum_11 at h
      have J87 : ∀ (l5 : Int64) (l7 : Int32) (l8 : Int32), jX6_extremeMinimum_87 o_size o_values_d x1 l5 l7 l8 = some q11 → ∀ ls, lv_has ls 12 [(0, .ref o), (1, .int x1), (3, .int x3), (4, .int x4), (5, .long l5), (7, .int l7), (8, .int l8)] → W p l e ({ frames := 4, cells := 0, slots := 0, locals := 94 }) s m args below meth c s.heap [] 0 0 Q (F0 m 87 ls []) := by
        intro l5 l7 l8 h ls hl
        unfold jX6_extremeMinimum_87 at h
        refine lv_aload_n hx hb dX6_extremeMinimum_87 rfl (lv_at hl 0 rfl) ?_
        refine lv_iload_n hx hb dX6_extremeMinimum_88 rfl (lv_at hl 1 rfl) ?_
        refine lv_iload hx hb dX6_extremeMinimum_89 (lv_at hl 5 rfl) ?_
        obtain ⟨r1, h_r1, h⟩ := bd_s h
        refine clVR (As := [.int x1, .int l7]) (rest := []) hx hb hml hown hts gX6_extremeMinimum_X6_nextTurn rfl 2 kX6_nextTurn ⟨Nat.le_of_ble_eq_true rfl, Nat.le_of_ble_eq_true rfl⟩ (ctX6_nextTurn l D ca o o_values o_now o_size o_values_d x1 l7 r1 h_r1) hP hK [0, 1] rfl 0 5 rfl rfl rfl rfl hl.1 rfl (Nat.le_of_ble_eq_true rfl) ⟨Nat.le_of_ble_eq_true rfl, Nat.le_of_ble_eq_true rfl⟩ dX6_extremeMinimum_91 rfl ?_
        refine lv_istore (lv' := [(7, .int r1), (0, .ref o), (1, .int x1), (3, .int x3), (4, .int x4), (5, .long l5), (8, .int l8)]) hx hb dX6_extremeMinimum_94 hl (by decide) rfl (fun ls hl => ?_)
        obtain ⟨y2, e_y2, h⟩ := nm_s h
        refine lv_iinc (v := y2) (lv' := [(8, .int y2), (7, .int r1), (0, .ref o), (1, .int x1), (3, .int x3), (4, .int x4), (5, .long l5)]) hx hb dX6_extremeMinimum_96 hl (k := 6) rfl (by rw [e_y2]; rfl) (by decide) rfl (fun ls hl => ?_)
        refine lv_goto (tgt := 11) hx hb dX6_extremeMinimum_99 (by decide) ?_
        exact ih11 l5 r1 y2 (lp_l hq11 h) ls (lv_sub hl [2, 3, 4, 5, 6, 1, 0] rfl)
      have J83 : ∀ (l7 : Int32) (l8 : Int32) (l10 : Int64), jX6_extremeMinimum_83 o_size o_values_d x1 l7 l8 l10 = some q11 → ∀ ls, lv_has ls 12 [(0, .ref o), (1, .int x1), (3, .int x3), (4, .int x4), (7, .int l7), (8, .int l8), (10, .long l10)] → W p l e ({ frames := 4, cells := 0, slots := 0, locals := 94 }) s m args below meth c s.heap [] 0 0 Q (F0 m 83 ls []) := by
        intro l7 l8 l10 h ls hl
        unfold jX6_extremeMinimum_83 at h
        refine lv_lload hx hb dX6_extremeMinimum_83 (lv_at hl 6 rfl) ?_
        refine lv_lstore (lv' := [(5, .long l10), (0, .ref o), (1, .int x1), (3, .int x3), (4, .int x4), (7, .int l7), (8, .int l8), (10, .long l10)]) hx hb dX6_extremeMinimum_85 hl (by decide) rfl (fun ls hl => ?_)
        exact J87 l10 l7 l8 h ls (lv_sub hl [1, 2, 3, 4, 0, 5, 6] rfl)
      refine lv_iload hx hb dX6_extremeMinimum_11 (lv_at hl 6 rfl) ?_
      refine lv_sipush (v := (16384 : Int32)) hx hb dX6_extremeMinimum_13 (by decide) ?_
      refine lv_icmp_gt (tgt := 102) hx hb dX6_extremeMinimum_16 (by decide) (fun c1 => ?_) (fun c1 => ?_)
      · have h := ip_s h c1
        have h := xt_s hq11 h
        refine lv_lload hx hb dX6_extremeMinimum_102 (lv_at hl 4 rfl) ?_
        cases h
        exact hret 104 ls _ rfl dX6_extremeMinimum_104
      · have h := in_s h c1
        refine lv_iload hx hb dX6_extremeMinimum_19 (lv_at hl 5 rfl) ?_
        refine lv_iload_n hx hb dX6_extremeMinimum_21 rfl (lv_at hl 2 rfl) ?_
        refine lv_icmp_gt (tgt := 102) hx hb dX6_extremeMinimum_22 (by decide) (fun c2 => ?_) (fun c2 => ?_)
        · have h := ip_s h c2
          have h := xt_s hq11 h
          refine lv_lload hx hb dX6_extremeMinimum_102 (lv_at hl 4 rfl) ?_
          cases h
          exact hret 104 ls _ rfl dX6_extremeMinimum_104
        · have h := in_s h c2
          refine lv_aload_n hx hb dX6_extremeMinimum_25 rfl (lv_at hl 0 rfl) ?_
          refine lv_iload_n hx hb dX6_extremeMinimum_26 rfl (lv_at hl 1 rfl) ?_
          refine lv_iload hx hb dX6_extremeMinimum_27 (lv_at hl 5 rfl) ?_
          obtain ⟨r3, h_r3, h⟩ := bd_s h
          refine clVR (As := [.int x1, .int l7]) (rest := []) hx hb hml hown hts gX6_extremeMinimum_X6_firstAt rfl 2 kX6_firstAt ⟨Nat.le_of_ble_eq_true rfl, Nat.le_of_ble_eq_true rfl⟩ (ctX6_firstAt l D ca o o_values o_now o_size o_values_d x1 l7 r3 h_r3) hP hK [0, 1] rfl 0 5 rfl rfl rfl rfl hl.1 rfl (Nat.le_of_ble_eq_true rfl) ⟨Nat.le_of_ble_eq_true rfl, Nat.le_of_ble_eq_true rfl⟩ dX6_extremeMinimum_29 rfl ?_
          refine lv_istore (lv' := [(9, .int r3), (0, .ref o), (1, .int x1), (3, .int x3), (4, .int x4), (5, .long l5), (7, .int l7), (8, .int l8)]) hx hb dX6_extremeMinimum_32 hl (by decide) rfl (fun ls hl => ?_)
          refine lv_iload hx hb dX6_extremeMinimum_34 (lv_at hl 0 rfl) ?_
          refine lv_iconst (v := (-1 : Int32)) hx hb dX6_extremeMinimum_36 (by decide) ?_
          refine lv_icmp_eq (tgt := 87) hx hb dX6_extremeMinimum_37 (by decide) (fun c4 => ?_) (fun c4 => ?_)
          · have h := ip_s h c4
            exact J87 l5 l7 l8 h ls (lv_sub hl [1, 2, 3, 4, 5, 6, 7] rfl)
          · have h := in_s h c4
            refine lv_aload_n hx hb dX6_extremeMinimum_40 rfl (lv_at hl 1 rfl) ?_
            refine lv_iload hx hb dX6_extremeMinimum_41 (lv_at hl 0 rfl) ?_
            refine lv_iload_n hx hb dX6_extremeMinimum_43 rfl (lv_at hl 2 rfl) ?_
            obtain ⟨r5, h_r5, h⟩ := bd_s h
            refine clVR (As := [.int r3, .int x1]) (rest := []) hx hb hml hown hts gX6_extremeMinimum_X6_height rfl 2 kX6_height ⟨Nat.le_of_ble_eq_true rfl, Nat.le_of_ble_eq_true rfl⟩ (ctX6_height l D ca o o_values o_now o_size o_values_d r3 x1 r5 h_r5) hP hK [0, 1] rfl 0 5 rfl rfl rfl rfl hl.1 rfl (Nat.le_of_ble_eq_true rfl) ⟨Nat.le_of_ble_eq_true rfl, Nat.le_of_ble_eq_true rfl⟩ dX6_extremeMinimum_44 rfl ?_
            refine lv_i2l (v := (r5).toInt64) hx hb dX6_extremeMinimum_47 rfl ?_
            obtain ⟨y6, e_y6, h⟩ := nm_s h
            refine top_l e_y6 ?_
            refine lv_lstore (lv' := [(10, .long y6), (9, .int r3), (0, .ref o), (1, .int x1), (3, .int x3), (4, .int x4), (5, .long l5), (7, .int l7), (8, .int l8)]) hx hb dX6_extremeMinimum_48 hl (by decide) rfl (fun ls hl => ?_)
            refine lv_lload hx hb dX6_extremeMinimum_50 (lv_at hl 6 rfl) ?_
            refine lv_ldc2 (v := (9223372036854775807 : Int64)) hx hb hown (hts _ mwX6_extremeMinimum_0) dX6_extremeMinimum_52 ?_
            refine W.lcmp hx hb dX6_extremeMinimum_55 ?_
            refine lv_if_eq (tgt := 83) hx hb dX6_extremeMinimum_56 (by decide) (fun c7 => ?_) (fun c7 => ?_)
            · have h := ip_s h c7
              exact J83 l7 l8 y6 h ls (lv_sub hl [2, 3, 4, 5, 7, 8, 0] rfl)
            · have h := in_s h c7
              refine lv_iload hx hb dX6_extremeMinimum_59 (lv_at hl 5 rfl) ?_
              refine lv_if_eq (tgt := 75) hx hb dX6_extremeMinimum_61 (by decide) (fun c8 => ?_) (fun c8 => ?_)
              · have h := ip_s h c8
                refine lv_lload hx hb dX6_extremeMinimum_75 (lv_at hl 0 rfl) ?_
                refine lv_lload hx hb dX6_extremeMinimum_77 (lv_at hl 6 rfl) ?_
                refine W.lcmp hx hb dX6_extremeMinimum_79 ?_
                refine lv_if_ge (tgt := 87) hx hb dX6_extremeMinimum_80 (by decide) (fun c9 => ?_) (fun c9 => ?_)
                · have h := ip_s h c9
                  exact J87 l5 l7 l8 h ls (lv_sub hl [2, 3, 4, 5, 6, 7, 8] rfl)
                · have h := in_s h c9
                  exact J83 l7 l8 y6 h ls (lv_sub hl [2, 3, 4, 5, 7, 8, 0] rfl)
              · have h := in_s h c8
                refine lv_lload hx hb dX6_extremeMinimum_64 (lv_at hl 0 rfl) ?_
                refine lv_lload hx hb dX6_extremeMinimum_66 (lv_at hl 6 rfl) ?_
                refine W.lcmp hx hb dX6_extremeMinimum_68 ?_
                refine lv_if_le (tgt := 87) hx hb dX6_extremeMinimum_69 (by decide) (fun c10 => ?_) (fun c10 => ?_)
                · have h := ip_s h c10
                  exact J87 l5 l7 l8 h ls (lv_sub hl [2, 3, 4, 5, 6, 7, 8] rfl)
                · have h := in_s h c10
                  refine lv_goto (tgt := 83) hx hb dX6_extremeMinimum_72 (by decide) ?_
                  exact J83 l7 l8 y6 h ls (lv_sub hl [2, 3, 4, 5, 7, 8, 0] rfl)
  refine lv_ldc2 (v := (9223372036854775807 : Int64)) hx hb hown (hts _ mwX6_extremeMinimum_0) dX6_extremeMinimum_0 ?_
  refine lv_lstore (lv' := [(5, .long (9223372036854775807 : Int64)), (0, .ref o), (1, .int x1), (2, .int x2), (3, .int x3), (4, .int x4)]) hx hb dX6_extremeMinimum_3 hl (by decide) rfl (fun ls hl => ?_)
  refine lv_iload_n hx hb dX6_extremeMinimum_5 rfl (lv_at hl 3 rfl) ?_
  refine lv_istore (lv' := [(7, .int x2), (5, .long (9223372036854775807 : Int64)), (0, .ref o), (1, .int x1), (2, .int x2), (3, .int x3), (4, .int x4)]) hx hb dX6_extremeMinimum_6 hl (by decide) rfl (fun ls hl => ?_)
  refine lv_iconst (v := (0 : Int32)) hx hb dX6_extremeMinimum_8 (by decide) ?_
  refine lv_istore (lv' := [(8, .int (0 : Int32)), (7, .int x2), (5, .long (9223372036854775807 : Int64)), (0, .ref o), (1, .int x1), (2, .int x2), (3, .int x3), (4, .int x4)]) hx hb dX6_extremeMinimum_9 hl (by decide) rfl (fun ls hl => ?_)
  exact L11  fuel (9223372036854775807 : Int64) x2 (0 : Int32) h ls (lv_sub hl [3, 4, 6, 7, 2, 1, 0] rfl)
theorem mwX6_ticksLed_0 : Cond.methodLink RX6 22 Lib.Math.min.name ∈ wsX6_ticksLed := List.mem_of_getElem? (i := 1) rfl
theorem mwX6_ticksLed_1 : Cond.static Lib.Math.min.name ∈ wsX6_ticksLed := List.mem_of_getElem? (i := 2) rfl
theorem mwX6_ticksLed_2 : Cond.initialized "java/lang/Math" ∈ wsX6_ticksLed := List.mem_of_getElem? (i := 3) rfl
theorem mwX6_ticksLed_3 : Cond.code Lib.Math.min.name Lib.Math.min.code 2 (some .int) ∈ wsX6_ticksLed := List.mem_of_getElem? (i := 4) rfl
theorem kX6_ticksLed : yX6_ticksLed.cls = RX6 ∧ yX6_ticksLed.cls ≠ "java/lang/invoke/MethodHandle" ∧ yX6_ticksLed.cls ≠ "java/lang/invoke/VarHandle" ∧ (parseMethodDescriptor yX6_ticksLed.desc).map (fun d => d.parameters.length) = some 2 := by decide +kernel
set_option maxHeartbeats 4000000 in
set_option maxRecDepth 100000 in
theorem ctX6_ticksLed (l : Launch) (D : va_G) (ca : Nat → ClassId) (o : Nat) (o_values : Nat) (o_now : Int32) (o_size : Int32) (o_values_d : Nat → Int32) (x1 : Int32) (x2 : Int32) (u0 : Int32) (hf : fX6_ticksLed o_size o_values_d x1 x2 = some u0) : MR l yX6_ticksLed wsX6_ticksLed 4 94 D ca [.ref o, .int x1, .int x2] [(o, .inr (5, [.int o_now, .int o_size, .ref o_values])), (o_values, .inl (ca 0, 240, .inl o_values_d))] (some (.int u0)) := by
  refine hdRi (plainFor_of_name (by decide +kernel)) rfl (Nat.le_of_ble_eq_true rfl) ?_
  intro p e s m args below meth c Q hx hb hml hown hts hP hK hret ls hl
  have hown : s.vm.findClass RX6 = some m.cls := hown
  have hl : lv_has ls 8 [(0, .ref o), (1, .int x1), (2, .int x2)] := hl
  have h := hf
  unfold fX6_ticksLed at h
  clear hf
  have L21 : ∀ (l3 : Int32) (n : Nat) (l4 : Int32) (l5 : Int32) (l6 : Int32), lp (fun q => bX6_ticksLed_21 o_size o_values_d x1 x2 l3 q.1 q.2.1 q.2.2) n (l4, l5, l6) = some u0 → ∀ ls, lv_has ls 8 [(0, .ref o), (1, .int x1), (2, .int x2), (3, .int l3), (4, .int l4), (5, .int l5), (6, .int l6)] → W p l e ({ frames := 4, cells := 0, slots := 0, locals := 94 }) s m args below meth c s.heap [] 0 0 Q (F0 m 21 ls []) := by
    intro l3 n
    induction n with
    | zero => intro l4 l5 l6 h; exact (lp_0 h).elim
    | succ n ih21 =>
      intro l4 l5 l6 h ls hl
      obtain ⟨q21, h, hq21⟩ := lp_s h
      have h : bX6_ticksLed_21 o_size o_values_d x1 x2 l3 l4 l5 l6 = some q21 := h
      unfold bX6_ticksLed_21 at h
      refine lv_iload hx hb dX6_ticksLed_21 (lv_at hl 6 rfl) ?_
      refine lv_sipush (v := (16384 : Int32)) hx hb dX6_ticksLed_23 (by decide) ?_
      refine lv_icmp_gt (tgt := 79) hx hb dX6_ticksLed_26 (by decide) (fun c1 => ?_) (fun c1 => ?_)
      · have h := ip_s h c1
        have h := xt_s hq21 h
        refine lv_iload hx hb dX6_ticksLed_79 (lv_at hl 5 rfl) ?_
        cases h
        exact hret 81 ls _ rfl dX6_ticksLed_81
      · have h := in_s h c1
        refine lv_iload hx hb dX6_ticksLed_29 (lv_at hl 4 rfl) ?_
        refine lv_iload_n hx hb dX6_ticksLed_31 rfl (lv_at hl 3 rfl) ?_
        refine lv_icmp_ge (tgt := 79) hx hb dX6_ticksLed_32 (by decide) (fun c2 => ?_) (fun c2 => ?_)
        · have h := ip_s h c2
          have h := xt_s hq21 h
          refine lv_iload hx hb dX6_ticksLed_79 (lv_at hl 5 rfl) ?_
          cases h
          exact hret 81 ls _ rfl dX6_ticksLed_81
        · have h := in_s h c2
          refine lv_aload_n hx hb dX6_ticksLed_35 rfl (lv_at hl 0 rfl) ?_
          refine lv_iload_n hx hb dX6_ticksLed_36 rfl (lv_at hl 2 rfl) ?_
          refine lv_iload hx hb dX6_ticksLed_37 (lv_at hl 4 rfl) ?_
          obtain ⟨r3, h_r3, h⟩ := bd_s h
          refine clVR (As := [.int x2, .int l4]) (rest := []) hx hb hml hown hts gX6_ticksLed_X6_nextTurn rfl 2 kX6_nextTurn ⟨Nat.le_of_ble_eq_true rfl, Nat.le_of_ble_eq_true rfl⟩ (ctX6_nextTurn l D ca o o_values o_now o_size o_values_d x2 l4 r3 h_r3) hP hK [0, 1] rfl 0 5 rfl rfl rfl rfl hl.1 rfl (Nat.le_of_ble_eq_true rfl) ⟨Nat.le_of_ble_eq_true rfl, Nat.le_of_ble_eq_true rfl⟩ dX6_ticksLed_39 rfl ?_
          refine lv_iload_n hx hb dX6_ticksLed_42 rfl (lv_at hl 3 rfl) ?_
          refine va_mmin hx hb (by rw [hml]; exact hl.1.symm) hown (hts _ mwX6_ticksLed_0) (hts _ mwX6_ticksLed_1) (hts _ mwX6_ticksLed_2) (hts _ mwX6_ticksLed_3) (Nat.le_of_ble_eq_true rfl) (Nat.le_of_ble_eq_true rfl) (Nat.le_of_ble_eq_true rfl) (Nat.le_of_ble_eq_true rfl) dX6_ticksLed_43 ?_
          obtain ⟨y4, e_y4, h⟩ := nm_s h
          refine top_i e_y4 ?_
          refine lv_istore (lv' := [(7, .int y4), (0, .ref o), (1, .int x1), (2, .int x2), (3, .int l3), (4, .int l4), (5, .int l5), (6, .int l6)]) hx hb dX6_ticksLed_46 hl (by decide) rfl (fun ls hl => ?_)
          refine lv_aload_n hx hb dX6_ticksLed_48 rfl (lv_at hl 1 rfl) ?_
          refine lv_iload_n hx hb dX6_ticksLed_49 rfl (lv_at hl 3 rfl) ?_
          refine lv_iload hx hb dX6_ticksLed_50 (lv_at hl 5 rfl) ?_
          obtain ⟨r5, h_r5, h⟩ := bd_s h
          refine clVR (As := [.int x2, .int l4]) (rest := []) hx hb hml hown hts gX6_ticksLed_X6_firstAt rfl 2 kX6_firstAt ⟨Nat.le_of_ble_eq_true rfl, Nat.le_of_ble_eq_true rfl⟩ (ctX6_firstAt l D ca o o_values o_now o_size o_values_d x2 l4 r5 h_r5) hP hK [0, 1] rfl 0 5 rfl rfl rfl rfl hl.1 rfl (Nat.le_of_ble_eq_true rfl) ⟨Nat.le_of_ble_eq_true rfl, Nat.le_of_ble_eq_true rfl⟩ dX6_ticksLed_52 rfl ?_
          refine lv_iload_n hx hb dX6_ticksLed_55 rfl (lv_at hl 2 rfl) ?_
          refine lv_icmp_ne (tgt := 69) hx hb dX6_ticksLed_56 (by decide) (fun c6 => ?_) (fun c6 => ?_)
          · have h := in_s h c6
            refine lv_iload hx hb dX6_ticksLed_69 (lv_at hl 0 rfl) ?_
            refine lv_istore (lv' := [(4, .int y4), (7, .int y4), (0, .ref o), (1, .int x1), (2, .int x2), (3, .int l3), (5, .int l5), (6, .int l6)]) hx hb dX6_ticksLed_71 hl (by decide) rfl (fun ls hl => ?_)
            obtain ⟨y7, e_y7, h⟩ := nm_s h
            refine lv_iinc (v := y7) (lv' := [(6, .int y7), (4, .int y4), (7, .int y4), (0, .ref o), (1, .int x1), (2, .int x2), (3, .int l3), (5, .int l5)]) hx hb dX6_ticksLed_73 hl (k := 7) rfl (by rw [e_y7]; rfl) (by decide) rfl (fun ls hl => ?_)
            refine lv_goto (tgt := 21) hx hb dX6_ticksLed_76 (by decide) ?_
            exact ih21 y4 l5 y7 (lp_l hq21 h) ls (lv_sub hl [3, 4, 5, 6, 1, 7, 0] rfl)
          · have h := ip_s h c6
            refine lv_iload hx hb dX6_ticksLed_59 (lv_at hl 6 rfl) ?_
            refine lv_iload hx hb dX6_ticksLed_61 (lv_at hl 0 rfl) ?_
            refine lv_iload hx hb dX6_ticksLed_63 (lv_at hl 5 rfl) ?_
            refine lv_isub hx hb dX6_ticksLed_65 ?_
            refine lv_iadd hx hb dX6_ticksLed_66 ?_
            obtain ⟨y8, e_y8, h⟩ := nm_s h
            refine top_i e_y8 ?_
            refine lv_istore (lv' := [(5, .int y8), (7, .int y4), (0, .ref o), (1, .int x1), (2, .int x2), (3, .int l3), (4, .int l4), (6, .int l6)]) hx hb dX6_ticksLed_67 hl (by decide) rfl (fun ls hl => ?_)
            refine lv_iload hx hb dX6_ticksLed_69 (lv_at hl 1 rfl) ?_
            refine lv_istore (lv' := [(4, .int y4), (5, .int y8), (7, .int y4), (0, .ref o), (1, .int x1), (2, .int x2), (3, .int l3), (6, .int l6)]) hx hb dX6_ticksLed_71 hl (by decide) rfl (fun ls hl => ?_)
            obtain ⟨y9, e_y9, h⟩ := nm_s h
            refine lv_iinc (v := y9) (lv' := [(6, .int y9), (4, .int y4), (5, .int y8), (7, .int y4), (0, .ref o), (1, .int x1), (2, .int x2), (3, .int l3)]) hx hb dX6_ticksLed_73 hl (k := 7) rfl (by rw [e_y9]; rfl) (by decide) rfl (fun ls hl => ?_)
            refine lv_goto (tgt := 21) hx hb dX6_ticksLed_76 (by decide) ?_
            exact ih21 y4 y8 y9 (lp_l hq21 h) ls (lv_sub hl [4, 5, 6, 7, 1, 2, 0] rfl)
  refine lv_aload_n hx hb dX6_ticksLed_0 rfl (lv_at hl 0 rfl) ?_
  refine lv_iload_n hx hb dX6_ticksLed_1 rfl (lv_at hl 1 rfl) ?_
  refine lv_iconst (v := (5 : Int32)) hx hb dX6_ticksLed_2 (by decide) ?_
  obtain ⟨r1, h_r1, h⟩ := bd_s h
  refine clVR (As := [.int x1, .int (5 : Int32)]) (rest := []) hx hb hml hown hts gX6_ticksLed_X6_value rfl 2 kX6_value ⟨Nat.le_of_ble_eq_true rfl, Nat.le_of_ble_eq_true rfl⟩ (ctX6_value l D ca o o_values o_now o_size o_values_d x1 (5 : Int32) r1 h_r1) hP hK [0, 1] rfl 0 5 rfl rfl rfl rfl hl.1 rfl (Nat.le_of_ble_eq_true rfl) ⟨Nat.le_of_ble_eq_true rfl, Nat.le_of_ble_eq_true rfl⟩ dX6_ticksLed_3 rfl ?_
  refine lv_istore_n (lv' := [(3, .int r1), (0, .ref o), (1, .int x1), (2, .int x2)]) hx hb dX6_ticksLed_6 rfl hl (by decide) rfl (fun ls hl => ?_)
  refine lv_aload_n hx hb dX6_ticksLed_7 rfl (lv_at hl 1 rfl) ?_
  refine lv_iload_n hx hb dX6_ticksLed_8 rfl (lv_at hl 2 rfl) ?_
  refine lv_iconst (v := (4 : Int32)) hx hb dX6_ticksLed_9 (by decide) ?_
  obtain ⟨r2, h_r2, h⟩ := bd_s h
  refine clVR (As := [.int x1, .int (4 : Int32)]) (rest := []) hx hb hml hown hts gX6_ticksLed_X6_value rfl 2 kX6_value ⟨Nat.le_of_ble_eq_true rfl, Nat.le_of_ble_eq_true rfl⟩ (ctX6_value l D ca o o_values o_now o_size o_values_d x1 (4 : Int32) r2 h_r2) hP hK [0, 1] rfl 0 5 rfl rfl rfl rfl hl.1 rfl (Nat.le_of_ble_eq_true rfl) ⟨Nat.le_of_ble_eq_true rfl, Nat.le_of_ble_eq_true rfl⟩ dX6_ticksLed_10 rfl ?_
  refine lv_istore (lv' := [(4, .int r2), (3, .int r1), (0, .ref o), (1, .int x1), (2, .int x2)]) hx hb dX6_ticksLed_13 hl (by decide) rfl (fun ls hl => ?_)
  refine lv_iconst (v := (0 : Int32)) hx hb dX6_ticksLed_15 (by decide) ?_
  refine lv_istore (lv' := [(5, .int (0 : Int32)), (4, .int r2), (3, .int r1), (0, .ref o), (1, .int x1), (2, .int x2)]) hx hb dX6_ticksLed_16 hl (by decide) rfl (fun ls hl => ?_)
  refine lv_iconst (v := (0 : Int32)) hx hb dX6_ticksLed_18 (by decide) ?_
  refine lv_istore (lv' := [(6, .int (0 : Int32)), (5, .int (0 : Int32)), (4, .int r2), (3, .int r1), (0, .ref o), (1, .int x1), (2, .int x2)]) hx hb dX6_ticksLed_19 hl (by decide) rfl (fun ls hl => ?_)
  exact L21 r1 fuel r2 (0 : Int32) (0 : Int32) h ls (lv_sub hl [4, 5, 6, 3, 2, 1, 0] rfl)
