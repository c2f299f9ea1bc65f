set_option maxRecDepth 100000 in
theorem wr_add (l : Launch) (hst : l.stackTraces = false) (D : va_G) (ca : Nat → ClassId) {W7 W7' : va_W} {o out : Nat} {fs : List Value} {r : Int32 ⊕ Nat} (x1 : Int32) (x2 : Int32) (x3 : Int32) (x4 : Int32) (g : Nat → Int64) (sz : Nat) (he : W7[0]? = some (o, .inr (6, fs))) (hM : ∀ sz, MX l yX7_add wsX7_add 7 117 1 D ca [.ref o, .int x1, .int x2, .int x3, .int x4] sz W7 (zoi r) W7') (hr : ∀ n, r = .inr n → n = 1 ∨ n = 2) : MZ l yL_add wsL_add 8 141 1 D ca [.ref o, .int x1, .int x2, .int x3, .int x4, .ref out] sz ([(out, .inl (ca 1, 1, .inr (.inl g)))] ++ W7) (some (.int (kcI (fun e => if e = 1 then 1 else if e = 2 then 2 else 0) r))) ([(out, .inl (ca 1, 1, .inr (.inl (ouI g r))))] ++ W7') := by
  refine hdZ (by decide +kernel) rfl (Nat.le_of_ble_eq_true rfl) ?_
  intro p e s m args below meth c A Q hQ hx hb hrt hml hown hts hlk hex hP hD hK hA hS hZ hC ls hl
  subst hQ
  have hown : s.vm.findClass RL = some m.cls := hown
  have hl : lv_has ls 7 [(0, .ref o), (1, .int x1), (2, .int x2), (3, .int x3), (4, .int x4), (5, .ref out)] := hl
  have hP := hP.flip
  have hD := hD.flip
  refine lv_aload hx hb dL_add_0 (lv_at hl 5 rfl) ?_
  refine lv_iconst (v := (0 : Int32)) hx hb dL_add_2 (by decide) ?_
  refine lv_aload_n hx hb dL_add_3 rfl (lv_at hl 0 rfl) ?_
  refine lv_iload_n hx hb dL_add_4 rfl (lv_at hl 1 rfl) ?_
  refine lv_iload_n hx hb dL_add_5 rfl (lv_at hl 2 rfl) ?_
  refine lv_iload_n hx hb dL_add_6 rfl (lv_at hl 3 rfl) ?_
  refine lv_iload hx hb dL_add_7 (lv_at hl 4 rfl) ?_
  rcases r with v | n
  · refine runX_v (st' := [.int v, .int 0, .ref out]) (clVX (As := [.int x1, .int x2, .int x3, .int x4]) (rest := [.int 0, .ref out]) hx hb hml hown hts gL_add_X7_add rfl 4 (by decide +kernel) ⟨Nat.le_of_ble_eq_true rfl, Nat.le_of_ble_eq_true rfl⟩ (hM s.heap.size) hP hD hS hA hK hZ _ (blk_l _ _) (nd_range' _ _) 0 6 he rfl rfl rfl hl.1 rfl (Nat.le_of_ble_eq_true rfl) ⟨Nat.le_of_ble_eq_true rfl, Nat.le_of_ble_eq_true rfl⟩ dL_add_9) rfl hP hD hS hA _ _ (blk_l _ _) (blk_r _ _) (nd_range' _ _) (blk_dis _ _) rfl (fun H locs hP hD hS => ?_)
    refine lv_i2l (v := v.toInt64) hx hb dL_add_12 rfl ?_
    refine va_last hx hb hK.1 hP hD hS 0 1 rfl rfl (by unfold vp_in; decide) dL_add_13 (fun H locs hP hD hS => ?_)
    refine lv_goto (tgt := 25) hx hb dL_add_14 (by decide) ?_
    refine lv_iconst (v := (0 : Int32)) hx hb dL_add_25 (by decide) ?_
    exact rtZ hx hb hrt hlk (Nat.le_of_ble_eq_true rfl) (Nat.le_of_ble_eq_true rfl) hP hD hS dL_add_26
  · rcases hr n rfl with rfl | rfl
    · refine runX_c (n := 1) (clVX (As := [.int x1, .int x2, .int x3, .int x4]) (rest := [.int 0, .ref out]) hx hb hml hown hts gL_add_X7_add rfl 4 (by decide +kernel) ⟨Nat.le_of_ble_eq_true rfl, Nat.le_of_ble_eq_true rfl⟩ (hM s.heap.size) hP hD hS hA hK hZ _ (blk_l _ _) (nd_range' _ _) 0 6 he rfl rfl rfl hl.1 rfl (Nat.le_of_ble_eq_true rfl) ⟨Nat.le_of_ble_eq_true rfl, Nat.le_of_ble_eq_true rfl⟩ dL_add_9) rfl hP hD hS hA _ _ (blk_l _ _) (blk_r _ _) (nd_range' _ _) (blk_dis _ _) (fun q ce H locs hP hD hS hce hcv hcl => ?_)
      refine vx_catch (own := RL) (name := zE 1) (E := zE 1) hown [] ⟨0, 14, 17, 13⟩ [⟨0, 14, 21, 15⟩] (by rw [hex]; rfl) (fun z hz => absurd hz List.not_mem_nil) (by decide) (by decide) (hts _ (by decide +kernel)) (va_Nw.use rfl (hC.1 1 (Or.inl rfl))) hce hcv hcl ?_
      refine W.eq (g2 := F0 m 17 ls [.ref q]) rfl ?_
      refine lv_astore (lv' := [(6, .ref q), (0, .ref o), (1, .int x1), (2, .int x2), (3, .int x3), (4, .int x4), (5, .ref out)]) hx hb dL_add_17 hl (by decide) rfl (fun ls hl => ?_)
      refine lv_iconst (v := (1 : Int32)) hx hb dL_add_19 (by decide) ?_
      exact rtZ hx hb hrt hlk (Nat.le_of_ble_eq_true rfl) (Nat.le_of_ble_eq_true rfl) hP hD hS dL_add_20
    · refine runX_c (n := 2) (clVX (As := [.int x1, .int x2, .int x3, .int x4]) (rest := [.int 0, .ref out]) hx hb hml hown hts gL_add_X7_add rfl 4 (by decide +kernel) ⟨Nat.le_of_ble_eq_true rfl, Nat.le_of_ble_eq_true rfl⟩ (hM s.heap.size) hP hD hS hA hK hZ _ (blk_l _ _) (nd_range' _ _) 0 6 he rfl rfl rfl hl.1 rfl (Nat.le_of_ble_eq_true rfl) ⟨Nat.le_of_ble_eq_true rfl, Nat.le_of_ble_eq_true rfl⟩ dL_add_9) rfl hP hD hS hA _ _ (blk_l _ _) (blk_r _ _) (nd_range' _ _) (blk_dis _ _) (fun q ce H locs hP hD hS hce hcv hcl => ?_)
      refine vx_catch (own := RL) (name := zE 2) (E := zE 2) hown [⟨0, 14, 17, 13⟩] ⟨0, 14, 21, 15⟩ [] (by rw [hex]; rfl) (fun z hz => by rw [List.mem_singleton.mp hz]; exact Or.inr ⟨by decide, zE 1, hts _ (by decide +kernel), hC.2 2 1 (Or.inr (Or.inl rfl)) (Or.inl rfl) (by decide)⟩) (by decide) (by decide) (hts _ (by decide +kernel)) (va_Nw.use rfl (hC.1 2 (Or.inr (Or.inl rfl)))) hce hcv hcl ?_
      refine W.eq (g2 := F0 m 21 ls [.ref q]) rfl ?_
      refine lv_astore (lv' := [(6, .ref q), (0, .ref o), (1, .int x1), (2, .int x2), (3, .int x3), (4, .int x4), (5, .ref out)]) hx hb dL_add_21 hl (by decide) rfl (fun ls hl => ?_)
      refine lv_iconst (v := (2 : Int32)) hx hb dL_add_23 (by decide) ?_
      exact rtZ hx hb hrt hlk (Nat.le_of_ble_eq_true rfl) (Nat.le_of_ble_eq_true rfl) hP hD hS dL_add_24
set_option maxRecDepth 100000 in
theorem wr_addThrough (l : Launch) (hst : l.stackTraces = false) (D : va_G) (ca : Nat → ClassId) {W7 W7' : va_W} {o out : Nat} {fs : List Value} {r : Int32 ⊕ Nat} (x1 : Int32) (x2 : Int32) (x3 : Int32) (x4 : Int32) (x5 : Int32) (x6 : Int32) (g : Nat → Int64) (sz : Nat) (he : W7[0]? = some (o, .inr (6, fs))) (hM : ∀ sz, MX l yX7_addThrough wsX7_addThrough 7 117 1 D ca [.ref o, .int x1, .int x2, .int x3, .int x4, .int x5, .int x6] sz W7 (zoi r) W7') (hr : ∀ n, r = .inr n → n = 1 ∨ n = 2) : MZ l yL_addThrough wsL_addThrough 8 143 1 D ca [.ref o, .int x1, .int x2, .int x3, .int x4, .int x5, .int x6, .ref out] sz ([(out, .inl (ca 1, 1, .inr (.inl g)))] ++ W7) (some (.int (kcI (fun e => if e = 1 then 1 else if e = 2 then 2 else 0) r))) ([(out, .inl (ca 1, 1, .inr (.inl (ouI g r))))] ++ W7') := by
  refine hdZ (by decide +kernel) rfl (Nat.le_of_ble_eq_true rfl) ?_
  intro p e s m args below meth c A Q hQ hx hb hrt hml hown hts hlk hex hP hD hK hA hS hZ hC ls hl
  subst hQ
  have hown : s.vm.findClass RL = some m.cls := hown
  have hl : lv_has ls 9 [(0, .ref o), (1, .int x1), (2, .int x2), (3, .int x3), (4, .int x4), (5, .int x5), (6, .int x6), (7, .ref out)] := hl
  have hP := hP.flip
  have hD := hD.flip
  refine lv_aload hx hb dL_addThrough_0 (lv_at hl 7 rfl) ?_
  refine lv_iconst (v := (0 : Int32)) hx hb dL_addThrough_2 (by decide) ?_
  refine lv_aload_n hx hb dL_addThrough_3 rfl (lv_at hl 0 rfl) ?_
  refine lv_iload_n hx hb dL_addThrough_4 rfl (lv_at hl 1 rfl) ?_
  refine lv_iload_n hx hb dL_addThrough_5 rfl (lv_at hl 2 rfl) ?_
  refine lv_iload_n hx hb dL_addThrough_6 rfl (lv_at hl 3 rfl) ?_
  refine lv_iload hx hb dL_addThrough_7 (lv_at hl 4 rfl) ?_
  refine lv_iload hx hb dL_addThrough_9 (lv_at hl 5 rfl) ?_
  refine lv_iload hx hb dL_addThrough_11 (lv_at hl 6 rfl) ?_
  rcases r with v | n
  · refine runX_v (st' := [.int v, .int 0, .ref out]) (clVX (As := [.int x1, .int x2, .int x3, .int x4, .int x5, .int x6]) (rest := [.int 0, .ref out]) hx hb hml hown hts gL_addThrough_X7_addThrough rfl 6 (by decide +kernel) ⟨Nat.le_of_ble_eq_true rfl, Nat.le_of_ble_eq_true rfl⟩ (hM s.heap.size) hP hD hS hA hK hZ _ (blk_l _ _) (nd_range' _ _) 0 6 he rfl rfl rfl hl.1 rfl (Nat.le_of_ble_eq_true rfl) ⟨Nat.le_of_ble_eq_true rfl, Nat.le_of_ble_eq_true rfl⟩ dL_addThrough_13) rfl hP hD hS hA _ _ (blk_l _ _) (blk_r _ _) (nd_range' _ _) (blk_dis _ _) rfl (fun H locs hP hD hS => ?_)
    refine lv_i2l (v := v.toInt64) hx hb dL_addThrough_16 rfl ?_
    refine va_last hx hb hK.1 hP hD hS 0 1 rfl rfl (by unfold vp_in; decide) dL_addThrough_17 (fun H locs hP hD hS => ?_)
    refine lv_goto (tgt := 29) hx hb dL_addThrough_18 (by decide) ?_
    refine lv_iconst (v := (0 : Int32)) hx hb dL_addThrough_29 (by decide) ?_
    exact rtZ hx hb hrt hlk (Nat.le_of_ble_eq_true rfl) (Nat.le_of_ble_eq_true rfl) hP hD hS dL_addThrough_30
  · rcases hr n rfl with rfl | rfl
    · refine runX_c (n := 1) (clVX (As := [.int x1, .int x2, .int x3, .int x4, .int x5, .int x6]) (rest := [.int 0, .ref out]) hx hb hml hown hts gL_addThrough_X7_addThrough rfl 6 (by decide +kernel) ⟨Nat.le_of_ble_eq_true rfl, Nat.le_of_ble_eq_true rfl⟩ (hM s.heap.size) hP hD hS hA hK hZ _ (blk_l _ _) (nd_range' _ _) 0 6 he rfl rfl rfl hl.1 rfl (Nat.le_of_ble_eq_true rfl) ⟨Nat.le_of_ble_eq_true rfl, Nat.le_of_ble_eq_true rfl⟩ dL_addThrough_13) rfl hP hD hS hA _ _ (blk_l _ _) (blk_r _ _) (nd_range' _ _) (blk_dis _ _) (fun q ce H locs hP hD hS hce hcv hcl => ?_)
      refine vx_catch (own := RL) (name := zE 1) (E := zE 1) hown [] ⟨0, 18, 21, 13⟩ [⟨0, 18, 25, 15⟩] (by rw [hex]; rfl) (fun z hz => absurd hz List.not_mem_nil) (by decide) (by decide) (hts _ (by decide +kernel)) (va_Nw.use rfl (hC.1 1 (Or.inl rfl))) hce hcv hcl ?_
      refine W.eq (g2 := F0 m 21 ls [.ref q]) rfl ?_
      refine lv_astore (lv' := [(8, .ref q), (0, .ref o), (1, .int x1), (2, .int x2), (3, .int x3), (4, .int x4), (5, .int x5), (6, .int x6), (7, .ref out)]) hx hb dL_addThrough_21 hl (by decide) rfl (fun ls hl => ?_)
      refine lv_iconst (v := (1 : Int32)) hx hb dL_addThrough_23 (by decide) ?_
      exact rtZ hx hb hrt hlk (Nat.le_of_ble_eq_true rfl) (Nat.le_of_ble_eq_true rfl) hP hD hS dL_addThrough_24
    · refine runX_c (n := 2) (clVX (As := [.int x1, .int x2, .int x3, .int x4, .int x5, .int x6]) (rest := [.int 0, .ref out]) hx hb hml hown hts gL_addThrough_X7_addThrough rfl 6 (by decide +kernel) ⟨Nat.le_of_ble_eq_true rfl, Nat.le_of_ble_eq_true rfl⟩ (hM s.heap.size) hP hD hS hA hK hZ _ (blk_l _ _) (nd_range' _ _) 0 6 he rfl rfl rfl hl.1 rfl (Nat.le_of_ble_eq_true rfl) ⟨Nat.le_of_ble_eq_true rfl, Nat.le_of_ble_eq_true rfl⟩ dL_addThrough_13) rfl hP hD hS hA _ _ (blk_l _ _) (blk_r _ _) (nd_range' _ _) (blk_dis _ _) (fun q ce H locs hP hD hS hce hcv hcl => ?_)
      refine vx_catch (own := RL) (name := zE 2) (E := zE 2) hown [⟨0, 18, 21, 13⟩] ⟨0, 18, 25, 15⟩ [] (by rw [hex]; rfl) (fun z hz => by rw [List.mem_singleton.mp hz]; exact Or.inr ⟨by decide, zE 1, hts _ (by decide +kernel), hC.2 2 1 (Or.inr (Or.inl rfl)) (Or.inl rfl) (by decide)⟩) (by decide) (by decide) (hts _ (by decide +kernel)) (va_Nw.use rfl (hC.1 2 (Or.inr (Or.inl rfl)))) hce hcv hcl ?_
      refine W.eq (g2 := F0 m 25 ls [.ref q]) rfl ?_
      refine lv_astore (lv' := [(8, .ref q), (0, .ref o), (1, .int x1), (2, .int x2), (3, .int x3), (4, .int x4), (5, .int x5), (6, .int x6), (7, .ref out)]) hx hb dL_addThrough_25 hl (by decide) rfl (fun ls hl => ?_)
      refine lv_iconst (v := (2 : Int32)) hx hb dL_addThrough_27 (by decide) ?_
      exact rtZ hx hb hrt hlk (Nat.le_of_ble_eq_true rfl) (Nat.le_of_ble_eq_true rfl) hP hD hS dL_addThrough_28
set_option maxRecDepth 100000 in
theorem wr_end (l : Launch) (hst : l.stackTraces = false) (D : va_G) (ca : Nat → ClassId) {W7 W7' : va_W} {o out : Nat} {fs : List Value} {r : Int32 ⊕ Nat} (x1 : Int32) (g : Nat → Int64) (sz : Nat) (he : W7[0]? = some (o, .inr (6, fs))) (hM : ∀ sz, MX l yX7_end wsX7_end 7 117 1 D ca [.ref o, .int x1] sz W7 (zoi r) W7') (hr : ∀ n, r = .inr n → n = 3 ∨ n = 2) : MZ l yL_end wsL_end 8 138 1 D ca [.ref o, .int x1, .ref out] sz ([(out, .inl (ca 1, 1, .inr (.inl g)))] ++ W7) (some (.int (kcI (fun e => if e = 3 then 1 else if e = 2 then 2 else 0) r))) ([(out, .inl (ca 1, 1, .inr (.inl (ouI g r))))] ++ W7') := by
  refine hdZ (by decide +kernel) rfl (Nat.le_of_ble_eq_true rfl) ?_
  intro p e s m args below meth c A Q hQ hx hb hrt hml hown hts hlk hex hP hD hK hA hS hZ hC ls hl
  subst hQ
  have hown : s.vm.findClass RL = some m.cls := hown
  have hl : lv_has ls 4 [(0, .ref o), (1, .int x1), (2, .ref out)] := hl
  have hP := hP.flip
  have hD := hD.flip
  refine lv_aload_n hx hb dL_end_0 rfl (lv_at hl 2 rfl) ?_
  refine lv_iconst (v := (0 : Int32)) hx hb dL_end_1 (by decide) ?_
  refine lv_aload_n hx hb dL_end_2 rfl (lv_at hl 0 rfl) ?_
  refine lv_iload_n hx hb dL_end_3 rfl (lv_at hl 1 rfl) ?_
  rcases r with v | n
  · refine runX_v (st' := [.int v, .int 0, .ref out]) (clVX (As := [.int x1]) (rest := [.int 0, .ref out]) hx hb hml hown hts gL_end_X7_end rfl 1 (by decide +kernel) ⟨Nat.le_of_ble_eq_true rfl, Nat.le_of_ble_eq_true rfl⟩ (hM s.heap.size) hP hD hS hA hK hZ _ (blk_l _ _) (nd_range' _ _) 0 6 he rfl rfl rfl hl.1 rfl (Nat.le_of_ble_eq_true rfl) ⟨Nat.le_of_ble_eq_true rfl, Nat.le_of_ble_eq_true rfl⟩ dL_end_4) rfl hP hD hS hA _ _ (blk_l _ _) (blk_r _ _) (nd_range' _ _) (blk_dis _ _) rfl (fun H locs hP hD hS => ?_)
    refine lv_i2l (v := v.toInt64) hx hb dL_end_7 rfl ?_
    refine va_last hx hb hK.1 hP hD hS 0 1 rfl rfl (by unfold vp_in; decide) dL_end_8 (fun H locs hP hD hS => ?_)
    refine lv_goto (tgt := 18) hx hb dL_end_9 (by decide) ?_
    refine lv_iconst (v := (0 : Int32)) hx hb dL_end_18 (by decide) ?_
    exact rtZ hx hb hrt hlk (Nat.le_of_ble_eq_true rfl) (Nat.le_of_ble_eq_true rfl) hP hD hS dL_end_19
  · rcases hr n rfl with rfl | rfl
    · refine runX_c (n := 3) (clVX (As := [.int x1]) (rest := [.int 0, .ref out]) hx hb hml hown hts gL_end_X7_end rfl 1 (by decide +kernel) ⟨Nat.le_of_ble_eq_true rfl, Nat.le_of_ble_eq_true rfl⟩ (hM s.heap.size) hP hD hS hA hK hZ _ (blk_l _ _) (nd_range' _ _) 0 6 he rfl rfl rfl hl.1 rfl (Nat.le_of_ble_eq_true rfl) ⟨Nat.le_of_ble_eq_true rfl, Nat.le_of_ble_eq_true rfl⟩ dL_end_4) rfl hP hD hS hA _ _ (blk_l _ _) (blk_r _ _) (nd_range' _ _) (blk_dis _ _) (fun q ce H locs hP hD hS hce hcv hcl => ?_)
      refine vx_catch (own := RL) (name := zE 3) (E := zE 3) hown [] ⟨0, 9, 12, 25⟩ [⟨0, 9, 15, 15⟩] (by rw [hex]; rfl) (fun z hz => absurd hz List.not_mem_nil) (by decide) (by decide) (hts _ (by decide +kernel)) (va_Nw.use rfl (hC.1 3 (Or.inr (Or.inr rfl)))) hce hcv hcl ?_
      refine W.eq (g2 := F0 m 12 ls [.ref q]) rfl ?_
      refine lv_astore_n (lv' := [(3, .ref q), (0, .ref o), (1, .int x1), (2, .ref out)]) hx hb dL_end_12 rfl hl (by decide) rfl (fun ls hl => ?_)
      refine lv_iconst (v := (1 : Int32)) hx hb dL_end_13 (by decide) ?_
      exact rtZ hx hb hrt hlk (Nat.le_of_ble_eq_true rfl) (Nat.le_of_ble_eq_true rfl) hP hD hS dL_end_14
    · refine runX_c (n := 2) (clVX (As := [.int x1]) (rest := [.int 0, .ref out]) hx hb hml hown hts gL_end_X7_end rfl 1 (by decide +kernel) ⟨Nat.le_of_ble_eq_true rfl, Nat.le_of_ble_eq_true rfl⟩ (hM s.heap.size) hP hD hS hA hK hZ _ (blk_l _ _) (nd_range' _ _) 0 6 he rfl rfl rfl hl.1 rfl (Nat.le_of_ble_eq_true rfl) ⟨Nat.le_of_ble_eq_true rfl, Nat.le_of_ble_eq_true rfl⟩ dL_end_4) rfl hP hD hS hA _ _ (blk_l _ _) (blk_r _ _) (nd_range' _ _) (blk_dis _ _) (fun q ce H locs hP hD hS hce hcv hcl => ?_)
      refine vx_catch (own := RL) (name := zE 2) (E := zE 2) hown [⟨0, 9, 12, 25⟩] ⟨0, 9, 15, 15⟩ [] (by rw [hex]; rfl) (fun z hz => by rw [List.mem_singleton.mp hz]; exact Or.inr ⟨by decide, zE 3, hts _ (by decide +kernel), hC.2 2 3 (Or.inr (Or.inl rfl)) (Or.inr (Or.inr rfl)) (by decide)⟩) (by decide) (by decide) (hts _ (by decide +kernel)) (va_Nw.use rfl (hC.1 2 (Or.inr (Or.inl rfl)))) hce hcv hcl ?_
      refine W.eq (g2 := F0 m 15 ls [.ref q]) rfl ?_
      refine lv_astore_n (lv' := [(3, .ref q), (0, .ref o), (1, .int x1), (2, .ref out)]) hx hb dL_end_15 rfl hl (by decide) rfl (fun ls hl => ?_)
      refine lv_iconst (v := (2 : Int32)) hx hb dL_end_16 (by decide) ?_
      exact rtZ hx hb hrt hlk (Nat.le_of_ble_eq_true rfl) (Nat.le_of_ble_eq_true rfl) hP hD hS dL_end_17
set_option maxRecDepth 100000 in
theorem wr_lift (l : Launch) (hst : l.stackTraces = false) (D : va_G) (ca : Nat → ClassId) {W7 W7' : va_W} {o out : Nat} {fs : List Value} {r : Int32 ⊕ Nat} (x1 : Int32) (x2 : Int32) (g : Nat → Int64) (sz : Nat) (he : W7[0]? = some (o, .inr (6, fs))) (hM : ∀ sz, MX l yX7_lift wsX7_lift 7 117 1 D ca [.ref o, .int x1, .int x2] sz W7 (zoi r) W7') (hr : ∀ n, r = .inr n → n = 3 ∨ n = 1 ∨ n = 2) : MZ l yL_lift wsL_lift 8 139 1 D ca [.ref o, .int x1, .int x2, .ref out] sz ([(out, .inl (ca 1, 1, .inr (.inl g)))] ++ W7) (some (.int (kcI (fun e => if e = 3 then 1 else if e = 1 then 2 else if e = 2 then 3 else 0) r))) ([(out, .inl (ca 1, 1, .inr (.inl (ouI g r))))] ++ W7') := by
  refine hdZ (by decide +kernel) rfl (Nat.le_of_ble_eq_true rfl) ?_
  intro p e s m args below meth c A Q hQ hx hb hrt hml hown hts hlk hex hP hD hK hA hS hZ hC ls hl
  subst hQ
  have hown : s.vm.findClass RL = some m.cls := hown
  have hl : lv_has ls 5 [(0, .ref o), (1, .int x1), (2, .int x2), (3, .ref out)] := hl
  have hP := hP.flip
  have hD := hD.flip
  refine lv_aload_n hx hb dL_lift_0 rfl (lv_at hl 3 rfl) ?_
  refine lv_iconst (v := (0 : Int32)) hx hb dL_lift_1 (by decide) ?_
  refine lv_aload_n hx hb dL_lift_2 rfl (lv_at hl 0 rfl) ?_
  refine lv_iload_n hx hb dL_lift_3 rfl (lv_at hl 1 rfl) ?_
  refine lv_iload_n hx hb dL_lift_4 rfl (lv_at hl 2 rfl) ?_
  rcases r with v | n
  · refine runX_v (st' := [.int v, .int 0, .ref out]) (clVX (As := [.int x1, .int x2]) (rest := [.int 0, .ref out]) hx hb hml hown hts gL_lift_X7_lift rfl 2 (by decide +kernel) ⟨Nat.le_of_ble_eq_true rfl, Nat.le_of_ble_eq_true rfl⟩ (hM s.heap.size) hP hD hS hA hK hZ _ (blk_l _ _) (nd_range' _ _) 0 6 he rfl rfl rfl hl.1 rfl (Nat.le_of_ble_eq_true rfl) ⟨Nat.le_of_ble_eq_true rfl, Nat.le_of_ble_eq_true rfl⟩ dL_lift_5) rfl hP hD hS hA _ _ (blk_l _ _) (blk_r _ _) (nd_range' _ _) (blk_dis _ _) rfl (fun H locs hP hD hS => ?_)
    refine lv_i2l (v := v.toInt64) hx hb dL_lift_8 rfl ?_
    refine va_last hx hb hK.1 hP hD hS 0 1 rfl rfl (by unfold vp_in; decide) dL_lift_9 (fun H locs hP hD hS => ?_)
    refine lv_goto (tgt := 25) hx hb dL_lift_10 (by decide) ?_
    refine lv_iconst (v := (0 : Int32)) hx hb dL_lift_25 (by decide) ?_
    exact rtZ hx hb hrt hlk (Nat.le_of_ble_eq_true rfl) (Nat.le_of_ble_eq_true rfl) hP hD hS dL_lift_26
  · rcases hr n rfl with rfl | rfl | rfl
    · refine runX_c (n := 3) (clVX (As := [.int x1, .int x2]) (rest := [.int 0, .ref out]) hx hb hml hown hts gL_lift_X7_lift rfl 2 (by decide +kernel) ⟨Nat.le_of_ble_eq_true rfl, Nat.le_of_ble_eq_true rfl⟩ (hM s.heap.size) hP hD hS hA hK hZ _ (blk_l _ _) (nd_range' _ _) 0 6 he rfl rfl rfl hl.1 rfl (Nat.le_of_ble_eq_true rfl) ⟨Nat.le_of_ble_eq_true rfl, Nat.le_of_ble_eq_true rfl⟩ dL_lift_5) rfl hP hD hS hA _ _ (blk_l _ _) (blk_r _ _) (nd_range' _ _) (blk_dis _ _) (fun q ce H locs hP hD hS hce hcv hcl => ?_)
      refine vx_catch (own := RL) (name := zE 3) (E := zE 3) hown [] ⟨0, 10, 13, 25⟩ [⟨0, 10, 17, 13⟩, ⟨0, 10, 21, 15⟩] (by rw [hex]; rfl) (fun z hz => absurd hz List.not_mem_nil) (by decide) (by decide) (hts _ (by decide +kernel)) (va_Nw.use rfl (hC.1 3 (Or.inr (Or.inr rfl)))) hce hcv hcl ?_
      refine W.eq (g2 := F0 m 13 ls [.ref q]) rfl ?_
      refine lv_astore (lv' := [(4, .ref q), (0, .ref o), (1, .int x1), (2, .int x2), (3, .ref out)]) hx hb dL_lift_13 hl (by decide) rfl (fun ls hl => ?_)
      refine lv_iconst (v := (1 : Int32)) hx hb dL_lift_15 (by decide) ?_
      exact rtZ hx hb hrt hlk (Nat.le_of_ble_eq_true rfl) (Nat.le_of_ble_eq_true rfl) hP hD hS dL_lift_16
    · refine runX_c (n := 1) (clVX (As := [.int x1, .int x2]) (rest := [.int 0, .ref out]) hx hb hml hown hts gL_lift_X7_lift rfl 2 (by decide +kernel) ⟨Nat.le_of_ble_eq_true rfl, Nat.le_of_ble_eq_true rfl⟩ (hM s.heap.size) hP hD hS hA hK hZ _ (blk_l _ _) (nd_range' _ _) 0 6 he rfl rfl rfl hl.1 rfl (Nat.le_of_ble_eq_true rfl) ⟨Nat.le_of_ble_eq_true rfl, Nat.le_of_ble_eq_true rfl⟩ dL_lift_5) rfl hP hD hS hA _ _ (blk_l _ _) (blk_r _ _) (nd_range' _ _) (blk_dis _ _) (fun q ce H locs hP hD hS hce hcv hcl => ?_)
      refine vx_catch (own := RL) (name := zE 1) (E := zE 1) hown [⟨0, 10, 13, 25⟩] ⟨0, 10, 17, 13⟩ [⟨0, 10, 21, 15⟩] (by rw [hex]; rfl) (fun z hz => by rw [List.mem_singleton.mp hz]; exact Or.inr ⟨by decide, zE 3, hts _ (by decide +kernel), hC.2 1 3 (Or.inl rfl) (Or.inr (Or.inr rfl)) (by decide)⟩) (by decide) (by decide) (hts _ (by decide +kernel)) (va_Nw.use rfl (hC.1 1 (Or.inl rfl))) hce hcv hcl ?_
      refine W.eq (g2 := F0 m 17 ls [.ref q]) rfl ?_
      refine lv_astore (lv' := [(4, .ref q), (0, .ref o), (1, .int x1), (2, .int x2), (3, .ref out)]) hx hb dL_lift_17 hl (by decide) rfl (fun ls hl => ?_)
      refine lv_iconst (v := (2 : Int32)) hx hb dL_lift_19 (by decide) ?_
      exact rtZ hx hb hrt hlk (Nat.le_of_ble_eq_true rfl) (Nat.le_of_ble_eq_true rfl) hP hD hS dL_lift_20
    · refine runX_c (n := 2) (clVX (As := [.int x1, .int x2]) (rest := [.int 0, .ref out]) hx hb hml hown hts gL_lift_X7_lift rfl 2 (by decide +kernel) ⟨Nat.le_of_ble_eq_true rfl, Nat.le_of_ble_eq_true rfl⟩ (hM s.heap.size) hP hD hS hA hK hZ _ (blk_l _ _) (nd_range' _ _) 0 6 he rfl rfl rfl hl.1 rfl (Nat.le_of_ble_eq_true rfl) ⟨Nat.le_of_ble_eq_true rfl, Nat.le_of_ble_eq_true rfl⟩ dL_lift_5) rfl hP hD hS hA _ _ (blk_l _ _) (blk_r _ _) (nd_range' _ _) (blk_dis _ _) (fun q ce H locs hP hD hS hce hcv hcl => ?_)
      have hp : ∀ z ∈ ([⟨0, 10, 13, 25⟩, ⟨0, 10, 17, 13⟩] : List ExceptionTableEntry), covers z 5 = false ∨ (z.catchType ≠ 0 ∧ ∃ nm : String, (Cond.classLink RL z.catchType nm).before args s = true ∧ va_Nc (zE 2) nm s) := by
        intro z hz
        rcases List.mem_cons.mp hz with h1 | h1
        · rw [h1]; exact Or.inr ⟨by decide, zE 3, hts _ (by decide +kernel), hC.2 2 3 (Or.inr (Or.inl rfl)) (Or.inr (Or.inr rfl)) (by decide)⟩
        · rw [List.mem_singleton.mp h1]; exact Or.inr ⟨by decide, zE 1, hts _ (by decide +kernel), hC.2 2 1 (Or.inr (Or.inl rfl)) (Or.inl rfl) (by decide)⟩
      refine vx_catch (own := RL) (name := zE 2) (E := zE 2) hown [⟨0, 10, 13, 25⟩, ⟨0, 10, 17, 13⟩] ⟨0, 10, 21, 15⟩ [] (by rw [hex]; rfl) hp (by decide) (by decide) (hts _ (by decide +kernel)) (va_Nw.use rfl (hC.1 2 (Or.inr (Or.inl rfl)))) hce hcv hcl ?_
      refine W.eq (g2 := F0 m 21 ls [.ref q]) rfl ?_
      refine lv_astore (lv' := [(4, .ref q), (0, .ref o), (1, .int x1), (2, .int x2), (3, .ref out)]) hx hb dL_lift_21 hl (by decide) rfl (fun ls hl => ?_)
      refine lv_iconst (v := (3 : Int32)) hx hb dL_lift_23 (by decide) ?_
      exact rtZ hx hb hrt hlk (Nat.le_of_ble_eq_true rfl) (Nat.le_of_ble_eq_true rfl) hP hD hS dL_lift_24
set_option maxRecDepth 100000 in
theorem wr_pass (l : Launch) (hst : l.stackTraces = false) (D : va_G) (ca : Nat → ClassId) {W7 W7' : va_W} {o out : Nat} {fs : List Value} {r : Int32 ⊕ Nat} (x1 : Int32) (g : Nat → Int64) (sz : Nat) (he : W7[0]? = some (o, .inr (6, fs))) (hM : ∀ sz, MX l yX7_pass wsX7_pass 7 117 1 D ca [.ref o, .int x1] sz W7 (zoi r) W7') (hr : ∀ n, r = .inr n → n = 1 ∨ n = 2) : MZ l yL_pass wsL_pass 8 138 1 D ca [.ref o, .int x1, .ref out] sz ([(out, .inl (ca 1, 1, .inr (.inl g)))] ++ W7) (some (.int (kcI (fun e => if e = 1 then 1 else if e = 2 then 2 else 0) r))) ([(out, .inl (ca 1, 1, .inr (.inl (ouI g r))))] ++ W7') := by
  refine hdZ (by decide +kernel) rfl (Nat.le_of_ble_eq_true rfl) ?_
  intro p e s m args below meth c A Q hQ hx hb hrt hml hown hts hlk hex hP hD hK hA hS hZ hC ls hl
  subst hQ
  have hown : s.vm.findClass RL = some m.cls := hown
  have hl : lv_has ls 4 [(0, .ref o), (1, .int x1), (2, .ref out)] := hl
  have hP := hP.flip
  have hD := hD.flip
  refine lv_aload_n hx hb dL_pass_0 rfl (lv_at hl 2 rfl) ?_
  refine lv_iconst (v := (0 : Int32)) hx hb dL_pass_1 (by decide) ?_
  refine lv_aload_n hx hb dL_pass_2 rfl (lv_at hl 0 rfl) ?_
  refine lv_iload_n hx hb dL_pass_3 rfl (lv_at hl 1 rfl) ?_
  rcases r with v | n
  · refine runX_v (st' := [.int v, .int 0, .ref out]) (clVX (As := [.int x1]) (rest := [.int 0, .ref out]) hx hb hml hown hts gL_pass_X7_pass rfl 1 (by decide +kernel) ⟨Nat.le_of_ble_eq_true rfl, Nat.le_of_ble_eq_true rfl⟩ (hM s.heap.size) hP hD hS hA hK hZ _ (blk_l _ _) (nd_range' _ _) 0 6 he rfl rfl rfl hl.1 rfl (Nat.le_of_ble_eq_true rfl) ⟨Nat.le_of_ble_eq_true rfl, Nat.le_of_ble_eq_true rfl⟩ dL_pass_4) rfl hP hD hS hA _ _ (blk_l _ _) (blk_r _ _) (nd_range' _ _) (blk_dis _ _) rfl (fun H locs hP hD hS => ?_)
    refine lv_i2l (v := v.toInt64) hx hb dL_pass_7 rfl ?_
    refine va_last hx hb hK.1 hP hD hS 0 1 rfl rfl (by unfold vp_in; decide) dL_pass_8 (fun H locs hP hD hS => ?_)
    refine lv_goto (tgt := 18) hx hb dL_pass_9 (by decide) ?_
    refine lv_iconst (v := (0 : Int32)) hx hb dL_pass_18 (by decide) ?_
    exact rtZ hx hb hrt hlk (Nat.le_of_ble_eq_true rfl) (Nat.le_of_ble_eq_true rfl) hP hD hS dL_pass_19
  · rcases hr n rfl with rfl | rfl
    · refine runX_c (n := 1) (clVX (As := [.int x1]) (rest := [.int 0, .ref out]) hx hb hml hown hts gL_pass_X7_pass rfl 1 (by decide +kernel) ⟨Nat.le_of_ble_eq_true rfl, Nat.le_of_ble_eq_true rfl⟩ (hM s.heap.size) hP hD hS hA hK hZ _ (blk_l _ _) (nd_range' _ _) 0 6 he rfl rfl rfl hl.1 rfl (Nat.le_of_ble_eq_true rfl) ⟨Nat.le_of_ble_eq_true rfl, Nat.le_of_ble_eq_true rfl⟩ dL_pass_4) rfl hP hD hS hA _ _ (blk_l _ _) (blk_r _ _) (nd_range' _ _) (blk_dis _ _) (fun q ce H locs hP hD hS hce hcv hcl => ?_)
      refine vx_catch (own := RL) (name := zE 1) (E := zE 1) hown [] ⟨0, 9, 12, 13⟩ [⟨0, 9, 15, 15⟩] (by rw [hex]; rfl) (fun z hz => absurd hz List.not_mem_nil) (by decide) (by decide) (hts _ (by decide +kernel)) (va_Nw.use rfl (hC.1 1 (Or.inl rfl))) hce hcv hcl ?_
      refine W.eq (g2 := F0 m 12 ls [.ref q]) rfl ?_
      refine lv_astore_n (lv' := [(3, .ref q), (0, .ref o), (1, .int x1), (2, .ref out)]) hx hb dL_pass_12 rfl hl (by decide) rfl (fun ls hl => ?_)
      refine lv_iconst (v := (1 : Int32)) hx hb dL_pass_13 (by decide) ?_
      exact rtZ hx hb hrt hlk (Nat.le_of_ble_eq_true rfl) (Nat.le_of_ble_eq_true rfl) hP hD hS dL_pass_14
    · refine runX_c (n := 2) (clVX (As := [.int x1]) (rest := [.int 0, .ref out]) hx hb hml hown hts gL_pass_X7_pass rfl 1 (by decide +kernel) ⟨Nat.le_of_ble_eq_true rfl, Nat.le_of_ble_eq_true rfl⟩ (hM s.heap.size) hP hD hS hA hK hZ _ (blk_l _ _) (nd_range' _ _) 0 6 he rfl rfl rfl hl.1 rfl (Nat.le_of_ble_eq_true rfl) ⟨Nat.le_of_ble_eq_true rfl, Nat.le_of_ble_eq_true rfl⟩ dL_pass_4) rfl hP hD hS hA _ _ (blk_l _ _) (blk_r _ _) (nd_range' _ _) (blk_dis _ _) (fun q ce H locs hP hD hS hce hcv hcl => ?_)
      refine vx_catch (own := RL) (name := zE 2) (E := zE 2) hown [⟨0, 9, 12, 13⟩] ⟨0, 9, 15, 15⟩ [] (by rw [hex]; rfl) (fun z hz => by rw [List.mem_singleton.mp hz]; exact Or.inr ⟨by decide, zE 1, hts _ (by decide +kernel), hC.2 2 1 (Or.inr (Or.inl rfl)) (Or.inl rfl) (by decide)⟩) (by decide) (by decide) (hts _ (by decide +kernel)) (va_Nw.use rfl (hC.1 2 (Or.inr (Or.inl rfl)))) hce hcv hcl ?_
      refine W.eq (g2 := F0 m 15 ls [.ref q]) rfl ?_
      refine lv_astore_n (lv' := [(3, .ref q), (0, .ref o), (1, .int x1), (2, .ref out)]) hx hb dL_pass_15 rfl hl (by decide) rfl (fun ls hl => ?_)
      refine lv_iconst (v := (2 : Int32)) hx hb dL_pass_16 (by decide) ?_
      exact rtZ hx hb hrt hlk (Nat.le_of_ble_eq_true rfl) (Nat.le_of_ble_eq_true rfl) hP hD hS dL_pass_17
set_option maxRecDepth 100000 in
theorem wr_segment (l : Launch) (hst : l.stackTraces = false) (D : va_G) (ca : Nat → ClassId) {W7 W7' : va_W} {o out : Nat} {fs : List Value} {r : Int32 ⊕ Nat} (x1 : Int32) (x2 : Int32) (g : Nat → Int64) (sz : Nat) (he : W7[0]? = some (o, .inr (6, fs))) (hM : ∀ sz, MX l yX7_segment wsX7_segment 7 118 2 D ca [.ref o, .int x1, .int x2] sz W7 (zoi r) W7') (hr : ∀ n, r = .inr n → n = 3 ∨ n = 1) : MZ l yL_segment wsL_segment 8 140 2 D ca [.ref o, .int x1, .int x2, .ref out] sz ([(out, .inl (ca 1, 1, .inr (.inl g)))] ++ W7) (some (.int (kcI (fun e => if e = 3 then 1 else if e = 1 then 2 else 0) r))) ([(out, .inl (ca 1, 1, .inr (.inl (ouI g r))))] ++ W7') := by
  refine hdZ (by decide +kernel) rfl (Nat.le_of_ble_eq_true rfl) ?_
  intro p e s m args below meth c A Q hQ hx hb hrt hml hown hts hlk hex hP hD hK hA hS hZ hC ls hl
  subst hQ
  have hown : s.vm.findClass RL = some m.cls := hown
  have hl : lv_has ls 5 [(0, .ref o), (1, .int x1), (2, .int x2), (3, .ref out)] := hl
  have hP := hP.flip
  have hD := hD.flip
  refine lv_aload_n hx hb dL_segment_0 rfl (lv_at hl 3 rfl) ?_
  refine lv_iconst (v := (0 : Int32)) hx hb dL_segment_1 (by decide) ?_
  refine lv_aload_n hx hb dL_segment_2 rfl (lv_at hl 0 rfl) ?_
  refine lv_iload_n hx hb dL_segment_3 rfl (lv_at hl 1 rfl) ?_
  refine lv_iload_n hx hb dL_segment_4 rfl (lv_at hl 2 rfl) ?_
  rcases r with v | n
  · refine runX_v (st' := [.int v, .int 0, .ref out]) (clVX (As := [.int x1, .int x2]) (rest := [.int 0, .ref out]) hx hb hml hown hts gL_segment_X7_segment rfl 2 (by decide +kernel) ⟨Nat.le_of_ble_eq_true rfl, Nat.le_of_ble_eq_true rfl⟩ (hM s.heap.size) hP hD hS hA hK hZ _ (blk_l _ _) (nd_range' _ _) 0 6 he rfl rfl rfl hl.1 rfl (Nat.le_of_ble_eq_true rfl) ⟨Nat.le_of_ble_eq_true rfl, Nat.le_of_ble_eq_true rfl⟩ dL_segment_5) rfl hP hD hS hA _ _ (blk_l _ _) (blk_r _ _) (nd_range' _ _) (blk_dis _ _) rfl (fun H locs hP hD hS => ?_)
    refine lv_i2l (v := v.toInt64) hx hb dL_segment_8 rfl ?_
    refine va_last hx hb hK.1 hP hD hS 0 1 rfl rfl (by unfold vp_in; decide) dL_segment_9 (fun H locs hP hD hS => ?_)
    refine lv_goto (tgt := 21) hx hb dL_segment_10 (by decide) ?_
    refine lv_iconst (v := (0 : Int32)) hx hb dL_segment_21 (by decide) ?_
    exact rtZ hx hb hrt hlk (Nat.le_of_ble_eq_true rfl) (Nat.le_of_ble_eq_true rfl) hP hD hS dL_segment_22
  · rcases hr n rfl with rfl | rfl
    · refine runX_c (n := 3) (clVX (As := [.int x1, .int x2]) (rest := [.int 0, .ref out]) hx hb hml hown hts gL_segment_X7_segment rfl 2 (by decide +kernel) ⟨Nat.le_of_ble_eq_true rfl, Nat.le_of_ble_eq_true rfl⟩ (hM s.heap.size) hP hD hS hA hK hZ _ (blk_l _ _) (nd_range' _ _) 0 6 he rfl rfl rfl hl.1 rfl (Nat.le_of_ble_eq_true rfl) ⟨Nat.le_of_ble_eq_true rfl, Nat.le_of_ble_eq_true rfl⟩ dL_segment_5) rfl hP hD hS hA _ _ (blk_l _ _) (blk_r _ _) (nd_range' _ _) (blk_dis _ _) (fun q ce H locs hP hD hS hce hcv hcl => ?_)
      refine vx_catch (own := RL) (name := zE 3) (E := zE 3) hown [] ⟨0, 10, 13, 25⟩ [⟨0, 10, 17, 13⟩] (by rw [hex]; rfl) (fun z hz => absurd hz List.not_mem_nil) (by decide) (by decide) (hts _ (by decide +kernel)) (va_Nw.use rfl (hC.1 3 (Or.inr (Or.inr rfl)))) hce hcv hcl ?_
      refine W.eq (g2 := F0 m 13 ls [.ref q]) rfl ?_
      refine lv_astore (lv' := [(4, .ref q), (0, .ref o), (1, .int x1), (2, .int x2), (3, .ref out)]) hx hb dL_segment_13 hl (by decide) rfl (fun ls hl => ?_)
      refine lv_iconst (v := (1 : Int32)) hx hb dL_segment_15 (by decide) ?_
      exact rtZ hx hb hrt hlk (Nat.le_of_ble_eq_true rfl) (Nat.le_of_ble_eq_true rfl) hP hD hS dL_segment_16
    · refine runX_c (n := 1) (clVX (As := [.int x1, .int x2]) (rest := [.int 0, .ref out]) hx hb hml hown hts gL_segment_X7_segment rfl 2 (by decide +kernel) ⟨Nat.le_of_ble_eq_true rfl, Nat.le_of_ble_eq_true rfl⟩ (hM s.heap.size) hP hD hS hA hK hZ _ (blk_l _ _) (nd_range' _ _) 0 6 he rfl rfl rfl hl.1 rfl (Nat.le_of_ble_eq_true rfl) ⟨Nat.le_of_ble_eq_true rfl, Nat.le_of_ble_eq_true rfl⟩ dL_segment_5) rfl hP hD hS hA _ _ (blk_l _ _) (blk_r _ _) (nd_range' _ _) (blk_dis _ _) (fun q ce H locs hP hD hS hce hcv hcl => ?_)
      refine vx_catch (own := RL) (name := zE 1) (E := zE 1) hown [⟨0, 10, 13, 25⟩] ⟨0, 10, 17, 13⟩ [] (by rw [hex]; rfl) (fun z hz => by rw [List.mem_singleton.mp hz]; exact Or.inr ⟨by decide, zE 3, hts _ (by decide +kernel), hC.2 1 3 (Or.inl rfl) (Or.inr (Or.inr rfl)) (by decide)⟩) (by decide) (by decide) (hts _ (by decide +kernel)) (va_Nw.use rfl (hC.1 1 (Or.inl rfl))) hce hcv hcl ?_
      refine W.eq (g2 := F0 m 17 ls [.ref q]) rfl ?_
      refine lv_astore (lv' := [(4, .ref q), (0, .ref o), (1, .int x1), (2, .int x2), (3, .ref out)]) hx hb dL_segment_17 hl (by decide) rfl (fun ls hl => ?_)
      refine lv_iconst (v := (2 : Int32)) hx hb dL_segment_19 (by decide) ?_
      exact rtZ hx hb hrt hlk (Nat.le_of_ble_eq_true rfl) (Nat.le_of_ble_eq_true rfl) hP hD hS dL_segment_20
set_option maxRecDepth 100000 in
theorem wr_minimum (l : Launch) (hst : l.stackTraces = false) (D : va_G) (ca : Nat → ClassId) {W7 W7' : va_W} {o out : Nat} {fs : List Value} {r : Int64 ⊕ Nat} (x1 : Int32) (x2 : Int32) (g : Nat → Int64) (sz : Nat) (he : W7[0]? = some (o, .inr (6, fs))) (hM : ∀ sz, MX l yX7_minimum wsX7_minimum 8 139 2 D ca [.ref o, .int x1, .int x2] sz W7 (zol r) W7') (hr : ∀ n, r = .inr n → n = 1) : MZ l yL_minimum wsL_minimum 9 163 2 D ca [.ref o, .int x1, .int x2, .ref out] sz ([(out, .inl (ca 1, 1, .inr (.inl g)))] ++ W7) (some (.int (kcL (fun e => if e = 1 then 1 else 0) r))) ([(out, .inl (ca 1, 1, .inr (.inl (ouL g r))))] ++ W7') := by
  refine hdZ (by decide +kernel) rfl (Nat.le_of_ble_eq_true rfl) ?_
  intro p e s m args below meth c A Q hQ hx hb hrt hml hown hts hlk hex hP hD hK hA hS hZ hC ls hl
  subst hQ
  have hown : s.vm.findClass RL = some m.cls := hown
  have hl : lv_has ls 5 [(0, .ref o), (1, .int x1), (2, .int x2), (3, .ref out)] := hl
  have hP := hP.flip
  have hD := hD.flip
  refine lv_aload_n hx hb dL_minimum_0 rfl (lv_at hl 3 rfl) ?_
  refine lv_iconst (v := (0 : Int32)) hx hb dL_minimum_1 (by decide) ?_
  refine lv_aload_n hx hb dL_minimum_2 rfl (lv_at hl 0 rfl) ?_
  refine lv_iload_n hx hb dL_minimum_3 rfl (lv_at hl 1 rfl) ?_
  refine lv_iload_n hx hb dL_minimum_4 rfl (lv_at hl 2 rfl) ?_
  rcases r with v | n
  · refine runX_v (st' := [.long v, .int 0, .ref out]) (clVX (As := [.int x1, .int x2]) (rest := [.int 0, .ref out]) hx hb hml hown hts gL_minimum_X7_minimum rfl 2 (by decide +kernel) ⟨Nat.le_of_ble_eq_true rfl, Nat.le_of_ble_eq_true rfl⟩ (hM s.heap.size) hP hD hS hA hK hZ _ (blk_l _ _) (nd_range' _ _) 0 6 he rfl rfl rfl hl.1 rfl (Nat.le_of_ble_eq_true rfl) ⟨Nat.le_of_ble_eq_true rfl, Nat.le_of_ble_eq_true rfl⟩ dL_minimum_5) rfl hP hD hS hA _ _ (blk_l _ _) (blk_r _ _) (nd_range' _ _) (blk_dis _ _) rfl (fun H locs hP hD hS => ?_)
    refine va_last hx hb hK.1 hP hD hS 0 1 rfl rfl (by unfold vp_in; decide) dL_minimum_8 (fun H locs hP hD hS => ?_)
    refine lv_goto (tgt := 16) hx hb dL_minimum_9 (by decide) ?_
    refine lv_iconst (v := (0 : Int32)) hx hb dL_minimum_16 (by decide) ?_
    exact rtZ hx hb hrt hlk (Nat.le_of_ble_eq_true rfl) (Nat.le_of_ble_eq_true rfl) hP hD hS dL_minimum_17
  · obtain rfl := hr n rfl
    refine runX_c (n := 1) (clVX (As := [.int x1, .int x2]) (rest := [.int 0, .ref out]) hx hb hml hown hts gL_minimum_X7_minimum rfl 2 (by decide +kernel) ⟨Nat.le_of_ble_eq_true rfl, Nat.le_of_ble_eq_true rfl⟩ (hM s.heap.size) hP hD hS hA hK hZ _ (blk_l _ _) (nd_range' _ _) 0 6 he rfl rfl rfl hl.1 rfl (Nat.le_of_ble_eq_true rfl) ⟨Nat.le_of_ble_eq_true rfl, Nat.le_of_ble_eq_true rfl⟩ dL_minimum_5) rfl hP hD hS hA _ _ (blk_l _ _) (blk_r _ _) (nd_range' _ _) (blk_dis _ _) (fun q ce H locs hP hD hS hce hcv hcl => ?_)
    refine vx_catch (own := RL) (name := zE 1) (E := zE 1) hown [] ⟨0, 9, 12, 13⟩ [] (by rw [hex]; rfl) (fun z hz => absurd hz List.not_mem_nil) (by decide) (by decide) (hts _ (by decide +kernel)) (va_Nw.use rfl (hC.1 1 (Or.inl rfl))) hce hcv hcl ?_
    refine W.eq (g2 := F0 m 12 ls [.ref q]) rfl ?_
    refine lv_astore (lv' := [(4, .ref q), (0, .ref o), (1, .int x1), (2, .int x2), (3, .ref out)]) hx hb dL_minimum_12 hl (by decide) rfl (fun ls hl => ?_)
    refine lv_iconst (v := (1 : Int32)) hx hb dL_minimum_14 (by decide) ?_
    exact rtZ hx hb hrt hlk (Nat.le_of_ble_eq_true rfl) (Nat.le_of_ble_eq_true rfl) hP hD hS dL_minimum_15
set_option maxRecDepth 100000 in
theorem wr_ranked (l : Launch) (hst : l.stackTraces = false) (D : va_G) (ca : Nat → ClassId) {W7 W7' : va_W} {o out : Nat} {fs : List Value} {r : Int32 ⊕ Nat} (x1 : Int32) (x2 : Int32) (x3 : Int32) (g : Nat → Int64) (sz : Nat) (he : W7[0]? = some (o, .inr (6, fs))) (hM : ∀ sz, MX l yX7_ranked wsX7_ranked 8 139 3 D ca [.ref o, .int x1, .int x2, .int x3] sz W7 (zoi r) W7') (hr : ∀ n, r = .inr n → n = 1) : MZ l yL_ranked wsL_ranked 9 162 3 D ca [.ref o, .int x1, .int x2, .int x3, .ref out] sz ([(out, .inl (ca 1, 1, .inr (.inl g)))] ++ W7) (some (.int (kcI (fun e => if e = 1 then 1 else 0) r))) ([(out, .inl (ca 1, 1, .inr (.inl (ouI g r))))] ++ W7') := by
  refine hdZ (by decide +kernel) rfl (Nat.le_of_ble_eq_true rfl) ?_
  intro p e s m args below meth c A Q hQ hx hb hrt hml hown hts hlk hex hP hD hK hA hS hZ hC ls hl
  subst hQ
  have hown : s.vm.findClass RL = some m.cls := hown
  have hl : lv_has ls 6 [(0, .ref o), (1, .int x1), (2, .int x2), (3, .int x3), (4, .ref out)] := hl
  have hP := hP.flip
  have hD := hD.flip
  refine lv_aload hx hb dL_ranked_0 (lv_at hl 4 rfl) ?_
  refine lv_iconst (v := (0 : Int32)) hx hb dL_ranked_2 (by decide) ?_
  refine lv_aload_n hx hb dL_ranked_3 rfl (lv_at hl 0 rfl) ?_
  refine lv_iload_n hx hb dL_ranked_4 rfl (lv_at hl 1 rfl) ?_
  refine lv_iload_n hx hb dL_ranked_5 rfl (lv_at hl 2 rfl) ?_
  refine lv_iload_n hx hb dL_ranked_6 rfl (lv_at hl 3 rfl) ?_
  rcases r with v | n
  · refine runX_v (st' := [.int v, .int 0, .ref out]) (clVX (As := [.int x1, .int x2, .int x3]) (rest := [.int 0, .ref out]) hx hb hml hown hts gL_ranked_X7_ranked rfl 3 (by decide +kernel) ⟨Nat.le_of_ble_eq_true rfl, Nat.le_of_ble_eq_true rfl⟩ (hM s.heap.size) hP hD hS hA hK hZ _ (blk_l _ _) (nd_range' _ _) 0 6 he rfl rfl rfl hl.1 rfl (Nat.le_of_ble_eq_true rfl) ⟨Nat.le_of_ble_eq_true rfl, Nat.le_of_ble_eq_true rfl⟩ dL_ranked_7) rfl hP hD hS hA _ _ (blk_l _ _) (blk_r _ _) (nd_range' _ _) (blk_dis _ _) rfl (fun H locs hP hD hS => ?_)
    refine lv_i2l (v := v.toInt64) hx hb dL_ranked_10 rfl ?_
    refine va_last hx hb hK.1 hP hD hS 0 1 rfl rfl (by unfold vp_in; decide) dL_ranked_11 (fun H locs hP hD hS => ?_)
    refine lv_goto (tgt := 19) hx hb dL_ranked_12 (by decide) ?_
    refine lv_iconst (v := (0 : Int32)) hx hb dL_ranked_19 (by decide) ?_
    exact rtZ hx hb hrt hlk (Nat.le_of_ble_eq_true rfl) (Nat.le_of_ble_eq_true rfl) hP hD hS dL_ranked_20
  · obtain rfl := hr n rfl
    refine runX_c (n := 1) (clVX (As := [.int x1, .int x2, .int x3]) (rest := [.int 0, .ref out]) hx hb hml hown hts gL_ranked_X7_ranked rfl 3 (by decide +kernel) ⟨Nat.le_of_ble_eq_true rfl, Nat.le_of_ble_eq_true rfl⟩ (hM s.heap.size) hP hD hS hA hK hZ _ (blk_l _ _) (nd_range' _ _) 0 6 he rfl rfl rfl hl.1 rfl (Nat.le_of_ble_eq_true rfl) ⟨Nat.le_of_ble_eq_true rfl, Nat.le_of_ble_eq_true rfl⟩ dL_ranked_7) rfl hP hD hS hA _ _ (blk_l _ _) (blk_r _ _) (nd_range' _ _) (blk_dis _ _) (fun q ce H locs hP hD hS hce hcv hcl => ?_)
    refine vx_catch (own := RL) (name := zE 1) (E := zE 1) hown [] ⟨0, 12, 15, 13⟩ [] (by rw [hex]; rfl) (fun z hz => absurd hz List.not_mem_nil) (by decide) (by decide) (hts _ (by decide +kernel)) (va_Nw.use rfl (hC.1 1 (Or.inl rfl))) hce hcv hcl ?_
    refine W.eq (g2 := F0 m 15 ls [.ref q]) rfl ?_
    refine lv_astore (lv' := [(5, .ref q), (0, .ref o), (1, .int x1), (2, .int x2), (3, .int x3), (4, .ref out)]) hx hb dL_ranked_15 hl (by decide) rfl (fun ls hl => ?_)
    refine lv_iconst (v := (1 : Int32)) hx hb dL_ranked_17 (by decide) ?_
    exact rtZ hx hb hrt hlk (Nat.le_of_ble_eq_true rfl) (Nat.le_of_ble_eq_true rfl) hP hD hS dL_ranked_18
set_option maxRecDepth 100000 in
theorem wr_below (l : Launch) (hst : l.stackTraces = false) (D : va_G) (ca : Nat → ClassId) {W7 W7' : va_W} {o out : Nat} {fs : List Value} {r : Int32 ⊕ Nat} (x1 : Int32) (x2 : Int32) (x3 : Int64) (g : Nat → Int64) (sz : Nat) (he : W7[0]? = some (o, .inr (6, fs))) (hM : ∀ sz, MX l yX7_below wsX7_below 8 139 2 D ca [.ref o, .int x1, .int x2, .long x3] sz W7 (zoi r) W7') (hr : ∀ n, r = .inr n → n = 1) : MZ l yL_below wsL_below 9 163 2 D ca [.ref o, .int x1, .int x2, .long x3, .ref out] sz ([(out, .inl (ca 1, 1, .inr (.inl g)))] ++ W7) (some (.int (kcI (fun e => if e = 1 then 1 else 0) r))) ([(out, .inl (ca 1, 1, .inr (.inl (ouI g r))))] ++ W7') := by
  refine hdZ (by decide +kernel) rfl (Nat.le_of_ble_eq_true rfl) ?_
  intro p e s m args below meth c A Q hQ hx hb hrt hml hown hts hlk hex hP hD hK hA hS hZ hC ls hl
  subst hQ
  have hown : s.vm.findClass RL = some m.cls := hown
  have hl : lv_has ls 7 [(0, .ref o), (1, .int x1), (2, .int x2), (3, .long x3), (5, .ref out)] := hl
  have hP := hP.flip
  have hD := hD.flip
  refine lv_aload hx hb dL_below_0 (lv_at hl 4 rfl) ?_
  refine lv_iconst (v := (0 : Int32)) hx hb dL_below_2 (by decide) ?_
  refine lv_aload_n hx hb dL_below_3 rfl (lv_at hl 0 rfl) ?_
  refine lv_iload_n hx hb dL_below_4 rfl (lv_at hl 1 rfl) ?_
  refine lv_iload_n hx hb dL_below_5 rfl (lv_at hl 2 rfl) ?_
  refine lv_lload_n hx hb dL_below_6 rfl (lv_at hl 3 rfl) ?_
  rcases r with v | n
  · refine runX_v (st' := [.int v, .int 0, .ref out]) (clVX (As := [.int x1, .int x2, .long x3]) (rest := [.int 0, .ref out]) hx hb hml hown hts gL_below_X7_below rfl 3 (by decide +kernel) ⟨Nat.le_of_ble_eq_true rfl, Nat.le_of_ble_eq_true rfl⟩ (hM s.heap.size) hP hD hS hA hK hZ _ (blk_l _ _) (nd_range' _ _) 0 6 he rfl rfl rfl hl.1 rfl (Nat.le_of_ble_eq_true rfl) ⟨Nat.le_of_ble_eq_true rfl, Nat.le_of_ble_eq_true rfl⟩ dL_below_7) rfl hP hD hS hA _ _ (blk_l _ _) (blk_r _ _) (nd_range' _ _) (blk_dis _ _) rfl (fun H locs hP hD hS => ?_)
    refine lv_i2l (v := v.toInt64) hx hb dL_below_10 rfl ?_
    refine va_last hx hb hK.1 hP hD hS 0 1 rfl rfl (by unfold vp_in; decide) dL_below_11 (fun H locs hP hD hS => ?_)
    refine lv_goto (tgt := 19) hx hb dL_below_12 (by decide) ?_
    refine lv_iconst (v := (0 : Int32)) hx hb dL_below_19 (by decide) ?_
    exact rtZ hx hb hrt hlk (Nat.le_of_ble_eq_true rfl) (Nat.le_of_ble_eq_true rfl) hP hD hS dL_below_20
  · obtain rfl := hr n rfl
    refine runX_c (n := 1) (clVX (As := [.int x1, .int x2, .long x3]) (rest := [.int 0, .ref out]) hx hb hml hown hts gL_below_X7_below rfl 3 (by decide +kernel) ⟨Nat.le_of_ble_eq_true rfl, Nat.le_of_ble_eq_true rfl⟩ (hM s.heap.size) hP hD hS hA hK hZ _ (blk_l _ _) (nd_range' _ _) 0 6 he rfl rfl rfl hl.1 rfl (Nat.le_of_ble_eq_true rfl) ⟨Nat.le_of_ble_eq_true rfl, Nat.le_of_ble_eq_true rfl⟩ dL_below_7) rfl hP hD hS hA _ _ (blk_l _ _) (blk_r _ _) (nd_range' _ _) (blk_dis _ _) (fun q ce H locs hP hD hS hce hcv hcl => ?_)
    refine vx_catch (own := RL) (name := zE 1) (E := zE 1) hown [] ⟨0, 12, 15, 13⟩ [] (by rw [hex]; rfl) (fun z hz => absurd hz List.not_mem_nil) (by decide) (by decide) (hts _ (by decide +kernel)) (va_Nw.use rfl (hC.1 1 (Or.inl rfl))) hce hcv hcl ?_
    refine W.eq (g2 := F0 m 15 ls [.ref q]) rfl ?_
    refine lv_astore (lv' := [(6, .ref q), (0, .ref o), (1, .int x1), (2, .int x2), (3, .long x3), (5, .ref out)]) hx hb dL_below_15 hl (by decide) rfl (fun ls hl => ?_)
    refine lv_iconst (v := (1 : Int32)) hx hb dL_below_17 (by decide) ?_
    exact rtZ hx hb hrt hlk (Nat.le_of_ble_eq_true rfl) (Nat.le_of_ble_eq_true rfl) hP hD hS dL_below_18
set_option maxRecDepth 100000 in
theorem wr_overtakes (l : Launch) (hst : l.stackTraces = false) (D : va_G) (ca : Nat → ClassId) {W7 W7' : va_W} {o out : Nat} {fs : List Value} {r : Int32 ⊕ Nat} (x1 : Int32) (x2 : Int32) (g : Nat → Int64) (sz : Nat) (he : W7[0]? = some (o, .inr (6, fs))) (hM : ∀ sz, MX l yX7_overtakes wsX7_overtakes 7 117 2 D ca [.ref o, .int x1, .int x2] sz W7 (zoi r) W7') (hr : ∀ n, r = .inr n → n = 3) : MZ l yL_overtakes wsL_overtakes 8 139 2 D ca [.ref o, .int x1, .int x2, .ref out] sz ([(out, .inl (ca 1, 1, .inr (.inl g)))] ++ W7) (some (.int (kcI (fun e => if e = 3 then 1 else 0) r))) ([(out, .inl (ca 1, 1, .inr (.inl (ouI g r))))] ++ W7') := by
  refine hdZ (by decide +kernel) rfl (Nat.le_of_ble_eq_true rfl) ?_
  intro p e s m args below meth c A Q hQ hx hb hrt hml hown hts hlk hex hP hD hK hA hS hZ hC ls hl
  subst hQ
  have hown : s.vm.findClass RL = some m.cls := hown
  have hl : lv_has ls 5 [(0, .ref o), (1, .int x1), (2, .int x2), (3, .ref out)] := hl
  have hP := hP.flip
  have hD := hD.flip
  refine lv_aload_n hx hb dL_overtakes_0 rfl (lv_at hl 3 rfl) ?_
  refine lv_iconst (v := (0 : Int32)) hx hb dL_overtakes_1 (by decide) ?_
  refine lv_aload_n hx hb dL_overtakes_2 rfl (lv_at hl 0 rfl) ?_
  refine lv_iload_n hx hb dL_overtakes_3 rfl (lv_at hl 1 rfl) ?_
  refine lv_iload_n hx hb dL_overtakes_4 rfl (lv_at hl 2 rfl) ?_
  rcases r with v | n
  · refine runX_v (st' := [.int v, .int 0, .ref out]) (clVX (As := [.int x1, .int x2]) (rest := [.int 0, .ref out]) hx hb hml hown hts gL_overtakes_X7_overtakes rfl 2 (by decide +kernel) ⟨Nat.le_of_ble_eq_true rfl, Nat.le_of_ble_eq_true rfl⟩ (hM s.heap.size) hP hD hS hA hK hZ _ (blk_l _ _) (nd_range' _ _) 0 6 he rfl rfl rfl hl.1 rfl (Nat.le_of_ble_eq_true rfl) ⟨Nat.le_of_ble_eq_true rfl, Nat.le_of_ble_eq_true rfl⟩ dL_overtakes_5) rfl hP hD hS hA _ _ (blk_l _ _) (blk_r _ _) (nd_range' _ _) (blk_dis _ _) rfl (fun H locs hP hD hS => ?_)
    refine lv_i2l (v := v.toInt64) hx hb dL_overtakes_8 rfl ?_
    refine va_last hx hb hK.1 hP hD hS 0 1 rfl rfl (by unfold vp_in; decide) dL_overtakes_9 (fun H locs hP hD hS => ?_)
    refine lv_goto (tgt := 17) hx hb dL_overtakes_10 (by decide) ?_
    refine lv_iconst (v := (0 : Int32)) hx hb dL_overtakes_17 (by decide) ?_
    exact rtZ hx hb hrt hlk (Nat.le_of_ble_eq_true rfl) (Nat.le_of_ble_eq_true rfl) hP hD hS dL_overtakes_18
  · obtain rfl := hr n rfl
    refine runX_c (n := 3) (clVX (As := [.int x1, .int x2]) (rest := [.int 0, .ref out]) hx hb hml hown hts gL_overtakes_X7_overtakes rfl 2 (by decide +kernel) ⟨Nat.le_of_ble_eq_true rfl, Nat.le_of_ble_eq_true rfl⟩ (hM s.heap.size) hP hD hS hA hK hZ _ (blk_l _ _) (nd_range' _ _) 0 6 he rfl rfl rfl hl.1 rfl (Nat.le_of_ble_eq_true rfl) ⟨Nat.le_of_ble_eq_true rfl, Nat.le_of_ble_eq_true rfl⟩ dL_overtakes_5) rfl hP hD hS hA _ _ (blk_l _ _) (blk_r _ _) (nd_range' _ _) (blk_dis _ _) (fun q ce H locs hP hD hS hce hcv hcl => ?_)
    refine vx_catch (own := RL) (name := zE 3) (E := zE 3) hown [] ⟨0, 10, 13, 25⟩ [] (by rw [hex]; rfl) (fun z hz => absurd hz List.not_mem_nil) (by decide) (by decide) (hts _ (by decide +kernel)) (va_Nw.use rfl (hC.1 3 (Or.inr (Or.inr rfl)))) hce hcv hcl ?_
    refine W.eq (g2 := F0 m 13 ls [.ref q]) rfl ?_
    refine lv_astore (lv' := [(4, .ref q), (0, .ref o), (1, .int x1), (2, .int x2), (3, .ref out)]) hx hb dL_overtakes_13 hl (by decide) rfl (fun ls hl => ?_)
    refine lv_iconst (v := (1 : Int32)) hx hb dL_overtakes_15 (by decide) ?_
    exact rtZ hx hb hrt hlk (Nat.le_of_ble_eq_true rfl) (Nat.le_of_ble_eq_true rfl) hP hD hS dL_overtakes_16
set_option maxRecDepth 100000 in
theorem wr_pieces (l : Launch) (hst : l.stackTraces = false) (D : va_G) (ca : Nat → ClassId) {W7 W7' : va_W} {o out : Nat} {fs : List Value} {r : Int32 ⊕ Nat} (x1 : Int32) (g : Nat → Int64) (sz : Nat) (he : W7[0]? = some (o, .inr (6, fs))) (hM : ∀ sz, MX l yX7_pieces wsX7_pieces 8 147 1 D ca [.ref o, .int x1] sz W7 (zoi r) W7') (hr : ∀ n, r = .inr n → n = 1) : MZ l yL_pieces wsL_pieces 9 168 1 D ca [.ref o, .int x1, .ref out] sz ([(out, .inl (ca 1, 1, .inr (.inl g)))] ++ W7) (some (.int (kcI (fun e => if e = 1 then 1 else 0) r))) ([(out, .inl (ca 1, 1, .inr (.inl (ouI g r))))] ++ W7') := by
  refine hdZ (by decide +kernel) rfl (Nat.le_of_ble_eq_true rfl) ?_
  intro p e s m args below meth c A Q hQ hx hb hrt hml hown hts hlk hex hP hD hK hA hS hZ hC ls hl
  subst hQ
  have hown : s.vm.findClass RL = some m.cls := hown
  have hl : lv_has ls 4 [(0, .ref o), (1, .int x1), (2, .ref out)] := hl
  have hP := hP.flip
  have hD := hD.flip
  refine lv_aload_n hx hb dL_pieces_0 rfl (lv_at hl 2 rfl) ?_
  refine lv_iconst (v := (0 : Int32)) hx hb dL_pieces_1 (by decide) ?_
  refine lv_aload_n hx hb dL_pieces_2 rfl (lv_at hl 0 rfl) ?_
  refine lv_iload_n hx hb dL_pieces_3 rfl (lv_at hl 1 rfl) ?_
  rcases r with v | n
  · refine runX_v (st' := [.int v, .int 0, .ref out]) (clVX (As := [.int x1]) (rest := [.int 0, .ref out]) hx hb hml hown hts gL_pieces_X7_pieces rfl 1 (by decide +kernel) ⟨Nat.le_of_ble_eq_true rfl, Nat.le_of_ble_eq_true rfl⟩ (hM s.heap.size) hP hD hS hA hK hZ _ (blk_l _ _) (nd_range' _ _) 0 6 he rfl rfl rfl hl.1 rfl (Nat.le_of_ble_eq_true rfl) ⟨Nat.le_of_ble_eq_true rfl, Nat.le_of_ble_eq_true rfl⟩ dL_pieces_4) rfl hP hD hS hA _ _ (blk_l _ _) (blk_r _ _) (nd_range' _ _) (blk_dis _ _) rfl (fun H locs hP hD hS => ?_)
    refine lv_i2l (v := v.toInt64) hx hb dL_pieces_7 rfl ?_
    refine va_last hx hb hK.1 hP hD hS 0 1 rfl rfl (by unfold vp_in; decide) dL_pieces_8 (fun H locs hP hD hS => ?_)
    refine lv_goto (tgt := 15) hx hb dL_pieces_9 (by decide) ?_
    refine lv_iconst (v := (0 : Int32)) hx hb dL_pieces_15 (by decide) ?_
    exact rtZ hx hb hrt hlk (Nat.le_of_ble_eq_true rfl) (Nat.le_of_ble_eq_true rfl) hP hD hS dL_pieces_16
  · obtain rfl := hr n rfl
    refine runX_c (n := 1) (clVX (As := [.int x1]) (rest := [.int 0, .ref out]) hx hb hml hown hts gL_pieces_X7_pieces rfl 1 (by decide +kernel) ⟨Nat.le_of_ble_eq_true rfl, Nat.le_of_ble_eq_true rfl⟩ (hM s.heap.size) hP hD hS hA hK hZ _ (blk_l _ _) (nd_range' _ _) 0 6 he rfl rfl rfl hl.1 rfl (Nat.le_of_ble_eq_true rfl) ⟨Nat.le_of_ble_eq_true rfl, Nat.le_of_ble_eq_true rfl⟩ dL_pieces_4) rfl hP hD hS hA _ _ (blk_l _ _) (blk_r _ _) (nd_range' _ _) (blk_dis _ _) (fun q ce H locs hP hD hS hce hcv hcl => ?_)
    refine vx_catch (own := RL) (name := zE 1) (E := zE 1) hown [] ⟨0, 9, 12, 13⟩ [] (by rw [hex]; rfl) (fun z hz => absurd hz List.not_mem_nil) (by decide) (by decide) (hts _ (by decide +kernel)) (va_Nw.use rfl (hC.1 1 (Or.inl rfl))) hce hcv hcl ?_
    refine W.eq (g2 := F0 m 12 ls [.ref q]) rfl ?_
    refine lv_astore_n (lv' := [(3, .ref q), (0, .ref o), (1, .int x1), (2, .ref out)]) hx hb dL_pieces_12 rfl hl (by decide) rfl (fun ls hl => ?_)
    refine lv_iconst (v := (1 : Int32)) hx hb dL_pieces_13 (by decide) ?_
    exact rtZ hx hb hrt hlk (Nat.le_of_ble_eq_true rfl) (Nat.le_of_ble_eq_true rfl) hP hD hS dL_pieces_14
set_option maxRecDepth 100000 in
theorem wr_piece (l : Launch) (hst : l.stackTraces = false) (D : va_G) (ca : Nat → ClassId) {W7 W7' : va_W} {o out : Nat} {fs : List Value} {r : Int32 ⊕ Nat} (x1 : Int32) (x2 : Int32) (x3 : Int32) (g : Nat → Int64) (sz : Nat) (he : W7[0]? = some (o, .inr (6, fs))) (hM : ∀ sz, MX l yX7_piece wsX7_piece 8 147 3 D ca [.ref o, .int x1, .int x2, .int x3] sz W7 (zoi r) W7') (hr : ∀ n, r = .inr n → n = 1 ∨ n = 3) : MZ l yL_piece wsL_piece 9 170 3 D ca [.ref o, .int x1, .int x2, .int x3, .ref out] sz ([(out, .inl (ca 1, 1, .inr (.inl g)))] ++ W7) (some (.int (kcI (fun e => if e = 1 then 1 else if e = 3 then 2 else 0) r))) ([(out, .inl (ca 1, 1, .inr (.inl (ouI g r))))] ++ W7') := by
  refine hdZ (by decide +kernel) rfl (Nat.le_of_ble_eq_true rfl) ?_
  intro p e s m args below meth c A Q hQ hx hb hrt hml hown hts hlk hex hP hD hK hA hS hZ hC ls hl
  subst hQ
  have hown : s.vm.findClass RL = some m.cls := hown
  have hl : lv_has ls 6 [(0, .ref o), (1, .int x1), (2, .int x2), (3, .int x3), (4, .ref out)] := hl
  have hP := hP.flip
  have hD := hD.flip
  refine lv_aload hx hb dL_piece_0 (lv_at hl 4 rfl) ?_
  refine lv_iconst (v := (0 : Int32)) hx hb dL_piece_2 (by decide) ?_
  refine lv_aload_n hx hb dL_piece_3 rfl (lv_at hl 0 rfl) ?_
  refine lv_iload_n hx hb dL_piece_4 rfl (lv_at hl 1 rfl) ?_
  refine lv_iload_n hx hb dL_piece_5 rfl (lv_at hl 2 rfl) ?_
  refine lv_iload_n hx hb dL_piece_6 rfl (lv_at hl 3 rfl) ?_
  rcases r with v | n
  · refine runX_v (st' := [.int v, .int 0, .ref out]) (clVX (As := [.int x1, .int x2, .int x3]) (rest := [.int 0, .ref out]) hx hb hml hown hts gL_piece_X7_piece rfl 3 (by decide +kernel) ⟨Nat.le_of_ble_eq_true rfl, Nat.le_of_ble_eq_true rfl⟩ (hM s.heap.size) hP hD hS hA hK hZ _ (blk_l _ _) (nd_range' _ _) 0 6 he rfl rfl rfl hl.1 rfl (Nat.le_of_ble_eq_true rfl) ⟨Nat.le_of_ble_eq_true rfl, Nat.le_of_ble_eq_true rfl⟩ dL_piece_7) rfl hP hD hS hA _ _ (blk_l _ _) (blk_r _ _) (nd_range' _ _) (blk_dis _ _) rfl (fun H locs hP hD hS => ?_)
    refine lv_i2l (v := v.toInt64) hx hb dL_piece_10 rfl ?_
    refine va_last hx hb hK.1 hP hD hS 0 1 rfl rfl (by unfold vp_in; decide) dL_piece_11 (fun H locs hP hD hS => ?_)
    refine lv_goto (tgt := 23) hx hb dL_piece_12 (by decide) ?_
    refine lv_iconst (v := (0 : Int32)) hx hb dL_piece_23 (by decide) ?_
    exact rtZ hx hb hrt hlk (Nat.le_of_ble_eq_true rfl) (Nat.le_of_ble_eq_true rfl) hP hD hS dL_piece_24
  · rcases hr n rfl with rfl | rfl
    · refine runX_c (n := 1) (clVX (As := [.int x1, .int x2, .int x3]) (rest := [.int 0, .ref out]) hx hb hml hown hts gL_piece_X7_piece rfl 3 (by decide +kernel) ⟨Nat.le_of_ble_eq_true rfl, Nat.le_of_ble_eq_true rfl⟩ (hM s.heap.size) hP hD hS hA hK hZ _ (blk_l _ _) (nd_range' _ _) 0 6 he rfl rfl rfl hl.1 rfl (Nat.le_of_ble_eq_true rfl) ⟨Nat.le_of_ble_eq_true rfl, Nat.le_of_ble_eq_true rfl⟩ dL_piece_7) rfl hP hD hS hA _ _ (blk_l _ _) (blk_r _ _) (nd_range' _ _) (blk_dis _ _) (fun q ce H locs hP hD hS hce hcv hcl => ?_)
      refine vx_catch (own := RL) (name := zE 1) (E := zE 1) hown [] ⟨0, 12, 15, 13⟩ [⟨0, 12, 19, 25⟩] (by rw [hex]; rfl) (fun z hz => absurd hz List.not_mem_nil) (by decide) (by decide) (hts _ (by decide +kernel)) (va_Nw.use rfl (hC.1 1 (Or.inl rfl))) hce hcv hcl ?_
      refine W.eq (g2 := F0 m 15 ls [.ref q]) rfl ?_
      refine lv_astore (lv' := [(5, .ref q), (0, .ref o), (1, .int x1), (2, .int x2), (3, .int x3), (4, .ref out)]) hx hb dL_piece_15 hl (by decide) rfl (fun ls hl => ?_)
      refine lv_iconst (v := (1 : Int32)) hx hb dL_piece_17 (by decide) ?_
      exact rtZ hx hb hrt hlk (Nat.le_of_ble_eq_true rfl) (Nat.le_of_ble_eq_true rfl) hP hD hS dL_piece_18
    · refine runX_c (n := 3) (clVX (As := [.int x1, .int x2, .int x3]) (rest := [.int 0, .ref out]) hx hb hml hown hts gL_piece_X7_piece rfl 3 (by decide +kernel) ⟨Nat.le_of_ble_eq_true rfl, Nat.le_of_ble_eq_true rfl⟩ (hM s.heap.size) hP hD hS hA hK hZ _ (blk_l _ _) (nd_range' _ _) 0 6 he rfl rfl rfl hl.1 rfl (Nat.le_of_ble_eq_true rfl) ⟨Nat.le_of_ble_eq_true rfl, Nat.le_of_ble_eq_true rfl⟩ dL_piece_7) rfl hP hD hS hA _ _ (blk_l _ _) (blk_r _ _) (nd_range' _ _) (blk_dis _ _) (fun q ce H locs hP hD hS hce hcv hcl => ?_)
      refine vx_catch (own := RL) (name := zE 3) (E := zE 3) hown [⟨0, 12, 15, 13⟩] ⟨0, 12, 19, 25⟩ [] (by rw [hex]; rfl) (fun z hz => by rw [List.mem_singleton.mp hz]; exact Or.inr ⟨by decide, zE 1, hts _ (by decide +kernel), hC.2 3 1 (Or.inr (Or.inr rfl)) (Or.inl rfl) (by decide)⟩) (by decide) (by decide) (hts _ (by decide +kernel)) (va_Nw.use rfl (hC.1 3 (Or.inr (Or.inr rfl)))) hce hcv hcl ?_
      refine W.eq (g2 := F0 m 19 ls [.ref q]) rfl ?_
      refine lv_astore (lv' := [(5, .ref q), (0, .ref o), (1, .int x1), (2, .int x2), (3, .int x3), (4, .ref out)]) hx hb dL_piece_19 hl (by decide) rfl (fun ls hl => ?_)
      refine lv_iconst (v := (2 : Int32)) hx hb dL_piece_21 (by decide) ?_
      exact rtZ hx hb hrt hlk (Nat.le_of_ble_eq_true rfl) (Nat.le_of_ble_eq_true rfl) hP hD hS dL_piece_22
set_option maxRecDepth 100000 in
theorem wr_sum (l : Launch) (hst : l.stackTraces = false) (D : va_G) (ca : Nat → ClassId) {W7 W7' : va_W} {o out : Nat} {fs : List Value} {r : Int64 ⊕ Nat} (x1 : Int32) (x2 : Int32) (x3 : Int32) (g : Nat → Int64) (sz : Nat) (he : W7[0]? = some (o, .inr (6, fs))) (hM : ∀ sz, MX l yX7_sum wsX7_sum 8 147 3 D ca [.ref o, .int x1, .int x2, .int x3] sz W7 (zol r) W7') (hr : ∀ n, r = .inr n → n = 1) : MZ l yL_sum wsL_sum 9 170 3 D ca [.ref o, .int x1, .int x2, .int x3, .ref out] sz ([(out, .inl (ca 1, 1, .inr (.inl g)))] ++ W7) (some (.int (kcL (fun e => if e = 1 then 1 else 0) r))) ([(out, .inl (ca 1, 1, .inr (.inl (ouL g r))))] ++ W7') := by
  refine hdZ (by decide +kernel) rfl (Nat.le_of_ble_eq_true rfl) ?_
  intro p e s m args below meth c A Q hQ hx hb hrt hml hown hts hlk hex hP hD hK hA hS hZ hC ls hl
  subst hQ
  have hown : s.vm.findClass RL = some m.cls := hown
  have hl : lv_has ls 6 [(0, .ref o), (1, .int x1), (2, .int x2), (3, .int x3), (4, .ref out)] := hl
  have hP := hP.flip
  have hD := hD.flip
  refine lv_aload hx hb dL_sum_0 (lv_at hl 4 rfl) ?_
  refine lv_iconst (v := (0 : Int32)) hx hb dL_sum_2 (by decide) ?_
  refine lv_aload_n hx hb dL_sum_3 rfl (lv_at hl 0 rfl) ?_
  refine lv_iload_n hx hb dL_sum_4 rfl (lv_at hl 1 rfl) ?_
  refine lv_iload_n hx hb dL_sum_5 rfl (lv_at hl 2 rfl) ?_
  refine lv_iload_n hx hb dL_sum_6 rfl (lv_at hl 3 rfl) ?_
  rcases r with v | n
  · refine runX_v (st' := [.long v, .int 0, .ref out]) (clVX (As := [.int x1, .int x2, .int x3]) (rest := [.int 0, .ref out]) hx hb hml hown hts gL_sum_X7_sum rfl 3 (by decide +kernel) ⟨Nat.le_of_ble_eq_true rfl, Nat.le_of_ble_eq_true rfl⟩ (hM s.heap.size) hP hD hS hA hK hZ _ (blk_l _ _) (nd_range' _ _) 0 6 he rfl rfl rfl hl.1 rfl (Nat.le_of_ble_eq_true rfl) ⟨Nat.le_of_ble_eq_true rfl, Nat.le_of_ble_eq_true rfl⟩ dL_sum_7) rfl hP hD hS hA _ _ (blk_l _ _) (blk_r _ _) (nd_range' _ _) (blk_dis _ _) rfl (fun H locs hP hD hS => ?_)
    refine va_last hx hb hK.1 hP hD hS 0 1 rfl rfl (by unfold vp_in; decide) dL_sum_10 (fun H locs hP hD hS => ?_)
    refine lv_goto (tgt := 18) hx hb dL_sum_11 (by decide) ?_
    refine lv_iconst (v := (0 : Int32)) hx hb dL_sum_18 (by decide) ?_
    exact rtZ hx hb hrt hlk (Nat.le_of_ble_eq_true rfl) (Nat.le_of_ble_eq_true rfl) hP hD hS dL_sum_19
  · obtain rfl := hr n rfl
    refine runX_c (n := 1) (clVX (As := [.int x1, .int x2, .int x3]) (rest := [.int 0, .ref out]) hx hb hml hown hts gL_sum_X7_sum rfl 3 (by decide +kernel) ⟨Nat.le_of_ble_eq_true rfl, Nat.le_of_ble_eq_true rfl⟩ (hM s.heap.size) hP hD hS hA hK hZ _ (blk_l _ _) (nd_range' _ _) 0 6 he rfl rfl rfl hl.1 rfl (Nat.le_of_ble_eq_true rfl) ⟨Nat.le_of_ble_eq_true rfl, Nat.le_of_ble_eq_true rfl⟩ dL_sum_7) rfl hP hD hS hA _ _ (blk_l _ _) (blk_r _ _) (nd_range' _ _) (blk_dis _ _) (fun q ce H locs hP hD hS hce hcv hcl => ?_)
    refine vx_catch (own := RL) (name := zE 1) (E := zE 1) hown [] ⟨0, 11, 14, 13⟩ [] (by rw [hex]; rfl) (fun z hz => absurd hz List.not_mem_nil) (by decide) (by decide) (hts _ (by decide +kernel)) (va_Nw.use rfl (hC.1 1 (Or.inl rfl))) hce hcv hcl ?_
    refine W.eq (g2 := F0 m 14 ls [.ref q]) rfl ?_
    refine lv_astore (lv' := [(5, .ref q), (0, .ref o), (1, .int x1), (2, .int x2), (3, .int x3), (4, .ref out)]) hx hb dL_sum_14 hl (by decide) rfl (fun ls hl => ?_)
    refine lv_iconst (v := (1 : Int32)) hx hb dL_sum_16 (by decide) ?_
    exact rtZ hx hb hrt hlk (Nat.le_of_ble_eq_true rfl) (Nat.le_of_ble_eq_true rfl) hP hD hS dL_sum_17
set_option maxRecDepth 100000 in
theorem wr_visible (l : Launch) (hst : l.stackTraces = false) (D : va_G) (ca : Nat → ClassId) {W7 W7' : va_W} {o out : Nat} {fs : List Value} {r : Int32 ⊕ Nat} (x1 : Int32) (x2 : Int32) (g : Nat → Int64) (sz : Nat) (he : W7[0]? = some (o, .inr (6, fs))) (hM : ∀ sz, MX l yX7_visible wsX7_visible 8 147 2 D ca [.ref o, .int x1, .int x2] sz W7 (zoi r) W7') (hr : ∀ n, r = .inr n → n = 3 ∨ n = 1) : MZ l yL_visible wsL_visible 9 169 2 D ca [.ref o, .int x1, .int x2, .ref out] sz ([(out, .inl (ca 1, 1, .inr (.inl g)))] ++ W7) (some (.int (kcI (fun e => if e = 3 then 1 else if e = 1 then 2 else 0) r))) ([(out, .inl (ca 1, 1, .inr (.inl (ouI g r))))] ++ W7') := by
  refine hdZ (by decide +kernel) rfl (Nat.le_of_ble_eq_true rfl) ?_
  intro p e s m args below meth c A Q hQ hx hb hrt hml hown hts hlk hex hP hD hK hA hS hZ hC ls hl
  subst hQ
  have hown : s.vm.findClass RL = some m.cls := hown
  have hl : lv_has ls 5 [(0, .ref o), (1, .int x1), (2, .int x2), (3, .ref out)] := hl
  have hP := hP.flip
  have hD := hD.flip
  refine lv_aload_n hx hb dL_visible_0 rfl (lv_at hl 3 rfl) ?_
  refine lv_iconst (v := (0 : Int32)) hx hb dL_visible_1 (by decide) ?_
  refine lv_aload_n hx hb dL_visible_2 rfl (lv_at hl 0 rfl) ?_
  refine lv_iload_n hx hb dL_visible_3 rfl (lv_at hl 1 rfl) ?_
  refine lv_iload_n hx hb dL_visible_4 rfl (lv_at hl 2 rfl) ?_
  rcases r with v | n
  · refine runX_v (st' := [.int v, .int 0, .ref out]) (clVX (As := [.int x1, .int x2]) (rest := [.int 0, .ref out]) hx hb hml hown hts gL_visible_X7_visible rfl 2 (by decide +kernel) ⟨Nat.le_of_ble_eq_true rfl, Nat.le_of_ble_eq_true rfl⟩ (hM s.heap.size) hP hD hS hA hK hZ _ (blk_l _ _) (nd_range' _ _) 0 6 he rfl rfl rfl hl.1 rfl (Nat.le_of_ble_eq_true rfl) ⟨Nat.le_of_ble_eq_true rfl, Nat.le_of_ble_eq_true rfl⟩ dL_visible_5) rfl hP hD hS hA _ _ (blk_l _ _) (blk_r _ _) (nd_range' _ _) (blk_dis _ _) rfl (fun H locs hP hD hS => ?_)
    refine lv_i2l (v := v.toInt64) hx hb dL_visible_8 rfl ?_
    refine va_last hx hb hK.1 hP hD hS 0 1 rfl rfl (by unfold vp_in; decide) dL_visible_9 (fun H locs hP hD hS => ?_)
    refine lv_goto (tgt := 21) hx hb dL_visible_10 (by decide) ?_
    refine lv_iconst (v := (0 : Int32)) hx hb dL_visible_21 (by decide) ?_
    exact rtZ hx hb hrt hlk (Nat.le_of_ble_eq_true rfl) (Nat.le_of_ble_eq_true rfl) hP hD hS dL_visible_22
  · rcases hr n rfl with rfl | rfl
    · refine runX_c (n := 3) (clVX (As := [.int x1, .int x2]) (rest := [.int 0, .ref out]) hx hb hml hown hts gL_visible_X7_visible rfl 2 (by decide +kernel) ⟨Nat.le_of_ble_eq_true rfl, Nat.le_of_ble_eq_true rfl⟩ (hM s.heap.size) hP hD hS hA hK hZ _ (blk_l _ _) (nd_range' _ _) 0 6 he rfl rfl rfl hl.1 rfl (Nat.le_of_ble_eq_true rfl) ⟨Nat.le_of_ble_eq_true rfl, Nat.le_of_ble_eq_true rfl⟩ dL_visible_5) rfl hP hD hS hA _ _ (blk_l _ _) (blk_r _ _) (nd_range' _ _) (blk_dis _ _) (fun q ce H locs hP hD hS hce hcv hcl => ?_)
      refine vx_catch (own := RL) (name := zE 3) (E := zE 3) hown [] ⟨0, 10, 13, 25⟩ [⟨0, 10, 17, 13⟩] (by rw [hex]; rfl) (fun z hz => absurd hz List.not_mem_nil) (by decide) (by decide) (hts _ (by decide +kernel)) (va_Nw.use rfl (hC.1 3 (Or.inr (Or.inr rfl)))) hce hcv hcl ?_
      refine W.eq (g2 := F0 m 13 ls [.ref q]) rfl ?_
      refine lv_astore (lv' := [(4, .ref q), (0, .ref o), (1, .int x1), (2, .int x2), (3, .ref out)]) hx hb dL_visible_13 hl (by decide) rfl (fun ls hl => ?_)
      refine lv_iconst (v := (1 : Int32)) hx hb dL_visible_15 (by decide) ?_
      exact rtZ hx hb hrt hlk (Nat.le_of_ble_eq_true rfl) (Nat.le_of_ble_eq_true rfl) hP hD hS dL_visible_16
    · refine runX_c (n := 1) (clVX (As := [.int x1, .int x2]) (rest := [.int 0, .ref out]) hx hb hml hown hts gL_visible_X7_visible rfl 2 (by decide +kernel) ⟨Nat.le_of_ble_eq_true rfl, Nat.le_of_ble_eq_true rfl⟩ (hM s.heap.size) hP hD hS hA hK hZ _ (blk_l _ _) (nd_range' _ _) 0 6 he rfl rfl rfl hl.1 rfl (Nat.le_of_ble_eq_true rfl) ⟨Nat.le_of_ble_eq_true rfl, Nat.le_of_ble_eq_true rfl⟩ dL_visible_5) rfl hP hD hS hA _ _ (blk_l _ _) (blk_r _ _) (nd_range' _ _) (blk_dis _ _) (fun q ce H locs hP hD hS hce hcv hcl => ?_)
      refine vx_catch (own := RL) (name := zE 1) (E := zE 1) hown [⟨0, 10, 13, 25⟩] ⟨0, 10, 17, 13⟩ [] (by rw [hex]; rfl) (fun z hz => by rw [List.mem_singleton.mp hz]; exact Or.inr ⟨by decide, zE 3, hts _ (by decide +kernel), hC.2 1 3 (Or.inl rfl) (Or.inr (Or.inr rfl)) (by decide)⟩) (by decide) (by decide) (hts _ (by decide +kernel)) (va_Nw.use rfl (hC.1 1 (Or.inl rfl))) hce hcv hcl ?_
      refine W.eq (g2 := F0 m 17 ls [.ref q]) rfl ?_
      refine lv_astore (lv' := [(4, .ref q), (0, .ref o), (1, .int x1), (2, .int x2), (3, .ref out)]) hx hb dL_visible_17 hl (by decide) rfl (fun ls hl => ?_)
      refine lv_iconst (v := (2 : Int32)) hx hb dL_visible_19 (by decide) ?_
      exact rtZ hx hb hrt hlk (Nat.le_of_ble_eq_true rfl) (Nat.le_of_ble_eq_true rfl) hP hD hS dL_visible_20
set_option maxRecDepth 100000 in
theorem wr_hidden (l : Launch) (hst : l.stackTraces = false) (D : va_G) (ca : Nat → ClassId) {W7 W7' : va_W} {o out : Nat} {fs : List Value} {r : Int32 ⊕ Nat} (x1 : Int32) (g : Nat → Int64) (sz : Nat) (he : W7[0]? = some (o, .inr (6, fs))) (hM : ∀ sz, MX l yX7_hidden wsX7_hidden 8 147 1 D ca [.ref o, .int x1] sz W7 (zoi r) W7') (hr : ∀ n, r = .inr n → n = 1) : MZ l yL_hidden wsL_hidden 9 171 1 D ca [.ref o, .int x1, .ref out] sz ([(out, .inl (ca 1, 1, .inr (.inl g)))] ++ W7) (some (.int (kcI (fun e => if e = 1 then 1 else 0) r))) ([(out, .inl (ca 1, 1, .inr (.inl (ouI g r))))] ++ W7') := by
  refine hdZ (by decide +kernel) rfl (Nat.le_of_ble_eq_true rfl) ?_
  intro p e s m args below meth c A Q hQ hx hb hrt hml hown hts hlk hex hP hD hK hA hS hZ hC ls hl
  subst hQ
  have hown : s.vm.findClass RL = some m.cls := hown
  have hl : lv_has ls 4 [(0, .ref o), (1, .int x1), (2, .ref out)] := hl
  have hP := hP.flip
  have hD := hD.flip
  refine lv_aload_n hx hb dL_hidden_0 rfl (lv_at hl 2 rfl) ?_
  refine lv_iconst (v := (0 : Int32)) hx hb dL_hidden_1 (by decide) ?_
  refine lv_aload_n hx hb dL_hidden_2 rfl (lv_at hl 0 rfl) ?_
  refine lv_iload_n hx hb dL_hidden_3 rfl (lv_at hl 1 rfl) ?_
  rcases r with v | n
  · refine runX_v (st' := [.int v, .int 0, .ref out]) (clVX (As := [.int x1]) (rest := [.int 0, .ref out]) hx hb hml hown hts gL_hidden_X7_hidden rfl 1 (by decide +kernel) ⟨Nat.le_of_ble_eq_true rfl, Nat.le_of_ble_eq_true rfl⟩ (hM s.heap.size) hP hD hS hA hK hZ _ (blk_l _ _) (nd_range' _ _) 0 6 he rfl rfl rfl hl.1 rfl (Nat.le_of_ble_eq_true rfl) ⟨Nat.le_of_ble_eq_true rfl, Nat.le_of_ble_eq_true rfl⟩ dL_hidden_4) rfl hP hD hS hA _ _ (blk_l _ _) (blk_r _ _) (nd_range' _ _) (blk_dis _ _) rfl (fun H locs hP hD hS => ?_)
    refine lv_i2l (v := v.toInt64) hx hb dL_hidden_7 rfl ?_
    refine va_last hx hb hK.1 hP hD hS 0 1 rfl rfl (by unfold vp_in; decide) dL_hidden_8 (fun H locs hP hD hS => ?_)
    refine lv_goto (tgt := 15) hx hb dL_hidden_9 (by decide) ?_
    refine lv_iconst (v := (0 : Int32)) hx hb dL_hidden_15 (by decide) ?_
    exact rtZ hx hb hrt hlk (Nat.le_of_ble_eq_true rfl) (Nat.le_of_ble_eq_true rfl) hP hD hS dL_hidden_16
  · obtain rfl := hr n rfl
    refine runX_c (n := 1) (clVX (As := [.int x1]) (rest := [.int 0, .ref out]) hx hb hml hown hts gL_hidden_X7_hidden rfl 1 (by decide +kernel) ⟨Nat.le_of_ble_eq_true rfl, Nat.le_of_ble_eq_true rfl⟩ (hM s.heap.size) hP hD hS hA hK hZ _ (blk_l _ _) (nd_range' _ _) 0 6 he rfl rfl rfl hl.1 rfl (Nat.le_of_ble_eq_true rfl) ⟨Nat.le_of_ble_eq_true rfl, Nat.le_of_ble_eq_true rfl⟩ dL_hidden_4) rfl hP hD hS hA _ _ (blk_l _ _) (blk_r _ _) (nd_range' _ _) (blk_dis _ _) (fun q ce H locs hP hD hS hce hcv hcl => ?_)
    refine vx_catch (own := RL) (name := zE 1) (E := zE 1) hown [] ⟨0, 9, 12, 13⟩ [] (by rw [hex]; rfl) (fun z hz => absurd hz List.not_mem_nil) (by decide) (by decide) (hts _ (by decide +kernel)) (va_Nw.use rfl (hC.1 1 (Or.inl rfl))) hce hcv hcl ?_
    refine W.eq (g2 := F0 m 12 ls [.ref q]) rfl ?_
    refine lv_astore_n (lv' := [(3, .ref q), (0, .ref o), (1, .int x1), (2, .ref out)]) hx hb dL_hidden_12 rfl hl (by decide) rfl (fun ls hl => ?_)
    refine lv_iconst (v := (1 : Int32)) hx hb dL_hidden_13 (by decide) ?_
    exact rtZ hx hb hrt hlk (Nat.le_of_ble_eq_true rfl) (Nat.le_of_ble_eq_true rfl) hP hD hS dL_hidden_14
