set_option maxRecDepth 100000 in
theorem wr_extreme (l : Launch) (hst : l.stackTraces = false) (D : va_G) (ca : Nat → ClassId) {W7 W7' : va_W} {o out : Nat} {fs : List Value} {r : Int32 ⊕ Nat} (x1 : Int32) (x2 : Int32) (g : Nat → Int64) (sz : Nat) (he : W7[0]? = some (o, .inr (6, fs))) (hM : ∀ sz, MX l yX7_extreme wsX7_extreme 8 147 1 D ca [.ref o, .int x1, .int x2] sz W7 (zoi r) W7') (hr : ∀ n, r = .inr n → n = 1) : MZ l yL_extreme wsL_extreme 9 169 1 D ca [.ref o, .int x1, .int x2, .ref out] sz ([(out, .inl (ca 1, 1, .inr (.inl g)))] ++ W7) (some (.int (kcI (fun e => if e = 1 then 1 else 0) r))) ([(out, .inl (ca 1, 1, .inr (.inl (ouI g r))))] ++ W7') := by
  refine hdZ (by decide +kernel) rfl (Nat.le_of_ble_eq_true rfl) ?_
  intro p e s m args below meth c A Q hQ hx hb hrt hml hown hts hlk hex hP hD hK hA hS hZ hC ls hl
  subst hQ
  have hown : s.vm.findClass RL = some m.cls := hown
  have hl : lv_has ls 5 [(0, .ref o), (1, .int x1), (2, .int x2), (3, .ref out)] := hl
  have hP := hP.flip
  have hD := hD.flip
  refine lv_aload_n hx hb dL_extreme_0 rfl (lv_at hl 3 rfl) ?_
  refine lv_iconst (v := (0 : Int32)) hx hb dL_extreme_1 (by decide) ?_
  refine lv_aload_n hx hb dL_extreme_2 rfl (lv_at hl 0 rfl) ?_
  refine lv_iload_n hx hb dL_extreme_3 rfl (lv_at hl 1 rfl) ?_
  refine lv_iload_n hx hb dL_extreme_4 rfl (lv_at hl 2 rfl) ?_
  rcases r with v | n
  · refine runX_v (st' := [.int v, .int 0, .ref out]) (clVX (As := [.int x1, .int x2]) (rest := [.int 0, .ref out]) hx hb hml hown hts gL_extreme_X7_extreme rfl 2 (by decide +kernel) ⟨Nat.le_of_ble_eq_true rfl, Nat.le_of_ble_eq_true rfl⟩ (hM s.heap.size) hP hD hS hA hK hZ _ (blk_l _ _) (nd_range' _ _) 0 6 he rfl rfl rfl hl.1 rfl (Nat.le_of_ble_eq_true rfl) ⟨Nat.le_of_ble_eq_true rfl, Nat.le_of_ble_eq_true rfl⟩ dL_extreme_5) rfl hP hD hS hA _ _ (blk_l _ _) (blk_r _ _) (nd_range' _ _) (blk_dis _ _) rfl (fun H locs hP hD hS => ?_)
    refine lv_i2l (v := v.toInt64) hx hb dL_extreme_8 rfl ?_
    refine va_last hx hb hK.1 hP hD hS 0 1 rfl rfl (by unfold vp_in; decide) dL_extreme_9 (fun H locs hP hD hS => ?_)
    refine lv_goto (tgt := 17) hx hb dL_extreme_10 (by decide) ?_
    refine lv_iconst (v := (0 : Int32)) hx hb dL_extreme_17 (by decide) ?_
    exact rtZ hx hb hrt hlk (Nat.le_of_ble_eq_true rfl) (Nat.le_of_ble_eq_true rfl) hP hD hS dL_extreme_18
  · obtain rfl := hr n rfl
    refine runX_c (n := 1) (clVX (As := [.int x1, .int x2]) (rest := [.int 0, .ref out]) hx hb hml hown hts gL_extreme_X7_extreme rfl 2 (by decide +kernel) ⟨Nat.le_of_ble_eq_true rfl, Nat.le_of_ble_eq_true rfl⟩ (hM s.heap.size) hP hD hS hA hK hZ _ (blk_l _ _) (nd_range' _ _) 0 6 he rfl rfl rfl hl.1 rfl (Nat.le_of_ble_eq_true rfl) ⟨Nat.le_of_ble_eq_true rfl, Nat.le_of_ble_eq_true rfl⟩ dL_extreme_5) rfl hP hD hS hA _ _ (blk_l _ _) (blk_r _ _) (nd_range' _ _) (blk_dis _ _) (fun q ce H locs hP hD hS hce hcv hcl => ?_)
    refine vx_catch (own := RL) (name := zE 1) (E := zE 1) hown [] ⟨0, 10, 13, 13⟩ [] (by rw [hex]; rfl) (fun z hz => absurd hz List.not_mem_nil) (by decide) (by decide) (hts _ (by decide +kernel)) (va_Nw.use rfl (hC.1 1 (Or.inl rfl))) hce hcv hcl ?_
    refine W.eq (g2 := F0 m 13 ls [.ref q]) rfl ?_
    refine lv_astore (lv' := [(4, .ref q), (0, .ref o), (1, .int x1), (2, .int x2), (3, .ref out)]) hx hb dL_extreme_13 hl (by decide) rfl (fun ls hl => ?_)
    refine lv_iconst (v := (1 : Int32)) hx hb dL_extreme_15 (by decide) ?_
    exact rtZ hx hb hrt hlk (Nat.le_of_ble_eq_true rfl) (Nat.le_of_ble_eq_true rfl) hP hD hS dL_extreme_16
set_option maxRecDepth 100000 in
theorem wr_changes (l : Launch) (hst : l.stackTraces = false) (D : va_G) (ca : Nat → ClassId) {W7 W7' : va_W} {o out : Nat} {fs : List Value} {r : Int32 ⊕ Nat} (x1 : Int32) (x2 : Int32) (x3 : Int32) (g : Nat → Int64) (sz : Nat) (he : W7[0]? = some (o, .inr (6, fs))) (hM : ∀ sz, MX l yX7_changes wsX7_changes 8 144 3 D ca [.ref o, .int x1, .int x2, .int x3] sz W7 (zoi r) W7') (hr : ∀ n, r = .inr n → n = 1) : MZ l yL_changes wsL_changes 9 167 3 D ca [.ref o, .int x1, .int x2, .int x3, .ref out] sz ([(out, .inl (ca 1, 1, .inr (.inl g)))] ++ W7) (some (.int (kcI (fun e => if e = 1 then 1 else 0) r))) ([(out, .inl (ca 1, 1, .inr (.inl (ouI g r))))] ++ W7') := by
  refine hdZ (by decide +kernel) rfl (Nat.le_of_ble_eq_true rfl) ?_
  intro p e s m args below meth c A Q hQ hx hb hrt hml hown hts hlk hex hP hD hK hA hS hZ hC ls hl
  subst hQ
  have hown : s.vm.findClass RL = some m.cls := hown
  have hl : lv_has ls 6 [(0, .ref o), (1, .int x1), (2, .int x2), (3, .int x3), (4, .ref out)] := hl
  have hP := hP.flip
  have hD := hD.flip
  refine lv_aload hx hb dL_changes_0 (lv_at hl 4 rfl) ?_
  refine lv_iconst (v := (0 : Int32)) hx hb dL_changes_2 (by decide) ?_
  refine lv_aload_n hx hb dL_changes_3 rfl (lv_at hl 0 rfl) ?_
  refine lv_iload_n hx hb dL_changes_4 rfl (lv_at hl 1 rfl) ?_
  refine lv_iload_n hx hb dL_changes_5 rfl (lv_at hl 2 rfl) ?_
  refine lv_iload_n hx hb dL_changes_6 rfl (lv_at hl 3 rfl) ?_
  rcases r with v | n
  · refine runX_v (st' := [.int v, .int 0, .ref out]) (clVX (As := [.int x1, .int x2, .int x3]) (rest := [.int 0, .ref out]) hx hb hml hown hts gL_changes_X7_changes rfl 3 (by decide +kernel) ⟨Nat.le_of_ble_eq_true rfl, Nat.le_of_ble_eq_true rfl⟩ (hM s.heap.size) hP hD hS hA hK hZ _ (blk_l _ _) (nd_range' _ _) 0 6 he rfl rfl rfl hl.1 rfl (Nat.le_of_ble_eq_true rfl) ⟨Nat.le_of_ble_eq_true rfl, Nat.le_of_ble_eq_true rfl⟩ dL_changes_7) rfl hP hD hS hA _ _ (blk_l _ _) (blk_r _ _) (nd_range' _ _) (blk_dis _ _) rfl (fun H locs hP hD hS => ?_)
    refine lv_i2l (v := v.toInt64) hx hb dL_changes_10 rfl ?_
    refine va_last hx hb hK.1 hP hD hS 0 1 rfl rfl (by unfold vp_in; decide) dL_changes_11 (fun H locs hP hD hS => ?_)
    refine lv_goto (tgt := 19) hx hb dL_changes_12 (by decide) ?_
    refine lv_iconst (v := (0 : Int32)) hx hb dL_changes_19 (by decide) ?_
    exact rtZ hx hb hrt hlk (Nat.le_of_ble_eq_true rfl) (Nat.le_of_ble_eq_true rfl) hP hD hS dL_changes_20
  · obtain rfl := hr n rfl
    refine runX_c (n := 1) (clVX (As := [.int x1, .int x2, .int x3]) (rest := [.int 0, .ref out]) hx hb hml hown hts gL_changes_X7_changes rfl 3 (by decide +kernel) ⟨Nat.le_of_ble_eq_true rfl, Nat.le_of_ble_eq_true rfl⟩ (hM s.heap.size) hP hD hS hA hK hZ _ (blk_l _ _) (nd_range' _ _) 0 6 he rfl rfl rfl hl.1 rfl (Nat.le_of_ble_eq_true rfl) ⟨Nat.le_of_ble_eq_true rfl, Nat.le_of_ble_eq_true rfl⟩ dL_changes_7) rfl hP hD hS hA _ _ (blk_l _ _) (blk_r _ _) (nd_range' _ _) (blk_dis _ _) (fun q ce H locs hP hD hS hce hcv hcl => ?_)
    refine vx_catch (own := RL) (name := zE 1) (E := zE 1) hown [] ⟨0, 12, 15, 13⟩ [] (by rw [hex]; rfl) (fun z hz => absurd hz List.not_mem_nil) (by decide) (by decide) (hts _ (by decide +kernel)) (va_Nw.use rfl (hC.1 1 (Or.inl rfl))) hce hcv hcl ?_
    refine W.eq (g2 := F0 m 15 ls [.ref q]) rfl ?_
    refine lv_astore (lv' := [(5, .ref q), (0, .ref o), (1, .int x1), (2, .int x2), (3, .int x3), (4, .ref out)]) hx hb dL_changes_15 hl (by decide) rfl (fun ls hl => ?_)
    refine lv_iconst (v := (1 : Int32)) hx hb dL_changes_17 (by decide) ?_
    exact rtZ hx hb hrt hlk (Nat.le_of_ble_eq_true rfl) (Nat.le_of_ble_eq_true rfl) hP hD hS dL_changes_18
set_option maxRecDepth 100000 in
theorem wr_nextChange (l : Launch) (hst : l.stackTraces = false) (D : va_G) (ca : Nat → ClassId) {W7 W7' : va_W} {o out : Nat} {fs : List Value} {r : Int32 ⊕ Nat} (x1 : Int32) (x2 : Int32) (g : Nat → Int64) (sz : Nat) (he : W7[0]? = some (o, .inr (6, fs))) (hM : ∀ sz, MX l yX7_nextChange wsX7_nextChange 8 139 2 D ca [.ref o, .int x1, .int x2] sz W7 (zoi r) W7') (hr : ∀ n, r = .inr n → n = 1) : MZ l yL_nextChange wsL_nextChange 9 161 2 D ca [.ref o, .int x1, .int x2, .ref out] sz ([(out, .inl (ca 1, 1, .inr (.inl g)))] ++ W7) (some (.int (kcI (fun e => if e = 1 then 1 else 0) r))) ([(out, .inl (ca 1, 1, .inr (.inl (ouI g r))))] ++ W7') := by
  refine hdZ (by decide +kernel) rfl (Nat.le_of_ble_eq_true rfl) ?_
  intro p e s m args below meth c A Q hQ hx hb hrt hml hown hts hlk hex hP hD hK hA hS hZ hC ls hl
  subst hQ
  have hown : s.vm.findClass RL = some m.cls := hown
  have hl : lv_has ls 5 [(0, .ref o), (1, .int x1), (2, .int x2), (3, .ref out)] := hl
  have hP := hP.flip
  have hD := hD.flip
  refine lv_aload_n hx hb dL_nextChange_0 rfl (lv_at hl 3 rfl) ?_
  refine lv_iconst (v := (0 : Int32)) hx hb dL_nextChange_1 (by decide) ?_
  refine lv_aload_n hx hb dL_nextChange_2 rfl (lv_at hl 0 rfl) ?_
  refine lv_iload_n hx hb dL_nextChange_3 rfl (lv_at hl 1 rfl) ?_
  refine lv_iload_n hx hb dL_nextChange_4 rfl (lv_at hl 2 rfl) ?_
  rcases r with v | n
  · refine runX_v (st' := [.int v, .int 0, .ref out]) (clVX (As := [.int x1, .int x2]) (rest := [.int 0, .ref out]) hx hb hml hown hts gL_nextChange_X7_nextChange rfl 2 (by decide +kernel) ⟨Nat.le_of_ble_eq_true rfl, Nat.le_of_ble_eq_true rfl⟩ (hM s.heap.size) hP hD hS hA hK hZ _ (blk_l _ _) (nd_range' _ _) 0 6 he rfl rfl rfl hl.1 rfl (Nat.le_of_ble_eq_true rfl) ⟨Nat.le_of_ble_eq_true rfl, Nat.le_of_ble_eq_true rfl⟩ dL_nextChange_5) rfl hP hD hS hA _ _ (blk_l _ _) (blk_r _ _) (nd_range' _ _) (blk_dis _ _) rfl (fun H locs hP hD hS => ?_)
    refine lv_i2l (v := v.toInt64) hx hb dL_nextChange_8 rfl ?_
    refine va_last hx hb hK.1 hP hD hS 0 1 rfl rfl (by unfold vp_in; decide) dL_nextChange_9 (fun H locs hP hD hS => ?_)
    refine lv_goto (tgt := 17) hx hb dL_nextChange_10 (by decide) ?_
    refine lv_iconst (v := (0 : Int32)) hx hb dL_nextChange_17 (by decide) ?_
    exact rtZ hx hb hrt hlk (Nat.le_of_ble_eq_true rfl) (Nat.le_of_ble_eq_true rfl) hP hD hS dL_nextChange_18
  · obtain rfl := hr n rfl
    refine runX_c (n := 1) (clVX (As := [.int x1, .int x2]) (rest := [.int 0, .ref out]) hx hb hml hown hts gL_nextChange_X7_nextChange rfl 2 (by decide +kernel) ⟨Nat.le_of_ble_eq_true rfl, Nat.le_of_ble_eq_true rfl⟩ (hM s.heap.size) hP hD hS hA hK hZ _ (blk_l _ _) (nd_range' _ _) 0 6 he rfl rfl rfl hl.1 rfl (Nat.le_of_ble_eq_true rfl) ⟨Nat.le_of_ble_eq_true rfl, Nat.le_of_ble_eq_true rfl⟩ dL_nextChange_5) rfl hP hD hS hA _ _ (blk_l _ _) (blk_r _ _) (nd_range' _ _) (blk_dis _ _) (fun q ce H locs hP hD hS hce hcv hcl => ?_)
    refine vx_catch (own := RL) (name := zE 1) (E := zE 1) hown [] ⟨0, 10, 13, 13⟩ [] (by rw [hex]; rfl) (fun z hz => absurd hz List.not_mem_nil) (by decide) (by decide) (hts _ (by decide +kernel)) (va_Nw.use rfl (hC.1 1 (Or.inl rfl))) hce hcv hcl ?_
    refine W.eq (g2 := F0 m 13 ls [.ref q]) rfl ?_
    refine lv_astore (lv' := [(4, .ref q), (0, .ref o), (1, .int x1), (2, .int x2), (3, .ref out)]) hx hb dL_nextChange_13 hl (by decide) rfl (fun ls hl => ?_)
    refine lv_iconst (v := (1 : Int32)) hx hb dL_nextChange_15 (by decide) ?_
    exact rtZ hx hb hrt hlk (Nat.le_of_ble_eq_true rfl) (Nat.le_of_ble_eq_true rfl) hP hD hS dL_nextChange_16
set_option maxRecDepth 100000 in
theorem wr_overTime (l : Launch) (hst : l.stackTraces = false) (D : va_G) (ca : Nat → ClassId) {W7 W7' : va_W} {o out : Nat} {fs : List Value} {r : Int64 ⊕ Nat} (x1 : Int32) (x2 : Int32) (x3 : Int32) (x4 : Int32) (g : Nat → Int64) (sz : Nat) (he : W7[0]? = some (o, .inr (6, fs))) (hM : ∀ sz, MX l yX7_overTime wsX7_overTime 8 140 3 D ca [.ref o, .int x1, .int x2, .int x3, .int x4] sz W7 (zol r) W7') (hr : ∀ n, r = .inr n → n = 1) : MZ l yL_overTime wsL_overTime 9 164 3 D ca [.ref o, .int x1, .int x2, .int x3, .int x4, .ref out] sz ([(out, .inl (ca 1, 1, .inr (.inl g)))] ++ W7) (some (.int (kcL (fun e => if e = 1 then 1 else 0) r))) ([(out, .inl (ca 1, 1, .inr (.inl (ouL g r))))] ++ W7') := by
  refine hdZ (by decide +kernel) rfl (Nat.le_of_ble_eq_true rfl) ?_
  intro p e s m args below meth c A Q hQ hx hb hrt hml hown hts hlk hex hP hD hK hA hS hZ hC ls hl
  subst hQ
  have hown : s.vm.findClass RL = some m.cls := hown
  have hl : lv_has ls 7 [(0, .ref o), (1, .int x1), (2, .int x2), (3, .int x3), (4, .int x4), (5, .ref out)] := hl
  have hP := hP.flip
  have hD := hD.flip
  refine lv_aload hx hb dL_overTime_0 (lv_at hl 5 rfl) ?_
  refine lv_iconst (v := (0 : Int32)) hx hb dL_overTime_2 (by decide) ?_
  refine lv_aload_n hx hb dL_overTime_3 rfl (lv_at hl 0 rfl) ?_
  refine lv_iload_n hx hb dL_overTime_4 rfl (lv_at hl 1 rfl) ?_
  refine lv_iload_n hx hb dL_overTime_5 rfl (lv_at hl 2 rfl) ?_
  refine lv_iload_n hx hb dL_overTime_6 rfl (lv_at hl 3 rfl) ?_
  refine lv_iload hx hb dL_overTime_7 (lv_at hl 4 rfl) ?_
  rcases r with v | n
  · refine runX_v (st' := [.long v, .int 0, .ref out]) (clVX (As := [.int x1, .int x2, .int x3, .int x4]) (rest := [.int 0, .ref out]) hx hb hml hown hts gL_overTime_X7_overTime rfl 4 (by decide +kernel) ⟨Nat.le_of_ble_eq_true rfl, Nat.le_of_ble_eq_true rfl⟩ (hM s.heap.size) hP hD hS hA hK hZ _ (blk_l _ _) (nd_range' _ _) 0 6 he rfl rfl rfl hl.1 rfl (Nat.le_of_ble_eq_true rfl) ⟨Nat.le_of_ble_eq_true rfl, Nat.le_of_ble_eq_true rfl⟩ dL_overTime_9) rfl hP hD hS hA _ _ (blk_l _ _) (blk_r _ _) (nd_range' _ _) (blk_dis _ _) rfl (fun H locs hP hD hS => ?_)
    refine va_last hx hb hK.1 hP hD hS 0 1 rfl rfl (by unfold vp_in; decide) dL_overTime_12 (fun H locs hP hD hS => ?_)
    refine lv_goto (tgt := 20) hx hb dL_overTime_13 (by decide) ?_
    refine lv_iconst (v := (0 : Int32)) hx hb dL_overTime_20 (by decide) ?_
    exact rtZ hx hb hrt hlk (Nat.le_of_ble_eq_true rfl) (Nat.le_of_ble_eq_true rfl) hP hD hS dL_overTime_21
  · obtain rfl := hr n rfl
    refine runX_c (n := 1) (clVX (As := [.int x1, .int x2, .int x3, .int x4]) (rest := [.int 0, .ref out]) hx hb hml hown hts gL_overTime_X7_overTime rfl 4 (by decide +kernel) ⟨Nat.le_of_ble_eq_true rfl, Nat.le_of_ble_eq_true rfl⟩ (hM s.heap.size) hP hD hS hA hK hZ _ (blk_l _ _) (nd_range' _ _) 0 6 he rfl rfl rfl hl.1 rfl (Nat.le_of_ble_eq_true rfl) ⟨Nat.le_of_ble_eq_true rfl, Nat.le_of_ble_eq_true rfl⟩ dL_overTime_9) rfl hP hD hS hA _ _ (blk_l _ _) (blk_r _ _) (nd_range' _ _) (blk_dis _ _) (fun q ce H locs hP hD hS hce hcv hcl => ?_)
    refine vx_catch (own := RL) (name := zE 1) (E := zE 1) hown [] ⟨0, 13, 16, 13⟩ [] (by rw [hex]; rfl) (fun z hz => absurd hz List.not_mem_nil) (by decide) (by decide) (hts _ (by decide +kernel)) (va_Nw.use rfl (hC.1 1 (Or.inl rfl))) hce hcv hcl ?_
    refine W.eq (g2 := F0 m 16 ls [.ref q]) rfl ?_
    refine lv_astore (lv' := [(6, .ref q), (0, .ref o), (1, .int x1), (2, .int x2), (3, .int x3), (4, .int x4), (5, .ref out)]) hx hb dL_overTime_16 hl (by decide) rfl (fun ls hl => ?_)
    refine lv_iconst (v := (1 : Int32)) hx hb dL_overTime_18 (by decide) ?_
    exact rtZ hx hb hrt hlk (Nat.le_of_ble_eq_true rfl) (Nat.le_of_ble_eq_true rfl) hP hD hS dL_overTime_19
set_option maxRecDepth 100000 in
theorem wr_leads (l : Launch) (hst : l.stackTraces = false) (D : va_G) (ca : Nat → ClassId) {W7 W7' : va_W} {o out : Nat} {fs : List Value} {r : Int32 ⊕ Nat} (x1 : Int32) (x2 : Int32) (g : Nat → Int64) (sz : Nat) (he : W7[0]? = some (o, .inr (6, fs))) (hM : ∀ sz, MX l yX7_leads wsX7_leads 7 121 2 D ca [.ref o, .int x1, .int x2] sz W7 (zoi r) W7') (hr : ∀ n, r = .inr n → n = 3 ∨ n = 1) : MZ l yL_leads wsL_leads 8 143 2 D ca [.ref o, .int x1, .int x2, .ref out] sz ([(out, .inl (ca 1, 1, .inr (.inl g)))] ++ W7) (some (.int (kcI (fun e => if e = 3 then 1 else if e = 1 then 2 else 0) r))) ([(out, .inl (ca 1, 1, .inr (.inl (ouI g r))))] ++ W7') := by
  refine hdZ (by decide +kernel) rfl (Nat.le_of_ble_eq_true rfl) ?_
  intro p e s m args below meth c A Q hQ hx hb hrt hml hown hts hlk hex hP hD hK hA hS hZ hC ls hl
  subst hQ
  have hown : s.vm.findClass RL = some m.cls := hown
  have hl : lv_has ls 5 [(0, .ref o), (1, .int x1), (2, .int x2), (3, .ref out)] := hl
  have hP := hP.flip
  have hD := hD.flip
  refine lv_aload_n hx hb dL_leads_0 rfl (lv_at hl 3 rfl) ?_
  refine lv_iconst (v := (0 : Int32)) hx hb dL_leads_1 (by decide) ?_
  refine lv_aload_n hx hb dL_leads_2 rfl (lv_at hl 0 rfl) ?_
  refine lv_iload_n hx hb dL_leads_3 rfl (lv_at hl 1 rfl) ?_
  refine lv_iload_n hx hb dL_leads_4 rfl (lv_at hl 2 rfl) ?_
  rcases r with v | n
  · refine runX_v (st' := [.int v, .int 0, .ref out]) (clVX (As := [.int x1, .int x2]) (rest := [.int 0, .ref out]) hx hb hml hown hts gL_leads_X7_leads rfl 2 (by decide +kernel) ⟨Nat.le_of_ble_eq_true rfl, Nat.le_of_ble_eq_true rfl⟩ (hM s.heap.size) hP hD hS hA hK hZ _ (blk_l _ _) (nd_range' _ _) 0 6 he rfl rfl rfl hl.1 rfl (Nat.le_of_ble_eq_true rfl) ⟨Nat.le_of_ble_eq_true rfl, Nat.le_of_ble_eq_true rfl⟩ dL_leads_5) rfl hP hD hS hA _ _ (blk_l _ _) (blk_r _ _) (nd_range' _ _) (blk_dis _ _) rfl (fun H locs hP hD hS => ?_)
    refine lv_i2l (v := v.toInt64) hx hb dL_leads_8 rfl ?_
    refine va_last hx hb hK.1 hP hD hS 0 1 rfl rfl (by unfold vp_in; decide) dL_leads_9 (fun H locs hP hD hS => ?_)
    refine lv_goto (tgt := 21) hx hb dL_leads_10 (by decide) ?_
    refine lv_iconst (v := (0 : Int32)) hx hb dL_leads_21 (by decide) ?_
    exact rtZ hx hb hrt hlk (Nat.le_of_ble_eq_true rfl) (Nat.le_of_ble_eq_true rfl) hP hD hS dL_leads_22
  · rcases hr n rfl with rfl | rfl
    · refine runX_c (n := 3) (clVX (As := [.int x1, .int x2]) (rest := [.int 0, .ref out]) hx hb hml hown hts gL_leads_X7_leads rfl 2 (by decide +kernel) ⟨Nat.le_of_ble_eq_true rfl, Nat.le_of_ble_eq_true rfl⟩ (hM s.heap.size) hP hD hS hA hK hZ _ (blk_l _ _) (nd_range' _ _) 0 6 he rfl rfl rfl hl.1 rfl (Nat.le_of_ble_eq_true rfl) ⟨Nat.le_of_ble_eq_true rfl, Nat.le_of_ble_eq_true rfl⟩ dL_leads_5) rfl hP hD hS hA _ _ (blk_l _ _) (blk_r _ _) (nd_range' _ _) (blk_dis _ _) (fun q ce H locs hP hD hS hce hcv hcl => ?_)
      refine vx_catch (own := RL) (name := zE 3) (E := zE 3) hown [] ⟨0, 10, 13, 25⟩ [⟨0, 10, 17, 13⟩] (by rw [hex]; rfl) (fun z hz => absurd hz List.not_mem_nil) (by decide) (by decide) (hts _ (by decide +kernel)) (va_Nw.use rfl (hC.1 3 (Or.inr (Or.inr rfl)))) hce hcv hcl ?_
      refine W.eq (g2 := F0 m 13 ls [.ref q]) rfl ?_
      refine lv_astore (lv' := [(4, .ref q), (0, .ref o), (1, .int x1), (2, .int x2), (3, .ref out)]) hx hb dL_leads_13 hl (by decide) rfl (fun ls hl => ?_)
      refine lv_iconst (v := (1 : Int32)) hx hb dL_leads_15 (by decide) ?_
      exact rtZ hx hb hrt hlk (Nat.le_of_ble_eq_true rfl) (Nat.le_of_ble_eq_true rfl) hP hD hS dL_leads_16
    · refine runX_c (n := 1) (clVX (As := [.int x1, .int x2]) (rest := [.int 0, .ref out]) hx hb hml hown hts gL_leads_X7_leads rfl 2 (by decide +kernel) ⟨Nat.le_of_ble_eq_true rfl, Nat.le_of_ble_eq_true rfl⟩ (hM s.heap.size) hP hD hS hA hK hZ _ (blk_l _ _) (nd_range' _ _) 0 6 he rfl rfl rfl hl.1 rfl (Nat.le_of_ble_eq_true rfl) ⟨Nat.le_of_ble_eq_true rfl, Nat.le_of_ble_eq_true rfl⟩ dL_leads_5) rfl hP hD hS hA _ _ (blk_l _ _) (blk_r _ _) (nd_range' _ _) (blk_dis _ _) (fun q ce H locs hP hD hS hce hcv hcl => ?_)
      refine vx_catch (own := RL) (name := zE 1) (E := zE 1) hown [⟨0, 10, 13, 25⟩] ⟨0, 10, 17, 13⟩ [] (by rw [hex]; rfl) (fun z hz => by rw [List.mem_singleton.mp hz]; exact Or.inr ⟨by decide, zE 3, hts _ (by decide +kernel), hC.2 1 3 (Or.inl rfl) (Or.inr (Or.inr rfl)) (by decide)⟩) (by decide) (by decide) (hts _ (by decide +kernel)) (va_Nw.use rfl (hC.1 1 (Or.inl rfl))) hce hcv hcl ?_
      refine W.eq (g2 := F0 m 17 ls [.ref q]) rfl ?_
      refine lv_astore (lv' := [(4, .ref q), (0, .ref o), (1, .int x1), (2, .int x2), (3, .ref out)]) hx hb dL_leads_17 hl (by decide) rfl (fun ls hl => ?_)
      refine lv_iconst (v := (2 : Int32)) hx hb dL_leads_19 (by decide) ?_
      exact rtZ hx hb hrt hlk (Nat.le_of_ble_eq_true rfl) (Nat.le_of_ble_eq_true rfl) hP hD hS dL_leads_20
set_option maxRecDepth 100000 in
theorem wr_intervals (l : Launch) (hst : l.stackTraces = false) (D : va_G) (ca : Nat → ClassId) {W7 W7' : va_W} {o out : Nat} {fs : List Value} {r : Int32 ⊕ Nat} (x1 : Int32) (g : Nat → Int64) (sz : Nat) (he : W7[0]? = some (o, .inr (6, fs))) (hM : ∀ sz, MX l yX7_intervals wsX7_intervals 7 117 1 D ca [.ref o, .int x1] sz W7 (zoi r) W7') (hr : ∀ n, r = .inr n → n = 3) : MZ l yL_intervals wsL_intervals 8 139 1 D ca [.ref o, .int x1, .ref out] sz ([(out, .inl (ca 1, 1, .inr (.inl g)))] ++ W7) (some (.int (kcI (fun e => if e = 3 then 1 else 0) r))) ([(out, .inl (ca 1, 1, .inr (.inl (ouI g r))))] ++ W7') := by
  refine hdZ (by decide +kernel) rfl (Nat.le_of_ble_eq_true rfl) ?_
  intro p e s m args below meth c A Q hQ hx hb hrt hml hown hts hlk hex hP hD hK hA hS hZ hC ls hl
  subst hQ
  have hown : s.vm.findClass RL = some m.cls := hown
  have hl : lv_has ls 4 [(0, .ref o), (1, .int x1), (2, .ref out)] := hl
  have hP := hP.flip
  have hD := hD.flip
  refine lv_aload_n hx hb dL_intervals_0 rfl (lv_at hl 2 rfl) ?_
  refine lv_iconst (v := (0 : Int32)) hx hb dL_intervals_1 (by decide) ?_
  refine lv_aload_n hx hb dL_intervals_2 rfl (lv_at hl 0 rfl) ?_
  refine lv_iload_n hx hb dL_intervals_3 rfl (lv_at hl 1 rfl) ?_
  rcases r with v | n
  · refine runX_v (st' := [.int v, .int 0, .ref out]) (clVX (As := [.int x1]) (rest := [.int 0, .ref out]) hx hb hml hown hts gL_intervals_X7_intervals rfl 1 (by decide +kernel) ⟨Nat.le_of_ble_eq_true rfl, Nat.le_of_ble_eq_true rfl⟩ (hM s.heap.size) hP hD hS hA hK hZ _ (blk_l _ _) (nd_range' _ _) 0 6 he rfl rfl rfl hl.1 rfl (Nat.le_of_ble_eq_true rfl) ⟨Nat.le_of_ble_eq_true rfl, Nat.le_of_ble_eq_true rfl⟩ dL_intervals_4) rfl hP hD hS hA _ _ (blk_l _ _) (blk_r _ _) (nd_range' _ _) (blk_dis _ _) rfl (fun H locs hP hD hS => ?_)
    refine lv_i2l (v := v.toInt64) hx hb dL_intervals_7 rfl ?_
    refine va_last hx hb hK.1 hP hD hS 0 1 rfl rfl (by unfold vp_in; decide) dL_intervals_8 (fun H locs hP hD hS => ?_)
    refine lv_goto (tgt := 15) hx hb dL_intervals_9 (by decide) ?_
    refine lv_iconst (v := (0 : Int32)) hx hb dL_intervals_15 (by decide) ?_
    exact rtZ hx hb hrt hlk (Nat.le_of_ble_eq_true rfl) (Nat.le_of_ble_eq_true rfl) hP hD hS dL_intervals_16
  · obtain rfl := hr n rfl
    refine runX_c (n := 3) (clVX (As := [.int x1]) (rest := [.int 0, .ref out]) hx hb hml hown hts gL_intervals_X7_intervals rfl 1 (by decide +kernel) ⟨Nat.le_of_ble_eq_true rfl, Nat.le_of_ble_eq_true rfl⟩ (hM s.heap.size) hP hD hS hA hK hZ _ (blk_l _ _) (nd_range' _ _) 0 6 he rfl rfl rfl hl.1 rfl (Nat.le_of_ble_eq_true rfl) ⟨Nat.le_of_ble_eq_true rfl, Nat.le_of_ble_eq_true rfl⟩ dL_intervals_4) rfl hP hD hS hA _ _ (blk_l _ _) (blk_r _ _) (nd_range' _ _) (blk_dis _ _) (fun q ce H locs hP hD hS hce hcv hcl => ?_)
    refine vx_catch (own := RL) (name := zE 3) (E := zE 3) hown [] ⟨0, 9, 12, 25⟩ [] (by rw [hex]; rfl) (fun z hz => absurd hz List.not_mem_nil) (by decide) (by decide) (hts _ (by decide +kernel)) (va_Nw.use rfl (hC.1 3 (Or.inr (Or.inr rfl)))) hce hcv hcl ?_
    refine W.eq (g2 := F0 m 12 ls [.ref q]) rfl ?_
    refine lv_astore_n (lv' := [(3, .ref q), (0, .ref o), (1, .int x1), (2, .ref out)]) hx hb dL_intervals_12 rfl hl (by decide) rfl (fun ls hl => ?_)
    refine lv_iconst (v := (1 : Int32)) hx hb dL_intervals_13 (by decide) ?_
    exact rtZ hx hb hrt hlk (Nat.le_of_ble_eq_true rfl) (Nat.le_of_ble_eq_true rfl) hP hD hS dL_intervals_14
set_option maxRecDepth 100000 in
theorem wr_interval (l : Launch) (hst : l.stackTraces = false) (D : va_G) (ca : Nat → ClassId) {W7 W7' : va_W} {o out : Nat} {fs : List Value} {r : Int32 ⊕ Nat} (x1 : Int32) (x2 : Int32) (x3 : Int32) (g : Nat → Int64) (sz : Nat) (he : W7[0]? = some (o, .inr (6, fs))) (hM : ∀ sz, MX l yX7_interval wsX7_interval 7 117 2 D ca [.ref o, .int x1, .int x2, .int x3] sz W7 (zoi r) W7') (hr : ∀ n, r = .inr n → n = 3) : MZ l yL_interval wsL_interval 8 143 2 D ca [.ref o, .int x1, .int x2, .int x3, .ref out] sz ([(out, .inl (ca 1, 1, .inr (.inl g)))] ++ W7) (some (.int (kcI (fun e => if e = 3 then 1 else 0) r))) ([(out, .inl (ca 1, 1, .inr (.inl (ouI g r))))] ++ W7') := by
  refine hdZ (by decide +kernel) rfl (Nat.le_of_ble_eq_true rfl) ?_
  intro p e s m args below meth c A Q hQ hx hb hrt hml hown hts hlk hex hP hD hK hA hS hZ hC ls hl
  subst hQ
  have hown : s.vm.findClass RL = some m.cls := hown
  have hl : lv_has ls 6 [(0, .ref o), (1, .int x1), (2, .int x2), (3, .int x3), (4, .ref out)] := hl
  have hP := hP.flip
  have hD := hD.flip
  refine lv_aload hx hb dL_interval_0 (lv_at hl 4 rfl) ?_
  refine lv_iconst (v := (0 : Int32)) hx hb dL_interval_2 (by decide) ?_
  refine lv_aload_n hx hb dL_interval_3 rfl (lv_at hl 0 rfl) ?_
  refine lv_iload_n hx hb dL_interval_4 rfl (lv_at hl 1 rfl) ?_
  refine lv_iload_n hx hb dL_interval_5 rfl (lv_at hl 2 rfl) ?_
  refine lv_iload_n hx hb dL_interval_6 rfl (lv_at hl 3 rfl) ?_
  rcases r with v | n
  · refine runX_v (st' := [.int v, .int 0, .ref out]) (clVX (As := [.int x1, .int x2, .int x3]) (rest := [.int 0, .ref out]) hx hb hml hown hts gL_interval_X7_interval rfl 3 (by decide +kernel) ⟨Nat.le_of_ble_eq_true rfl, Nat.le_of_ble_eq_true rfl⟩ (hM s.heap.size) hP hD hS hA hK hZ _ (blk_l _ _) (nd_range' _ _) 0 6 he rfl rfl rfl hl.1 rfl (Nat.le_of_ble_eq_true rfl) ⟨Nat.le_of_ble_eq_true rfl, Nat.le_of_ble_eq_true rfl⟩ dL_interval_7) rfl hP hD hS hA _ _ (blk_l _ _) (blk_r _ _) (nd_range' _ _) (blk_dis _ _) rfl (fun H locs hP hD hS => ?_)
    refine lv_i2l (v := v.toInt64) hx hb dL_interval_10 rfl ?_
    refine va_last hx hb hK.1 hP hD hS 0 1 rfl rfl (by unfold vp_in; decide) dL_interval_11 (fun H locs hP hD hS => ?_)
    refine lv_goto (tgt := 19) hx hb dL_interval_12 (by decide) ?_
    refine lv_iconst (v := (0 : Int32)) hx hb dL_interval_19 (by decide) ?_
    exact rtZ hx hb hrt hlk (Nat.le_of_ble_eq_true rfl) (Nat.le_of_ble_eq_true rfl) hP hD hS dL_interval_20
  · obtain rfl := hr n rfl
    refine runX_c (n := 3) (clVX (As := [.int x1, .int x2, .int x3]) (rest := [.int 0, .ref out]) hx hb hml hown hts gL_interval_X7_interval rfl 3 (by decide +kernel) ⟨Nat.le_of_ble_eq_true rfl, Nat.le_of_ble_eq_true rfl⟩ (hM s.heap.size) hP hD hS hA hK hZ _ (blk_l _ _) (nd_range' _ _) 0 6 he rfl rfl rfl hl.1 rfl (Nat.le_of_ble_eq_true rfl) ⟨Nat.le_of_ble_eq_true rfl, Nat.le_of_ble_eq_true rfl⟩ dL_interval_7) rfl hP hD hS hA _ _ (blk_l _ _) (blk_r _ _) (nd_range' _ _) (blk_dis _ _) (fun q ce H locs hP hD hS hce hcv hcl => ?_)
    refine vx_catch (own := RL) (name := zE 3) (E := zE 3) hown [] ⟨0, 12, 15, 25⟩ [] (by rw [hex]; rfl) (fun z hz => absurd hz List.not_mem_nil) (by decide) (by decide) (hts _ (by decide +kernel)) (va_Nw.use rfl (hC.1 3 (Or.inr (Or.inr rfl)))) hce hcv hcl ?_
    refine W.eq (g2 := F0 m 15 ls [.ref q]) rfl ?_
    refine lv_astore (lv' := [(5, .ref q), (0, .ref o), (1, .int x1), (2, .int x2), (3, .int x3), (4, .ref out)]) hx hb dL_interval_15 hl (by decide) rfl (fun ls hl => ?_)
    refine lv_iconst (v := (1 : Int32)) hx hb dL_interval_17 (by decide) ?_
    exact rtZ hx hb hrt hlk (Nat.le_of_ble_eq_true rfl) (Nat.le_of_ble_eq_true rfl) hP hD hS dL_interval_18
set_option maxRecDepth 100000 in
theorem wr_holders (l : Launch) (hst : l.stackTraces = false) (D : va_G) (ca : Nat → ClassId) {W7 W7' : va_W} {o out : Nat} {fs : List Value} {r : Int32 ⊕ Nat} (x1 : Int32) (x2 : Int32) (g : Nat → Int64) (sz : Nat) (he : W7[0]? = some (o, .inr (6, fs))) (hM : ∀ sz, MX l yX7_holders wsX7_holders 6 96 1 D ca [.ref o, .int x1, .int x2] sz W7 (zoi r) W7') (hr : ∀ n, r = .inr n → n = 1) : MZ l yL_holders wsL_holders 7 121 1 D ca [.ref o, .int x1, .int x2, .ref out] sz ([(out, .inl (ca 1, 1, .inr (.inl g)))] ++ W7) (some (.int (kcI (fun e => if e = 1 then 1 else 0) r))) ([(out, .inl (ca 1, 1, .inr (.inl (ouI g r))))] ++ W7') := by
  refine hdZ (by decide +kernel) rfl (Nat.le_of_ble_eq_true rfl) ?_
  intro p e s m args below meth c A Q hQ hx hb hrt hml hown hts hlk hex hP hD hK hA hS hZ hC ls hl
  subst hQ
  have hown : s.vm.findClass RL = some m.cls := hown
  have hl : lv_has ls 5 [(0, .ref o), (1, .int x1), (2, .int x2), (3, .ref out)] := hl
  have hP := hP.flip
  have hD := hD.flip
  refine lv_aload_n hx hb dL_holders_0 rfl (lv_at hl 3 rfl) ?_
  refine lv_iconst (v := (0 : Int32)) hx hb dL_holders_1 (by decide) ?_
  refine lv_aload_n hx hb dL_holders_2 rfl (lv_at hl 0 rfl) ?_
  refine lv_iload_n hx hb dL_holders_3 rfl (lv_at hl 1 rfl) ?_
  refine lv_iload_n hx hb dL_holders_4 rfl (lv_at hl 2 rfl) ?_
  rcases r with v | n
  · refine runX_v (st' := [.int v, .int 0, .ref out]) (clVX (As := [.int x1, .int x2]) (rest := [.int 0, .ref out]) hx hb hml hown hts gL_holders_X7_holders rfl 2 (by decide +kernel) ⟨Nat.le_of_ble_eq_true rfl, Nat.le_of_ble_eq_true rfl⟩ (hM s.heap.size) hP hD hS hA hK hZ _ (blk_l _ _) (nd_range' _ _) 0 6 he rfl rfl rfl hl.1 rfl (Nat.le_of_ble_eq_true rfl) ⟨Nat.le_of_ble_eq_true rfl, Nat.le_of_ble_eq_true rfl⟩ dL_holders_5) rfl hP hD hS hA _ _ (blk_l _ _) (blk_r _ _) (nd_range' _ _) (blk_dis _ _) rfl (fun H locs hP hD hS => ?_)
    refine lv_i2l (v := v.toInt64) hx hb dL_holders_8 rfl ?_
    refine va_last hx hb hK.1 hP hD hS 0 1 rfl rfl (by unfold vp_in; decide) dL_holders_9 (fun H locs hP hD hS => ?_)
    refine lv_goto (tgt := 17) hx hb dL_holders_10 (by decide) ?_
    refine lv_iconst (v := (0 : Int32)) hx hb dL_holders_17 (by decide) ?_
    exact rtZ hx hb hrt hlk (Nat.le_of_ble_eq_true rfl) (Nat.le_of_ble_eq_true rfl) hP hD hS dL_holders_18
  · obtain rfl := hr n rfl
    refine runX_c (n := 1) (clVX (As := [.int x1, .int x2]) (rest := [.int 0, .ref out]) hx hb hml hown hts gL_holders_X7_holders rfl 2 (by decide +kernel) ⟨Nat.le_of_ble_eq_true rfl, Nat.le_of_ble_eq_true rfl⟩ (hM s.heap.size) hP hD hS hA hK hZ _ (blk_l _ _) (nd_range' _ _) 0 6 he rfl rfl rfl hl.1 rfl (Nat.le_of_ble_eq_true rfl) ⟨Nat.le_of_ble_eq_true rfl, Nat.le_of_ble_eq_true rfl⟩ dL_holders_5) rfl hP hD hS hA _ _ (blk_l _ _) (blk_r _ _) (nd_range' _ _) (blk_dis _ _) (fun q ce H locs hP hD hS hce hcv hcl => ?_)
    refine vx_catch (own := RL) (name := zE 1) (E := zE 1) hown [] ⟨0, 10, 13, 13⟩ [] (by rw [hex]; rfl) (fun z hz => absurd hz List.not_mem_nil) (by decide) (by decide) (hts _ (by decide +kernel)) (va_Nw.use rfl (hC.1 1 (Or.inl rfl))) hce hcv hcl ?_
    refine W.eq (g2 := F0 m 13 ls [.ref q]) rfl ?_
    refine lv_astore (lv' := [(4, .ref q), (0, .ref o), (1, .int x1), (2, .int x2), (3, .ref out)]) hx hb dL_holders_13 hl (by decide) rfl (fun ls hl => ?_)
    refine lv_iconst (v := (1 : Int32)) hx hb dL_holders_15 (by decide) ?_
    exact rtZ hx hb hrt hlk (Nat.le_of_ble_eq_true rfl) (Nat.le_of_ble_eq_true rfl) hP hD hS dL_holders_16
set_option maxRecDepth 100000 in
theorem wr_collect (l : Launch) (hst : l.stackTraces = false) (D : va_G) (ca : Nat → ClassId) {W7 W7' : va_W} {o out : Nat} {fs : List Value} {r : Int32 ⊕ Nat} (x1 : Int32) (x2 : Int32) (g : Nat → Int64) (sz : Nat) (he : W7[0]? = some (o, .inr (6, fs))) (hM : ∀ sz, MX l yX7_collect wsX7_collect 7 117 1 D ca [.ref o, .int x1, .int x2] sz W7 (zoi r) W7') (hr : ∀ n, r = .inr n → n = 1 ∨ n = 2) : MZ l yL_collect wsL_collect 8 139 1 D ca [.ref o, .int x1, .int x2, .ref out] sz ([(out, .inl (ca 1, 1, .inr (.inl g)))] ++ W7) (some (.int (kcI (fun e => if e = 1 then 1 else if e = 2 then 2 else 0) r))) ([(out, .inl (ca 1, 1, .inr (.inl (ouI g r))))] ++ W7') := by
  refine hdZ (by decide +kernel) rfl (Nat.le_of_ble_eq_true rfl) ?_
  intro p e s m args below meth c A Q hQ hx hb hrt hml hown hts hlk hex hP hD hK hA hS hZ hC ls hl
  subst hQ
  have hown : s.vm.findClass RL = some m.cls := hown
  have hl : lv_has ls 5 [(0, .ref o), (1, .int x1), (2, .int x2), (3, .ref out)] := hl
  have hP := hP.flip
  have hD := hD.flip
  refine lv_aload_n hx hb dL_collect_0 rfl (lv_at hl 3 rfl) ?_
  refine lv_iconst (v := (0 : Int32)) hx hb dL_collect_1 (by decide) ?_
  refine lv_aload_n hx hb dL_collect_2 rfl (lv_at hl 0 rfl) ?_
  refine lv_iload_n hx hb dL_collect_3 rfl (lv_at hl 1 rfl) ?_
  refine lv_iload_n hx hb dL_collect_4 rfl (lv_at hl 2 rfl) ?_
  rcases r with v | n
  · refine runX_v (st' := [.int v, .int 0, .ref out]) (clVX (As := [.int x1, .int x2]) (rest := [.int 0, .ref out]) hx hb hml hown hts gL_collect_X7_collect rfl 2 (by decide +kernel) ⟨Nat.le_of_ble_eq_true rfl, Nat.le_of_ble_eq_true rfl⟩ (hM s.heap.size) hP hD hS hA hK hZ _ (blk_l _ _) (nd_range' _ _) 0 6 he rfl rfl rfl hl.1 rfl (Nat.le_of_ble_eq_true rfl) ⟨Nat.le_of_ble_eq_true rfl, Nat.le_of_ble_eq_true rfl⟩ dL_collect_5) rfl hP hD hS hA _ _ (blk_l _ _) (blk_r _ _) (nd_range' _ _) (blk_dis _ _) rfl (fun H locs hP hD hS => ?_)
    refine lv_i2l (v := v.toInt64) hx hb dL_collect_8 rfl ?_
    refine va_last hx hb hK.1 hP hD hS 0 1 rfl rfl (by unfold vp_in; decide) dL_collect_9 (fun H locs hP hD hS => ?_)
    refine lv_goto (tgt := 21) hx hb dL_collect_10 (by decide) ?_
    refine lv_iconst (v := (0 : Int32)) hx hb dL_collect_21 (by decide) ?_
    exact rtZ hx hb hrt hlk (Nat.le_of_ble_eq_true rfl) (Nat.le_of_ble_eq_true rfl) hP hD hS dL_collect_22
  · rcases hr n rfl with rfl | rfl
    · refine runX_c (n := 1) (clVX (As := [.int x1, .int x2]) (rest := [.int 0, .ref out]) hx hb hml hown hts gL_collect_X7_collect rfl 2 (by decide +kernel) ⟨Nat.le_of_ble_eq_true rfl, Nat.le_of_ble_eq_true rfl⟩ (hM s.heap.size) hP hD hS hA hK hZ _ (blk_l _ _) (nd_range' _ _) 0 6 he rfl rfl rfl hl.1 rfl (Nat.le_of_ble_eq_true rfl) ⟨Nat.le_of_ble_eq_true rfl, Nat.le_of_ble_eq_true rfl⟩ dL_collect_5) rfl hP hD hS hA _ _ (blk_l _ _) (blk_r _ _) (nd_range' _ _) (blk_dis _ _) (fun q ce H locs hP hD hS hce hcv hcl => ?_)
      refine vx_catch (own := RL) (name := zE 1) (E := zE 1) hown [] ⟨0, 10, 13, 13⟩ [⟨0, 10, 17, 15⟩] (by rw [hex]; rfl) (fun z hz => absurd hz List.not_mem_nil) (by decide) (by decide) (hts _ (by decide +kernel)) (va_Nw.use rfl (hC.1 1 (Or.inl rfl))) hce hcv hcl ?_
      refine W.eq (g2 := F0 m 13 ls [.ref q]) rfl ?_
      refine lv_astore (lv' := [(4, .ref q), (0, .ref o), (1, .int x1), (2, .int x2), (3, .ref out)]) hx hb dL_collect_13 hl (by decide) rfl (fun ls hl => ?_)
      refine lv_iconst (v := (1 : Int32)) hx hb dL_collect_15 (by decide) ?_
      exact rtZ hx hb hrt hlk (Nat.le_of_ble_eq_true rfl) (Nat.le_of_ble_eq_true rfl) hP hD hS dL_collect_16
    · refine runX_c (n := 2) (clVX (As := [.int x1, .int x2]) (rest := [.int 0, .ref out]) hx hb hml hown hts gL_collect_X7_collect rfl 2 (by decide +kernel) ⟨Nat.le_of_ble_eq_true rfl, Nat.le_of_ble_eq_true rfl⟩ (hM s.heap.size) hP hD hS hA hK hZ _ (blk_l _ _) (nd_range' _ _) 0 6 he rfl rfl rfl hl.1 rfl (Nat.le_of_ble_eq_true rfl) ⟨Nat.le_of_ble_eq_true rfl, Nat.le_of_ble_eq_true rfl⟩ dL_collect_5) rfl hP hD hS hA _ _ (blk_l _ _) (blk_r _ _) (nd_range' _ _) (blk_dis _ _) (fun q ce H locs hP hD hS hce hcv hcl => ?_)
      refine vx_catch (own := RL) (name := zE 2) (E := zE 2) hown [⟨0, 10, 13, 13⟩] ⟨0, 10, 17, 15⟩ [] (by rw [hex]; rfl) (fun z hz => by rw [List.mem_singleton.mp hz]; exact Or.inr ⟨by decide, zE 1, hts _ (by decide +kernel), hC.2 2 1 (Or.inr (Or.inl rfl)) (Or.inl rfl) (by decide)⟩) (by decide) (by decide) (hts _ (by decide +kernel)) (va_Nw.use rfl (hC.1 2 (Or.inr (Or.inl rfl)))) hce hcv hcl ?_
      refine W.eq (g2 := F0 m 17 ls [.ref q]) rfl ?_
      refine lv_astore (lv' := [(4, .ref q), (0, .ref o), (1, .int x1), (2, .int x2), (3, .ref out)]) hx hb dL_collect_17 hl (by decide) rfl (fun ls hl => ?_)
      refine lv_iconst (v := (2 : Int32)) hx hb dL_collect_19 (by decide) ?_
      exact rtZ hx hb hrt hlk (Nat.le_of_ble_eq_true rfl) (Nat.le_of_ble_eq_true rfl) hP hD hS dL_collect_20
set_option maxRecDepth 100000 in
theorem wr_answer (l : Launch) (hst : l.stackTraces = false) (D : va_G) (ca : Nat → ClassId) {W7 W7' : va_W} {o out : Nat} {fs : List Value} {r : Int64 ⊕ Nat} (x1 : Int32) (x2 : Int32) (g : Nat → Int64) (sz : Nat) (he : W7[0]? = some (o, .inr (6, fs))) (hM : ∀ sz, MX l yX7_answer wsX7_answer 7 118 2 D ca [.ref o, .int x1, .int x2] sz W7 (zol r) W7') (hr : ∀ n, r = .inr n → n = 3 ∨ n = 1 ∨ n = 2) : MZ l yL_answer wsL_answer 8 141 2 D ca [.ref o, .int x1, .int x2, .ref out] sz ([(out, .inl (ca 1, 1, .inr (.inl g)))] ++ W7) (some (.int (kcL (fun e => if e = 3 then 1 else if e = 1 then 2 else if e = 2 then 3 else 0) r))) ([(out, .inl (ca 1, 1, .inr (.inl (ouL g r))))] ++ W7') := by
  refine hdZ (by decide +kernel) rfl (Nat.le_of_ble_eq_true rfl) ?_
  intro p e s m args below meth c A Q hQ hx hb hrt hml hown hts hlk hex hP hD hK hA hS hZ hC ls hl
  subst hQ
  have hown : s.vm.findClass RL = some m.cls := hown
  have hl : lv_has ls 5 [(0, .ref o), (1, .int x1), (2, .int x2), (3, .ref out)] := hl
  have hP := hP.flip
  have hD := hD.flip
  refine lv_aload_n hx hb dL_answer_0 rfl (lv_at hl 3 rfl) ?_
  refine lv_iconst (v := (0 : Int32)) hx hb dL_answer_1 (by decide) ?_
  refine lv_aload_n hx hb dL_answer_2 rfl (lv_at hl 0 rfl) ?_
  refine lv_iload_n hx hb dL_answer_3 rfl (lv_at hl 1 rfl) ?_
  refine lv_iload_n hx hb dL_answer_4 rfl (lv_at hl 2 rfl) ?_
  rcases r with v | n
  · refine runX_v (st' := [.long v, .int 0, .ref out]) (clVX (As := [.int x1, .int x2]) (rest := [.int 0, .ref out]) hx hb hml hown hts gL_answer_X7_answer rfl 2 (by decide +kernel) ⟨Nat.le_of_ble_eq_true rfl, Nat.le_of_ble_eq_true rfl⟩ (hM s.heap.size) hP hD hS hA hK hZ _ (blk_l _ _) (nd_range' _ _) 0 6 he rfl rfl rfl hl.1 rfl (Nat.le_of_ble_eq_true rfl) ⟨Nat.le_of_ble_eq_true rfl, Nat.le_of_ble_eq_true rfl⟩ dL_answer_5) rfl hP hD hS hA _ _ (blk_l _ _) (blk_r _ _) (nd_range' _ _) (blk_dis _ _) rfl (fun H locs hP hD hS => ?_)
    refine va_last hx hb hK.1 hP hD hS 0 1 rfl rfl (by unfold vp_in; decide) dL_answer_8 (fun H locs hP hD hS => ?_)
    refine lv_goto (tgt := 24) hx hb dL_answer_9 (by decide) ?_
    refine lv_iconst (v := (0 : Int32)) hx hb dL_answer_24 (by decide) ?_
    exact rtZ hx hb hrt hlk (Nat.le_of_ble_eq_true rfl) (Nat.le_of_ble_eq_true rfl) hP hD hS dL_answer_25
  · rcases hr n rfl with rfl | rfl | rfl
    · refine runX_c (n := 3) (clVX (As := [.int x1, .int x2]) (rest := [.int 0, .ref out]) hx hb hml hown hts gL_answer_X7_answer rfl 2 (by decide +kernel) ⟨Nat.le_of_ble_eq_true rfl, Nat.le_of_ble_eq_true rfl⟩ (hM s.heap.size) hP hD hS hA hK hZ _ (blk_l _ _) (nd_range' _ _) 0 6 he rfl rfl rfl hl.1 rfl (Nat.le_of_ble_eq_true rfl) ⟨Nat.le_of_ble_eq_true rfl, Nat.le_of_ble_eq_true rfl⟩ dL_answer_5) rfl hP hD hS hA _ _ (blk_l _ _) (blk_r _ _) (nd_range' _ _) (blk_dis _ _) (fun q ce H locs hP hD hS hce hcv hcl => ?_)
      refine vx_catch (own := RL) (name := zE 3) (E := zE 3) hown [] ⟨0, 9, 12, 25⟩ [⟨0, 9, 16, 13⟩, ⟨0, 9, 20, 15⟩] (by rw [hex]; rfl) (fun z hz => absurd hz List.not_mem_nil) (by decide) (by decide) (hts _ (by decide +kernel)) (va_Nw.use rfl (hC.1 3 (Or.inr (Or.inr rfl)))) hce hcv hcl ?_
      refine W.eq (g2 := F0 m 12 ls [.ref q]) rfl ?_
      refine lv_astore (lv' := [(4, .ref q), (0, .ref o), (1, .int x1), (2, .int x2), (3, .ref out)]) hx hb dL_answer_12 hl (by decide) rfl (fun ls hl => ?_)
      refine lv_iconst (v := (1 : Int32)) hx hb dL_answer_14 (by decide) ?_
      exact rtZ hx hb hrt hlk (Nat.le_of_ble_eq_true rfl) (Nat.le_of_ble_eq_true rfl) hP hD hS dL_answer_15
    · refine runX_c (n := 1) (clVX (As := [.int x1, .int x2]) (rest := [.int 0, .ref out]) hx hb hml hown hts gL_answer_X7_answer rfl 2 (by decide +kernel) ⟨Nat.le_of_ble_eq_true rfl, Nat.le_of_ble_eq_true rfl⟩ (hM s.heap.size) hP hD hS hA hK hZ _ (blk_l _ _) (nd_range' _ _) 0 6 he rfl rfl rfl hl.1 rfl (Nat.le_of_ble_eq_true rfl) ⟨Nat.le_of_ble_eq_true rfl, Nat.le_of_ble_eq_true rfl⟩ dL_answer_5) rfl hP hD hS hA _ _ (blk_l _ _) (blk_r _ _) (nd_range' _ _) (blk_dis _ _) (fun q ce H locs hP hD hS hce hcv hcl => ?_)
      refine vx_catch (own := RL) (name := zE 1) (E := zE 1) hown [⟨0, 9, 12, 25⟩] ⟨0, 9, 16, 13⟩ [⟨0, 9, 20, 15⟩] (by rw [hex]; rfl) (fun z hz => by rw [List.mem_singleton.mp hz]; exact Or.inr ⟨by decide, zE 3, hts _ (by decide +kernel), hC.2 1 3 (Or.inl rfl) (Or.inr (Or.inr rfl)) (by decide)⟩) (by decide) (by decide) (hts _ (by decide +kernel)) (va_Nw.use rfl (hC.1 1 (Or.inl rfl))) hce hcv hcl ?_
      refine W.eq (g2 := F0 m 16 ls [.ref q]) rfl ?_
      refine lv_astore (lv' := [(4, .ref q), (0, .ref o), (1, .int x1), (2, .int x2), (3, .ref out)]) hx hb dL_answer_16 hl (by decide) rfl (fun ls hl => ?_)
      refine lv_iconst (v := (2 : Int32)) hx hb dL_answer_18 (by decide) ?_
      exact rtZ hx hb hrt hlk (Nat.le_of_ble_eq_true rfl) (Nat.le_of_ble_eq_true rfl) hP hD hS dL_answer_19
    · refine runX_c (n := 2) (clVX (As := [.int x1, .int x2]) (rest := [.int 0, .ref out]) hx hb hml hown hts gL_answer_X7_answer rfl 2 (by decide +kernel) ⟨Nat.le_of_ble_eq_true rfl, Nat.le_of_ble_eq_true rfl⟩ (hM s.heap.size) hP hD hS hA hK hZ _ (blk_l _ _) (nd_range' _ _) 0 6 he rfl rfl rfl hl.1 rfl (Nat.le_of_ble_eq_true rfl) ⟨Nat.le_of_ble_eq_true rfl, Nat.le_of_ble_eq_true rfl⟩ dL_answer_5) rfl hP hD hS hA _ _ (blk_l _ _) (blk_r _ _) (nd_range' _ _) (blk_dis _ _) (fun q ce H locs hP hD hS hce hcv hcl => ?_)
      have hp : ∀ z ∈ ([⟨0, 9, 12, 25⟩, ⟨0, 9, 16, 13⟩] : List ExceptionTableEntry), covers z 5 = false ∨ (z.catchType ≠ 0 ∧ ∃ nm : String, (Cond.classLink RL z.catchType nm).before args s = true ∧ va_Nc (zE 2) nm s) := by
        intro z hz
        rcases List.mem_cons.mp hz with h1 | h1
        · rw [h1]; exact Or.inr ⟨by decide, zE 3, hts _ (by decide +kernel), hC.2 2 3 (Or.inr (Or.inl rfl)) (Or.inr (Or.inr rfl)) (by decide)⟩
        · rw [List.mem_singleton.mp h1]; exact Or.inr ⟨by decide, zE 1, hts _ (by decide +kernel), hC.2 2 1 (Or.inr (Or.inl rfl)) (Or.inl rfl) (by decide)⟩
      refine vx_catch (own := RL) (name := zE 2) (E := zE 2) hown [⟨0, 9, 12, 25⟩, ⟨0, 9, 16, 13⟩] ⟨0, 9, 20, 15⟩ [] (by rw [hex]; rfl) hp (by decide) (by decide) (hts _ (by decide +kernel)) (va_Nw.use rfl (hC.1 2 (Or.inr (Or.inl rfl)))) hce hcv hcl ?_
      refine W.eq (g2 := F0 m 20 ls [.ref q]) rfl ?_
      refine lv_astore (lv' := [(4, .ref q), (0, .ref o), (1, .int x1), (2, .int x2), (3, .ref out)]) hx hb dL_answer_20 hl (by decide) rfl (fun ls hl => ?_)
      refine lv_iconst (v := (3 : Int32)) hx hb dL_answer_22 (by decide) ?_
      exact rtZ hx hb hrt hlk (Nat.le_of_ble_eq_true rfl) (Nat.le_of_ble_eq_true rfl) hP hD hS dL_answer_23
set_option maxRecDepth 100000 in
theorem wr_mark (l : Launch) (hst : l.stackTraces = false) (D : va_G) (ca : Nat → ClassId) {W7 W7' : va_W} {o out : Nat} {fs : List Value} {r : Int32 ⊕ Nat} (g : Nat → Int64) (sz : Nat) (he : W7[0]? = some (o, .inr (6, fs))) (hM : ∀ sz, MX l yX7_mark wsX7_mark 7 117 1 D ca [.ref o] sz W7 (zoi r) W7') (hr : ∀ n, r = .inr n → n = 2) : MZ l yL_mark wsL_mark 8 137 1 D ca [.ref o, .ref out] sz ([(out, .inl (ca 1, 1, .inr (.inl g)))] ++ W7) (some (.int (kcI (fun e => if e = 2 then 1 else 0) r))) ([(out, .inl (ca 1, 1, .inr (.inl (ouI g r))))] ++ W7') := by
  refine hdZ (by decide +kernel) rfl (Nat.le_of_ble_eq_true rfl) ?_
  intro p e s m args below meth c A Q hQ hx hb hrt hml hown hts hlk hex hP hD hK hA hS hZ hC ls hl
  subst hQ
  have hown : s.vm.findClass RL = some m.cls := hown
  have hl : lv_has ls 3 [(0, .ref o), (1, .ref out)] := hl
  have hP := hP.flip
  have hD := hD.flip
  refine lv_aload_n hx hb dL_mark_0 rfl (lv_at hl 1 rfl) ?_
  refine lv_iconst (v := (0 : Int32)) hx hb dL_mark_1 (by decide) ?_
  refine lv_aload_n hx hb dL_mark_2 rfl (lv_at hl 0 rfl) ?_
  rcases r with v | n
  · refine runX_v (st' := [.int v, .int 0, .ref out]) (clVX (As := []) (rest := [.int 0, .ref out]) hx hb hml hown hts gL_mark_X7_mark rfl 0 (by decide +kernel) ⟨Nat.le_of_ble_eq_true rfl, Nat.le_of_ble_eq_true rfl⟩ (hM s.heap.size) hP hD hS hA hK hZ _ (blk_l _ _) (nd_range' _ _) 0 6 he rfl rfl rfl hl.1 rfl (Nat.le_of_ble_eq_true rfl) ⟨Nat.le_of_ble_eq_true rfl, Nat.le_of_ble_eq_true rfl⟩ dL_mark_3) rfl hP hD hS hA _ _ (blk_l _ _) (blk_r _ _) (nd_range' _ _) (blk_dis _ _) rfl (fun H locs hP hD hS => ?_)
    refine lv_i2l (v := v.toInt64) hx hb dL_mark_6 rfl ?_
    refine va_last hx hb hK.1 hP hD hS 0 1 rfl rfl (by unfold vp_in; decide) dL_mark_7 (fun H locs hP hD hS => ?_)
    refine lv_goto (tgt := 14) hx hb dL_mark_8 (by decide) ?_
    refine lv_iconst (v := (0 : Int32)) hx hb dL_mark_14 (by decide) ?_
    exact rtZ hx hb hrt hlk (Nat.le_of_ble_eq_true rfl) (Nat.le_of_ble_eq_true rfl) hP hD hS dL_mark_15
  · obtain rfl := hr n rfl
    refine runX_c (n := 2) (clVX (As := []) (rest := [.int 0, .ref out]) hx hb hml hown hts gL_mark_X7_mark rfl 0 (by decide +kernel) ⟨Nat.le_of_ble_eq_true rfl, Nat.le_of_ble_eq_true rfl⟩ (hM s.heap.size) hP hD hS hA hK hZ _ (blk_l _ _) (nd_range' _ _) 0 6 he rfl rfl rfl hl.1 rfl (Nat.le_of_ble_eq_true rfl) ⟨Nat.le_of_ble_eq_true rfl, Nat.le_of_ble_eq_true rfl⟩ dL_mark_3) rfl hP hD hS hA _ _ (blk_l _ _) (blk_r _ _) (nd_range' _ _) (blk_dis _ _) (fun q ce H locs hP hD hS hce hcv hcl => ?_)
    refine vx_catch (own := RL) (name := zE 2) (E := zE 2) hown [] ⟨0, 8, 11, 15⟩ [] (by rw [hex]; rfl) (fun z hz => absurd hz List.not_mem_nil) (by decide) (by decide) (hts _ (by decide +kernel)) (va_Nw.use rfl (hC.1 2 (Or.inr (Or.inl rfl)))) hce hcv hcl ?_
    refine W.eq (g2 := F0 m 11 ls [.ref q]) rfl ?_
    refine lv_astore_n (lv' := [(2, .ref q), (0, .ref o), (1, .ref out)]) hx hb dL_mark_11 rfl hl (by decide) rfl (fun ls hl => ?_)
    refine lv_iconst (v := (1 : Int32)) hx hb dL_mark_12 (by decide) ?_
    exact rtZ hx hb hrt hlk (Nat.le_of_ble_eq_true rfl) (Nat.le_of_ble_eq_true rfl) hP hD hS dL_mark_13
set_option maxRecDepth 100000 in
theorem wr_rollBack (l : Launch) (hst : l.stackTraces = false) (D : va_G) (ca : Nat → ClassId) {W7 W7' : va_W} {o out : Nat} {fs : List Value} {r : Int32 ⊕ Nat} (g : Nat → Int64) (sz : Nat) (he : W7[0]? = some (o, .inr (6, fs))) (hM : ∀ sz, MX l yX7_rollBack wsX7_rollBack 7 117 1 D ca [.ref o] sz W7 (zoi r) W7') (hr : ∀ n, r = .inr n → n = 2) : MZ l yL_rollBack wsL_rollBack 8 137 1 D ca [.ref o, .ref out] sz ([(out, .inl (ca 1, 1, .inr (.inl g)))] ++ W7) (some (.int (kcI (fun e => if e = 2 then 1 else 0) r))) ([(out, .inl (ca 1, 1, .inr (.inl (ouI g r))))] ++ W7') := by
  refine hdZ (by decide +kernel) rfl (Nat.le_of_ble_eq_true rfl) ?_
  intro p e s m args below meth c A Q hQ hx hb hrt hml hown hts hlk hex hP hD hK hA hS hZ hC ls hl
  subst hQ
  have hown : s.vm.findClass RL = some m.cls := hown
  have hl : lv_has ls 3 [(0, .ref o), (1, .ref out)] := hl
  have hP := hP.flip
  have hD := hD.flip
  refine lv_aload_n hx hb dL_rollBack_0 rfl (lv_at hl 1 rfl) ?_
  refine lv_iconst (v := (0 : Int32)) hx hb dL_rollBack_1 (by decide) ?_
  refine lv_aload_n hx hb dL_rollBack_2 rfl (lv_at hl 0 rfl) ?_
  rcases r with v | n
  · refine runX_v (st' := [.int v, .int 0, .ref out]) (clVX (As := []) (rest := [.int 0, .ref out]) hx hb hml hown hts gL_rollBack_X7_rollBack rfl 0 (by decide +kernel) ⟨Nat.le_of_ble_eq_true rfl, Nat.le_of_ble_eq_true rfl⟩ (hM s.heap.size) hP hD hS hA hK hZ _ (blk_l _ _) (nd_range' _ _) 0 6 he rfl rfl rfl hl.1 rfl (Nat.le_of_ble_eq_true rfl) ⟨Nat.le_of_ble_eq_true rfl, Nat.le_of_ble_eq_true rfl⟩ dL_rollBack_3) rfl hP hD hS hA _ _ (blk_l _ _) (blk_r _ _) (nd_range' _ _) (blk_dis _ _) rfl (fun H locs hP hD hS => ?_)
    refine lv_i2l (v := v.toInt64) hx hb dL_rollBack_6 rfl ?_
    refine va_last hx hb hK.1 hP hD hS 0 1 rfl rfl (by unfold vp_in; decide) dL_rollBack_7 (fun H locs hP hD hS => ?_)
    refine lv_goto (tgt := 14) hx hb dL_rollBack_8 (by decide) ?_
    refine lv_iconst (v := (0 : Int32)) hx hb dL_rollBack_14 (by decide) ?_
    exact rtZ hx hb hrt hlk (Nat.le_of_ble_eq_true rfl) (Nat.le_of_ble_eq_true rfl) hP hD hS dL_rollBack_15
  · obtain rfl := hr n rfl
    refine runX_c (n := 2) (clVX (As := []) (rest := [.int 0, .ref out]) hx hb hml hown hts gL_rollBack_X7_rollBack rfl 0 (by decide +kernel) ⟨Nat.le_of_ble_eq_true rfl, Nat.le_of_ble_eq_true rfl⟩ (hM s.heap.size) hP hD hS hA hK hZ _ (blk_l _ _) (nd_range' _ _) 0 6 he rfl rfl rfl hl.1 rfl (Nat.le_of_ble_eq_true rfl) ⟨Nat.le_of_ble_eq_true rfl, Nat.le_of_ble_eq_true rfl⟩ dL_rollBack_3) rfl hP hD hS hA _ _ (blk_l _ _) (blk_r _ _) (nd_range' _ _) (blk_dis _ _) (fun q ce H locs hP hD hS hce hcv hcl => ?_)
    refine vx_catch (own := RL) (name := zE 2) (E := zE 2) hown [] ⟨0, 8, 11, 15⟩ [] (by rw [hex]; rfl) (fun z hz => absurd hz List.not_mem_nil) (by decide) (by decide) (hts _ (by decide +kernel)) (va_Nw.use rfl (hC.1 2 (Or.inr (Or.inl rfl)))) hce hcv hcl ?_
    refine W.eq (g2 := F0 m 11 ls [.ref q]) rfl ?_
    refine lv_astore_n (lv' := [(2, .ref q), (0, .ref o), (1, .ref out)]) hx hb dL_rollBack_11 rfl hl (by decide) rfl (fun ls hl => ?_)
    refine lv_iconst (v := (1 : Int32)) hx hb dL_rollBack_12 (by decide) ?_
    exact rtZ hx hb hrt hlk (Nat.le_of_ble_eq_true rfl) (Nat.le_of_ble_eq_true rfl) hP hD hS dL_rollBack_13
set_option maxRecDepth 100000 in
theorem wr_append (l : Launch) (hst : l.stackTraces = false) (D : va_G) (ca : Nat → ClassId) {W7 W7' : va_W} {o out : Nat} {fs : List Value} {r : Int32 ⊕ Nat} (x1 : Int32) (g : Nat → Int64) (sz : Nat) (he : W7[0]? = some (o, .inr (6, fs))) (hM : ∀ sz, MX l yX7_append wsX7_append 7 118 2 D ca [.ref o, .int x1] sz W7 (zoi r) W7') (hr : ∀ n, r = .inr n → n = 1 ∨ n = 2) : MZ l yL_append wsL_append 8 139 2 D ca [.ref o, .int x1, .ref out] sz ([(out, .inl (ca 1, 1, .inr (.inl g)))] ++ W7) (some (.int (kcI (fun e => if e = 1 then 1 else if e = 2 then 2 else 0) r))) ([(out, .inl (ca 1, 1, .inr (.inl (ouI g r))))] ++ W7') := by
  refine hdZ (by decide +kernel) rfl (Nat.le_of_ble_eq_true rfl) ?_
  intro p e s m args below meth c A Q hQ hx hb hrt hml hown hts hlk hex hP hD hK hA hS hZ hC ls hl
  subst hQ
  have hown : s.vm.findClass RL = some m.cls := hown
  have hl : lv_has ls 4 [(0, .ref o), (1, .int x1), (2, .ref out)] := hl
  have hP := hP.flip
  have hD := hD.flip
  refine lv_aload_n hx hb dL_append_0 rfl (lv_at hl 2 rfl) ?_
  refine lv_iconst (v := (0 : Int32)) hx hb dL_append_1 (by decide) ?_
  refine lv_aload_n hx hb dL_append_2 rfl (lv_at hl 0 rfl) ?_
  refine lv_iload_n hx hb dL_append_3 rfl (lv_at hl 1 rfl) ?_
  rcases r with v | n
  · refine runX_v (st' := [.int v, .int 0, .ref out]) (clVX (As := [.int x1]) (rest := [.int 0, .ref out]) hx hb hml hown hts gL_append_X7_append rfl 1 (by decide +kernel) ⟨Nat.le_of_ble_eq_true rfl, Nat.le_of_ble_eq_true rfl⟩ (hM s.heap.size) hP hD hS hA hK hZ _ (blk_l _ _) (nd_range' _ _) 0 6 he rfl rfl rfl hl.1 rfl (Nat.le_of_ble_eq_true rfl) ⟨Nat.le_of_ble_eq_true rfl, Nat.le_of_ble_eq_true rfl⟩ dL_append_4) rfl hP hD hS hA _ _ (blk_l _ _) (blk_r _ _) (nd_range' _ _) (blk_dis _ _) rfl (fun H locs hP hD hS => ?_)
    refine lv_i2l (v := v.toInt64) hx hb dL_append_7 rfl ?_
    refine va_last hx hb hK.1 hP hD hS 0 1 rfl rfl (by unfold vp_in; decide) dL_append_8 (fun H locs hP hD hS => ?_)
    refine lv_goto (tgt := 18) hx hb dL_append_9 (by decide) ?_
    refine lv_iconst (v := (0 : Int32)) hx hb dL_append_18 (by decide) ?_
    exact rtZ hx hb hrt hlk (Nat.le_of_ble_eq_true rfl) (Nat.le_of_ble_eq_true rfl) hP hD hS dL_append_19
  · rcases hr n rfl with rfl | rfl
    · refine runX_c (n := 1) (clVX (As := [.int x1]) (rest := [.int 0, .ref out]) hx hb hml hown hts gL_append_X7_append rfl 1 (by decide +kernel) ⟨Nat.le_of_ble_eq_true rfl, Nat.le_of_ble_eq_true rfl⟩ (hM s.heap.size) hP hD hS hA hK hZ _ (blk_l _ _) (nd_range' _ _) 0 6 he rfl rfl rfl hl.1 rfl (Nat.le_of_ble_eq_true rfl) ⟨Nat.le_of_ble_eq_true rfl, Nat.le_of_ble_eq_true rfl⟩ dL_append_4) rfl hP hD hS hA _ _ (blk_l _ _) (blk_r _ _) (nd_range' _ _) (blk_dis _ _) (fun q ce H locs hP hD hS hce hcv hcl => ?_)
      refine vx_catch (own := RL) (name := zE 1) (E := zE 1) hown [] ⟨0, 9, 12, 13⟩ [⟨0, 9, 15, 15⟩] (by rw [hex]; rfl) (fun z hz => absurd hz List.not_mem_nil) (by decide) (by decide) (hts _ (by decide +kernel)) (va_Nw.use rfl (hC.1 1 (Or.inl rfl))) hce hcv hcl ?_
      refine W.eq (g2 := F0 m 12 ls [.ref q]) rfl ?_
      refine lv_astore_n (lv' := [(3, .ref q), (0, .ref o), (1, .int x1), (2, .ref out)]) hx hb dL_append_12 rfl hl (by decide) rfl (fun ls hl => ?_)
      refine lv_iconst (v := (1 : Int32)) hx hb dL_append_13 (by decide) ?_
      exact rtZ hx hb hrt hlk (Nat.le_of_ble_eq_true rfl) (Nat.le_of_ble_eq_true rfl) hP hD hS dL_append_14
    · refine runX_c (n := 2) (clVX (As := [.int x1]) (rest := [.int 0, .ref out]) hx hb hml hown hts gL_append_X7_append rfl 1 (by decide +kernel) ⟨Nat.le_of_ble_eq_true rfl, Nat.le_of_ble_eq_true rfl⟩ (hM s.heap.size) hP hD hS hA hK hZ _ (blk_l _ _) (nd_range' _ _) 0 6 he rfl rfl rfl hl.1 rfl (Nat.le_of_ble_eq_true rfl) ⟨Nat.le_of_ble_eq_true rfl, Nat.le_of_ble_eq_true rfl⟩ dL_append_4) rfl hP hD hS hA _ _ (blk_l _ _) (blk_r _ _) (nd_range' _ _) (blk_dis _ _) (fun q ce H locs hP hD hS hce hcv hcl => ?_)
      refine vx_catch (own := RL) (name := zE 2) (E := zE 2) hown [⟨0, 9, 12, 13⟩] ⟨0, 9, 15, 15⟩ [] (by rw [hex]; rfl) (fun z hz => by rw [List.mem_singleton.mp hz]; exact Or.inr ⟨by decide, zE 1, hts _ (by decide +kernel), hC.2 2 1 (Or.inr (Or.inl rfl)) (Or.inl rfl) (by decide)⟩) (by decide) (by decide) (hts _ (by decide +kernel)) (va_Nw.use rfl (hC.1 2 (Or.inr (Or.inl rfl)))) hce hcv hcl ?_
      refine W.eq (g2 := F0 m 15 ls [.ref q]) rfl ?_
      refine lv_astore_n (lv' := [(3, .ref q), (0, .ref o), (1, .int x1), (2, .ref out)]) hx hb dL_append_15 rfl hl (by decide) rfl (fun ls hl => ?_)
      refine lv_iconst (v := (2 : Int32)) hx hb dL_append_16 (by decide) ?_
      exact rtZ hx hb hrt hlk (Nat.le_of_ble_eq_true rfl) (Nat.le_of_ble_eq_true rfl) hP hD hS dL_append_17
set_option maxRecDepth 100000 in
theorem wr_undo (l : Launch) (hst : l.stackTraces = false) (D : va_G) (ca : Nat → ClassId) {W7 W7' : va_W} {o out : Nat} {fs : List Value} {r : Int32 ⊕ Nat} (g : Nat → Int64) (sz : Nat) (he : W7[0]? = some (o, .inr (6, fs))) (hM : ∀ sz, MX l yX7_undo wsX7_undo 6 133 1 D ca [.ref o] sz W7 (zoi r) W7') (hr : ∀ n, r = .inr n → n = 2) : MZ l yL_undo wsL_undo 7 153 1 D ca [.ref o, .ref out] sz ([(out, .inl (ca 1, 1, .inr (.inl g)))] ++ W7) (some (.int (kcI (fun e => if e = 2 then 1 else 0) r))) ([(out, .inl (ca 1, 1, .inr (.inl (ouI g r))))] ++ W7') := by
  refine hdZ (by decide +kernel) rfl (Nat.le_of_ble_eq_true rfl) ?_
  intro p e s m args below meth c A Q hQ hx hb hrt hml hown hts hlk hex hP hD hK hA hS hZ hC ls hl
  subst hQ
  have hown : s.vm.findClass RL = some m.cls := hown
  have hl : lv_has ls 3 [(0, .ref o), (1, .ref out)] := hl
  have hP := hP.flip
  have hD := hD.flip
  refine lv_aload_n hx hb dL_undo_0 rfl (lv_at hl 1 rfl) ?_
  refine lv_iconst (v := (0 : Int32)) hx hb dL_undo_1 (by decide) ?_
  refine lv_aload_n hx hb dL_undo_2 rfl (lv_at hl 0 rfl) ?_
  rcases r with v | n
  · refine runX_v (st' := [.int v, .int 0, .ref out]) (clVX (As := []) (rest := [.int 0, .ref out]) hx hb hml hown hts gL_undo_X7_undo rfl 0 (by decide +kernel) ⟨Nat.le_of_ble_eq_true rfl, Nat.le_of_ble_eq_true rfl⟩ (hM s.heap.size) hP hD hS hA hK hZ _ (blk_l _ _) (nd_range' _ _) 0 6 he rfl rfl rfl hl.1 rfl (Nat.le_of_ble_eq_true rfl) ⟨Nat.le_of_ble_eq_true rfl, Nat.le_of_ble_eq_true rfl⟩ dL_undo_3) rfl hP hD hS hA _ _ (blk_l _ _) (blk_r _ _) (nd_range' _ _) (blk_dis _ _) rfl (fun H locs hP hD hS => ?_)
    refine lv_i2l (v := v.toInt64) hx hb dL_undo_6 rfl ?_
    refine va_last hx hb hK.1 hP hD hS 0 1 rfl rfl (by unfold vp_in; decide) dL_undo_7 (fun H locs hP hD hS => ?_)
    refine lv_goto (tgt := 14) hx hb dL_undo_8 (by decide) ?_
    refine lv_iconst (v := (0 : Int32)) hx hb dL_undo_14 (by decide) ?_
    exact rtZ hx hb hrt hlk (Nat.le_of_ble_eq_true rfl) (Nat.le_of_ble_eq_true rfl) hP hD hS dL_undo_15
  · obtain rfl := hr n rfl
    refine runX_c (n := 2) (clVX (As := []) (rest := [.int 0, .ref out]) hx hb hml hown hts gL_undo_X7_undo rfl 0 (by decide +kernel) ⟨Nat.le_of_ble_eq_true rfl, Nat.le_of_ble_eq_true rfl⟩ (hM s.heap.size) hP hD hS hA hK hZ _ (blk_l _ _) (nd_range' _ _) 0 6 he rfl rfl rfl hl.1 rfl (Nat.le_of_ble_eq_true rfl) ⟨Nat.le_of_ble_eq_true rfl, Nat.le_of_ble_eq_true rfl⟩ dL_undo_3) rfl hP hD hS hA _ _ (blk_l _ _) (blk_r _ _) (nd_range' _ _) (blk_dis _ _) (fun q ce H locs hP hD hS hce hcv hcl => ?_)
    refine vx_catch (own := RL) (name := zE 2) (E := zE 2) hown [] ⟨0, 8, 11, 15⟩ [] (by rw [hex]; rfl) (fun z hz => absurd hz List.not_mem_nil) (by decide) (by decide) (hts _ (by decide +kernel)) (va_Nw.use rfl (hC.1 2 (Or.inr (Or.inl rfl)))) hce hcv hcl ?_
    refine W.eq (g2 := F0 m 11 ls [.ref q]) rfl ?_
    refine lv_astore_n (lv' := [(2, .ref q), (0, .ref o), (1, .ref out)]) hx hb dL_undo_11 rfl hl (by decide) rfl (fun ls hl => ?_)
    refine lv_iconst (v := (1 : Int32)) hx hb dL_undo_12 (by decide) ?_
    exact rtZ hx hb hrt hlk (Nat.le_of_ble_eq_true rfl) (Nat.le_of_ble_eq_true rfl) hP hD hS dL_undo_13
