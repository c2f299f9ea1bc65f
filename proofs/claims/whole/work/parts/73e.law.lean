section Le
variable {p : Program} {l : Launch} {e : Env} {s : State} {m : MethodId} {args : Array Value} {below : List Frame} {meth : Method} {c : Code} {H : Heap} {locs : List Loc} {cells slots i b L : Nat} {Q : State → Prop} {ls : Array Slot} {A : Nat → Prop} {D : va_G} {ca : Nat → ClassId} {a b0 z : Nat → Nat} {d : Nat → Nat → Nat} {W7 W8 : va_W} {code0 : Int32} {g : Nat → Int64} {out : Nat} {xs : Nat → Int32}
set_option maxRecDepth 100000 in
theorem lc_sum (hst : l.stackTraces = false) (C : lwK p s m args c D ca A b L xs) (hi : i + 7 ≤ L) (hI : Inv ca a b0 d z W7 W8 code0) (hP : va_P D vwCl (([(out, .inl (ca 1, 1, .inr (.inl g)))] ++ W7) ++ W8) H) (hD : va_D A (([(out, .inl (ca 1, 1, .inr (.inl g)))] ++ W7) ++ W8)) (hS : va_S A s.heap H locs) (hl : lv_has ls 8 [(4, .int (iN (i : Int))), (3, .ref out), (2, .ref (z 0)), (1, .ref (a 0)), (0, .ref b)]) (hc : cells + 4 ≤ room_1.cells ∧ slots + 24 ≤ room_1.slots) (kk : lwN p l e s m args below meth c D ca A b i a b0 d z out Q cells slots) : W p l e room_1 s m args below meth c H locs cells slots Q (F0 m 1147 ls []) := by
  obtain ⟨r, V7, V8, bb, cc, hI2, hM7, hM8, hag⟩ := st_sum l hst D hI (ag xs i 1) (ag xs i 2) (ag xs i 3)
  have he7 := inv_x hI
  obtain ⟨fs, he8⟩ := inv_m hI
  have C0 := C
  obtain ⟨hx, hb, hml, hown, hts, hK, hA, hZ, hC, hX, hbl, hbA, hL⟩ := C
  refine lv_aload_n hx hb dL_law_1147 rfl (lv_at hl 3 rfl) ?_
  refine lw_ld (v := 1) C0 hi (by simp) hS (lv_at hl 4 rfl) (lv_at hl 0 rfl) dL_law_1148 dL_law_1149 dL_law_1151 (by decide) dL_law_1152 dL_law_1153 ?_
  refine lw_ld (v := 2) C0 hi (by simp) hS (lv_at hl 4 rfl) (lv_at hl 0 rfl) dL_law_1154 dL_law_1155 dL_law_1157 (by decide) dL_law_1158 dL_law_1159 ?_
  refine lw_ld (v := 3) C0 hi (by simp) hS (lv_at hl 4 rfl) (lv_at hl 0 rfl) dL_law_1160 dL_law_1161 dL_law_1163 (by decide) dL_law_1164 dL_law_1165 ?_
  refine lv_aload_n hx hb dL_law_1166 rfl (lv_at hl 1 rfl) ?_
  refine clSZ (As := [.ref (a 0), .int (ag xs i 1), .int (ag xs i 2), .int (ag xs i 3), .ref out]) (rest := []) (st' := [.int (kcL (fun e => if e = 1 then 1 else 0) r)]) hx hb hml hown hts gL_law_L_sum rfl 5 (by decide +kernel) ⟨Nat.le_of_ble_eq_true rfl, Nat.le_of_ble_eq_true rfl⟩ (wr_sum l hst D ca _ _ _ g H.size he7 hM7 (fun n hn => kn1 (agL_n hag hn))) hP hD hS hA hK hZ hC rfl hl.1 rfl (Nat.le_of_ble_eq_true rfl) ⟨by omega, by omega⟩ dL_law_1167 rfl (fun H locs hP hD hS => ?_)
  refine W.widen (k := cells + 4) (n := slots + 24) (by omega) (by omega) ?_
  refine lv_istore (lv' := [(5, .int (kcL (fun e => if e = 1 then 1 else 0) r)), (4, .int (iN (i : Int))), (3, .ref out), (2, .ref (z 0)), (1, .ref (a 0)), (0, .ref b)]) hx hb dL_law_1170 hl (by decide) rfl (fun ls hl => ?_)
  refine lv_aload_n hx hb dL_law_1172 rfl (lv_at hl 3 rfl) ?_
  refine lw_ld (v := 1) C0 hi (by simp) hS (lv_at hl 5 rfl) (lv_at hl 1 rfl) dL_law_1173 dL_law_1174 dL_law_1176 (by decide) dL_law_1177 dL_law_1178 ?_
  refine lw_ld (v := 2) C0 hi (by simp) hS (lv_at hl 5 rfl) (lv_at hl 1 rfl) dL_law_1179 dL_law_1180 dL_law_1182 (by decide) dL_law_1183 dL_law_1184 ?_
  refine lw_ld (v := 3) C0 hi (by simp) hS (lv_at hl 5 rfl) (lv_at hl 1 rfl) dL_law_1185 dL_law_1186 dL_law_1188 (by decide) dL_law_1189 dL_law_1190 ?_
  refine clVWb (As := [.int (ag xs i 1), .int (ag xs i 2), .int (ag xs i 3)]) (rest := []) (st' := [.long bb]) hx hb hml hown hts gL_law_X8_sum rfl 3 (by decide +kernel) ⟨Nat.le_of_ble_eq_true rfl, Nat.le_of_ble_eq_true rfl⟩ (hM8 H.size) hP.flip hD.flip hS hA hK 0 7 he8 rfl rfl rfl hl.1 rfl (Nat.le_of_ble_eq_true rfl) hc dL_law_1191 rfl (fun H locs hP hD hS => ?_)
  refine lv_lstore (lv' := [(6, .long bb), (5, .int (kcL (fun e => if e = 1 then 1 else 0) r)), (4, .int (iN (i : Int))), (3, .ref out), (2, .ref (z 0)), (1, .ref (a 0)), (0, .ref b)]) hx hb dL_law_1194 hl (by decide) rfl (fun ls hl => ?_)
  exact lw_tlL C0 (show tlL 1196 1143 from ⟨dL_law_1196, dL_law_1197, dL_law_1200, dL_law_1202, dL_law_1207, dL_law_1209, dL_law_1212, dL_law_1213, dL_law_1214, dL_law_1215, dL_law_1217, dL_law_1218, dL_law_1223, by decide⟩) hI2 (agL_code hag) (agL_out g hag) hc hP.flip hD.flip hS hl (fun H locs hP hD hS => kk H locs ls V7 V8 cc _ hI2 hP hD hS (lv_sub hl [2, 3, 4, 5, 6] rfl))
set_option maxRecDepth 100000 in
theorem lc_visible (hst : l.stackTraces = false) (C : lwK p s m args c D ca A b L xs) (hi : i + 7 ≤ L) (hI : Inv ca a b0 d z W7 W8 code0) (hP : va_P D vwCl (([(out, .inl (ca 1, 1, .inr (.inl g)))] ++ W7) ++ W8) H) (hD : va_D A (([(out, .inl (ca 1, 1, .inr (.inl g)))] ++ W7) ++ W8)) (hS : va_S A s.heap H locs) (hl : lv_has ls 8 [(4, .int (iN (i : Int))), (3, .ref out), (2, .ref (z 0)), (1, .ref (a 0)), (0, .ref b)]) (hc : cells + 4 ≤ room_1.cells ∧ slots + 24 ≤ room_1.slots) (kk : lwN p l e s m args below meth c D ca A b i a b0 d z out Q cells slots) : W p l e room_1 s m args below meth c H locs cells slots Q (F0 m 1226 ls []) := by
  obtain ⟨r, V7, V8, bb, cc, hI2, hM7, hM8, hag⟩ := st_visible l hst D hI (ag xs i 1) (ag xs i 2)
  have he7 := inv_x hI
  obtain ⟨fs, he8⟩ := inv_m hI
  have C0 := C
  obtain ⟨hx, hb, hml, hown, hts, hK, hA, hZ, hC, hX, hbl, hbA, hL⟩ := C
  refine lv_aload_n hx hb dL_law_1226 rfl (lv_at hl 3 rfl) ?_
  refine lw_ld (v := 1) C0 hi (by simp) hS (lv_at hl 4 rfl) (lv_at hl 0 rfl) dL_law_1227 dL_law_1228 dL_law_1230 (by decide) dL_law_1231 dL_law_1232 ?_
  refine lw_ld (v := 2) C0 hi (by simp) hS (lv_at hl 4 rfl) (lv_at hl 0 rfl) dL_law_1233 dL_law_1234 dL_law_1236 (by decide) dL_law_1237 dL_law_1238 ?_
  refine lv_aload_n hx hb dL_law_1239 rfl (lv_at hl 1 rfl) ?_
  refine clSZ (As := [.ref (a 0), .int (ag xs i 1), .int (ag xs i 2), .ref out]) (rest := []) (st' := [.int (kcI (fun e => if e = 3 then 1 else if e = 1 then 2 else 0) r)]) hx hb hml hown hts gL_law_L_visible rfl 4 (by decide +kernel) ⟨Nat.le_of_ble_eq_true rfl, Nat.le_of_ble_eq_true rfl⟩ (wr_visible l hst D ca _ _ g H.size he7 hM7 (fun n hn => kn2 (agI_n hag hn))) hP hD hS hA hK hZ hC rfl hl.1 rfl (Nat.le_of_ble_eq_true rfl) ⟨by omega, by omega⟩ dL_law_1240 rfl (fun H locs hP hD hS => ?_)
  refine W.widen (k := cells + 4) (n := slots + 24) (by omega) (by omega) ?_
  refine lv_istore (lv' := [(5, .int (kcI (fun e => if e = 3 then 1 else if e = 1 then 2 else 0) r)), (4, .int (iN (i : Int))), (3, .ref out), (2, .ref (z 0)), (1, .ref (a 0)), (0, .ref b)]) hx hb dL_law_1243 hl (by decide) rfl (fun ls hl => ?_)
  refine lv_aload_n hx hb dL_law_1245 rfl (lv_at hl 3 rfl) ?_
  refine lw_ld (v := 1) C0 hi (by simp) hS (lv_at hl 5 rfl) (lv_at hl 1 rfl) dL_law_1246 dL_law_1247 dL_law_1249 (by decide) dL_law_1250 dL_law_1251 ?_
  refine lw_ld (v := 2) C0 hi (by simp) hS (lv_at hl 5 rfl) (lv_at hl 1 rfl) dL_law_1252 dL_law_1253 dL_law_1255 (by decide) dL_law_1256 dL_law_1257 ?_
  refine clVWb (As := [.int (ag xs i 1), .int (ag xs i 2)]) (rest := []) (st' := [.int bb]) hx hb hml hown hts gL_law_X8_visible rfl 2 (by decide +kernel) ⟨Nat.le_of_ble_eq_true rfl, Nat.le_of_ble_eq_true rfl⟩ (hM8 H.size) hP.flip hD.flip hS hA hK 0 7 he8 rfl rfl rfl hl.1 rfl (Nat.le_of_ble_eq_true rfl) hc dL_law_1258 rfl (fun H locs hP hD hS => ?_)
  refine lv_istore (lv' := [(6, .int bb), (5, .int (kcI (fun e => if e = 3 then 1 else if e = 1 then 2 else 0) r)), (4, .int (iN (i : Int))), (3, .ref out), (2, .ref (z 0)), (1, .ref (a 0)), (0, .ref b)]) hx hb dL_law_1261 hl (by decide) rfl (fun ls hl => ?_)
  exact lw_tlI C0 (show tlI 1263 1075 from ⟨dL_law_1263, dL_law_1264, dL_law_1267, dL_law_1269, dL_law_1274, dL_law_1276, dL_law_1279, dL_law_1280, dL_law_1281, dL_law_1282, dL_law_1284, dL_law_1285, dL_law_1286, dL_law_1291, by decide⟩) hI2 (agI_code hag) (agI_out g hag) hc hP.flip hD.flip hS hl (fun H locs hP hD hS => kk H locs ls V7 V8 cc _ hI2 hP hD hS (lv_sub hl [2, 3, 4, 5, 6] rfl))
set_option maxRecDepth 100000 in
theorem lc_hidden (hst : l.stackTraces = false) (C : lwK p s m args c D ca A b L xs) (hi : i + 7 ≤ L) (hI : Inv ca a b0 d z W7 W8 code0) (hP : va_P D vwCl (([(out, .inl (ca 1, 1, .inr (.inl g)))] ++ W7) ++ W8) H) (hD : va_D A (([(out, .inl (ca 1, 1, .inr (.inl g)))] ++ W7) ++ W8)) (hS : va_S A s.heap H locs) (hl : lv_has ls 8 [(4, .int (iN (i : Int))), (3, .ref out), (2, .ref (z 0)), (1, .ref (a 0)), (0, .ref b)]) (hc : cells + 4 ≤ room_1.cells ∧ slots + 24 ≤ room_1.slots) (kk : lwN p l e s m args below meth c D ca A b i a b0 d z out Q cells slots) : W p l e room_1 s m args below meth c H locs cells slots Q (F0 m 1294 ls []) := by
  obtain ⟨r, V7, V8, bb, cc, hI2, hM7, hM8, hag⟩ := st_hidden l hst D hI (ag xs i 1)
  have he7 := inv_x hI
  obtain ⟨fs, he8⟩ := inv_m hI
  have C0 := C
  obtain ⟨hx, hb, hml, hown, hts, hK, hA, hZ, hC, hX, hbl, hbA, hL⟩ := C
  refine lv_aload_n hx hb dL_law_1294 rfl (lv_at hl 3 rfl) ?_
  refine lw_ld (v := 1) C0 hi (by simp) hS (lv_at hl 4 rfl) (lv_at hl 0 rfl) dL_law_1295 dL_law_1296 dL_law_1298 (by decide) dL_law_1299 dL_law_1300 ?_
  refine lv_aload_n hx hb dL_law_1301 rfl (lv_at hl 1 rfl) ?_
  refine clSZ (As := [.ref (a 0), .int (ag xs i 1), .ref out]) (rest := []) (st' := [.int (kcI (fun e => if e = 1 then 1 else 0) r)]) hx hb hml hown hts gL_law_L_hidden rfl 3 (by decide +kernel) ⟨Nat.le_of_ble_eq_true rfl, Nat.le_of_ble_eq_true rfl⟩ (wr_hidden l hst D ca _ g H.size he7 hM7 (fun n hn => kn1 (agI_n hag hn))) hP hD hS hA hK hZ hC rfl hl.1 rfl (Nat.le_of_ble_eq_true rfl) ⟨by omega, by omega⟩ dL_law_1302 rfl (fun H locs hP hD hS => ?_)
  refine W.widen (k := cells + 4) (n := slots + 24) (by omega) (by omega) ?_
  refine lv_istore (lv' := [(5, .int (kcI (fun e => if e = 1 then 1 else 0) r)), (4, .int (iN (i : Int))), (3, .ref out), (2, .ref (z 0)), (1, .ref (a 0)), (0, .ref b)]) hx hb dL_law_1305 hl (by decide) rfl (fun ls hl => ?_)
  refine lv_aload_n hx hb dL_law_1307 rfl (lv_at hl 3 rfl) ?_
  refine lw_ld (v := 1) C0 hi (by simp) hS (lv_at hl 5 rfl) (lv_at hl 1 rfl) dL_law_1308 dL_law_1309 dL_law_1311 (by decide) dL_law_1312 dL_law_1313 ?_
  refine clVWb (As := [.int (ag xs i 1)]) (rest := []) (st' := [.int bb]) hx hb hml hown hts gL_law_X8_hidden rfl 1 (by decide +kernel) ⟨Nat.le_of_ble_eq_true rfl, Nat.le_of_ble_eq_true rfl⟩ (hM8 H.size) hP.flip hD.flip hS hA hK 0 7 he8 rfl rfl rfl hl.1 rfl (Nat.le_of_ble_eq_true rfl) hc dL_law_1314 rfl (fun H locs hP hD hS => ?_)
  refine lv_istore (lv' := [(6, .int bb), (5, .int (kcI (fun e => if e = 1 then 1 else 0) r)), (4, .int (iN (i : Int))), (3, .ref out), (2, .ref (z 0)), (1, .ref (a 0)), (0, .ref b)]) hx hb dL_law_1317 hl (by decide) rfl (fun ls hl => ?_)
  exact lw_tlI C0 (show tlI 1319 1019 from ⟨dL_law_1319, dL_law_1320, dL_law_1323, dL_law_1325, dL_law_1330, dL_law_1332, dL_law_1335, dL_law_1336, dL_law_1337, dL_law_1338, dL_law_1340, dL_law_1341, dL_law_1342, dL_law_1347, by decide⟩) hI2 (agI_code hag) (agI_out g hag) hc hP.flip hD.flip hS hl (fun H locs hP hD hS => kk H locs ls V7 V8 cc _ hI2 hP hD hS (lv_sub hl [2, 3, 4, 5, 6] rfl))
set_option maxRecDepth 100000 in
theorem lc_extreme (hst : l.stackTraces = false) (C : lwK p s m args c D ca A b L xs) (hi : i + 7 ≤ L) (hI : Inv ca a b0 d z W7 W8 code0) (hP : va_P D vwCl (([(out, .inl (ca 1, 1, .inr (.inl g)))] ++ W7) ++ W8) H) (hD : va_D A (([(out, .inl (ca 1, 1, .inr (.inl g)))] ++ W7) ++ W8)) (hS : va_S A s.heap H locs) (hl : lv_has ls 8 [(4, .int (iN (i : Int))), (3, .ref out), (2, .ref (z 0)), (1, .ref (a 0)), (0, .ref b)]) (hc : cells + 4 ≤ room_1.cells ∧ slots + 24 ≤ room_1.slots) (kk : lwN p l e s m args below meth c D ca A b i a b0 d z out Q cells slots) : W p l e room_1 s m args below meth c H locs cells slots Q (F0 m 1350 ls []) := by
  obtain ⟨r, V7, V8, bb, cc, hI2, hM7, hM8, hag⟩ := st_extreme l hst D hI (ag xs i 1) (bo (ag xs i 2))
  have he7 := inv_x hI
  obtain ⟨fs, he8⟩ := inv_m hI
  have C0 := C
  obtain ⟨hx, hb, hml, hown, hts, hK, hA, hZ, hC, hX, hbl, hbA, hL⟩ := C
  refine lv_aload_n hx hb dL_law_1350 rfl (lv_at hl 3 rfl) ?_
  refine lw_ld (v := 1) C0 hi (by simp) hS (lv_at hl 4 rfl) (lv_at hl 0 rfl) dL_law_1351 dL_law_1352 dL_law_1354 (by decide) dL_law_1355 dL_law_1356 ?_
  refine lw_ld (v := 2) C0 hi (by simp) hS (lv_at hl 4 rfl) (lv_at hl 0 rfl) dL_law_1357 dL_law_1358 dL_law_1360 (by decide) dL_law_1361 dL_law_1362 ?_
  refine lw_bo hx hb dL_law_1363 dL_law_1366 dL_law_1367 dL_law_1370 ?_
  refine lv_aload_n hx hb dL_law_1371 rfl (lv_at hl 1 rfl) ?_
  refine clSZ (As := [.ref (a 0), .int (ag xs i 1), .int (bo (ag xs i 2)), .ref out]) (rest := []) (st' := [.int (kcI (fun e => if e = 1 then 1 else 0) r)]) hx hb hml hown hts gL_law_L_extreme rfl 4 (by decide +kernel) ⟨Nat.le_of_ble_eq_true rfl, Nat.le_of_ble_eq_true rfl⟩ (wr_extreme l hst D ca _ _ g H.size he7 hM7 (fun n hn => kn1 (agI_n hag hn))) hP hD hS hA hK hZ hC rfl hl.1 rfl (Nat.le_of_ble_eq_true rfl) ⟨by omega, by omega⟩ dL_law_1372 rfl (fun H locs hP hD hS => ?_)
  refine W.widen (k := cells + 4) (n := slots + 24) (by omega) (by omega) ?_
  refine lv_istore (lv' := [(5, .int (kcI (fun e => if e = 1 then 1 else 0) r)), (4, .int (iN (i : Int))), (3, .ref out), (2, .ref (z 0)), (1, .ref (a 0)), (0, .ref b)]) hx hb dL_law_1375 hl (by decide) rfl (fun ls hl => ?_)
  refine lv_aload_n hx hb dL_law_1377 rfl (lv_at hl 3 rfl) ?_
  refine lw_ld (v := 1) C0 hi (by simp) hS (lv_at hl 5 rfl) (lv_at hl 1 rfl) dL_law_1378 dL_law_1379 dL_law_1381 (by decide) dL_law_1382 dL_law_1383 ?_
  refine lw_ld (v := 2) C0 hi (by simp) hS (lv_at hl 5 rfl) (lv_at hl 1 rfl) dL_law_1384 dL_law_1385 dL_law_1387 (by decide) dL_law_1388 dL_law_1389 ?_
  refine lw_bo hx hb dL_law_1390 dL_law_1393 dL_law_1394 dL_law_1397 ?_
  refine clVWb (As := [.int (ag xs i 1), .int (bo (ag xs i 2))]) (rest := []) (st' := [.int bb]) hx hb hml hown hts gL_law_X8_extreme rfl 2 (by decide +kernel) ⟨Nat.le_of_ble_eq_true rfl, Nat.le_of_ble_eq_true rfl⟩ (hM8 H.size) hP.flip hD.flip hS hA hK 0 7 he8 rfl rfl rfl hl.1 rfl (Nat.le_of_ble_eq_true rfl) hc dL_law_1398 rfl (fun H locs hP hD hS => ?_)
  refine lv_istore (lv' := [(6, .int bb), (5, .int (kcI (fun e => if e = 1 then 1 else 0) r)), (4, .int (iN (i : Int))), (3, .ref out), (2, .ref (z 0)), (1, .ref (a 0)), (0, .ref b)]) hx hb dL_law_1401 hl (by decide) rfl (fun ls hl => ?_)
  exact lw_tlI C0 (show tlI 1403 935 from ⟨dL_law_1403, dL_law_1404, dL_law_1407, dL_law_1409, dL_law_1414, dL_law_1416, dL_law_1419, dL_law_1420, dL_law_1421, dL_law_1422, dL_law_1424, dL_law_1425, dL_law_1426, dL_law_1431, by decide⟩) hI2 (agI_code hag) (agI_out g hag) hc hP.flip hD.flip hS hl (fun H locs hP hD hS => kk H locs ls V7 V8 cc _ hI2 hP hD hS (lv_sub hl [2, 3, 4, 5, 6] rfl))
set_option maxRecDepth 100000 in
theorem lc_changes (hst : l.stackTraces = false) (C : lwK p s m args c D ca A b L xs) (hi : i + 7 ≤ L) (hI : Inv ca a b0 d z W7 W8 code0) (hP : va_P D vwCl (([(out, .inl (ca 1, 1, .inr (.inl g)))] ++ W7) ++ W8) H) (hD : va_D A (([(out, .inl (ca 1, 1, .inr (.inl g)))] ++ W7) ++ W8)) (hS : va_S A s.heap H locs) (hl : lv_has ls 8 [(4, .int (iN (i : Int))), (3, .ref out), (2, .ref (z 0)), (1, .ref (a 0)), (0, .ref b)]) (hc : cells + 4 ≤ room_1.cells ∧ slots + 24 ≤ room_1.slots) (kk : lwN p l e s m args below meth c D ca A b i a b0 d z out Q cells slots) : W p l e room_1 s m args below meth c H locs cells slots Q (F0 m 1434 ls []) := by
  obtain ⟨r, V7, V8, bb, cc, hI2, hM7, hM8, hag⟩ := st_changes l hst D hI (ag xs i 1) (ag xs i 2) (ag xs i 3)
  have he7 := inv_x hI
  obtain ⟨fs, he8⟩ := inv_m hI
  have C0 := C
  obtain ⟨hx, hb, hml, hown, hts, hK, hA, hZ, hC, hX, hbl, hbA, hL⟩ := C
  refine lv_aload_n hx hb dL_law_1434 rfl (lv_at hl 3 rfl) ?_
  refine lw_ld (v := 1) C0 hi (by simp) hS (lv_at hl 4 rfl) (lv_at hl 0 rfl) dL_law_1435 dL_law_1436 dL_law_1438 (by decide) dL_law_1439 dL_law_1440 ?_
  refine lw_ld (v := 2) C0 hi (by simp) hS (lv_at hl 4 rfl) (lv_at hl 0 rfl) dL_law_1441 dL_law_1442 dL_law_1444 (by decide) dL_law_1445 dL_law_1446 ?_
  refine lw_ld (v := 3) C0 hi (by simp) hS (lv_at hl 4 rfl) (lv_at hl 0 rfl) dL_law_1447 dL_law_1448 dL_law_1450 (by decide) dL_law_1451 dL_law_1452 ?_
  refine lv_aload_n hx hb dL_law_1453 rfl (lv_at hl 1 rfl) ?_
  refine clSZ (As := [.ref (a 0), .int (ag xs i 1), .int (ag xs i 2), .int (ag xs i 3), .ref out]) (rest := []) (st' := [.int (kcI (fun e => if e = 1 then 1 else 0) r)]) hx hb hml hown hts gL_law_L_changes rfl 5 (by decide +kernel) ⟨Nat.le_of_ble_eq_true rfl, Nat.le_of_ble_eq_true rfl⟩ (wr_changes l hst D ca _ _ _ g H.size he7 hM7 (fun n hn => kn1 (agI_n hag hn))) hP hD hS hA hK hZ hC rfl hl.1 rfl (Nat.le_of_ble_eq_true rfl) ⟨by omega, by omega⟩ dL_law_1454 rfl (fun H locs hP hD hS => ?_)
  refine W.widen (k := cells + 4) (n := slots + 24) (by omega) (by omega) ?_
  refine lv_istore (lv' := [(5, .int (kcI (fun e => if e = 1 then 1 else 0) r)), (4, .int (iN (i : Int))), (3, .ref out), (2, .ref (z 0)), (1, .ref (a 0)), (0, .ref b)]) hx hb dL_law_1457 hl (by decide) rfl (fun ls hl => ?_)
  refine lv_aload_n hx hb dL_law_1459 rfl (lv_at hl 3 rfl) ?_
  refine lw_ld (v := 1) C0 hi (by simp) hS (lv_at hl 5 rfl) (lv_at hl 1 rfl) dL_law_1460 dL_law_1461 dL_law_1463 (by decide) dL_law_1464 dL_law_1465 ?_
  refine lw_ld (v := 2) C0 hi (by simp) hS (lv_at hl 5 rfl) (lv_at hl 1 rfl) dL_law_1466 dL_law_1467 dL_law_1469 (by decide) dL_law_1470 dL_law_1471 ?_
  refine lw_ld (v := 3) C0 hi (by simp) hS (lv_at hl 5 rfl) (lv_at hl 1 rfl) dL_law_1472 dL_law_1473 dL_law_1475 (by decide) dL_law_1476 dL_law_1477 ?_
  refine clVWb (As := [.int (ag xs i 1), .int (ag xs i 2), .int (ag xs i 3)]) (rest := []) (st' := [.int bb]) hx hb hml hown hts gL_law_X8_changes rfl 3 (by decide +kernel) ⟨Nat.le_of_ble_eq_true rfl, Nat.le_of_ble_eq_true rfl⟩ (hM8 H.size) hP.flip hD.flip hS hA hK 0 7 he8 rfl rfl rfl hl.1 rfl (Nat.le_of_ble_eq_true rfl) hc dL_law_1478 rfl (fun H locs hP hD hS => ?_)
  refine lv_istore (lv' := [(6, .int bb), (5, .int (kcI (fun e => if e = 1 then 1 else 0) r)), (4, .int (iN (i : Int))), (3, .ref out), (2, .ref (z 0)), (1, .ref (a 0)), (0, .ref b)]) hx hb dL_law_1481 hl (by decide) rfl (fun ls hl => ?_)
  exact lw_tlI C0 (show tlI 1483 855 from ⟨dL_law_1483, dL_law_1484, dL_law_1487, dL_law_1489, dL_law_1494, dL_law_1496, dL_law_1499, dL_law_1500, dL_law_1501, dL_law_1502, dL_law_1504, dL_law_1505, dL_law_1506, dL_law_1511, by decide⟩) hI2 (agI_code hag) (agI_out g hag) hc hP.flip hD.flip hS hl (fun H locs hP hD hS => kk H locs ls V7 V8 cc _ hI2 hP hD hS (lv_sub hl [2, 3, 4, 5, 6] rfl))
set_option maxRecDepth 100000 in
theorem lc_nextChange (hst : l.stackTraces = false) (C : lwK p s m args c D ca A b L xs) (hi : i + 7 ≤ L) (hI : Inv ca a b0 d z W7 W8 code0) (hP : va_P D vwCl (([(out, .inl (ca 1, 1, .inr (.inl g)))] ++ W7) ++ W8) H) (hD : va_D A (([(out, .inl (ca 1, 1, .inr (.inl g)))] ++ W7) ++ W8)) (hS : va_S A s.heap H locs) (hl : lv_has ls 8 [(4, .int (iN (i : Int))), (3, .ref out), (2, .ref (z 0)), (1, .ref (a 0)), (0, .ref b)]) (hc : cells + 4 ≤ room_1.cells ∧ slots + 24 ≤ room_1.slots) (kk : lwN p l e s m args below meth c D ca A b i a b0 d z out Q cells slots) : W p l e room_1 s m args below meth c H locs cells slots Q (F0 m 1514 ls []) := by
  obtain ⟨r, V7, V8, bb, cc, hI2, hM7, hM8, hag⟩ := st_nextChange l hst D hI (ag xs i 1) (ag xs i 2)
  have he7 := inv_x hI
  obtain ⟨fs, he8⟩ := inv_m hI
  have C0 := C
  obtain ⟨hx, hb, hml, hown, hts, hK, hA, hZ, hC, hX, hbl, hbA, hL⟩ := C
  refine lv_aload_n hx hb dL_law_1514 rfl (lv_at hl 3 rfl) ?_
  refine lw_ld (v := 1) C0 hi (by simp) hS (lv_at hl 4 rfl) (lv_at hl 0 rfl) dL_law_1515 dL_law_1516 dL_law_1518 (by decide) dL_law_1519 dL_law_1520 ?_
  refine lw_ld (v := 2) C0 hi (by simp) hS (lv_at hl 4 rfl) (lv_at hl 0 rfl) dL_law_1521 dL_law_1522 dL_law_1524 (by decide) dL_law_1525 dL_law_1526 ?_
  refine lv_aload_n hx hb dL_law_1527 rfl (lv_at hl 1 rfl) ?_
  refine clSZ (As := [.ref (a 0), .int (ag xs i 1), .int (ag xs i 2), .ref out]) (rest := []) (st' := [.int (kcI (fun e => if e = 1 then 1 else 0) r)]) hx hb hml hown hts gL_law_L_nextChange rfl 4 (by decide +kernel) ⟨Nat.le_of_ble_eq_true rfl, Nat.le_of_ble_eq_true rfl⟩ (wr_nextChange l hst D ca _ _ g H.size he7 hM7 (fun n hn => kn1 (agI_n hag hn))) hP hD hS hA hK hZ hC rfl hl.1 rfl (Nat.le_of_ble_eq_true rfl) ⟨by omega, by omega⟩ dL_law_1528 rfl (fun H locs hP hD hS => ?_)
  refine W.widen (k := cells + 4) (n := slots + 24) (by omega) (by omega) ?_
  refine lv_istore (lv' := [(5, .int (kcI (fun e => if e = 1 then 1 else 0) r)), (4, .int (iN (i : Int))), (3, .ref out), (2, .ref (z 0)), (1, .ref (a 0)), (0, .ref b)]) hx hb dL_law_1531 hl (by decide) rfl (fun ls hl => ?_)
  refine lv_aload_n hx hb dL_law_1533 rfl (lv_at hl 3 rfl) ?_
  refine lw_ld (v := 1) C0 hi (by simp) hS (lv_at hl 5 rfl) (lv_at hl 1 rfl) dL_law_1534 dL_law_1535 dL_law_1537 (by decide) dL_law_1538 dL_law_1539 ?_
  refine lw_ld (v := 2) C0 hi (by simp) hS (lv_at hl 5 rfl) (lv_at hl 1 rfl) dL_law_1540 dL_law_1541 dL_law_1543 (by decide) dL_law_1544 dL_law_1545 ?_
  refine clVWb (As := [.int (ag xs i 1), .int (ag xs i 2)]) (rest := []) (st' := [.int bb]) hx hb hml hown hts gL_law_X8_nextChange rfl 2 (by decide +kernel) ⟨Nat.le_of_ble_eq_true rfl, Nat.le_of_ble_eq_true rfl⟩ (hM8 H.size) hP.flip hD.flip hS hA hK 0 7 he8 rfl rfl rfl hl.1 rfl (Nat.le_of_ble_eq_true rfl) hc dL_law_1546 rfl (fun H locs hP hD hS => ?_)
  refine lv_istore (lv' := [(6, .int bb), (5, .int (kcI (fun e => if e = 1 then 1 else 0) r)), (4, .int (iN (i : Int))), (3, .ref out), (2, .ref (z 0)), (1, .ref (a 0)), (0, .ref b)]) hx hb dL_law_1549 hl (by decide) rfl (fun ls hl => ?_)
  exact lw_tlI C0 (show tlI 1551 787 from ⟨dL_law_1551, dL_law_1552, dL_law_1555, dL_law_1557, dL_law_1562, dL_law_1564, dL_law_1567, dL_law_1568, dL_law_1569, dL_law_1570, dL_law_1572, dL_law_1573, dL_law_1574, dL_law_1579, by decide⟩) hI2 (agI_code hag) (agI_out g hag) hc hP.flip hD.flip hS hl (fun H locs hP hD hS => kk H locs ls V7 V8 cc _ hI2 hP hD hS (lv_sub hl [2, 3, 4, 5, 6] rfl))
end Le
