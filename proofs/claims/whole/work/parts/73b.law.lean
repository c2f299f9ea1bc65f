/-- behind a command: the two systems agree again -/
def lwN (p : Program) (l : Launch) (e : Env) (s : State) (m : MethodId) (args : Array Value) (below : List Frame) (meth : Method) (c : Code) (D : va_G) (ca : Nat → ClassId) (A : Nat → Prop) (b i : Nat) (a b0 : Nat → Nat) (d : Nat → Nat → Nat) (z : Nat → Nat) (out : Nat) (Q : State → Prop) (cells slots : Nat) : Prop :=
  ∀ (H : Heap) (locs : List Loc) (ls : Array Slot) (W7 W8 : va_W) (code0 : Int32) (g : Nat → Int64), Inv ca a b0 d z W7 W8 code0 → va_P D vwCl (([(out, .inl (ca 1, 1, .inr (.inl g)))] ++ W7) ++ W8) H → va_D A (([(out, .inl (ca 1, 1, .inr (.inl g)))] ++ W7) ++ W8) → va_S A s.heap H locs → lv_has ls 8 [(4, .int (iN (i : Int))), (3, .ref out), (2, .ref (z 0)), (1, .ref (a 0)), (0, .ref b)] → W p l e room_1 s m args below meth c H locs (cells + 4) (slots + 24) Q (F0 m 2366 ls [])
section L0
variable {p : Program} {l : Launch} {e : Env} {s : State} {m : MethodId} {args : Array Value} {below : List Frame} {meth : Method} {c : Code} {H : Heap} {locs : List Loc} {cells slots i b L : Nat} {Q : State → Prop} {ls : Array Slot} {A : Nat → Prop} {D : va_G} {ca : Nat → ClassId} {a b0 z : Nat → Nat} {d : Nat → Nat → Nat} {W7 W8 : va_W} {code0 : Int32} {g : Nat → Int64} {out : Nat} {xs : Nat → Int32}
set_option maxRecDepth 100000 in
theorem lc_add (hst : l.stackTraces = false) (C : lwK p s m args c D ca A b L xs) (hi : i + 7 ≤ L) (hI : Inv ca a b0 d z W7 W8 code0) (hP : va_P D vwCl (([(out, .inl (ca 1, 1, .inr (.inl g)))] ++ W7) ++ W8) H) (hD : va_D A (([(out, .inl (ca 1, 1, .inr (.inl g)))] ++ W7) ++ W8)) (hS : va_S A s.heap H locs) (hl : lv_has ls 8 [(4, .int (iN (i : Int))), (3, .ref out), (2, .ref (z 0)), (1, .ref (a 0)), (0, .ref b)]) (hc : cells + 4 ≤ room_1.cells ∧ slots + 24 ≤ room_1.slots) (kk : lwN p l e s m args below meth c D ca A b i a b0 d z out Q cells slots) : W p l e room_1 s m args below meth c H locs cells slots Q (F0 m 200 ls []) := by
  obtain ⟨r, V7, V8, bb, cc, hI2, hM7, hM8, hag⟩ := st_add l hst D hI (ag xs i 1) (ag xs i 2) (ag xs i 3) (ag xs i 4)
  have he7 := inv_x hI
  obtain ⟨fs, he8⟩ := inv_m hI
  have C0 := C
  obtain ⟨hx, hb, hml, hown, hts, hK, hA, hZ, hC, hX, hbl, hbA, hL⟩ := C
  refine lv_aload_n hx hb dL_law_200 rfl (lv_at hl 3 rfl) ?_
  refine lw_ld (v := 1) C0 hi (by simp) hS (lv_at hl 4 rfl) (lv_at hl 0 rfl) dL_law_201 dL_law_202 dL_law_204 (by decide) dL_law_205 dL_law_206 ?_
  refine lw_ld (v := 2) C0 hi (by simp) hS (lv_at hl 4 rfl) (lv_at hl 0 rfl) dL_law_207 dL_law_208 dL_law_210 (by decide) dL_law_211 dL_law_212 ?_
  refine lw_ld (v := 3) C0 hi (by simp) hS (lv_at hl 4 rfl) (lv_at hl 0 rfl) dL_law_213 dL_law_214 dL_law_216 (by decide) dL_law_217 dL_law_218 ?_
  refine lw_ld (v := 4) C0 hi (by simp) hS (lv_at hl 4 rfl) (lv_at hl 0 rfl) dL_law_219 dL_law_220 dL_law_222 (by decide) dL_law_223 dL_law_224 ?_
  refine lv_aload_n hx hb dL_law_225 rfl (lv_at hl 1 rfl) ?_
  refine clSZ (As := [.ref (a 0), .int (ag xs i 1), .int (ag xs i 2), .int (ag xs i 3), .int (ag xs i 4), .ref out]) (rest := []) (st' := [.int (kcI (fun e => if e = 1 then 1 else if e = 2 then 2 else 0) r)]) hx hb hml hown hts gL_law_L_add rfl 6 (by decide +kernel) ⟨Nat.le_of_ble_eq_true rfl, Nat.le_of_ble_eq_true rfl⟩ (wr_add l hst D ca _ _ _ _ g H.size he7 hM7 (fun n hn => kn2 (agI_n hag hn))) hP hD hS hA hK hZ hC rfl hl.1 rfl (Nat.le_of_ble_eq_true rfl) ⟨by omega, by omega⟩ dL_law_226 rfl (fun H locs hP hD hS => ?_)
  refine W.widen (k := cells + 4) (n := slots + 24) (by omega) (by omega) ?_
  refine lv_istore (lv' := [(5, .int (kcI (fun e => if e = 1 then 1 else if e = 2 then 2 else 0) r)), (4, .int (iN (i : Int))), (3, .ref out), (2, .ref (z 0)), (1, .ref (a 0)), (0, .ref b)]) hx hb dL_law_229 hl (by decide) rfl (fun ls hl => ?_)
  refine lv_aload_n hx hb dL_law_231 rfl (lv_at hl 3 rfl) ?_
  refine lw_ld (v := 1) C0 hi (by simp) hS (lv_at hl 5 rfl) (lv_at hl 1 rfl) dL_law_232 dL_law_233 dL_law_235 (by decide) dL_law_236 dL_law_237 ?_
  refine lw_ld (v := 2) C0 hi (by simp) hS (lv_at hl 5 rfl) (lv_at hl 1 rfl) dL_law_238 dL_law_239 dL_law_241 (by decide) dL_law_242 dL_law_243 ?_
  refine lw_ld (v := 3) C0 hi (by simp) hS (lv_at hl 5 rfl) (lv_at hl 1 rfl) dL_law_244 dL_law_245 dL_law_247 (by decide) dL_law_248 dL_law_249 ?_
  refine lw_ld (v := 4) C0 hi (by simp) hS (lv_at hl 5 rfl) (lv_at hl 1 rfl) dL_law_250 dL_law_251 dL_law_253 (by decide) dL_law_254 dL_law_255 ?_
  refine clVWb (As := [.int (ag xs i 1), .int (ag xs i 2), .int (ag xs i 3), .int (ag xs i 4)]) (rest := []) (st' := [.int bb]) hx hb hml hown hts gL_law_X8_add rfl 4 (by decide +kernel) ⟨Nat.le_of_ble_eq_true rfl, Nat.le_of_ble_eq_true rfl⟩ (hM8 H.size) hP.flip hD.flip hS hA hK 0 7 he8 rfl rfl rfl hl.1 rfl (Nat.le_of_ble_eq_true rfl) hc dL_law_256 rfl (fun H locs hP hD hS => ?_)
  refine lv_istore (lv' := [(6, .int bb), (5, .int (kcI (fun e => if e = 1 then 1 else if e = 2 then 2 else 0) r)), (4, .int (iN (i : Int))), (3, .ref out), (2, .ref (z 0)), (1, .ref (a 0)), (0, .ref b)]) hx hb dL_law_259 hl (by decide) rfl (fun ls hl => ?_)
  exact lw_tlI C0 (show tlI 261 2077 from ⟨dL_law_261, dL_law_262, dL_law_265, dL_law_267, dL_law_272, dL_law_274, dL_law_277, dL_law_278, dL_law_279, dL_law_280, dL_law_282, dL_law_283, dL_law_284, dL_law_289, by decide⟩) hI2 (agI_code hag) (agI_out g hag) hc hP.flip hD.flip hS hl (fun H locs hP hD hS => kk H locs ls V7 V8 cc _ hI2 hP hD hS (lv_sub hl [2, 3, 4, 5, 6] rfl))
set_option maxRecDepth 100000 in
theorem lc_now (hst : l.stackTraces = false) (C : lwK p s m args c D ca A b L xs) (hi : i + 7 ≤ L) (hI : Inv ca a b0 d z W7 W8 code0) (hP : va_P D vwCl (([(out, .inl (ca 1, 1, .inr (.inl g)))] ++ W7) ++ W8) H) (hD : va_D A (([(out, .inl (ca 1, 1, .inr (.inl g)))] ++ W7) ++ W8)) (hS : va_S A s.heap H locs) (hl : lv_has ls 8 [(4, .int (iN (i : Int))), (3, .ref out), (2, .ref (z 0)), (1, .ref (a 0)), (0, .ref b)]) (hc : cells + 4 ≤ room_1.cells ∧ slots + 24 ≤ room_1.slots) (kk : lwN p l e s m args below meth c D ca A b i a b0 d z out Q cells slots) : W p l e room_1 s m args below meth c H locs cells slots Q (F0 m 590 ls []) := by
  obtain ⟨r, V7, V8, bb, cc, hI2, hM7, hM8, hag⟩ := st_now l hst D hI
  have he7 := inv_x hI
  obtain ⟨fs, he8⟩ := inv_m hI
  have C0 := C
  obtain ⟨hx, hb, hml, hown, hts, hK, hA, hZ, hC, hX, hbl, hbA, hL⟩ := C
  refine lv_aload_n hx hb dL_law_590 rfl (lv_at hl 3 rfl) ?_
  refine clVWb (As := []) (rest := []) (st' := [.int r]) hx hb hml hown hts gL_law_X7_now rfl 0 (by decide +kernel) ⟨Nat.le_of_ble_eq_true rfl, Nat.le_of_ble_eq_true rfl⟩ (hM7 H.size) (rotP hP) (rotD hD) hS hA hK 0 6 he7 rfl rfl rfl hl.1 rfl (Nat.le_of_ble_eq_true rfl) ⟨by omega, by omega⟩ dL_law_591 rfl (fun H locs hP hD hS => ?_)
  refine W.widen (k := cells + 4) (n := slots + 24) (by omega) (by omega) ?_
  have hP := torP hP
  have hD := torD hD
  refine lv_aload_n hx hb dL_law_594 rfl (lv_at hl 2 rfl) ?_
  refine clVWb (As := []) (rest := [.int r]) (st' := [.int bb, .int r]) hx hb hml hown hts gL_law_X8_now rfl 0 (by decide +kernel) ⟨Nat.le_of_ble_eq_true rfl, Nat.le_of_ble_eq_true rfl⟩ (hM8 H.size) hP.flip hD.flip hS hA hK 0 7 he8 rfl rfl rfl hl.1 rfl (Nat.le_of_ble_eq_true rfl) hc dL_law_595 rfl (fun H locs hP hD hS => ?_)
  refine lv_icmp_eq (tgt := 2366) hx hb dL_law_598 (by decide) (fun _ => ?_) (fun h => absurd hag h)
  exact kk H locs ls V7 V8 cc g hI2 hP.flip hD.flip hS hl
end L0
