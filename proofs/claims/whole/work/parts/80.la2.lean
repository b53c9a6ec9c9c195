set_option maxHeartbeats 4000000 in
set_option maxRecDepth 100000 in
theorem lw_c1 {p : Program} {l : Launch} {e : Env} {s : State} {m : MethodId} {below : List Frame} {meth : Method} {c : Code} {b L : Nat} {xs : Nat → Int32} {D : va_G} {cA : Nat → ClassId} {tT : Nat} {ad1 ad2 : Nat → Nat} {Q : State → Prop} (C : lw_C p s m c b L xs D cA tT ad1 ad2) (hL : L < 2 ^ 31) {H : Heap} {locs : List Loc} {sf : Nat → Bool × Nat × Int} {x y : Nat} {tx : Nat → Int32} {wa wb wc we : RWt} {rg : Nat → RWt} {tx2 : Nat → Int32} {T : List Nat} (I : lw_I s D cA ad1 ad2 H locs sf x y tx wa wb wc we rg tx2 T) {ls : Array Slot} {i : Nat} (hl : lv_has ls 4 [(3, .int (nI i)), (0, .ref b), (1, .ref (ad1 0)), (2, .ref (ad2 0))]) (hi : i + 6 ≤ L)
    (kk : ∀ (H : Heap) (locs : List Loc) (sf : Nat → Bool × Nat × Int) (x y : Nat) (tx : Nat → Int32) (wa wb wc we : RWt) (rg : Nat → RWt) (tx2 : Nat → Int32) (T : List Nat), lw_I s D cA ad1 ad2 H locs sf x y tx wa wb wc we rg tx2 T → W p l e room_1 s m #[Value.ref b] below meth c H locs 54 9350 Q (F0 m 868 ls [])) : W p l e room_1 s m #[Value.ref b] below meth c H locs 54 9350 Q (F0 m 189 ls []) := by
  obtain ⟨hx, hb, hml, hown, hts, hX, hbl, hK, hT, hD1, hD2, hap⟩ := C
  obtain ⟨hc, hm, ht1, ht2, hT9, hP1, hP2, hS⟩ := I
  have hbA : ¬ (fun q : Nat => s.heap.size ≤ q) b := Nat.not_le.mpr hbl
  have hA : ∀ q : Nat, s.heap.size ≤ q → (fun q : Nat => s.heap.size ≤ q) q := fun _ h => h
  refine lv_aload_n hx hb dL_law_189 rfl (lv_at hl 2 rfl) ?_
  refine la_arg (A := (fun q : Nat => s.heap.size ≤ q)) 1 hx hb hX hbl hbA hS hl rfl rfl dL_law_190 dL_law_191 dL_law_192 dL_law_193 dL_law_194 (by decide) (by omega) hL ?_
  refine la_arg (A := (fun q : Nat => s.heap.size ≤ q)) 2 hx hb hX hbl hbA hS hl rfl rfl dL_law_195 dL_law_196 dL_law_197 dL_law_198 dL_law_199 (by decide) (by omega) hL ?_
  refine lv_i2l (v := (iZ (xs (i + 2)).toInt).toInt64) hx hb dL_law_200 rfl ?_
  refine lv_bipush (v := nI 32) hx hb dL_law_201 (by decide) ?_
  refine lv_lshl (v := (iZ (xs (i + 2)).toInt).toInt64 <<< ((nI 32).toInt64 &&& 63)) hx hb dL_law_203 rfl ?_
  refine la_arg (A := (fun q : Nat => s.heap.size ≤ q)) 3 hx hb hX hbl hbA hS hl rfl rfl dL_law_204 dL_law_205 dL_law_206 dL_law_207 dL_law_208 (by decide) (by omega) hL ?_
  refine lv_i2l (v := (iZ (xs (i + 3)).toInt).toInt64) hx hb dL_law_209 rfl ?_
  refine lv_ldc2 hx hb hown (hts (.constantLong RL 13 (4294967295)) (by decide +kernel)) dL_law_210 ?_
  refine lv_land hx hb dL_law_213 ?_
  refine lv_lor hx hb dL_law_214 ?_
  refine tp_l (y := vv (xs (i + 2)).toInt (xs (i + 3)).toInt) rfl ?_
  have hF1 := lw_sub (wm_D (g' := cg cA ad1 sf x y tx T.length) hD1) hS hA
  refine va_calli (va_runV (b := ad1 0) (As := [.int (iZ (xs (i + 1)).toInt), .long (vv (xs (i + 2)).toInt (xs (i + 3)).toInt)]) (rest := []) ⟨hx, hb, hml, hown, hts⟩ (c_X2_push l D cA tT (va_A (wm_W 31 ad1 (cg cA ad1 sf x y tx T.length)) H.size) ad1 H.size (v := vv (xs (i + 2)).toInt (xs (i + 3)).toInt) hc (xb1 (xs (i + 1))) (xb2 (xs (i + 1)))) (cwV 2 hts gL_law_X2_push rfl rfl rfl (by decide +kernel) ⟨(Nat.le_of_ble_eq_true rfl), (Nat.le_of_ble_eq_true rfl)⟩) (lw_preV (k := 0) hP1 hK (wm_D hD1) hT hS hA (by decide) rfl rfl) rfl rfl hl.1 rfl (lv_room (Nat.le_of_ble_eq_true rfl)) dL_law_215 ⟨(Nat.le_of_ble_eq_true rfl), (Nat.le_of_ble_eq_true rfl)⟩) hS (fun q _ h => hF1 q h) hF1 (fun r1 u t H1 locs1 ht hvm hw hB hz1 hk1 hS1 => ?_)
  obtain ⟨e1, sf1, x1, y1, hc1, es1, rfl⟩ := hw
  obtain ⟨hP1, -⟩ := wd_back ht hB
  have hP2 := lw_kept hP2 hk1 hap
  clear hF1 hB hvm ht hz1 hk1 hS
  have hS := hS1
  refine lv_aload_n hx hb dL_law_218 rfl (lv_at hl 3 rfl) ?_
  refine la_arg (A := (fun q : Nat => s.heap.size ≤ q)) 1 hx hb hX hbl hbA hS hl rfl rfl dL_law_219 dL_law_220 dL_law_221 dL_law_222 dL_law_223 (by decide) (by omega) hL ?_
  refine la_arg (A := (fun q : Nat => s.heap.size ≤ q)) 2 hx hb hX hbl hbA hS hl rfl rfl dL_law_224 dL_law_225 dL_law_226 dL_law_227 dL_law_228 (by decide) (by omega) hL ?_
  refine lv_i2l (v := (iZ (xs (i + 2)).toInt).toInt64) hx hb dL_law_229 rfl ?_
  refine lv_bipush (v := nI 32) hx hb dL_law_230 (by decide) ?_
  refine lv_lshl (v := (iZ (xs (i + 2)).toInt).toInt64 <<< ((nI 32).toInt64 &&& 63)) hx hb dL_law_232 rfl ?_
  refine la_arg (A := (fun q : Nat => s.heap.size ≤ q)) 3 hx hb hX hbl hbA hS hl rfl rfl dL_law_233 dL_law_234 dL_law_235 dL_law_236 dL_law_237 (by decide) (by omega) hL ?_
  refine lv_i2l (v := (iZ (xs (i + 3)).toInt).toInt64) hx hb dL_law_238 rfl ?_
  refine lv_ldc2 hx hb hown (hts (.constantLong RL 13 (4294967295)) (by decide +kernel)) dL_law_239 ?_
  refine lv_land hx hb dL_law_242 ?_
  refine lv_lor hx hb dL_law_243 ?_
  refine tp_l (y := vv (xs (i + 2)).toInt (xs (i + 3)).toInt) rfl ?_
  have hF2 := lw_sub (wm_D (g' := mg cA ad2 wa wb wc we rg tx2 T.length) hD2) hS hA
  refine va_calli (va_runV (b := ad2 0) (As := [.int (iZ (xs (i + 1)).toInt), .long (vv (xs (i + 2)).toInt (xs (i + 3)).toInt)]) (rest := [.int r1]) ⟨hx, hb, hml, hown, hts⟩ (c_X4_push l D cA tT (va_A (wm_W 23 ad2 (mg cA ad2 wa wb wc we rg tx2 T.length)) H1.size) ad2 H1.size (v := vv (xs (i + 2)).toInt (xs (i + 3)).toInt) hm hc.2.2.2.2 (xb1 (xs (i + 1))) (xb2 (xs (i + 1)))) (cwV 2 hts gL_law_X4_push rfl rfl rfl (by decide +kernel) ⟨(Nat.le_of_ble_eq_true rfl), (Nat.le_of_ble_eq_true rfl)⟩) (lw_preV (k := 0) hP2 hK (wm_D hD2) hT hS hA (by decide) rfl rfl) rfl rfl hl.1 rfl (lv_room (Nat.le_of_ble_eq_true rfl)) dL_law_244 ⟨(Nat.le_of_ble_eq_true rfl), (Nat.le_of_ble_eq_true rfl)⟩) hS (fun q _ h => hF2 q h) hF2 (fun r2 u2 t2 H2 locs2 ht hvm hw hB hz1 hk1 hS2 => ?_)
  obtain ⟨e2, wa1, wb1, wc1, we1, rg1, hm1, rfl⟩ := hw
  obtain ⟨hP2, -⟩ := wd_back ht hB
  have hP1 := lw_kept hP1 hk1 (fun i j hi hj h => hap j i hj hi h.symm)
  refine lv_icmp_eq (tgt := 868) hx hb dL_law_247 (by decide) (fun _ => ?_) (fun q => absurd (e1.trans e2.symm) q)
  exact kk _ _ sf1 x1 y1 tx wa1 wb1 wc1 we1 rg1 tx2 T ⟨hc1, by rw [es1]; exact hm1, ht1, ht2, hT9, hP1, hP2, hS2⟩
set_option maxHeartbeats 4000000 in
set_option maxRecDepth 100000 in
theorem lw_c2 {p : Program} {l : Launch} {e : Env} {s : State} {m : MethodId} {below : List Frame} {meth : Method} {c : Code} {b L : Nat} {xs : Nat → Int32} {D : va_G} {cA : Nat → ClassId} {tT : Nat} {ad1 ad2 : Nat → Nat} {Q : State → Prop} (C : lw_C p s m c b L xs D cA tT ad1 ad2) (hL : L < 2 ^ 31) {H : Heap} {locs : List Loc} {sf : Nat → Bool × Nat × Int} {x y : Nat} {tx : Nat → Int32} {wa wb wc we : RWt} {rg : Nat → RWt} {tx2 : Nat → Int32} {T : List Nat} (I : lw_I s D cA ad1 ad2 H locs sf x y tx wa wb wc we rg tx2 T) {ls : Array Slot} {i : Nat} (hl : lv_has ls 4 [(3, .int (nI i)), (0, .ref b), (1, .ref (ad1 0)), (2, .ref (ad2 0))]) (hi : i + 6 ≤ L)
    (kk : ∀ (H : Heap) (locs : List Loc) (sf : Nat → Bool × Nat × Int) (x y : Nat) (tx : Nat → Int32) (wa wb wc we : RWt) (rg : Nat → RWt) (tx2 : Nat → Int32) (T : List Nat), lw_I s D cA ad1 ad2 H locs sf x y tx wa wb wc we rg tx2 T → W p l e room_1 s m #[Value.ref b] below meth c H locs 54 9350 Q (F0 m 868 ls [])) : W p l e room_1 s m #[Value.ref b] below meth c H locs 54 9350 Q (F0 m 252 ls []) := by
  obtain ⟨hx, hb, hml, hown, hts, hX, hbl, hK, hT, hD1, hD2, hap⟩ := C
  obtain ⟨hc, hm, ht1, ht2, hT9, hP1, hP2, hS⟩ := I
  have hbA : ¬ (fun q : Nat => s.heap.size ≤ q) b := Nat.not_le.mpr hbl
  have hA : ∀ q : Nat, s.heap.size ≤ q → (fun q : Nat => s.heap.size ≤ q) q := fun _ h => h
  refine lv_aload_n hx hb dL_law_252 rfl (lv_at hl 2 rfl) ?_
  refine la_arg (A := (fun q : Nat => s.heap.size ≤ q)) 1 hx hb hX hbl hbA hS hl rfl rfl dL_law_253 dL_law_254 dL_law_255 dL_law_256 dL_law_257 (by decide) (by omega) hL ?_
  refine la_arg (A := (fun q : Nat => s.heap.size ≤ q)) 2 hx hb hX hbl hbA hS hl rfl rfl dL_law_258 dL_law_259 dL_law_260 dL_law_261 dL_law_262 (by decide) (by omega) hL ?_
  refine la_arg (A := (fun q : Nat => s.heap.size ≤ q)) 3 hx hb hX hbl hbA hS hl rfl rfl dL_law_263 dL_law_264 dL_law_265 dL_law_266 dL_law_267 (by decide) (by omega) hL ?_
  refine la_arg (A := (fun q : Nat => s.heap.size ≤ q)) 4 hx hb hX hbl hbA hS hl rfl rfl dL_law_268 dL_law_269 dL_law_270 dL_law_271 dL_law_272 (by decide) (by omega) hL ?_
  have hF1 := lw_sub (wm_D (g' := cg cA ad1 sf x y tx T.length) hD1) hS hA
  refine va_calli (va_runV (b := ad1 0) (As := [.int (iZ (xs (i + 1)).toInt), .int (iZ (xs (i + 2)).toInt), .int (iZ (xs (i + 3)).toInt), .int (iZ (xs (i + 4)).toInt)]) (rest := []) ⟨hx, hb, hml, hown, hts⟩ (c_X2_reckon l D cA tT (va_A (wm_W 31 ad1 (cg cA ad1 sf x y tx T.length)) H.size) ad1 H.size hc (xb1 (xs (i + 1))) (xb2 (xs (i + 1))) (xb1 (xs (i + 2))) (xb2 (xs (i + 2))) (xb1 (xs (i + 3))) (xb2 (xs (i + 3))) (xb1 (xs (i + 4))) (xb2 (xs (i + 4)))) (cwV 4 hts gL_law_X2_reckon rfl rfl rfl (by decide +kernel) ⟨(Nat.le_of_ble_eq_true rfl), (Nat.le_of_ble_eq_true rfl)⟩) (lw_preV (k := 0) hP1 hK (wm_D hD1) hT hS hA (by decide) rfl rfl) rfl rfl hl.1 rfl (lv_room (Nat.le_of_ble_eq_true rfl)) dL_law_273 ⟨(Nat.le_of_ble_eq_true rfl), (Nat.le_of_ble_eq_true rfl)⟩) hS (fun q _ h => hF1 q h) hF1 (fun r1 u t H1 locs1 ht hvm hw hB hz1 hk1 hS1 => ?_)
  obtain ⟨e1, sf1, x1, y1, hc1, es1, rfl⟩ := hw
  obtain ⟨hP1, -⟩ := wd_back ht hB
  have hP2 := lw_kept hP2 hk1 hap
  clear hF1 hB hvm ht hz1 hk1 hS
  have hS := hS1
  refine lv_aload_n hx hb dL_law_276 rfl (lv_at hl 3 rfl) ?_
  refine la_arg (A := (fun q : Nat => s.heap.size ≤ q)) 1 hx hb hX hbl hbA hS hl rfl rfl dL_law_277 dL_law_278 dL_law_279 dL_law_280 dL_law_281 (by decide) (by omega) hL ?_
  refine la_arg (A := (fun q : Nat => s.heap.size ≤ q)) 2 hx hb hX hbl hbA hS hl rfl rfl dL_law_282 dL_law_283 dL_law_284 dL_law_285 dL_law_286 (by decide) (by omega) hL ?_
  refine la_arg (A := (fun q : Nat => s.heap.size ≤ q)) 3 hx hb hX hbl hbA hS hl rfl rfl dL_law_287 dL_law_288 dL_law_289 dL_law_290 dL_law_291 (by decide) (by omega) hL ?_
  refine la_arg (A := (fun q : Nat => s.heap.size ≤ q)) 4 hx hb hX hbl hbA hS hl rfl rfl dL_law_292 dL_law_293 dL_law_294 dL_law_295 dL_law_296 (by decide) (by omega) hL ?_
  have hF2 := lw_sub (wm_D (g' := mg cA ad2 wa wb wc we rg tx2 T.length) hD2) hS hA
  refine va_calli (va_runV (b := ad2 0) (As := [.int (iZ (xs (i + 1)).toInt), .int (iZ (xs (i + 2)).toInt), .int (iZ (xs (i + 3)).toInt), .int (iZ (xs (i + 4)).toInt)]) (rest := [.int r1]) ⟨hx, hb, hml, hown, hts⟩ (c_X4_reckon l D cA tT (va_A (wm_W 23 ad2 (mg cA ad2 wa wb wc we rg tx2 T.length)) H1.size) ad2 H1.size hm hc.2.2.2.2 (xb1 (xs (i + 1))) (xb2 (xs (i + 1))) (xb1 (xs (i + 2))) (xb2 (xs (i + 2))) (xb1 (xs (i + 3))) (xb2 (xs (i + 3))) (xb1 (xs (i + 4))) (xb2 (xs (i + 4)))) (cwV 4 hts gL_law_X4_reckon rfl rfl rfl (by decide +kernel) ⟨(Nat.le_of_ble_eq_true rfl), (Nat.le_of_ble_eq_true rfl)⟩) (lw_preV (k := 0) hP2 hK (wm_D hD2) hT hS hA (by decide) rfl rfl) rfl rfl hl.1 rfl (lv_room (Nat.le_of_ble_eq_true rfl)) dL_law_297 ⟨(Nat.le_of_ble_eq_true rfl), (Nat.le_of_ble_eq_true rfl)⟩) hS (fun q _ h => hF2 q h) hF2 (fun r2 u2 t2 H2 locs2 ht hvm hw hB hz1 hk1 hS2 => ?_)
  obtain ⟨e2, wa1, wb1, wc1, we1, rg1, hm1, rfl⟩ := hw
  obtain ⟨hP2, -⟩ := wd_back ht hB
  have hP1 := lw_kept hP1 hk1 (fun i j hi hj h => hap j i hj hi h.symm)
  refine lv_icmp_eq (tgt := 868) hx hb dL_law_300 (by decide) (fun _ => ?_) (fun q => absurd (e1.trans e2.symm) q)
  exact kk _ _ sf1 x1 y1 tx wa1 wb1 wc1 we1 rg1 tx2 T ⟨hc1, by rw [es1]; exact hm1, ht1, ht2, hT9, hP1, hP2, hS2⟩
set_option maxHeartbeats 4000000 in
set_option maxRecDepth 100000 in
theorem lw_c3 {p : Program} {l : Launch} {e : Env} {s : State} {m : MethodId} {below : List Frame} {meth : Method} {c : Code} {b L : Nat} {xs : Nat → Int32} {D : va_G} {cA : Nat → ClassId} {tT : Nat} {ad1 ad2 : Nat → Nat} {Q : State → Prop} (C : lw_C p s m c b L xs D cA tT ad1 ad2) (hL : L < 2 ^ 31) {H : Heap} {locs : List Loc} {sf : Nat → Bool × Nat × Int} {x y : Nat} {tx : Nat → Int32} {wa wb wc we : RWt} {rg : Nat → RWt} {tx2 : Nat → Int32} {T : List Nat} (I : lw_I s D cA ad1 ad2 H locs sf x y tx wa wb wc we rg tx2 T) {ls : Array Slot} {i : Nat} (hl : lv_has ls 4 [(3, .int (nI i)), (0, .ref b), (1, .ref (ad1 0)), (2, .ref (ad2 0))]) (hi : i + 6 ≤ L)
    (kk : ∀ (H : Heap) (locs : List Loc) (sf : Nat → Bool × Nat × Int) (x y : Nat) (tx : Nat → Int32) (wa wb wc we : RWt) (rg : Nat → RWt) (tx2 : Nat → Int32) (T : List Nat), lw_I s D cA ad1 ad2 H locs sf x y tx wa wb wc we rg tx2 T → W p l e room_1 s m #[Value.ref b] below meth c H locs 54 9350 Q (F0 m 868 ls [])) : W p l e room_1 s m #[Value.ref b] below meth c H locs 54 9350 Q (F0 m 305 ls []) := by
  obtain ⟨hx, hb, hml, hown, hts, hX, hbl, hK, hT, hD1, hD2, hap⟩ := C
  obtain ⟨hc, hm, ht1, ht2, hT9, hP1, hP2, hS⟩ := I
  have hbA : ¬ (fun q : Nat => s.heap.size ≤ q) b := Nat.not_le.mpr hbl
  have hA : ∀ q : Nat, s.heap.size ≤ q → (fun q : Nat => s.heap.size ≤ q) q := fun _ h => h
  refine lv_aload_n hx hb dL_law_305 rfl (lv_at hl 2 rfl) ?_
  refine la_arg (A := (fun q : Nat => s.heap.size ≤ q)) 1 hx hb hX hbl hbA hS hl rfl rfl dL_law_306 dL_law_307 dL_law_308 dL_law_309 dL_law_310 (by decide) (by omega) hL ?_
  refine la_arg (A := (fun q : Nat => s.heap.size ≤ q)) 2 hx hb hX hbl hbA hS hl rfl rfl dL_law_311 dL_law_312 dL_law_313 dL_law_314 dL_law_315 (by decide) (by omega) hL ?_
  refine la_arg (A := (fun q : Nat => s.heap.size ≤ q)) 3 hx hb hX hbl hbA hS hl rfl rfl dL_law_316 dL_law_317 dL_law_318 dL_law_319 dL_law_320 (by decide) (by omega) hL ?_
  refine la_arg (A := (fun q : Nat => s.heap.size ≤ q)) 4 hx hb hX hbl hbA hS hl rfl rfl dL_law_321 dL_law_322 dL_law_323 dL_law_324 dL_law_325 (by decide) (by omega) hL ?_
  refine la_arg (A := (fun q : Nat => s.heap.size ≤ q)) 5 hx hb hX hbl hbA hS hl rfl rfl dL_law_326 dL_law_327 dL_law_328 dL_law_329 dL_law_330 (by decide) (by omega) hL ?_
  have hF1 := lw_sub (wm_D (g' := cg cA ad1 sf x y tx T.length) hD1) hS hA
  refine va_calli (va_runV (b := ad1 0) (As := [.int (iZ (xs (i + 1)).toInt), .int (iZ (xs (i + 2)).toInt), .int (iZ (xs (i + 3)).toInt), .int (iZ (xs (i + 4)).toInt), .int (iZ (xs (i + 5)).toInt)]) (rest := []) ⟨hx, hb, hml, hown, hts⟩ (c_X2_divide l D cA tT (va_A (wm_W 31 ad1 (cg cA ad1 sf x y tx T.length)) H.size) ad1 H.size hc (xb1 (xs (i + 1))) (xb2 (xs (i + 1))) (xb1 (xs (i + 2))) (xb2 (xs (i + 2))) (xb1 (xs (i + 3))) (xb2 (xs (i + 3))) (xb1 (xs (i + 4))) (xb2 (xs (i + 4))) (xb1 (xs (i + 5))) (xb2 (xs (i + 5)))) (cwV 5 hts gL_law_X2_divide rfl rfl rfl (by decide +kernel) ⟨(Nat.le_of_ble_eq_true rfl), (Nat.le_of_ble_eq_true rfl)⟩) (lw_preV (k := 0) hP1 hK (wm_D hD1) hT hS hA (by decide) rfl rfl) rfl rfl hl.1 rfl (lv_room (Nat.le_of_ble_eq_true rfl)) dL_law_331 ⟨(Nat.le_of_ble_eq_true rfl), (Nat.le_of_ble_eq_true rfl)⟩) hS (fun q _ h => hF1 q h) hF1 (fun r1 u t H1 locs1 ht hvm hw hB hz1 hk1 hS1 => ?_)
  obtain ⟨e1, sf1, x1, y1, hc1, es1, rfl⟩ := hw
  obtain ⟨hP1, -⟩ := wd_back ht hB
  have hP2 := lw_kept hP2 hk1 hap
  clear hF1 hB hvm ht hz1 hk1 hS
  have hS := hS1
  refine lv_aload_n hx hb dL_law_334 rfl (lv_at hl 3 rfl) ?_
  refine la_arg (A := (fun q : Nat => s.heap.size ≤ q)) 1 hx hb hX hbl hbA hS hl rfl rfl dL_law_335 dL_law_336 dL_law_337 dL_law_338 dL_law_339 (by decide) (by omega) hL ?_
  refine la_arg (A := (fun q : Nat => s.heap.size ≤ q)) 2 hx hb hX hbl hbA hS hl rfl rfl dL_law_340 dL_law_341 dL_law_342 dL_law_343 dL_law_344 (by decide) (by omega) hL ?_
  refine la_arg (A := (fun q : Nat => s.heap.size ≤ q)) 3 hx hb hX hbl hbA hS hl rfl rfl dL_law_345 dL_law_346 dL_law_347 dL_law_348 dL_law_349 (by decide) (by omega) hL ?_
  refine la_arg (A := (fun q : Nat => s.heap.size ≤ q)) 4 hx hb hX hbl hbA hS hl rfl rfl dL_law_350 dL_law_351 dL_law_352 dL_law_353 dL_law_354 (by decide) (by omega) hL ?_
  refine la_arg (A := (fun q : Nat => s.heap.size ≤ q)) 5 hx hb hX hbl hbA hS hl rfl rfl dL_law_355 dL_law_356 dL_law_357 dL_law_358 dL_law_359 (by decide) (by omega) hL ?_
  have hF2 := lw_sub (wm_D (g' := mg cA ad2 wa wb wc we rg tx2 T.length) hD2) hS hA
  refine va_calli (va_runV (b := ad2 0) (As := [.int (iZ (xs (i + 1)).toInt), .int (iZ (xs (i + 2)).toInt), .int (iZ (xs (i + 3)).toInt), .int (iZ (xs (i + 4)).toInt), .int (iZ (xs (i + 5)).toInt)]) (rest := [.int r1]) ⟨hx, hb, hml, hown, hts⟩ (c_X4_divide l D cA tT (va_A (wm_W 23 ad2 (mg cA ad2 wa wb wc we rg tx2 T.length)) H1.size) ad2 H1.size hm hc.2.2.2.2 (xb1 (xs (i + 1))) (xb2 (xs (i + 1))) (xb1 (xs (i + 2))) (xb2 (xs (i + 2))) (xb1 (xs (i + 3))) (xb2 (xs (i + 3))) (xb1 (xs (i + 4))) (xb2 (xs (i + 4))) (xb1 (xs (i + 5))) (xb2 (xs (i + 5)))) (cwV 5 hts gL_law_X4_divide rfl rfl rfl (by decide +kernel) ⟨(Nat.le_of_ble_eq_true rfl), (Nat.le_of_ble_eq_true rfl)⟩) (lw_preV (k := 0) hP2 hK (wm_D hD2) hT hS hA (by decide) rfl rfl) rfl rfl hl.1 rfl (lv_room (Nat.le_of_ble_eq_true rfl)) dL_law_360 ⟨(Nat.le_of_ble_eq_true rfl), (Nat.le_of_ble_eq_true rfl)⟩) hS (fun q _ h => hF2 q h) hF2 (fun r2 u2 t2 H2 locs2 ht hvm hw hB hz1 hk1 hS2 => ?_)
  obtain ⟨e2, wa1, wb1, wc1, we1, rg1, hm1, rfl⟩ := hw
  obtain ⟨hP2, -⟩ := wd_back ht hB
  have hP1 := lw_kept hP1 hk1 (fun i j hi hj h => hap j i hj hi h.symm)
  refine lv_icmp_eq (tgt := 868) hx hb dL_law_363 (by decide) (fun _ => ?_) (fun q => absurd (e1.trans e2.symm) q)
  exact kk _ _ sf1 x1 y1 tx wa1 wb1 wc1 we1 rg1 tx2 T ⟨hc1, by rw [es1]; exact hm1, ht1, ht2, hT9, hP1, hP2, hS2⟩
set_option maxHeartbeats 4000000 in
set_option maxRecDepth 100000 in
theorem lw_c4 {p : Program} {l : Launch} {e : Env} {s : State} {m : MethodId} {below : List Frame} {meth : Method} {c : Code} {b L : Nat} {xs : Nat → Int32} {D : va_G} {cA : Nat → ClassId} {tT : Nat} {ad1 ad2 : Nat → Nat} {Q : State → Prop} (C : lw_C p s m c b L xs D cA tT ad1 ad2) (hL : L < 2 ^ 31) {H : Heap} {locs : List Loc} {sf : Nat → Bool × Nat × Int} {x y : Nat} {tx : Nat → Int32} {wa wb wc we : RWt} {rg : Nat → RWt} {tx2 : Nat → Int32} {T : List Nat} (I : lw_I s D cA ad1 ad2 H locs sf x y tx wa wb wc we rg tx2 T) {ls : Array Slot} {i : Nat} (hl : lv_has ls 4 [(3, .int (nI i)), (0, .ref b), (1, .ref (ad1 0)), (2, .ref (ad2 0))]) (hi : i + 6 ≤ L)
    (kk : ∀ (H : Heap) (locs : List Loc) (sf : Nat → Bool × Nat × Int) (x y : Nat) (tx : Nat → Int32) (wa wb wc we : RWt) (rg : Nat → RWt) (tx2 : Nat → Int32) (T : List Nat), lw_I s D cA ad1 ad2 H locs sf x y tx wa wb wc we rg tx2 T → W p l e room_1 s m #[Value.ref b] below meth c H locs 54 9350 Q (F0 m 868 ls [])) : W p l e room_1 s m #[Value.ref b] below meth c H locs 54 9350 Q (F0 m 368 ls []) := by
  obtain ⟨hx, hb, hml, hown, hts, hX, hbl, hK, hT, hD1, hD2, hap⟩ := C
  obtain ⟨hc, hm, ht1, ht2, hT9, hP1, hP2, hS⟩ := I
  have hbA : ¬ (fun q : Nat => s.heap.size ≤ q) b := Nat.not_le.mpr hbl
  have hA : ∀ q : Nat, s.heap.size ≤ q → (fun q : Nat => s.heap.size ≤ q) q := fun _ h => h
  refine lv_aload_n hx hb dL_law_368 rfl (lv_at hl 2 rfl) ?_
  refine la_arg (A := (fun q : Nat => s.heap.size ≤ q)) 1 hx hb hX hbl hbA hS hl rfl rfl dL_law_369 dL_law_370 dL_law_371 dL_law_372 dL_law_373 (by decide) (by omega) hL ?_
  refine la_arg (A := (fun q : Nat => s.heap.size ≤ q)) 2 hx hb hX hbl hbA hS hl rfl rfl dL_law_374 dL_law_375 dL_law_376 dL_law_377 dL_law_378 (by decide) (by omega) hL ?_
  refine la_arg (A := (fun q : Nat => s.heap.size ≤ q)) 3 hx hb hX hbl hbA hS hl rfl rfl dL_law_379 dL_law_380 dL_law_381 dL_law_382 dL_law_383 (by decide) (by omega) hL ?_
  refine la_arg (A := (fun q : Nat => s.heap.size ≤ q)) 4 hx hb hX hbl hbA hS hl rfl rfl dL_law_384 dL_law_385 dL_law_386 dL_law_387 dL_law_388 (by decide) (by omega) hL ?_
  have hF1 := lw_sub (wm_D (g' := cg cA ad1 sf x y tx T.length) hD1) hS hA
  refine va_calli (va_runV (b := ad1 0) (As := [.int (iZ (xs (i + 1)).toInt), .int (iZ (xs (i + 2)).toInt), .int (iZ (xs (i + 3)).toInt), .int (iZ (xs (i + 4)).toInt)]) (rest := []) ⟨hx, hb, hml, hown, hts⟩ (c_X2_part l D cA tT (va_A (wm_W 31 ad1 (cg cA ad1 sf x y tx T.length)) H.size) ad1 H.size hc (xb1 (xs (i + 1))) (xb2 (xs (i + 1))) (xb1 (xs (i + 2))) (xb2 (xs (i + 2))) (xb1 (xs (i + 3))) (xb2 (xs (i + 3))) (xb1 (xs (i + 4))) (xb2 (xs (i + 4)))) (cwV 4 hts gL_law_X2_part rfl rfl rfl (by decide +kernel) ⟨(Nat.le_of_ble_eq_true rfl), (Nat.le_of_ble_eq_true rfl)⟩) (lw_preV (k := 0) hP1 hK (wm_D hD1) hT hS hA (by decide) rfl rfl) rfl rfl hl.1 rfl (lv_room (Nat.le_of_ble_eq_true rfl)) dL_law_389 ⟨(Nat.le_of_ble_eq_true rfl), (Nat.le_of_ble_eq_true rfl)⟩) hS (fun q _ h => hF1 q h) hF1 (fun r1 u t H1 locs1 ht hvm hw hB hz1 hk1 hS1 => ?_)
  obtain ⟨e1, sf1, x1, y1, hc1, es1, rfl⟩ := hw
  obtain ⟨hP1, -⟩ := wd_back ht hB
  have hP2 := lw_kept hP2 hk1 hap
  clear hF1 hB hvm ht hz1 hk1 hS
  have hS := hS1
  refine lv_aload_n hx hb dL_law_392 rfl (lv_at hl 3 rfl) ?_
  refine la_arg (A := (fun q : Nat => s.heap.size ≤ q)) 1 hx hb hX hbl hbA hS hl rfl rfl dL_law_393 dL_law_394 dL_law_395 dL_law_396 dL_law_397 (by decide) (by omega) hL ?_
  refine la_arg (A := (fun q : Nat => s.heap.size ≤ q)) 2 hx hb hX hbl hbA hS hl rfl rfl dL_law_398 dL_law_399 dL_law_400 dL_law_401 dL_law_402 (by decide) (by omega) hL ?_
  refine la_arg (A := (fun q : Nat => s.heap.size ≤ q)) 3 hx hb hX hbl hbA hS hl rfl rfl dL_law_403 dL_law_404 dL_law_405 dL_law_406 dL_law_407 (by decide) (by omega) hL ?_
  refine la_arg (A := (fun q : Nat => s.heap.size ≤ q)) 4 hx hb hX hbl hbA hS hl rfl rfl dL_law_408 dL_law_409 dL_law_410 dL_law_411 dL_law_412 (by decide) (by omega) hL ?_
  have hF2 := lw_sub (wm_D (g' := mg cA ad2 wa wb wc we rg tx2 T.length) hD2) hS hA
  refine va_calli (va_runV (b := ad2 0) (As := [.int (iZ (xs (i + 1)).toInt), .int (iZ (xs (i + 2)).toInt), .int (iZ (xs (i + 3)).toInt), .int (iZ (xs (i + 4)).toInt)]) (rest := [.int r1]) ⟨hx, hb, hml, hown, hts⟩ (c_X4_part l D cA tT (va_A (wm_W 23 ad2 (mg cA ad2 wa wb wc we rg tx2 T.length)) H1.size) ad2 H1.size hm hc.2.2.2.2 (xb1 (xs (i + 1))) (xb2 (xs (i + 1))) (xb1 (xs (i + 2))) (xb2 (xs (i + 2))) (xb1 (xs (i + 3))) (xb2 (xs (i + 3))) (xb1 (xs (i + 4))) (xb2 (xs (i + 4)))) (cwV 4 hts gL_law_X4_part rfl rfl rfl (by decide +kernel) ⟨(Nat.le_of_ble_eq_true rfl), (Nat.le_of_ble_eq_true rfl)⟩) (lw_preV (k := 0) hP2 hK (wm_D hD2) hT hS hA (by decide) rfl rfl) rfl rfl hl.1 rfl (lv_room (Nat.le_of_ble_eq_true rfl)) dL_law_413 ⟨(Nat.le_of_ble_eq_true rfl), (Nat.le_of_ble_eq_true rfl)⟩) hS (fun q _ h => hF2 q h) hF2 (fun r2 u2 t2 H2 locs2 ht hvm hw hB hz1 hk1 hS2 => ?_)
  obtain ⟨e2, wa1, wb1, wc1, we1, rg1, hm1, rfl⟩ := hw
  obtain ⟨hP2, -⟩ := wd_back ht hB
  have hP1 := lw_kept hP1 hk1 (fun i j hi hj h => hap j i hj hi h.symm)
  refine lv_icmp_eq (tgt := 868) hx hb dL_law_416 (by decide) (fun _ => ?_) (fun q => absurd (e1.trans e2.symm) q)
  exact kk _ _ sf1 x1 y1 tx wa1 wb1 wc1 we1 rg1 tx2 T ⟨hc1, by rw [es1]; exact hm1, ht1, ht2, hT9, hP1, hP2, hS2⟩
set_option maxHeartbeats 4000000 in
set_option maxRecDepth 100000 in
theorem lw_c5 {p : Program} {l : Launch} {e : Env} {s : State} {m : MethodId} {below : List Frame} {meth : Method} {c : Code} {b L : Nat} {xs : Nat → Int32} {D : va_G} {cA : Nat → ClassId} {tT : Nat} {ad1 ad2 : Nat → Nat} {Q : State → Prop} (C : lw_C p s m c b L xs D cA tT ad1 ad2) (hL : L < 2 ^ 31) {H : Heap} {locs : List Loc} {sf : Nat → Bool × Nat × Int} {x y : Nat} {tx : Nat → Int32} {wa wb wc we : RWt} {rg : Nat → RWt} {tx2 : Nat → Int32} {T : List Nat} (I : lw_I s D cA ad1 ad2 H locs sf x y tx wa wb wc we rg tx2 T) {ls : Array Slot} {i : Nat} (hl : lv_has ls 4 [(3, .int (nI i)), (0, .ref b), (1, .ref (ad1 0)), (2, .ref (ad2 0))]) (hi : i + 6 ≤ L)
    (kk : ∀ (H : Heap) (locs : List Loc) (sf : Nat → Bool × Nat × Int) (x y : Nat) (tx : Nat → Int32) (wa wb wc we : RWt) (rg : Nat → RWt) (tx2 : Nat → Int32) (T : List Nat), lw_I s D cA ad1 ad2 H locs sf x y tx wa wb wc we rg tx2 T → W p l e room_1 s m #[Value.ref b] below meth c H locs 54 9350 Q (F0 m 868 ls [])) : W p l e room_1 s m #[Value.ref b] below meth c H locs 54 9350 Q (F0 m 421 ls []) := by
  obtain ⟨hx, hb, hml, hown, hts, hX, hbl, hK, hT, hD1, hD2, hap⟩ := C
  obtain ⟨hc, hm, ht1, ht2, hT9, hP1, hP2, hS⟩ := I
  have hbA : ¬ (fun q : Nat => s.heap.size ≤ q) b := Nat.not_le.mpr hbl
  have hA : ∀ q : Nat, s.heap.size ≤ q → (fun q : Nat => s.heap.size ≤ q) q := fun _ h => h
  refine lv_aload_n hx hb dL_law_421 rfl (lv_at hl 2 rfl) ?_
  refine la_arg (A := (fun q : Nat => s.heap.size ≤ q)) 1 hx hb hX hbl hbA hS hl rfl rfl dL_law_422 dL_law_423 dL_law_424 dL_law_425 dL_law_426 (by decide) (by omega) hL ?_
  refine la_arg (A := (fun q : Nat => s.heap.size ≤ q)) 2 hx hb hX hbl hbA hS hl rfl rfl dL_law_427 dL_law_428 dL_law_429 dL_law_430 dL_law_431 (by decide) (by omega) hL ?_
  refine la_arg (A := (fun q : Nat => s.heap.size ≤ q)) 3 hx hb hX hbl hbA hS hl rfl rfl dL_law_432 dL_law_433 dL_law_434 dL_law_435 dL_law_436 (by decide) (by omega) hL ?_
  refine la_arg (A := (fun q : Nat => s.heap.size ≤ q)) 4 hx hb hX hbl hbA hS hl rfl rfl dL_law_437 dL_law_438 dL_law_439 dL_law_440 dL_law_441 (by decide) (by omega) hL ?_
  have hF1 := lw_sub (wm_D (g' := cg cA ad1 sf x y tx T.length) hD1) hS hA
  refine va_calli (va_runV (b := ad1 0) (As := [.int (iZ (xs (i + 1)).toInt), .int (iZ (xs (i + 2)).toInt), .int (iZ (xs (i + 3)).toInt), .int (iZ (xs (i + 4)).toInt)]) (rest := []) ⟨hx, hb, hml, hown, hts⟩ (c_X2_scale l D cA tT (va_A (wm_W 31 ad1 (cg cA ad1 sf x y tx T.length)) H.size) ad1 H.size hc (xb1 (xs (i + 1))) (xb2 (xs (i + 1))) (xb1 (xs (i + 2))) (xb2 (xs (i + 2))) (xb1 (xs (i + 3))) (xb2 (xs (i + 3))) (xb1 (xs (i + 4))) (xb2 (xs (i + 4)))) (cwV 4 hts gL_law_X2_scale rfl rfl rfl (by decide +kernel) ⟨(Nat.le_of_ble_eq_true rfl), (Nat.le_of_ble_eq_true rfl)⟩) (lw_preV (k := 0) hP1 hK (wm_D hD1) hT hS hA (by decide) rfl rfl) rfl rfl hl.1 rfl (lv_room (Nat.le_of_ble_eq_true rfl)) dL_law_442 ⟨(Nat.le_of_ble_eq_true rfl), (Nat.le_of_ble_eq_true rfl)⟩) hS (fun q _ h => hF1 q h) hF1 (fun r1 u t H1 locs1 ht hvm hw hB hz1 hk1 hS1 => ?_)
  obtain ⟨e1, sf1, x1, y1, hc1, es1, rfl⟩ := hw
  obtain ⟨hP1, -⟩ := wd_back ht hB
  have hP2 := lw_kept hP2 hk1 hap
  clear hF1 hB hvm ht hz1 hk1 hS
  have hS := hS1
  refine lv_aload_n hx hb dL_law_445 rfl (lv_at hl 3 rfl) ?_
  refine la_arg (A := (fun q : Nat => s.heap.size ≤ q)) 1 hx hb hX hbl hbA hS hl rfl rfl dL_law_446 dL_law_447 dL_law_448 dL_law_449 dL_law_450 (by decide) (by omega) hL ?_
  refine la_arg (A := (fun q : Nat => s.heap.size ≤ q)) 2 hx hb hX hbl hbA hS hl rfl rfl dL_law_451 dL_law_452 dL_law_453 dL_law_454 dL_law_455 (by decide) (by omega) hL ?_
  refine la_arg (A := (fun q : Nat => s.heap.size ≤ q)) 3 hx hb hX hbl hbA hS hl rfl rfl dL_law_456 dL_law_457 dL_law_458 dL_law_459 dL_law_460 (by decide) (by omega) hL ?_
  refine la_arg (A := (fun q : Nat => s.heap.size ≤ q)) 4 hx hb hX hbl hbA hS hl rfl rfl dL_law_461 dL_law_462 dL_law_463 dL_law_464 dL_law_465 (by decide) (by omega) hL ?_
  have hF2 := lw_sub (wm_D (g' := mg cA ad2 wa wb wc we rg tx2 T.length) hD2) hS hA
  refine va_calli (va_runV (b := ad2 0) (As := [.int (iZ (xs (i + 1)).toInt), .int (iZ (xs (i + 2)).toInt), .int (iZ (xs (i + 3)).toInt), .int (iZ (xs (i + 4)).toInt)]) (rest := [.int r1]) ⟨hx, hb, hml, hown, hts⟩ (c_X4_scale l D cA tT (va_A (wm_W 23 ad2 (mg cA ad2 wa wb wc we rg tx2 T.length)) H1.size) ad2 H1.size hm hc.2.2.2.2 (xb1 (xs (i + 1))) (xb2 (xs (i + 1))) (xb1 (xs (i + 2))) (xb2 (xs (i + 2))) (xb1 (xs (i + 3))) (xb2 (xs (i + 3))) (xb1 (xs (i + 4))) (xb2 (xs (i + 4)))) (cwV 4 hts gL_law_X4_scale rfl rfl rfl (by decide +kernel) ⟨(Nat.le_of_ble_eq_true rfl), (Nat.le_of_ble_eq_true rfl)⟩) (lw_preV (k := 0) hP2 hK (wm_D hD2) hT hS hA (by decide) rfl rfl) rfl rfl hl.1 rfl (lv_room (Nat.le_of_ble_eq_true rfl)) dL_law_466 ⟨(Nat.le_of_ble_eq_true rfl), (Nat.le_of_ble_eq_true rfl)⟩) hS (fun q _ h => hF2 q h) hF2 (fun r2 u2 t2 H2 locs2 ht hvm hw hB hz1 hk1 hS2 => ?_)
  obtain ⟨e2, wa1, wb1, wc1, we1, rg1, hm1, rfl⟩ := hw
  obtain ⟨hP2, -⟩ := wd_back ht hB
  have hP1 := lw_kept hP1 hk1 (fun i j hi hj h => hap j i hj hi h.symm)
  refine lv_icmp_eq (tgt := 868) hx hb dL_law_469 (by decide) (fun _ => ?_) (fun q => absurd (e1.trans e2.symm) q)
  exact kk _ _ sf1 x1 y1 tx wa1 wb1 wc1 we1 rg1 tx2 T ⟨hc1, by rw [es1]; exact hm1, ht1, ht2, hT9, hP1, hP2, hS2⟩
set_option maxHeartbeats 4000000 in
set_option maxRecDepth 100000 in
theorem lw_c6 {p : Program} {l : Launch} {e : Env} {s : State} {m : MethodId} {below : List Frame} {meth : Method} {c : Code} {b L : Nat} {xs : Nat → Int32} {D : va_G} {cA : Nat → ClassId} {tT : Nat} {ad1 ad2 : Nat → Nat} {Q : State → Prop} (C : lw_C p s m c b L xs D cA tT ad1 ad2) (hL : L < 2 ^ 31) {H : Heap} {locs : List Loc} {sf : Nat → Bool × Nat × Int} {x y : Nat} {tx : Nat → Int32} {wa wb wc we : RWt} {rg : Nat → RWt} {tx2 : Nat → Int32} {T : List Nat} (I : lw_I s D cA ad1 ad2 H locs sf x y tx wa wb wc we rg tx2 T) {ls : Array Slot} {i : Nat} (hl : lv_has ls 4 [(3, .int (nI i)), (0, .ref b), (1, .ref (ad1 0)), (2, .ref (ad2 0))]) (hi : i + 6 ≤ L)
    (kk : ∀ (H : Heap) (locs : List Loc) (sf : Nat → Bool × Nat × Int) (x y : Nat) (tx : Nat → Int32) (wa wb wc we : RWt) (rg : Nat → RWt) (tx2 : Nat → Int32) (T : List Nat), lw_I s D cA ad1 ad2 H locs sf x y tx wa wb wc we rg tx2 T → W p l e room_1 s m #[Value.ref b] below meth c H locs 54 9350 Q (F0 m 868 ls [])) : W p l e room_1 s m #[Value.ref b] below meth c H locs 54 9350 Q (F0 m 474 ls []) := by
  obtain ⟨hx, hb, hml, hown, hts, hX, hbl, hK, hT, hD1, hD2, hap⟩ := C
  obtain ⟨hc, hm, ht1, ht2, hT9, hP1, hP2, hS⟩ := I
  have hbA : ¬ (fun q : Nat => s.heap.size ≤ q) b := Nat.not_le.mpr hbl
  have hA : ∀ q : Nat, s.heap.size ≤ q → (fun q : Nat => s.heap.size ≤ q) q := fun _ h => h
  refine lv_aload_n hx hb dL_law_474 rfl (lv_at hl 2 rfl) ?_
  refine la_arg (A := (fun q : Nat => s.heap.size ≤ q)) 1 hx hb hX hbl hbA hS hl rfl rfl dL_law_475 dL_law_476 dL_law_477 dL_law_478 dL_law_479 (by decide) (by omega) hL ?_
  refine la_arg (A := (fun q : Nat => s.heap.size ≤ q)) 2 hx hb hX hbl hbA hS hl rfl rfl dL_law_480 dL_law_481 dL_law_482 dL_law_483 dL_law_484 (by decide) (by omega) hL ?_
  refine la_arg (A := (fun q : Nat => s.heap.size ≤ q)) 3 hx hb hX hbl hbA hS hl rfl rfl dL_law_485 dL_law_486 dL_law_487 dL_law_488 dL_law_489 (by decide) (by omega) hL ?_
  refine la_arg (A := (fun q : Nat => s.heap.size ≤ q)) 4 hx hb hX hbl hbA hS hl rfl rfl dL_law_490 dL_law_491 dL_law_492 dL_law_493 dL_law_494 (by decide) (by omega) hL ?_
  have hF1 := lw_sub (wm_D (g' := cg cA ad1 sf x y tx T.length) hD1) hS hA
  refine va_calli (va_runV (b := ad1 0) (As := [.int (iZ (xs (i + 1)).toInt), .int (iZ (xs (i + 2)).toInt), .int (iZ (xs (i + 3)).toInt), .int (iZ (xs (i + 4)).toInt)]) (rest := []) ⟨hx, hb, hml, hown, hts⟩ (c_X2_round l D cA tT (va_A (wm_W 31 ad1 (cg cA ad1 sf x y tx T.length)) H.size) ad1 H.size hc (xb1 (xs (i + 1))) (xb2 (xs (i + 1))) (xb1 (xs (i + 2))) (xb2 (xs (i + 2))) (xb1 (xs (i + 3))) (xb2 (xs (i + 3))) (xb1 (xs (i + 4))) (xb2 (xs (i + 4)))) (cwV 4 hts gL_law_X2_round rfl rfl rfl (by decide +kernel) ⟨(Nat.le_of_ble_eq_true rfl), (Nat.le_of_ble_eq_true rfl)⟩) (lw_preV (k := 0) hP1 hK (wm_D hD1) hT hS hA (by decide) rfl rfl) rfl rfl hl.1 rfl (lv_room (Nat.le_of_ble_eq_true rfl)) dL_law_495 ⟨(Nat.le_of_ble_eq_true rfl), (Nat.le_of_ble_eq_true rfl)⟩) hS (fun q _ h => hF1 q h) hF1 (fun r1 u t H1 locs1 ht hvm hw hB hz1 hk1 hS1 => ?_)
  obtain ⟨e1, sf1, x1, y1, hc1, es1, rfl⟩ := hw
  obtain ⟨hP1, -⟩ := wd_back ht hB
  have hP2 := lw_kept hP2 hk1 hap
  clear hF1 hB hvm ht hz1 hk1 hS
  have hS := hS1
  refine lv_aload_n hx hb dL_law_498 rfl (lv_at hl 3 rfl) ?_
  refine la_arg (A := (fun q : Nat => s.heap.size ≤ q)) 1 hx hb hX hbl hbA hS hl rfl rfl dL_law_499 dL_law_500 dL_law_501 dL_law_502 dL_law_503 (by decide) (by omega) hL ?_
  refine la_arg (A := (fun q : Nat => s.heap.size ≤ q)) 2 hx hb hX hbl hbA hS hl rfl rfl dL_law_504 dL_law_505 dL_law_506 dL_law_507 dL_law_508 (by decide) (by omega) hL ?_
  refine la_arg (A := (fun q : Nat => s.heap.size ≤ q)) 3 hx hb hX hbl hbA hS hl rfl rfl dL_law_509 dL_law_510 dL_law_511 dL_law_512 dL_law_513 (by decide) (by omega) hL ?_
  refine la_arg (A := (fun q : Nat => s.heap.size ≤ q)) 4 hx hb hX hbl hbA hS hl rfl rfl dL_law_514 dL_law_515 dL_law_516 dL_law_517 dL_law_518 (by decide) (by omega) hL ?_
  have hF2 := lw_sub (wm_D (g' := mg cA ad2 wa wb wc we rg tx2 T.length) hD2) hS hA
  refine va_calli (va_runV (b := ad2 0) (As := [.int (iZ (xs (i + 1)).toInt), .int (iZ (xs (i + 2)).toInt), .int (iZ (xs (i + 3)).toInt), .int (iZ (xs (i + 4)).toInt)]) (rest := [.int r1]) ⟨hx, hb, hml, hown, hts⟩ (c_X4_round l D cA tT (va_A (wm_W 23 ad2 (mg cA ad2 wa wb wc we rg tx2 T.length)) H1.size) ad2 H1.size hm hc.2.2.2.2 (xb1 (xs (i + 1))) (xb2 (xs (i + 1))) (xb1 (xs (i + 2))) (xb2 (xs (i + 2))) (xb1 (xs (i + 3))) (xb2 (xs (i + 3))) (xb1 (xs (i + 4))) (xb2 (xs (i + 4)))) (cwV 4 hts gL_law_X4_round rfl rfl rfl (by decide +kernel) ⟨(Nat.le_of_ble_eq_true rfl), (Nat.le_of_ble_eq_true rfl)⟩) (lw_preV (k := 0) hP2 hK (wm_D hD2) hT hS hA (by decide) rfl rfl) rfl rfl hl.1 rfl (lv_room (Nat.le_of_ble_eq_true rfl)) dL_law_519 ⟨(Nat.le_of_ble_eq_true rfl), (Nat.le_of_ble_eq_true rfl)⟩) hS (fun q _ h => hF2 q h) hF2 (fun r2 u2 t2 H2 locs2 ht hvm hw hB hz1 hk1 hS2 => ?_)
  obtain ⟨e2, wa1, wb1, wc1, we1, rg1, hm1, rfl⟩ := hw
  obtain ⟨hP2, -⟩ := wd_back ht hB
  have hP1 := lw_kept hP1 hk1 (fun i j hi hj h => hap j i hj hi h.symm)
  refine lv_icmp_eq (tgt := 868) hx hb dL_law_522 (by decide) (fun _ => ?_) (fun q => absurd (e1.trans e2.symm) q)
  exact kk _ _ sf1 x1 y1 tx wa1 wb1 wc1 we1 rg1 tx2 T ⟨hc1, by rw [es1]; exact hm1, ht1, ht2, hT9, hP1, hP2, hS2⟩
set_option maxHeartbeats 4000000 in
set_option maxRecDepth 100000 in
theorem lw_c7 {p : Program} {l : Launch} {e : Env} {s : State} {m : MethodId} {below : List Frame} {meth : Method} {c : Code} {b L : Nat} {xs : Nat → Int32} {D : va_G} {cA : Nat → ClassId} {tT : Nat} {ad1 ad2 : Nat → Nat} {Q : State → Prop} (C : lw_C p s m c b L xs D cA tT ad1 ad2) (hL : L < 2 ^ 31) {H : Heap} {locs : List Loc} {sf : Nat → Bool × Nat × Int} {x y : Nat} {tx : Nat → Int32} {wa wb wc we : RWt} {rg : Nat → RWt} {tx2 : Nat → Int32} {T : List Nat} (I : lw_I s D cA ad1 ad2 H locs sf x y tx wa wb wc we rg tx2 T) {ls : Array Slot} {i : Nat} (hl : lv_has ls 4 [(3, .int (nI i)), (0, .ref b), (1, .ref (ad1 0)), (2, .ref (ad2 0))]) (hi : i + 6 ≤ L)
    (kk : ∀ (H : Heap) (locs : List Loc) (sf : Nat → Bool × Nat × Int) (x y : Nat) (tx : Nat → Int32) (wa wb wc we : RWt) (rg : Nat → RWt) (tx2 : Nat → Int32) (T : List Nat), lw_I s D cA ad1 ad2 H locs sf x y tx wa wb wc we rg tx2 T → W p l e room_1 s m #[Value.ref b] below meth c H locs 54 9350 Q (F0 m 868 ls [])) : W p l e room_1 s m #[Value.ref b] below meth c H locs 54 9350 Q (F0 m 527 ls []) := by
  obtain ⟨hx, hb, hml, hown, hts, hX, hbl, hK, hT, hD1, hD2, hap⟩ := C
  obtain ⟨hc, hm, ht1, ht2, hT9, hP1, hP2, hS⟩ := I
  have hbA : ¬ (fun q : Nat => s.heap.size ≤ q) b := Nat.not_le.mpr hbl
  have hA : ∀ q : Nat, s.heap.size ≤ q → (fun q : Nat => s.heap.size ≤ q) q := fun _ h => h
  refine lv_aload_n hx hb dL_law_527 rfl (lv_at hl 2 rfl) ?_
  refine la_arg (A := (fun q : Nat => s.heap.size ≤ q)) 1 hx hb hX hbl hbA hS hl rfl rfl dL_law_528 dL_law_529 dL_law_530 dL_law_531 dL_law_532 (by decide) (by omega) hL ?_
  refine la_arg (A := (fun q : Nat => s.heap.size ≤ q)) 2 hx hb hX hbl hbA hS hl rfl rfl dL_law_533 dL_law_534 dL_law_535 dL_law_536 dL_law_537 (by decide) (by omega) hL ?_
  refine la_arg (A := (fun q : Nat => s.heap.size ≤ q)) 3 hx hb hX hbl hbA hS hl rfl rfl dL_law_538 dL_law_539 dL_law_540 dL_law_541 dL_law_542 (by decide) (by omega) hL ?_
  have hF1 := lw_sub (wm_D (g' := cg cA ad1 sf x y tx T.length) hD1) hS hA
  refine va_calli (va_runV (b := ad1 0) (As := [.int (iZ (xs (i + 1)).toInt), .int (iZ (xs (i + 2)).toInt), .int (iZ (xs (i + 3)).toInt)]) (rest := []) ⟨hx, hb, hml, hown, hts⟩ (c_X2_turn l D cA tT (va_A (wm_W 31 ad1 (cg cA ad1 sf x y tx T.length)) H.size) ad1 H.size hc (xb1 (xs (i + 1))) (xb2 (xs (i + 1))) (xb1 (xs (i + 2))) (xb2 (xs (i + 2))) (xb1 (xs (i + 3))) (xb2 (xs (i + 3)))) (cwV 3 hts gL_law_X2_turn rfl rfl rfl (by decide +kernel) ⟨(Nat.le_of_ble_eq_true rfl), (Nat.le_of_ble_eq_true rfl)⟩) (lw_preV (k := 0) hP1 hK (wm_D hD1) hT hS hA (by decide) rfl rfl) rfl rfl hl.1 rfl (lv_room (Nat.le_of_ble_eq_true rfl)) dL_law_543 ⟨(Nat.le_of_ble_eq_true rfl), (Nat.le_of_ble_eq_true rfl)⟩) hS (fun q _ h => hF1 q h) hF1 (fun r1 u t H1 locs1 ht hvm hw hB hz1 hk1 hS1 => ?_)
  obtain ⟨e1, sf1, x1, y1, hc1, es1, rfl⟩ := hw
  obtain ⟨hP1, -⟩ := wd_back ht hB
  have hP2 := lw_kept hP2 hk1 hap
  clear hF1 hB hvm ht hz1 hk1 hS
  have hS := hS1
  refine lv_aload_n hx hb dL_law_546 rfl (lv_at hl 3 rfl) ?_
  refine la_arg (A := (fun q : Nat => s.heap.size ≤ q)) 1 hx hb hX hbl hbA hS hl rfl rfl dL_law_547 dL_law_548 dL_law_549 dL_law_550 dL_law_551 (by decide) (by omega) hL ?_
  refine la_arg (A := (fun q : Nat => s.heap.size ≤ q)) 2 hx hb hX hbl hbA hS hl rfl rfl dL_law_552 dL_law_553 dL_law_554 dL_law_555 dL_law_556 (by decide) (by omega) hL ?_
  refine la_arg (A := (fun q : Nat => s.heap.size ≤ q)) 3 hx hb hX hbl hbA hS hl rfl rfl dL_law_557 dL_law_558 dL_law_559 dL_law_560 dL_law_561 (by decide) (by omega) hL ?_
  have hF2 := lw_sub (wm_D (g' := mg cA ad2 wa wb wc we rg tx2 T.length) hD2) hS hA
  refine va_calli (va_runV (b := ad2 0) (As := [.int (iZ (xs (i + 1)).toInt), .int (iZ (xs (i + 2)).toInt), .int (iZ (xs (i + 3)).toInt)]) (rest := [.int r1]) ⟨hx, hb, hml, hown, hts⟩ (c_X4_turn l D cA tT (va_A (wm_W 23 ad2 (mg cA ad2 wa wb wc we rg tx2 T.length)) H1.size) ad2 H1.size hm hc.2.2.2.2 (xb1 (xs (i + 1))) (xb2 (xs (i + 1))) (xb1 (xs (i + 2))) (xb2 (xs (i + 2))) (xb1 (xs (i + 3))) (xb2 (xs (i + 3)))) (cwV 3 hts gL_law_X4_turn rfl rfl rfl (by decide +kernel) ⟨(Nat.le_of_ble_eq_true rfl), (Nat.le_of_ble_eq_true rfl)⟩) (lw_preV (k := 0) hP2 hK (wm_D hD2) hT hS hA (by decide) rfl rfl) rfl rfl hl.1 rfl (lv_room (Nat.le_of_ble_eq_true rfl)) dL_law_562 ⟨(Nat.le_of_ble_eq_true rfl), (Nat.le_of_ble_eq_true rfl)⟩) hS (fun q _ h => hF2 q h) hF2 (fun r2 u2 t2 H2 locs2 ht hvm hw hB hz1 hk1 hS2 => ?_)
  obtain ⟨e2, wa1, wb1, wc1, we1, rg1, hm1, rfl⟩ := hw
  obtain ⟨hP2, -⟩ := wd_back ht hB
  have hP1 := lw_kept hP1 hk1 (fun i j hi hj h => hap j i hj hi h.symm)
  refine lv_icmp_eq (tgt := 868) hx hb dL_law_565 (by decide) (fun _ => ?_) (fun q => absurd (e1.trans e2.symm) q)
  exact kk _ _ sf1 x1 y1 tx wa1 wb1 wc1 we1 rg1 tx2 T ⟨hc1, by rw [es1]; exact hm1, ht1, ht2, hT9, hP1, hP2, hS2⟩
set_option maxHeartbeats 4000000 in
set_option maxRecDepth 100000 in
theorem lw_c8 {p : Program} {l : Launch} {e : Env} {s : State} {m : MethodId} {below : List Frame} {meth : Method} {c : Code} {b L : Nat} {xs : Nat → Int32} {D : va_G} {cA : Nat → ClassId} {tT : Nat} {ad1 ad2 : Nat → Nat} {Q : State → Prop} (C : lw_C p s m c b L xs D cA tT ad1 ad2) (hL : L < 2 ^ 31) {H : Heap} {locs : List Loc} {sf : Nat → Bool × Nat × Int} {x y : Nat} {tx : Nat → Int32} {wa wb wc we : RWt} {rg : Nat → RWt} {tx2 : Nat → Int32} {T : List Nat} (I : lw_I s D cA ad1 ad2 H locs sf x y tx wa wb wc we rg tx2 T) {ls : Array Slot} {i : Nat} (hl : lv_has ls 4 [(3, .int (nI i)), (0, .ref b), (1, .ref (ad1 0)), (2, .ref (ad2 0))]) (hi : i + 6 ≤ L)
    (kk : ∀ (H : Heap) (locs : List Loc) (sf : Nat → Bool × Nat × Int) (x y : Nat) (tx : Nat → Int32) (wa wb wc we : RWt) (rg : Nat → RWt) (tx2 : Nat → Int32) (T : List Nat), lw_I s D cA ad1 ad2 H locs sf x y tx wa wb wc we rg tx2 T → W p l e room_1 s m #[Value.ref b] below meth c H locs 54 9350 Q (F0 m 868 ls [])) : W p l e room_1 s m #[Value.ref b] below meth c H locs 54 9350 Q (F0 m 570 ls []) := by
  obtain ⟨hx, hb, hml, hown, hts, hX, hbl, hK, hT, hD1, hD2, hap⟩ := C
  obtain ⟨hc, hm, ht1, ht2, hT9, hP1, hP2, hS⟩ := I
  have hbA : ¬ (fun q : Nat => s.heap.size ≤ q) b := Nat.not_le.mpr hbl
  have hA : ∀ q : Nat, s.heap.size ≤ q → (fun q : Nat => s.heap.size ≤ q) q := fun _ h => h
  refine lv_aload_n hx hb dL_law_570 rfl (lv_at hl 2 rfl) ?_
  refine la_arg (A := (fun q : Nat => s.heap.size ≤ q)) 1 hx hb hX hbl hbA hS hl rfl rfl dL_law_571 dL_law_572 dL_law_573 dL_law_574 dL_law_575 (by decide) (by omega) hL ?_
  refine la_arg (A := (fun q : Nat => s.heap.size ≤ q)) 2 hx hb hX hbl hbA hS hl rfl rfl dL_law_576 dL_law_577 dL_law_578 dL_law_579 dL_law_580 (by decide) (by omega) hL ?_
  refine la_arg (A := (fun q : Nat => s.heap.size ≤ q)) 3 hx hb hX hbl hbA hS hl rfl rfl dL_law_581 dL_law_582 dL_law_583 dL_law_584 dL_law_585 (by decide) (by omega) hL ?_
  refine la_arg (A := (fun q : Nat => s.heap.size ≤ q)) 4 hx hb hX hbl hbA hS hl rfl rfl dL_law_586 dL_law_587 dL_law_588 dL_law_589 dL_law_590 (by decide) (by omega) hL ?_
  have hF1 := lw_sub (wm_D (g' := cg cA ad1 sf x y tx T.length) hD1) hS hA
  refine va_calli (va_runV (b := ad1 0) (As := [.int (iZ (xs (i + 1)).toInt), .int (iZ (xs (i + 2)).toInt), .int (iZ (xs (i + 3)).toInt), .int (iZ (xs (i + 4)).toInt)]) (rest := []) ⟨hx, hb, hml, hown, hts⟩ (c_X2_move l D cA tT (va_A (wm_W 31 ad1 (cg cA ad1 sf x y tx T.length)) H.size) ad1 H.size hc (xb1 (xs (i + 1))) (xb2 (xs (i + 1))) (xb1 (xs (i + 2))) (xb2 (xs (i + 2))) (xb1 (xs (i + 3))) (xb2 (xs (i + 3))) (xb1 (xs (i + 4))) (xb2 (xs (i + 4)))) (cwV 4 hts gL_law_X2_move rfl rfl rfl (by decide +kernel) ⟨(Nat.le_of_ble_eq_true rfl), (Nat.le_of_ble_eq_true rfl)⟩) (lw_preV (k := 0) hP1 hK (wm_D hD1) hT hS hA (by decide) rfl rfl) rfl rfl hl.1 rfl (lv_room (Nat.le_of_ble_eq_true rfl)) dL_law_591 ⟨(Nat.le_of_ble_eq_true rfl), (Nat.le_of_ble_eq_true rfl)⟩) hS (fun q _ h => hF1 q h) hF1 (fun r1 u t H1 locs1 ht hvm hw hB hz1 hk1 hS1 => ?_)
  obtain ⟨e1, sf1, x1, y1, hc1, es1, rfl⟩ := hw
  obtain ⟨hP1, -⟩ := wd_back ht hB
  have hP2 := lw_kept hP2 hk1 hap
  clear hF1 hB hvm ht hz1 hk1 hS
  have hS := hS1
  refine lv_aload_n hx hb dL_law_594 rfl (lv_at hl 3 rfl) ?_
  refine la_arg (A := (fun q : Nat => s.heap.size ≤ q)) 1 hx hb hX hbl hbA hS hl rfl rfl dL_law_595 dL_law_596 dL_law_597 dL_law_598 dL_law_599 (by decide) (by omega) hL ?_
  refine la_arg (A := (fun q : Nat => s.heap.size ≤ q)) 2 hx hb hX hbl hbA hS hl rfl rfl dL_law_600 dL_law_601 dL_law_602 dL_law_603 dL_law_604 (by decide) (by omega) hL ?_
  refine la_arg (A := (fun q : Nat => s.heap.size ≤ q)) 3 hx hb hX hbl hbA hS hl rfl rfl dL_law_605 dL_law_606 dL_law_607 dL_law_608 dL_law_609 (by decide) (by omega) hL ?_
  refine la_arg (A := (fun q : Nat => s.heap.size ≤ q)) 4 hx hb hX hbl hbA hS hl rfl rfl dL_law_610 dL_law_611 dL_law_612 dL_law_613 dL_law_614 (by decide) (by omega) hL ?_
  have hF2 := lw_sub (wm_D (g' := mg cA ad2 wa wb wc we rg tx2 T.length) hD2) hS hA
  refine va_calli (va_runV (b := ad2 0) (As := [.int (iZ (xs (i + 1)).toInt), .int (iZ (xs (i + 2)).toInt), .int (iZ (xs (i + 3)).toInt), .int (iZ (xs (i + 4)).toInt)]) (rest := [.int r1]) ⟨hx, hb, hml, hown, hts⟩ (c_X4_move l D cA tT (va_A (wm_W 23 ad2 (mg cA ad2 wa wb wc we rg tx2 T.length)) H1.size) ad2 H1.size hm hc.2.2.2.2 (xb1 (xs (i + 1))) (xb2 (xs (i + 1))) (xb1 (xs (i + 2))) (xb2 (xs (i + 2))) (xb1 (xs (i + 3))) (xb2 (xs (i + 3))) (xb1 (xs (i + 4))) (xb2 (xs (i + 4)))) (cwV 4 hts gL_law_X4_move rfl rfl rfl (by decide +kernel) ⟨(Nat.le_of_ble_eq_true rfl), (Nat.le_of_ble_eq_true rfl)⟩) (lw_preV (k := 0) hP2 hK (wm_D hD2) hT hS hA (by decide) rfl rfl) rfl rfl hl.1 rfl (lv_room (Nat.le_of_ble_eq_true rfl)) dL_law_615 ⟨(Nat.le_of_ble_eq_true rfl), (Nat.le_of_ble_eq_true rfl)⟩) hS (fun q _ h => hF2 q h) hF2 (fun r2 u2 t2 H2 locs2 ht hvm hw hB hz1 hk1 hS2 => ?_)
  obtain ⟨e2, wa1, wb1, wc1, we1, rg1, hm1, rfl⟩ := hw
  obtain ⟨hP2, -⟩ := wd_back ht hB
  have hP1 := lw_kept hP1 hk1 (fun i j hi hj h => hap j i hj hi h.symm)
  refine lv_icmp_eq (tgt := 868) hx hb dL_law_618 (by decide) (fun _ => ?_) (fun q => absurd (e1.trans e2.symm) q)
  exact kk _ _ sf1 x1 y1 tx wa1 wb1 wc1 we1 rg1 tx2 T ⟨hc1, by rw [es1]; exact hm1, ht1, ht2, hT9, hP1, hP2, hS2⟩
