set_option maxHeartbeats 4000000 in
set_option maxRecDepth 100000 in
theorem lw_c0 {p : Program} {l : Launch} {e : Env} {s : State} {m : MethodId} {below : List Frame} {meth : Method} {c : Code} {b L : Nat} {xs : Nat → Int32} {D : va_G} {cA : Nat → ClassId} {tT : Nat} {ad1 ad2 : Nat → Nat} {Q : State → Prop} (C : lw_C p s m c b L xs D cA tT ad1 ad2) (hL : L < 2 ^ 31) {H : Heap} {locs : List Loc} {sf : Nat → Bool × Nat × Int} {x y : Nat} {tx : Nat → Int32} {wa wb wc we : RWt} {rg : Nat → RWt} {tx2 : Nat → Int32} {T : List Nat} (I : lw_I s D cA ad1 ad2 H locs sf x y tx wa wb wc we rg tx2 T) {ls : Array Slot} {i : Nat} (hl : lv_has ls 4 [(3, .int (nI i)), (0, .ref b), (1, .ref (ad1 0)), (2, .ref (ad2 0))]) (hi : i + 6 ≤ L)
    (kk : ∀ (H : Heap) (locs : List Loc) (sf : Nat → Bool × Nat × Int) (x y : Nat) (tx : Nat → Int32) (wa wb wc we : RWt) (rg : Nat → RWt) (tx2 : Nat → Int32) (T : List Nat), lw_I s D cA ad1 ad2 H locs sf x y tx wa wb wc we rg tx2 T → W p l e room_1 s m #[Value.ref b] below meth c H locs 54 9350 Q (F0 m 868 ls [])) : W p l e room_1 s m #[Value.ref b] below meth c H locs 54 9350 Q (F0 m 116 ls []) := by
  obtain ⟨hx, hb, hml, hown, hts, hX, hbl, hK, hT, hD1, hD2, hap⟩ := C
  obtain ⟨hc, hm, ht1, ht2, hT9, hP1, hP2, hS⟩ := I
  have hbA : ¬ (fun q : Nat => s.heap.size ≤ q) b := Nat.not_le.mpr hbl
  have hA : ∀ q : Nat, s.heap.size ≤ q → (fun q : Nat => s.heap.size ≤ q) q := fun _ h => h
  refine lv_aload_n hx hb dL_law_116 rfl (lv_at hl 2 rfl) ?_
  refine la_arg (A := (fun q : Nat => s.heap.size ≤ q)) 1 hx hb hX hbl hbA hS hl rfl rfl dL_law_117 dL_law_118 dL_law_119 dL_law_120 dL_law_121 (by decide) (by omega) hL ?_
  refine la_arg (A := (fun q : Nat => s.heap.size ≤ q)) 2 hx hb hX hbl hbA hS hl rfl rfl dL_law_122 dL_law_123 dL_law_124 dL_law_125 dL_law_126 (by decide) (by omega) hL ?_
  refine lv_i2l (v := (iZ (xs (i + 2)).toInt).toInt64) hx hb dL_law_127 rfl ?_
  refine lv_bipush (v := nI 32) hx hb dL_law_128 (by decide) ?_
  refine lv_lshl (v := (iZ (xs (i + 2)).toInt).toInt64 <<< ((nI 32).toInt64 &&& 63)) hx hb dL_law_130 rfl ?_
  refine la_arg (A := (fun q : Nat => s.heap.size ≤ q)) 3 hx hb hX hbl hbA hS hl rfl rfl dL_law_131 dL_law_132 dL_law_133 dL_law_134 dL_law_135 (by decide) (by omega) hL ?_
  refine lv_i2l (v := (iZ (xs (i + 3)).toInt).toInt64) hx hb dL_law_136 rfl ?_
  refine lv_ldc2 hx hb hown (hts (.constantLong RL 13 (4294967295)) (by decide +kernel)) dL_law_137 ?_
  refine lv_land hx hb dL_law_140 ?_
  refine lv_lor hx hb dL_law_141 ?_
  refine tp_l (y := vv (xs (i + 2)).toInt (xs (i + 3)).toInt) rfl ?_
  refine la_arg (A := (fun q : Nat => s.heap.size ≤ q)) 4 hx hb hX hbl hbA hS hl rfl rfl dL_law_142 dL_law_143 dL_law_144 dL_law_145 dL_law_146 (by decide) (by omega) hL ?_
  have hF1 := lw_sub (wm_D (g' := cg cA ad1 sf x y tx T.length) hD1) hS hA
  refine va_calli (va_runV (b := ad1 0) (As := [.int (iZ (xs (i + 1)).toInt), .long (vv (xs (i + 2)).toInt (xs (i + 3)).toInt), .int (iZ (xs (i + 4)).toInt)]) (rest := []) ⟨hx, hb, hml, hown, hts⟩ (c_X2_load l D cA tT (va_A (wm_W 31 ad1 (cg cA ad1 sf x y tx T.length)) H.size) ad1 H.size (v := vv (xs (i + 2)).toInt (xs (i + 3)).toInt) hc (xb1 (xs (i + 1))) (xb2 (xs (i + 1))) (xb1 (xs (i + 4))) (xb2 (xs (i + 4)))) (cwV 3 hts gL_law_X2_load rfl rfl rfl (by decide +kernel) ⟨(Nat.le_of_ble_eq_true rfl), (Nat.le_of_ble_eq_true rfl)⟩) (lw_preV (k := 0) hP1 hK (wm_D hD1) hT hS hA (by decide) rfl rfl) rfl rfl hl.1 rfl (lv_room (Nat.le_of_ble_eq_true rfl)) dL_law_147 ⟨(Nat.le_of_ble_eq_true rfl), (Nat.le_of_ble_eq_true rfl)⟩) hS (fun q _ h => hF1 q h) hF1 (fun r1 u t H1 locs1 ht hvm hw hB hz1 hk1 hS1 => ?_)
  obtain ⟨e1, sf1, x1, y1, hc1, es1, rfl⟩ := hw
  obtain ⟨hP1, -⟩ := wd_back ht hB
  have hP2 := lw_kept hP2 hk1 hap
  clear hF1 hB hvm ht hz1 hk1 hS
  have hS := hS1
  refine lv_aload_n hx hb dL_law_150 rfl (lv_at hl 3 rfl) ?_
  refine la_arg (A := (fun q : Nat => s.heap.size ≤ q)) 1 hx hb hX hbl hbA hS hl rfl rfl dL_law_151 dL_law_152 dL_law_153 dL_law_154 dL_law_155 (by decide) (by omega) hL ?_
  refine la_arg (A := (fun q : Nat => s.heap.size ≤ q)) 2 hx hb hX hbl hbA hS hl rfl rfl dL_law_156 dL_law_157 dL_law_158 dL_law_159 dL_law_160 (by decide) (by omega) hL ?_
  refine lv_i2l (v := (iZ (xs (i + 2)).toInt).toInt64) hx hb dL_law_161 rfl ?_
  refine lv_bipush (v := nI 32) hx hb dL_law_162 (by decide) ?_
  refine lv_lshl (v := (iZ (xs (i + 2)).toInt).toInt64 <<< ((nI 32).toInt64 &&& 63)) hx hb dL_law_164 rfl ?_
  refine la_arg (A := (fun q : Nat => s.heap.size ≤ q)) 3 hx hb hX hbl hbA hS hl rfl rfl dL_law_165 dL_law_166 dL_law_167 dL_law_168 dL_law_169 (by decide) (by omega) hL ?_
  refine lv_i2l (v := (iZ (xs (i + 3)).toInt).toInt64) hx hb dL_law_170 rfl ?_
  refine lv_ldc2 hx hb hown (hts (.constantLong RL 13 (4294967295)) (by decide +kernel)) dL_law_171 ?_
  refine lv_land hx hb dL_law_174 ?_
  refine lv_lor hx hb dL_law_175 ?_
  refine tp_l (y := vv (xs (i + 2)).toInt (xs (i + 3)).toInt) rfl ?_
  refine la_arg (A := (fun q : Nat => s.heap.size ≤ q)) 4 hx hb hX hbl hbA hS hl rfl rfl dL_law_176 dL_law_177 dL_law_178 dL_law_179 dL_law_180 (by decide) (by omega) hL ?_
  have hF2 := lw_sub (wm_D (g' := mg cA ad2 wa wb wc we rg tx2 T.length) hD2) hS hA
  refine va_calli (va_runV (b := ad2 0) (As := [.int (iZ (xs (i + 1)).toInt), .long (vv (xs (i + 2)).toInt (xs (i + 3)).toInt), .int (iZ (xs (i + 4)).toInt)]) (rest := [.int r1]) ⟨hx, hb, hml, hown, hts⟩ (c_X4_load l D cA tT (va_A (wm_W 23 ad2 (mg cA ad2 wa wb wc we rg tx2 T.length)) H1.size) ad2 H1.size (v := vv (xs (i + 2)).toInt (xs (i + 3)).toInt) hm hc.2.2.2.2 (xb1 (xs (i + 1))) (xb2 (xs (i + 1))) (xb1 (xs (i + 4))) (xb2 (xs (i + 4)))) (cwV 3 hts gL_law_X4_load rfl rfl rfl (by decide +kernel) ⟨(Nat.le_of_ble_eq_true rfl), (Nat.le_of_ble_eq_true rfl)⟩) (lw_preV (k := 0) hP2 hK (wm_D hD2) hT hS hA (by decide) rfl rfl) rfl rfl hl.1 rfl (lv_room (Nat.le_of_ble_eq_true rfl)) dL_law_181 ⟨(Nat.le_of_ble_eq_true rfl), (Nat.le_of_ble_eq_true rfl)⟩) hS (fun q _ h => hF2 q h) hF2 (fun r2 u2 t2 H2 locs2 ht hvm hw hB hz1 hk1 hS2 => ?_)
  obtain ⟨e2, wa1, wb1, wc1, we1, rg1, hm1, rfl⟩ := hw
  obtain ⟨hP2, -⟩ := wd_back ht hB
  have hP1 := lw_kept hP1 hk1 (fun i j hi hj h => hap j i hj hi h.symm)
  refine lv_icmp_eq (tgt := 868) hx hb dL_law_184 (by decide) (fun _ => ?_) (fun q => absurd (e1.trans e2.symm) q)
  exact kk _ _ sf1 x1 y1 tx wa1 wb1 wc1 we1 rg1 tx2 T ⟨hc1, by rw [es1]; exact hm1, ht1, ht2, hT9, hP1, hP2, hS2⟩
