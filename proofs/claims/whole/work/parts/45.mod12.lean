theorem ov_1 {x Y d : Nat} : (x * 10 + d) % Y = (x % Y * 10 + d) % Y := by
  have h := Nat.div_add_mod x Y
  have e : x * 10 + d = (x % Y * 10 + d) + Y * (x / Y * 10) := by
    have e2 : Y * (x / Y * 10) = Y * (x / Y) * 10 := by rw [Nat.mul_assoc]
    rw [e2]; omega
  rw [e, Nat.add_mul_mod_self_left]
theorem ov_2 {x Y d : Nat} (hY : 0 < Y) (hd : d < 10) : (x * 10 + d) / Y % 10 = (x % Y * 10 + d) / Y := by
  have h := Nat.div_add_mod x Y
  have e : x * 10 + d = (x % Y * 10 + d) + Y * (x / Y * 10) := by
    have e2 : Y * (x / Y * 10) = Y * (x / Y) * 10 := by rw [Nat.mul_assoc]
    rw [e2]; omega
  have hl : (x % Y * 10 + d) / Y < 10 := by
    rw [Nat.div_lt_iff_lt_mul hY]
    have := Nat.mod_lt x hY
    omega
  rw [e, Nat.add_mul_div_left _ _ hY]
  generalize (x % Y * 10 + d) / Y = t at hl ⊢
  omega
theorem ov_x (X k : Nat) : X / 10 ^ k = X / 10 ^ (k + 1) * 10 + X / 10 ^ k % 10 := by rw [tp_q]; omega
theorem ov_q {E Y q R : Nat} (h : R + q * Y = E) (hl : R < Y) : q = E / Y ∧ R = E % Y := by
  subst h
  rw [Nat.add_mul_mod_self_right, Nat.mod_eq_of_lt hl, Nat.add_mul_div_right _ _ (by omega), Nat.div_eq_of_lt hl]
  exact ⟨by omega, rfl⟩
set_option maxHeartbeats 4000000 in
set_option maxRecDepth 100000 in
theorem lp_X4_over_t1 {p : Program} {l : Launch} {e : Env} {R : Room} {s : State} {m : MethodId} {args : Array Value} {below : List Frame} {meth : Method} {c : Code} {Q : State → Prop} {D : va_G} {cA : Nat → ClassId} {tT : Nat} {A : Nat → Prop} {ad : Nat → Nat} {rg : Nat → RWt} {tx : Nat → Int32} {tl : Nat} {fa fb fc fe : Nat → Int32} {na nb nc : Nat} {ba bb bc be : Bool} {za zb zc ze : Int} {v9 : Nat} {k9 : Nat} (S : CallFix p m c cX4_over 6 s args wsX4_over RX4) (hK : va_K D vwCl (ty_s cA) s) (hT : st_T tT A s s.heap) (kk : ∀ (H : Heap) (locs : List Loc) (ls : Array Slot), rv fe (nd_p v9) v9 → va_P D vwCl (wm_W 23 ad (mg cA ad (fa, na, ba, za) (fb, nb, bb, zb) (fc, nc, bc, zc) (fe, nd_p v9, be, ze) rg tx tl)) H → va_D A (wm_W 23 ad (mg cA ad (fa, na, ba, za) (fb, nb, bb, zb) (fc, nc, bc, zc) (fe, nd_p v9, be, ze) rg tx tl)) → va_S A s.heap H locs → lv_has ls 6 [(0, .ref (ad 0)), (1, .int (nI (k9)))] → W p l e R s m args below meth c H locs 0 0 Q (F0 m 164 ls [])) :
    ∀ (n9 : Nat) (H : Heap) (locs : List Loc) (ls : Array Slot), n9 + 1 ≤ 800 → dv fe (n9 + 1) v9 → va_P D vwCl (wm_W 23 ad (mg cA ad (fa, na, ba, za) (fb, nb, bb, zb) (fc, nc, bc, zc) (fe, n9 + 1, be, ze) rg tx tl)) H → va_D A (wm_W 23 ad (mg cA ad (fa, na, ba, za) (fb, nb, bb, zb) (fc, nc, bc, zc) (fe, n9 + 1, be, ze) rg tx tl)) → va_S A s.heap H locs → lv_has ls 6 [(0, .ref (ad 0)), (1, .int (nI (k9)))] → W p l e R s m args below meth c H locs 0 0 Q (F0 m 117 ls []) := by
  obtain ⟨hx, hb, hml, hown, hts⟩ := S
  have in3 : ∀ w ∈ wsX30, w ∈ wsX4_over := by decide +kernel
  have in4 : ∀ w ∈ wsX40, w ∈ wsX4_over := by decide +kernel
  intro n9
  induction n9 with
  | zero =>
    intro H locs ls hn hv hP hD hS hl
    refine lv_aload_n hx hb dX4_over_117 rfl (lv_at hl 0 rfl) ?_
    refine rg_4_e hx hb hts in4 hown hK hP 0 (by decide) mg_0 (hts _ (by decide +kernel)) dX4_over_118 ?_
    refine rg_3_n hx hb hts in3 hown hK hP 9 (by omega) mg_E.1 (hts _ (by decide +kernel)) dX4_over_121 ?_
    refine tp_i (y := nI (0 + 1)) rfl ?_
    refine lv_iconst (v := nI (1)) hx hb dX4_over_124 (by decide) ?_
    refine bi_le (tgt := 164) hx hb dX4_over_125 (by decide) (by omega) (by omega) (fun q => ?_) (fun q => ?_)
    · have e1 : nd_p v9 = 0 + 1 := nd_p1 (by simpa using hv.1)
      exact kk H locs ls (dv_rv hv (by decide)) (by rw [e1]; exact hP) (by rw [e1]; exact hD) hS hl
    · exact absurd (Nat.le_refl 1) q
  | succ n9 ih =>
    intro H locs ls hn hv hP hD hS hl
    refine lv_aload_n hx hb dX4_over_117 rfl (lv_at hl 0 rfl) ?_
    refine rg_4_e hx hb hts in4 hown hK hP 0 (by decide) mg_0 (hts _ (by decide +kernel)) dX4_over_118 ?_
    refine rg_3_n hx hb hts in3 hown hK hP 9 (by omega) mg_E.1 (hts _ (by decide +kernel)) dX4_over_121 ?_
    refine tp_i (y := nI (n9 + 1 + 1)) rfl ?_
    refine lv_iconst (v := nI (1)) hx hb dX4_over_124 (by decide) ?_
    refine bi_le (tgt := 164) hx hb dX4_over_125 (by decide) (by omega) (by omega) (fun q => ?_) (fun q => ?_)
    · exact absurd q (by omega)
    · have hd := dg_lt v9 (n9 + 1)
      refine lv_aload_n hx hb dX4_over_128 rfl (lv_at hl 0 rfl) ?_
      refine rg_4_e hx hb hts in4 hown hK hP 0 (by decide) mg_0 (hts _ (by decide +kernel)) dX4_over_129 ?_
      refine rg_3_d hx hb hts in3 hown hK hP 9 (by omega) mg_E.1 (hts _ (by decide +kernel)) dX4_over_132 ?_
      refine lv_aload_n hx hb dX4_over_135 rfl (lv_at hl 0 rfl) ?_
      refine rg_4_e hx hb hts in4 hown hK hP 0 (by decide) mg_0 (hts _ (by decide +kernel)) dX4_over_136 ?_
      refine rg_3_n hx hb hts in3 hown hK hP 9 (by omega) mg_E.1 (hts _ (by decide +kernel)) dX4_over_139 ?_
      refine tp_i (y := nI (n9 + 1 + 1)) rfl ?_
      refine lv_iconst (v := nI (1)) hx hb dX4_over_142 (by decide) ?_
      refine lv_isub hx hb dX4_over_143 ?_
      refine tp_i (y := nI (n9 + 1)) (nI_sub1 (n9 + 1)) ?_
      refine rn_i hx hb hK hP (9 + 1) (by omega) mg_E.2 (by omega) (by decide) dX4_over_144 ?_
      refine tp_i (y := nI (v9 / 10 ^ (n9 + 1) % 10)) (hv.2 (n9 + 1) (by omega)) ?_
      refine bz_ne (tgt := 164) hx hb dX4_over_145 (by decide) (by omega) (fun q2 => ?_) (fun q2 => ?_)
      · have e1 : nd_p v9 = n9 + 1 + 1 := nd_p_eq hv.1 q2
        exact kk H locs ls (dv_rv hv (by omega)) (by rw [e1]; exact hP) (by rw [e1]; exact hD) hS hl
      · refine lv_aload_n hx hb dX4_over_148 rfl (lv_at hl 0 rfl) ?_
        refine rg_4_e hx hb hts in4 hown hK hP 0 (by decide) mg_0 (hts _ (by decide +kernel)) dX4_over_149 ?_
        refine lv_dup hx hb dX4_over_152 rfl ?_
        refine rg_3_n hx hb hts in3 hown hK hP 9 (by omega) mg_E.1 (hts _ (by decide +kernel)) dX4_over_153 ?_
        refine tp_i (y := nI (n9 + 1 + 1)) rfl ?_
        refine lv_iconst (v := nI (1)) hx hb dX4_over_156 (by decide) ?_
        refine lv_isub hx hb dX4_over_157 ?_
        refine tp_i (y := nI (n9 + 1)) (nI_sub1 (n9 + 1)) ?_
        refine rp_3_n hx hb hts in3 hown hK hP hD hS 9 (by omega) mg_E.1 (hts _ (by decide +kernel)) rfl rfl dX4_over_158 (fun H locs hP hD hS => ?_)
        rw [mg_pe (n9 + 1) be ze (v := nI (be.toNat)) rfl] at hP hD
        refine lv_goto (tgt := 117) hx hb dX4_over_161 (by decide) ?_
        exact ih H locs ls (by omega) (dv_dn hv q2) hP hD hS hl
set_option maxHeartbeats 4000000 in
set_option maxRecDepth 100000 in
theorem lp_X4_over_t2 {p : Program} {l : Launch} {e : Env} {R : Room} {s : State} {m : MethodId} {args : Array Value} {below : List Frame} {meth : Method} {c : Code} {Q : State → Prop} {D : va_G} {cA : Nat → ClassId} {tT : Nat} {A : Nat → Prop} {ad : Nat → Nat} {rg : Nat → RWt} {tx : Nat → Int32} {tl : Nat} {fa fb fc fe : Nat → Int32} {na nb nc : Nat} {ba bb bc be : Bool} {za zb zc ze : Int} {v9 : Nat} {k9 q9 : Nat} (S : CallFix p m c cX4_over 6 s args wsX4_over RX4) (hK : va_K D vwCl (ty_s cA) s) (hT : st_T tT A s s.heap) (kk : ∀ (H : Heap) (locs : List Loc) (ls : Array Slot), rv fe (nd_p v9) v9 → va_P D vwCl (wm_W 23 ad (mg cA ad (fa, na, ba, za) (fb, nb, bb, zb) (fc, nc, bc, zc) (fe, nd_p v9, be, ze) rg tx tl)) H → va_D A (wm_W 23 ad (mg cA ad (fa, na, ba, za) (fb, nb, bb, zb) (fc, nc, bc, zc) (fe, nd_p v9, be, ze) rg tx tl)) → va_S A s.heap H locs → lv_has ls 6 [(0, .ref (ad 0)), (1, .int (nI (k9))), (2, .int (nI (q9)))] → W p l e R s m args below meth c H locs 0 0 Q (F0 m 327 ls [])) :
    ∀ (n9 : Nat) (H : Heap) (locs : List Loc) (ls : Array Slot), n9 + 1 ≤ 800 → dv fe (n9 + 1) v9 → va_P D vwCl (wm_W 23 ad (mg cA ad (fa, na, ba, za) (fb, nb, bb, zb) (fc, nc, bc, zc) (fe, n9 + 1, be, ze) rg tx tl)) H → va_D A (wm_W 23 ad (mg cA ad (fa, na, ba, za) (fb, nb, bb, zb) (fc, nc, bc, zc) (fe, n9 + 1, be, ze) rg tx tl)) → va_S A s.heap H locs → lv_has ls 6 [(0, .ref (ad 0)), (1, .int (nI (k9))), (2, .int (nI (q9)))] → W p l e R s m args below meth c H locs 0 0 Q (F0 m 280 ls []) := by
  obtain ⟨hx, hb, hml, hown, hts⟩ := S
  have in3 : ∀ w ∈ wsX30, w ∈ wsX4_over := by decide +kernel
  have in4 : ∀ w ∈ wsX40, w ∈ wsX4_over := by decide +kernel
  intro n9
  induction n9 with
  | zero =>
    intro H locs ls hn hv hP hD hS hl
    refine lv_aload_n hx hb dX4_over_280 rfl (lv_at hl 0 rfl) ?_
    refine rg_4_e hx hb hts in4 hown hK hP 0 (by decide) mg_0 (hts _ (by decide +kernel)) dX4_over_281 ?_
    refine rg_3_n hx hb hts in3 hown hK hP 9 (by omega) mg_E.1 (hts _ (by decide +kernel)) dX4_over_284 ?_
    refine tp_i (y := nI (0 + 1)) rfl ?_
    refine lv_iconst (v := nI (1)) hx hb dX4_over_287 (by decide) ?_
    refine bi_le (tgt := 327) hx hb dX4_over_288 (by decide) (by omega) (by omega) (fun q => ?_) (fun q => ?_)
    · have e1 : nd_p v9 = 0 + 1 := nd_p1 (by simpa using hv.1)
      exact kk H locs ls (dv_rv hv (by decide)) (by rw [e1]; exact hP) (by rw [e1]; exact hD) hS hl
    · exact absurd (Nat.le_refl 1) q
  | succ n9 ih =>
    intro H locs ls hn hv hP hD hS hl
    refine lv_aload_n hx hb dX4_over_280 rfl (lv_at hl 0 rfl) ?_
    refine rg_4_e hx hb hts in4 hown hK hP 0 (by decide) mg_0 (hts _ (by decide +kernel)) dX4_over_281 ?_
    refine rg_3_n hx hb hts in3 hown hK hP 9 (by omega) mg_E.1 (hts _ (by decide +kernel)) dX4_over_284 ?_
    refine tp_i (y := nI (n9 + 1 + 1)) rfl ?_
    refine lv_iconst (v := nI (1)) hx hb dX4_over_287 (by decide) ?_
    refine bi_le (tgt := 327) hx hb dX4_over_288 (by decide) (by omega) (by omega) (fun q => ?_) (fun q => ?_)
    · exact absurd q (by omega)
    · have hd := dg_lt v9 (n9 + 1)
      refine lv_aload_n hx hb dX4_over_291 rfl (lv_at hl 0 rfl) ?_
      refine rg_4_e hx hb hts in4 hown hK hP 0 (by decide) mg_0 (hts _ (by decide +kernel)) dX4_over_292 ?_
      refine rg_3_d hx hb hts in3 hown hK hP 9 (by omega) mg_E.1 (hts _ (by decide +kernel)) dX4_over_295 ?_
      refine lv_aload_n hx hb dX4_over_298 rfl (lv_at hl 0 rfl) ?_
      refine rg_4_e hx hb hts in4 hown hK hP 0 (by decide) mg_0 (hts _ (by decide +kernel)) dX4_over_299 ?_
      refine rg_3_n hx hb hts in3 hown hK hP 9 (by omega) mg_E.1 (hts _ (by decide +kernel)) dX4_over_302 ?_
      refine tp_i (y := nI (n9 + 1 + 1)) rfl ?_
      refine lv_iconst (v := nI (1)) hx hb dX4_over_305 (by decide) ?_
      refine lv_isub hx hb dX4_over_306 ?_
      refine tp_i (y := nI (n9 + 1)) (nI_sub1 (n9 + 1)) ?_
      refine rn_i hx hb hK hP (9 + 1) (by omega) mg_E.2 (by omega) (by decide) dX4_over_307 ?_
      refine tp_i (y := nI (v9 / 10 ^ (n9 + 1) % 10)) (hv.2 (n9 + 1) (by omega)) ?_
      refine bz_ne (tgt := 327) hx hb dX4_over_308 (by decide) (by omega) (fun q2 => ?_) (fun q2 => ?_)
      · have e1 : nd_p v9 = n9 + 1 + 1 := nd_p_eq hv.1 q2
        exact kk H locs ls (dv_rv hv (by omega)) (by rw [e1]; exact hP) (by rw [e1]; exact hD) hS hl
      · refine lv_aload_n hx hb dX4_over_311 rfl (lv_at hl 0 rfl) ?_
        refine rg_4_e hx hb hts in4 hown hK hP 0 (by decide) mg_0 (hts _ (by decide +kernel)) dX4_over_312 ?_
        refine lv_dup hx hb dX4_over_315 rfl ?_
        refine rg_3_n hx hb hts in3 hown hK hP 9 (by omega) mg_E.1 (hts _ (by decide +kernel)) dX4_over_316 ?_
        refine tp_i (y := nI (n9 + 1 + 1)) rfl ?_
        refine lv_iconst (v := nI (1)) hx hb dX4_over_319 (by decide) ?_
        refine lv_isub hx hb dX4_over_320 ?_
        refine tp_i (y := nI (n9 + 1)) (nI_sub1 (n9 + 1)) ?_
        refine rp_3_n hx hb hts in3 hown hK hP hD hS 9 (by omega) mg_E.1 (hts _ (by decide +kernel)) rfl rfl dX4_over_321 (fun H locs hP hD hS => ?_)
        rw [mg_pe (n9 + 1) be ze (v := nI (be.toNat)) rfl] at hP hD
        refine lv_goto (tgt := 280) hx hb dX4_over_324 (by decide) ?_
        exact ih H locs ls (by omega) (dv_dn hv q2) hP hD hS hl
set_option maxHeartbeats 4000000 in
set_option maxRecDepth 100000 in
theorem lp_X4_over_t3 {p : Program} {l : Launch} {e : Env} {R : Room} {s : State} {m : MethodId} {args : Array Value} {below : List Frame} {meth : Method} {c : Code} {Q : State → Prop} {D : va_G} {cA : Nat → ClassId} {tT : Nat} {A : Nat → Prop} {ad : Nat → Nat} {rg : Nat → RWt} {tx : Nat → Int32} {tl : Nat} {fa fb fc fe : Nat → Int32} {na nb ne : Nat} {ba bb bc be : Bool} {za zb zc ze : Int} {v9 : Nat}  (S : CallFix p m c cX4_over 6 s args wsX4_over RX4) (hK : va_K D vwCl (ty_s cA) s) (hT : st_T tT A s s.heap) (kk : ∀ (H : Heap) (locs : List Loc) (ls : Array Slot), rv fc (nd_p v9) v9 → va_P D vwCl (wm_W 23 ad (mg cA ad (fa, na, ba, za) (fb, nb, bb, zb) (fc, nd_p v9, bc, zc) (fe, ne, be, ze) rg tx tl)) H → va_D A (wm_W 23 ad (mg cA ad (fa, na, ba, za) (fb, nb, bb, zb) (fc, nd_p v9, bc, zc) (fe, ne, be, ze) rg tx tl)) → va_S A s.heap H locs → lv_has ls 6 [(0, .ref (ad 0))] → W p l e R s m args below meth c H locs 0 0 Q (F0 m 396 ls [])) :
    ∀ (n9 : Nat) (H : Heap) (locs : List Loc) (ls : Array Slot), n9 + 1 ≤ 800 → dv fc (n9 + 1) v9 → va_P D vwCl (wm_W 23 ad (mg cA ad (fa, na, ba, za) (fb, nb, bb, zb) (fc, n9 + 1, bc, zc) (fe, ne, be, ze) rg tx tl)) H → va_D A (wm_W 23 ad (mg cA ad (fa, na, ba, za) (fb, nb, bb, zb) (fc, n9 + 1, bc, zc) (fe, ne, be, ze) rg tx tl)) → va_S A s.heap H locs → lv_has ls 6 [(0, .ref (ad 0))] → W p l e R s m args below meth c H locs 0 0 Q (F0 m 349 ls []) := by
  obtain ⟨hx, hb, hml, hown, hts⟩ := S
  have in3 : ∀ w ∈ wsX30, w ∈ wsX4_over := by decide +kernel
  have in4 : ∀ w ∈ wsX40, w ∈ wsX4_over := by decide +kernel
  intro n9
  induction n9 with
  | zero =>
    intro H locs ls hn hv hP hD hS hl
    refine lv_aload_n hx hb dX4_over_349 rfl (lv_at hl 0 rfl) ?_
    refine rg_4_c hx hb hts in4 hown hK hP 0 (by decide) mg_0 (hts _ (by decide +kernel)) dX4_over_350 ?_
    refine rg_3_n hx hb hts in3 hown hK hP 7 (by omega) mg_C.1 (hts _ (by decide +kernel)) dX4_over_353 ?_
    refine tp_i (y := nI (0 + 1)) rfl ?_
    refine lv_iconst (v := nI (1)) hx hb dX4_over_356 (by decide) ?_
    refine bi_le (tgt := 396) hx hb dX4_over_357 (by decide) (by omega) (by omega) (fun q => ?_) (fun q => ?_)
    · have e1 : nd_p v9 = 0 + 1 := nd_p1 (by simpa using hv.1)
      exact kk H locs ls (dv_rv hv (by decide)) (by rw [e1]; exact hP) (by rw [e1]; exact hD) hS hl
    · exact absurd (Nat.le_refl 1) q
  | succ n9 ih =>
    intro H locs ls hn hv hP hD hS hl
    refine lv_aload_n hx hb dX4_over_349 rfl (lv_at hl 0 rfl) ?_
    refine rg_4_c hx hb hts in4 hown hK hP 0 (by decide) mg_0 (hts _ (by decide +kernel)) dX4_over_350 ?_
    refine rg_3_n hx hb hts in3 hown hK hP 7 (by omega) mg_C.1 (hts _ (by decide +kernel)) dX4_over_353 ?_
    refine tp_i (y := nI (n9 + 1 + 1)) rfl ?_
    refine lv_iconst (v := nI (1)) hx hb dX4_over_356 (by decide) ?_
    refine bi_le (tgt := 396) hx hb dX4_over_357 (by decide) (by omega) (by omega) (fun q => ?_) (fun q => ?_)
    · exact absurd q (by omega)
    · have hd := dg_lt v9 (n9 + 1)
      refine lv_aload_n hx hb dX4_over_360 rfl (lv_at hl 0 rfl) ?_
      refine rg_4_c hx hb hts in4 hown hK hP 0 (by decide) mg_0 (hts _ (by decide +kernel)) dX4_over_361 ?_
      refine rg_3_d hx hb hts in3 hown hK hP 7 (by omega) mg_C.1 (hts _ (by decide +kernel)) dX4_over_364 ?_
      refine lv_aload_n hx hb dX4_over_367 rfl (lv_at hl 0 rfl) ?_
      refine rg_4_c hx hb hts in4 hown hK hP 0 (by decide) mg_0 (hts _ (by decide +kernel)) dX4_over_368 ?_
      refine rg_3_n hx hb hts in3 hown hK hP 7 (by omega) mg_C.1 (hts _ (by decide +kernel)) dX4_over_371 ?_
      refine tp_i (y := nI (n9 + 1 + 1)) rfl ?_
      refine lv_iconst (v := nI (1)) hx hb dX4_over_374 (by decide) ?_
      refine lv_isub hx hb dX4_over_375 ?_
      refine tp_i (y := nI (n9 + 1)) (nI_sub1 (n9 + 1)) ?_
      refine rn_i hx hb hK hP (7 + 1) (by omega) mg_C.2 (by omega) (by decide) dX4_over_376 ?_
      refine tp_i (y := nI (v9 / 10 ^ (n9 + 1) % 10)) (hv.2 (n9 + 1) (by omega)) ?_
      refine bz_ne (tgt := 396) hx hb dX4_over_377 (by decide) (by omega) (fun q2 => ?_) (fun q2 => ?_)
      · have e1 : nd_p v9 = n9 + 1 + 1 := nd_p_eq hv.1 q2
        exact kk H locs ls (dv_rv hv (by omega)) (by rw [e1]; exact hP) (by rw [e1]; exact hD) hS hl
      · refine lv_aload_n hx hb dX4_over_380 rfl (lv_at hl 0 rfl) ?_
        refine rg_4_c hx hb hts in4 hown hK hP 0 (by decide) mg_0 (hts _ (by decide +kernel)) dX4_over_381 ?_
        refine lv_dup hx hb dX4_over_384 rfl ?_
        refine rg_3_n hx hb hts in3 hown hK hP 7 (by omega) mg_C.1 (hts _ (by decide +kernel)) dX4_over_385 ?_
        refine tp_i (y := nI (n9 + 1 + 1)) rfl ?_
        refine lv_iconst (v := nI (1)) hx hb dX4_over_388 (by decide) ?_
        refine lv_isub hx hb dX4_over_389 ?_
        refine tp_i (y := nI (n9 + 1)) (nI_sub1 (n9 + 1)) ?_
        refine rp_3_n hx hb hts in3 hown hK hP hD hS 7 (by omega) mg_C.1 (hts _ (by decide +kernel)) rfl rfl dX4_over_390 (fun H locs hP hD hS => ?_)
        rw [mg_pc (n9 + 1) bc zc (v := nI (bc.toNat)) rfl] at hP hD
        refine lv_goto (tgt := 349) hx hb dX4_over_393 (by decide) ?_
        exact ih H locs ls (by omega) (dv_dn hv q2) hP hD hS hl
set_option maxHeartbeats 4000000 in
set_option maxRecDepth 100000 in
theorem lp_X4_over_s {p : Program} {l : Launch} {e : Env} {R : Room} {s : State} {m : MethodId} {args : Array Value} {below : List Frame} {meth : Method} {c : Code} {Q : State → Prop} {D : va_G} {cA : Nat → ClassId} {tT : Nat} {A : Nat → Prop} {ad : Nat → Nat} {rg : Nat → RWt} {tx : Nat → Int32} {tl : Nat} {fa fb fc fe : Nat → Int32} {na nb nc ne : Nat} {ba bb bc be : Bool} {za zb zc ze : Int} {k9 : Nat} (S : CallFix p m c cX4_over 6 s args wsX4_over RX4) (hK : va_K D vwCl (ty_s cA) s) (hT : st_T tT A s s.heap) (hF : ne + 1 ≤ 800) (kk : ∀ (f' : Nat → Int32) (H : Heap) (locs : List Loc) (ls : Array Slot), (∀ j, 1 ≤ j → j < ne + 1 → f' j = fe (j - 1)) → va_P D vwCl (wm_W 23 ad (mg cA ad (fa, na, ba, za) (fb, nb, bb, zb) (fc, nc, bc, zc) (f', ne, be, ze) rg tx tl)) H → va_D A (wm_W 23 ad (mg cA ad (fa, na, ba, za) (fb, nb, bb, zb) (fc, nc, bc, zc) (f', ne, be, ze) rg tx tl)) → va_S A s.heap H locs → lv_has ls 6 [(0, .ref (ad 0)), (1, .int (nI (k9)))] → W p l e R s m args below meth c H locs 0 0 Q (F0 m 86 ls [])) :
    ∀ (k : Nat) (f' : Nat → Int32) (H : Heap) (locs : List Loc) (ls : Array Slot), k ≤ ne → (∀ j, k + 1 ≤ j → j < ne + 1 → f' j = fe (j - 1)) → (∀ j, j < k → f' j = fe j) → va_P D vwCl (wm_W 23 ad (mg cA ad (fa, na, ba, za) (fb, nb, bb, zb) (fc, nc, bc, zc) (f', ne, be, ze) rg tx tl)) H → va_D A (wm_W 23 ad (mg cA ad (fa, na, ba, za) (fb, nb, bb, zb) (fc, nc, bc, zc) (f', ne, be, ze) rg tx tl)) → va_S A s.heap H locs → lv_has ls 6 [(2, .int (dn k)), (0, .ref (ad 0)), (1, .int (nI (k9)))] → W p l e R s m args below meth c H locs 0 0 Q (F0 m 56 ls []) := by
  obtain ⟨hx, hb, hml, hown, hts⟩ := S
  have in3 : ∀ w ∈ wsX30, w ∈ wsX4_over := by decide +kernel
  have in4 : ∀ w ∈ wsX40, w ∈ wsX4_over := by decide +kernel
  intro k
  induction k with
  | zero =>
    intro f' H locs ls hk h1 h2 hP hD hS hl
    refine lv_iload_n hx hb dX4_over_56 rfl (lv_at hl 0 rfl) ?_
    refine by_lt (tgt := 86) hx hb dX4_over_57 (by decide) (by omega) (by omega) (fun q => ?_) (fun q => ?_)
    · exact kk f' H locs ls (fun j hj hj2 => h1 j (by omega) hj2) hP hD hS (lv_sub hl [1, 2] rfl)
    · exact absurd (by decide) q
  | succ k ih =>
    intro f' H locs ls hk h1 h2 hP hD hS hl
    refine lv_iload_n hx hb dX4_over_56 rfl (lv_at hl 0 rfl) ?_
    refine bz_lt (tgt := 86) hx hb dX4_over_57 (by decide) (by omega) (fun q => ?_) (fun q => ?_)
    · exact absurd q (Nat.not_lt_zero _)
    · refine lv_aload_n hx hb dX4_over_60 rfl (lv_at hl 1 rfl) ?_
      refine rg_4_e hx hb hts in4 hown hK hP 0 (by decide) mg_0 (hts _ (by decide +kernel)) dX4_over_61 ?_
      refine rg_3_d hx hb hts in3 hown hK hP 9 (by omega) mg_E.1 (hts _ (by decide +kernel)) dX4_over_64 ?_
      refine lv_iload_n hx hb dX4_over_67 rfl (lv_at hl 0 rfl) ?_
      refine lv_iconst (v := nI (1)) hx hb dX4_over_68 (by decide) ?_
      refine lv_iadd hx hb dX4_over_69 ?_
      refine tp_i (y := nI (k + 1)) (nI_add _ _) ?_
      refine lv_aload_n hx hb dX4_over_70 rfl (lv_at hl 1 rfl) ?_
      refine rg_4_e hx hb hts in4 hown hK hP 0 (by decide) mg_0 (hts _ (by decide +kernel)) dX4_over_71 ?_
      refine rg_3_d hx hb hts in3 hown hK hP 9 (by omega) mg_E.1 (hts _ (by decide +kernel)) dX4_over_74 ?_
      refine lv_iload_n hx hb dX4_over_77 rfl (lv_at hl 0 rfl) ?_
      refine rn_i hx hb hK hP (9 + 1) (by omega) mg_E.2 (by omega) (by decide) dX4_over_78 ?_
      refine tp_i (y := fe k) (h2 k (by omega)) ?_
      refine rt_i hx hb hK hP hD hS (9 + 1) (by omega) mg_E.2 (by omega) (by decide) dX4_over_79 (fun H locs hP hD hS => ?_)
      rw [mg_se] at hP hD
      refine lv_iinc (v := dn k) (lv' := [(2, .int (dn k)), (0, .ref (ad 0)), (1, .int (nI (k9)))]) hx hb dX4_over_80 hl (k := 0) rfl (dn_dec k) (by decide) rfl (fun ls hl => ?_)
      refine lv_goto (tgt := 56) hx hb dX4_over_83 (by decide) ?_
      refine ih _ H locs ls (by omega) (fun j hj hj2 => ?_) (fun j hj => ?_) hP hD hS hl
      · rcases Nat.lt_or_ge (k + 1) j with r | r
        · rw [pk_un (by omega)]; exact h1 j (by omega) hj2
        · obtain rfl : j = k + 1 := by omega
          rw [pk_us, show k + 1 - 1 = k by omega]
      · rw [pk_un (by omega)]; exact h2 j (by omega)
set_option maxHeartbeats 4000000 in
set_option maxRecDepth 100000 in
theorem lp_X4_over_m {p : Program} {l : Launch} {e : Env} {R : Room} {s : State} {m : MethodId} {args : Array Value} {below : List Frame} {meth : Method} {c : Code} {Q : State → Prop} {D : va_G} {cA : Nat → ClassId} {tT : Nat} {A : Nat → Prop} {ad : Nat → Nat} {rg : Nat → RWt} {tx : Nat → Int32} {tl : Nat} {fa fb fc : Nat → Int32} {na nb nc ne : Nat} {ba bb bc be : Bool} {za zb zc ze : Int} {k9 q9 E Y V9 : Nat} (S : CallFix p m c cX4_over 6 s args wsX4_over RX4) (hK : va_K D vwCl (ty_s cA) s) (hT : st_T tT A s s.heap) (hne : ne ≤ 800) (hnb : nb ≤ 800) (hvb : rv fb nb Y) (kk : ∀ (fe : Nat → Int32) (H : Heap) (locs : List Loc) (ls : Array Slot), (∀ j, j < ne → fe j = nI (V9 / 10 ^ j % 10)) → va_P D vwCl (wm_W 23 ad (mg cA ad (fa, na, ba, za) (fb, nb, bb, zb) (fc, nc, bc, zc) (fe, ne, be, ze) rg tx tl)) H → va_D A (wm_W 23 ad (mg cA ad (fa, na, ba, za) (fb, nb, bb, zb) (fc, nc, bc, zc) (fe, ne, be, ze) rg tx tl)) → va_S A s.heap H locs → lv_has ls 6 [(0, .ref (ad 0)), (1, .int (nI (k9))), (2, .int (nI (q9)))] → W p l e R s m args below meth c H locs 0 0 Q (F0 m 280 ls [])) :
    ∀ (k i cv : Nat) (fe : Nat → Int32) (H : Heap) (locs : List Loc) (ls : Array Slot), i + k = ne → cv < 2 → V9 / 10 ^ i + Y / 10 ^ i + cv = E / 10 ^ i → (∀ j, j < i → fe j = nI (V9 / 10 ^ j % 10)) → (∀ j, i ≤ j → j < ne → fe j = nI (E / 10 ^ j % 10)) → va_P D vwCl (wm_W 23 ad (mg cA ad (fa, na, ba, za) (fb, nb, bb, zb) (fc, nc, bc, zc) (fe, ne, be, ze) rg tx tl)) H → va_D A (wm_W 23 ad (mg cA ad (fa, na, ba, za) (fb, nb, bb, zb) (fc, nc, bc, zc) (fe, ne, be, ze) rg tx tl)) → va_S A s.heap H locs → lv_has ls 6 [(4, .int (nI (i))), (3, .int (nI (cv))), (0, .ref (ad 0)), (1, .int (nI (k9))), (2, .int (nI (q9)))] → W p l e R s m args below meth c H locs 0 0 Q (F0 m 185 ls []) := by
  obtain ⟨hx, hb, hml, hown, hts⟩ := S
  have in3 : ∀ w ∈ wsX30, w ∈ wsX4_over := by decide +kernel
  have in4 : ∀ w ∈ wsX40, w ∈ wsX4_over := by decide +kernel
  intro k
  induction k with
  | zero =>
    intro i cv fe H locs ls hn hc hi h1 h2 hP hD hS hl
    refine lv_iload hx hb dX4_over_185 (lv_at hl 0 rfl) ?_
    refine lv_aload_n hx hb dX4_over_187 rfl (lv_at hl 2 rfl) ?_
    refine rg_4_e hx hb hts in4 hown hK hP 0 (by decide) mg_0 (hts _ (by decide +kernel)) dX4_over_188 ?_
    refine rg_3_n hx hb hts in3 hown hK hP 9 (by omega) mg_E.1 (hts _ (by decide +kernel)) dX4_over_191 ?_
    refine tp_i (y := nI (ne)) rfl ?_
    refine bi_ge (tgt := 280) hx hb dX4_over_194 (by decide) (by omega) (by omega) (fun q => ?_) (fun q => ?_)
    · obtain rfl : i = ne := by omega
      exact kk fe H locs ls h1 hP hD hS (lv_sub hl [2, 3, 4] rfl)
    · exact absurd hn (by omega)
  | succ k ih =>
    intro i cv fe H locs ls hn hc hi h1 h2 hP hD hS hl
    refine lv_iload hx hb dX4_over_185 (lv_at hl 0 rfl) ?_
    refine lv_aload_n hx hb dX4_over_187 rfl (lv_at hl 2 rfl) ?_
    refine rg_4_e hx hb hts in4 hown hK hP 0 (by decide) mg_0 (hts _ (by decide +kernel)) dX4_over_188 ?_
    refine rg_3_n hx hb hts in3 hown hK hP 9 (by omega) mg_E.1 (hts _ (by decide +kernel)) dX4_over_191 ?_
    refine tp_i (y := nI (ne)) rfl ?_
    refine bi_ge (tgt := 280) hx hb dX4_over_194 (by decide) (by omega) (by omega) (fun q => ?_) (fun q => ?_)
    · exact absurd hn (by omega)
    · have hdx := dg_lt E i
      have hdy := dg_lt Y i
      refine lv_aload_n hx hb dX4_over_197 rfl (lv_at hl 2 rfl) ?_
      refine rg_4_e hx hb hts in4 hown hK hP 0 (by decide) mg_0 (hts _ (by decide +kernel)) dX4_over_198 ?_
      refine rg_3_d hx hb hts in3 hown hK hP 9 (by omega) mg_E.1 (hts _ (by decide +kernel)) dX4_over_201 ?_
      refine lv_iload hx hb dX4_over_204 (lv_at hl 0 rfl) ?_
      refine rn_i hx hb hK hP (9 + 1) (by omega) mg_E.2 (by omega) (by decide) dX4_over_206 ?_
      refine tp_i (y := nI (E / 10 ^ i % 10)) (h2 i (Nat.le_refl _) (by omega)) ?_
      refine lv_iload hx hb dX4_over_207 (lv_at hl 0 rfl) ?_
      refine lv_aload_n hx hb dX4_over_209 rfl (lv_at hl 2 rfl) ?_
      refine rg_4_b hx hb hts in4 hown hK hP 0 (by decide) mg_0 (hts _ (by decide +kernel)) dX4_over_210 ?_
      refine rg_3_n hx hb hts in3 hown hK hP 5 (by omega) mg_B.1 (hts _ (by decide +kernel)) dX4_over_213 ?_
      refine tp_i (y := nI (nb)) rfl ?_
      refine bi_ge (tgt := 232) hx hb dX4_over_216 (by decide) (by omega) (by omega) (fun q2 => ?_) (fun q2 => ?_)
      · refine lv_iconst (v := nI (0)) hx hb dX4_over_232 (by decide) ?_
        refine tp_i (y := nI (Y / 10 ^ i % 10)) (by rw [Nat.div_eq_of_lt (Nat.lt_of_lt_of_le (rv_dv hvb).1 (Nat.pow_le_pow_right (by decide) q2))]) ?_
        refine lv_isub hx hb dX4_over_233 ?_
        refine tp_i (y := iZ (((E / 10 ^ i % 10 : Nat) : Int) - ((Y / 10 ^ i % 10 : Nat) : Int))) (nI_subZ _ _) ?_
        refine lv_iload_n hx hb dX4_over_234 rfl (lv_at hl 1 rfl) ?_
        refine lv_isub hx hb dX4_over_235 ?_
        refine tp_i (y := iZ ((((E / 10 ^ i % 10 : Nat) : Int) - ((Y / 10 ^ i % 10 : Nat) : Int)) - ((cv : Nat) : Int))) (iZ_subN _ _) ?_
        refine lv_istore (lv' := [(5, .int (iZ ((((E / 10 ^ i % 10 : Nat) : Int) - ((Y / 10 ^ i % 10 : Nat) : Int)) - ((cv : Nat) : Int)))), (4, .int (nI (i))), (3, .int (nI (cv))), (0, .ref (ad 0)), (1, .int (nI (k9))), (2, .int (nI (q9)))]) hx hb dX4_over_236 hl (by decide) rfl (fun ls hl => ?_)
        refine lv_iload hx hb dX4_over_238 (lv_at hl 0 rfl) ?_
        refine by_ge (tgt := 247) hx hb dX4_over_240 (by decide) (by omega) (by omega) (fun q3 => ?_) (fun q3 => ?_)
        · refine lv_iconst (v := nI (0)) hx hb dX4_over_247 (by decide) ?_
          refine lv_istore_n (lv' := [(3, .int (nI (0))), (5, .int (iZ ((((E / 10 ^ i % 10 : Nat) : Int) - ((Y / 10 ^ i % 10 : Nat) : Int)) - ((cv : Nat) : Int)))), (4, .int (nI (i))), (0, .ref (ad 0)), (1, .int (nI (k9))), (2, .int (nI (q9)))]) hx hb dX4_over_248 rfl hl (by decide) rfl (fun ls hl => ?_)
          refine lv_aload_n hx hb dX4_over_249 rfl (lv_at hl 3 rfl) ?_
          refine rg_4_e hx hb hts in4 hown hK hP 0 (by decide) mg_0 (hts _ (by decide +kernel)) dX4_over_250 ?_
          refine rg_3_d hx hb hts in3 hown hK hP 9 (by omega) mg_E.1 (hts _ (by decide +kernel)) dX4_over_253 ?_
          refine lv_iload hx hb dX4_over_256 (lv_at hl 2 rfl) ?_
          refine lv_iload hx hb dX4_over_258 (lv_at hl 1 rfl) ?_
          refine by_ge (tgt := 271) hx hb dX4_over_260 (by decide) (by omega) (by omega) (fun q4 => ?_) (fun q4 => ?_)
          · refine lv_iload hx hb dX4_over_271 (lv_at hl 1 rfl) ?_
            refine tp_i (y := nI (V9 / 10 ^ i % 10)) (by rw [iZ_nat]; congr 1; omega) ?_
            refine rt_i hx hb hK hP hD hS (9 + 1) (by omega) mg_E.2 (by omega) (by decide) dX4_over_273 (fun H locs hP hD hS => ?_)
            rw [mg_se] at hP hD
            refine lv_iinc (v := nI (i + 1)) (lv' := [(4, .int (nI (i + 1))), (3, .int (nI (0))), (5, .int (iZ ((((E / 10 ^ i % 10 : Nat) : Int) - ((Y / 10 ^ i % 10 : Nat) : Int)) - ((cv : Nat) : Int)))), (0, .ref (ad 0)), (1, .int (nI (k9))), (2, .int (nI (q9)))]) hx hb dX4_over_274 hl (k := 2) rfl (nI_inc i 1) (by decide) rfl (fun ls hl => ?_)
            refine lv_goto (tgt := 185) hx hb dX4_over_277 (by decide) ?_
            refine ih (i + 1) _ _ H locs ls (by omega) (by decide) (by rw [tp_q, tp_q, tp_q]; omega) (fun j hj => ?_) (fun j hj hj2 => ?_) hP hD hS (lv_sub hl [0, 1, 3, 4, 5] rfl)
            · rcases Nat.lt_or_ge j i with r | r
              · rw [pk_un (by omega)]; exact h1 j r
              · obtain rfl : j = i := by omega
                exact pk_us
            · rw [pk_un (by omega)]; exact h2 j (by omega) hj2
          · exact absurd q4 (by omega)
        · refine lv_iconst (v := nI (1)) hx hb dX4_over_243 (by decide) ?_
          refine lv_goto (tgt := 248) hx hb dX4_over_244 (by decide) ?_
          refine lv_istore_n (lv' := [(3, .int (nI (1))), (5, .int (iZ ((((E / 10 ^ i % 10 : Nat) : Int) - ((Y / 10 ^ i % 10 : Nat) : Int)) - ((cv : Nat) : Int)))), (4, .int (nI (i))), (0, .ref (ad 0)), (1, .int (nI (k9))), (2, .int (nI (q9)))]) hx hb dX4_over_248 rfl hl (by decide) rfl (fun ls hl => ?_)
          refine lv_aload_n hx hb dX4_over_249 rfl (lv_at hl 3 rfl) ?_
          refine rg_4_e hx hb hts in4 hown hK hP 0 (by decide) mg_0 (hts _ (by decide +kernel)) dX4_over_250 ?_
          refine rg_3_d hx hb hts in3 hown hK hP 9 (by omega) mg_E.1 (hts _ (by decide +kernel)) dX4_over_253 ?_
          refine lv_iload hx hb dX4_over_256 (lv_at hl 2 rfl) ?_
          refine lv_iload hx hb dX4_over_258 (lv_at hl 1 rfl) ?_
          refine by_ge (tgt := 271) hx hb dX4_over_260 (by decide) (by omega) (by omega) (fun q4 => ?_) (fun q4 => ?_)
          · exact absurd q3 (by omega)
          · refine lv_iload hx hb dX4_over_263 (lv_at hl 1 rfl) ?_
            refine lv_bipush (v := nI (10)) hx hb dX4_over_265 (by decide) ?_
            refine lv_iadd hx hb dX4_over_267 ?_
            refine tp_i (y := iZ (((((E / 10 ^ i % 10 : Nat) : Int) - ((Y / 10 ^ i % 10 : Nat) : Int)) - ((cv : Nat) : Int)) + ((10 : Nat) : Int))) (iZ_addN _ _) ?_
            refine lv_goto (tgt := 273) hx hb dX4_over_268 (by decide) ?_
            refine tp_i (y := nI (V9 / 10 ^ i % 10)) (by rw [iZ_nat]; congr 1; omega) ?_
            refine rt_i hx hb hK hP hD hS (9 + 1) (by omega) mg_E.2 (by omega) (by decide) dX4_over_273 (fun H locs hP hD hS => ?_)
            rw [mg_se] at hP hD
            refine lv_iinc (v := nI (i + 1)) (lv' := [(4, .int (nI (i + 1))), (3, .int (nI (1))), (5, .int (iZ ((((E / 10 ^ i % 10 : Nat) : Int) - ((Y / 10 ^ i % 10 : Nat) : Int)) - ((cv : Nat) : Int)))), (0, .ref (ad 0)), (1, .int (nI (k9))), (2, .int (nI (q9)))]) hx hb dX4_over_274 hl (k := 2) rfl (nI_inc i 1) (by decide) rfl (fun ls hl => ?_)
            refine lv_goto (tgt := 185) hx hb dX4_over_277 (by decide) ?_
            refine ih (i + 1) _ _ H locs ls (by omega) (by decide) (by rw [tp_q, tp_q, tp_q]; omega) (fun j hj => ?_) (fun j hj hj2 => ?_) hP hD hS (lv_sub hl [0, 1, 3, 4, 5] rfl)
            · rcases Nat.lt_or_ge j i with r | r
              · rw [pk_un (by omega)]; exact h1 j r
              · obtain rfl : j = i := by omega
                exact pk_us
            · rw [pk_un (by omega)]; exact h2 j (by omega) hj2
      · refine lv_aload_n hx hb dX4_over_219 rfl (lv_at hl 2 rfl) ?_
        refine rg_4_b hx hb hts in4 hown hK hP 0 (by decide) mg_0 (hts _ (by decide +kernel)) dX4_over_220 ?_
        refine rg_3_d hx hb hts in3 hown hK hP 5 (by omega) mg_B.1 (hts _ (by decide +kernel)) dX4_over_223 ?_
        refine lv_iload hx hb dX4_over_226 (lv_at hl 0 rfl) ?_
        refine rn_i hx hb hK hP (5 + 1) (by omega) mg_B.2 (by omega) (by decide) dX4_over_228 ?_
        refine tp_i (y := nI (Y / 10 ^ i % 10)) (hvb.2 i (by omega)) ?_
        refine lv_goto (tgt := 233) hx hb dX4_over_229 (by decide) ?_
        refine lv_isub hx hb dX4_over_233 ?_
        refine tp_i (y := iZ (((E / 10 ^ i % 10 : Nat) : Int) - ((Y / 10 ^ i % 10 : Nat) : Int))) (nI_subZ _ _) ?_
        refine lv_iload_n hx hb dX4_over_234 rfl (lv_at hl 1 rfl) ?_
        refine lv_isub hx hb dX4_over_235 ?_
        refine tp_i (y := iZ ((((E / 10 ^ i % 10 : Nat) : Int) - ((Y / 10 ^ i % 10 : Nat) : Int)) - ((cv : Nat) : Int))) (iZ_subN _ _) ?_
        refine lv_istore (lv' := [(5, .int (iZ ((((E / 10 ^ i % 10 : Nat) : Int) - ((Y / 10 ^ i % 10 : Nat) : Int)) - ((cv : Nat) : Int)))), (4, .int (nI (i))), (3, .int (nI (cv))), (0, .ref (ad 0)), (1, .int (nI (k9))), (2, .int (nI (q9)))]) hx hb dX4_over_236 hl (by decide) rfl (fun ls hl => ?_)
        refine lv_iload hx hb dX4_over_238 (lv_at hl 0 rfl) ?_
        refine by_ge (tgt := 247) hx hb dX4_over_240 (by decide) (by omega) (by omega) (fun q3 => ?_) (fun q3 => ?_)
        · refine lv_iconst (v := nI (0)) hx hb dX4_over_247 (by decide) ?_
          refine lv_istore_n (lv' := [(3, .int (nI (0))), (5, .int (iZ ((((E / 10 ^ i % 10 : Nat) : Int) - ((Y / 10 ^ i % 10 : Nat) : Int)) - ((cv : Nat) : Int)))), (4, .int (nI (i))), (0, .ref (ad 0)), (1, .int (nI (k9))), (2, .int (nI (q9)))]) hx hb dX4_over_248 rfl hl (by decide) rfl (fun ls hl => ?_)
          refine lv_aload_n hx hb dX4_over_249 rfl (lv_at hl 3 rfl) ?_
          refine rg_4_e hx hb hts in4 hown hK hP 0 (by decide) mg_0 (hts _ (by decide +kernel)) dX4_over_250 ?_
          refine rg_3_d hx hb hts in3 hown hK hP 9 (by omega) mg_E.1 (hts _ (by decide +kernel)) dX4_over_253 ?_
          refine lv_iload hx hb dX4_over_256 (lv_at hl 2 rfl) ?_
          refine lv_iload hx hb dX4_over_258 (lv_at hl 1 rfl) ?_
          refine by_ge (tgt := 271) hx hb dX4_over_260 (by decide) (by omega) (by omega) (fun q4 => ?_) (fun q4 => ?_)
          · refine lv_iload hx hb dX4_over_271 (lv_at hl 1 rfl) ?_
            refine tp_i (y := nI (V9 / 10 ^ i % 10)) (by rw [iZ_nat]; congr 1; omega) ?_
            refine rt_i hx hb hK hP hD hS (9 + 1) (by omega) mg_E.2 (by omega) (by decide) dX4_over_273 (fun H locs hP hD hS => ?_)
            rw [mg_se] at hP hD
            refine lv_iinc (v := nI (i + 1)) (lv' := [(4, .int (nI (i + 1))), (3, .int (nI (0))), (5, .int (iZ ((((E / 10 ^ i % 10 : Nat) : Int) - ((Y / 10 ^ i % 10 : Nat) : Int)) - ((cv : Nat) : Int)))), (0, .ref (ad 0)), (1, .int (nI (k9))), (2, .int (nI (q9)))]) hx hb dX4_over_274 hl (k := 2) rfl (nI_inc i 1) (by decide) rfl (fun ls hl => ?_)
            refine lv_goto (tgt := 185) hx hb dX4_over_277 (by decide) ?_
            refine ih (i + 1) _ _ H locs ls (by omega) (by decide) (by rw [tp_q, tp_q, tp_q]; omega) (fun j hj => ?_) (fun j hj hj2 => ?_) hP hD hS (lv_sub hl [0, 1, 3, 4, 5] rfl)
            · rcases Nat.lt_or_ge j i with r | r
              · rw [pk_un (by omega)]; exact h1 j r
              · obtain rfl : j = i := by omega
                exact pk_us
            · rw [pk_un (by omega)]; exact h2 j (by omega) hj2
          · exact absurd q4 (by omega)
        · refine lv_iconst (v := nI (1)) hx hb dX4_over_243 (by decide) ?_
          refine lv_goto (tgt := 248) hx hb dX4_over_244 (by decide) ?_
          refine lv_istore_n (lv' := [(3, .int (nI (1))), (5, .int (iZ ((((E / 10 ^ i % 10 : Nat) : Int) - ((Y / 10 ^ i % 10 : Nat) : Int)) - ((cv : Nat) : Int)))), (4, .int (nI (i))), (0, .ref (ad 0)), (1, .int (nI (k9))), (2, .int (nI (q9)))]) hx hb dX4_over_248 rfl hl (by decide) rfl (fun ls hl => ?_)
          refine lv_aload_n hx hb dX4_over_249 rfl (lv_at hl 3 rfl) ?_
          refine rg_4_e hx hb hts in4 hown hK hP 0 (by decide) mg_0 (hts _ (by decide +kernel)) dX4_over_250 ?_
          refine rg_3_d hx hb hts in3 hown hK hP 9 (by omega) mg_E.1 (hts _ (by decide +kernel)) dX4_over_253 ?_
          refine lv_iload hx hb dX4_over_256 (lv_at hl 2 rfl) ?_
          refine lv_iload hx hb dX4_over_258 (lv_at hl 1 rfl) ?_
          refine by_ge (tgt := 271) hx hb dX4_over_260 (by decide) (by omega) (by omega) (fun q4 => ?_) (fun q4 => ?_)
          · exact absurd q3 (by omega)
          · refine lv_iload hx hb dX4_over_263 (lv_at hl 1 rfl) ?_
            refine lv_bipush (v := nI (10)) hx hb dX4_over_265 (by decide) ?_
            refine lv_iadd hx hb dX4_over_267 ?_
            refine tp_i (y := iZ (((((E / 10 ^ i % 10 : Nat) : Int) - ((Y / 10 ^ i % 10 : Nat) : Int)) - ((cv : Nat) : Int)) + ((10 : Nat) : Int))) (iZ_addN _ _) ?_
            refine lv_goto (tgt := 273) hx hb dX4_over_268 (by decide) ?_
            refine tp_i (y := nI (V9 / 10 ^ i % 10)) (by rw [iZ_nat]; congr 1; omega) ?_
            refine rt_i hx hb hK hP hD hS (9 + 1) (by omega) mg_E.2 (by omega) (by decide) dX4_over_273 (fun H locs hP hD hS => ?_)
            rw [mg_se] at hP hD
            refine lv_iinc (v := nI (i + 1)) (lv' := [(4, .int (nI (i + 1))), (3, .int (nI (1))), (5, .int (iZ ((((E / 10 ^ i % 10 : Nat) : Int) - ((Y / 10 ^ i % 10 : Nat) : Int)) - ((cv : Nat) : Int)))), (0, .ref (ad 0)), (1, .int (nI (k9))), (2, .int (nI (q9)))]) hx hb dX4_over_274 hl (k := 2) rfl (nI_inc i 1) (by decide) rfl (fun ls hl => ?_)
            refine lv_goto (tgt := 185) hx hb dX4_over_277 (by decide) ?_
            refine ih (i + 1) _ _ H locs ls (by omega) (by decide) (by rw [tp_q, tp_q, tp_q]; omega) (fun j hj => ?_) (fun j hj hj2 => ?_) hP hD hS (lv_sub hl [0, 1, 3, 4, 5] rfl)
            · rcases Nat.lt_or_ge j i with r | r
              · rw [pk_un (by omega)]; exact h1 j r
              · obtain rfl : j = i := by omega
                exact pk_us
            · rw [pk_un (by omega)]; exact h2 j (by omega) hj2
set_option maxHeartbeats 4000000 in
set_option maxRecDepth 100000 in
theorem lp_X4_over_q {p : Program} {l : Launch} {e : Env} {R : Room} {s : State} {m : MethodId} {args : Array Value} {below : List Frame} {meth : Method} {c : Code} {Q : State → Prop} {D : va_G} {cA : Nat → ClassId} {tT : Nat} {A : Nat → Prop} {ad : Nat → Nat} {rg : Nat → RWt} {tx : Nat → Int32} {tl : Nat} {fa fb fc : Nat → Int32} {na nb nc : Nat} {ba bb bc be : Bool} {za zb zc ze : Int} {k9 E Y : Nat} (S : CallFix p m c cX4_over 6 s args wsX4_over RX4) (hK : va_K D vwCl (ty_s cA) s) (hT : st_T tT A s s.heap) (hRf : 1 ≤ R.frames) (hRl : 22 ≤ R.locals) (hnb : nb ≤ 700) (hvb : rv fb nb Y) (hY : Y ≠ 0) (kk : ∀ (fe : Nat → Int32) (H : Heap) (locs : List Loc) (ls : Array Slot), rv fe (nd_p (E % Y)) (E % Y) → va_P D vwCl (wm_W 23 ad (mg cA ad (fa, na, ba, za) (fb, nb, bb, zb) (fc, nc, bc, zc) (fe, nd_p (E % Y), be, ze) rg tx tl)) H → va_D A (wm_W 23 ad (mg cA ad (fa, na, ba, za) (fb, nb, bb, zb) (fc, nc, bc, zc) (fe, nd_p (E % Y), be, ze) rg tx tl)) → va_S A s.heap H locs → lv_has ls 6 [(0, .ref (ad 0)), (1, .int (nI (k9))), (2, .int (nI (E / Y)))] → W p l e R s m args below meth c H locs 0 0 Q (F0 m 333 ls [])) :
    ∀ (t9 q9 E9 : Nat) (fe : Nat → Int32) (H : Heap) (locs : List Loc) (ls : Array Slot), t9 + q9 < 20 → E9 < t9 * Y + Y → E9 + q9 * Y = E → nd_p E9 ≤ 700 → rv fe (nd_p E9) E9 → va_P D vwCl (wm_W 23 ad (mg cA ad (fa, na, ba, za) (fb, nb, bb, zb) (fc, nc, bc, zc) (fe, nd_p E9, be, ze) rg tx tl)) H → va_D A (wm_W 23 ad (mg cA ad (fa, na, ba, za) (fb, nb, bb, zb) (fc, nc, bc, zc) (fe, nd_p E9, be, ze) rg tx tl)) → va_S A s.heap H locs → lv_has ls 6 [(0, .ref (ad 0)), (1, .int (nI (k9))), (2, .int (nI (q9)))] → W p l e R s m args below meth c H locs 0 0 Q (F0 m 166 ls []) := by
  have S9 := S
  obtain ⟨hx, hb, hml, hown, hts⟩ := S
  have in3 : ∀ w ∈ wsX30, w ∈ wsX4_over := by decide +kernel
  have in4 : ∀ w ∈ wsX40, w ∈ wsX4_over := by decide +kernel
  intro t9
  induction t9 with
  | zero =>
    intro q9 E9 fe H locs ls hn ht hE hl7 hve hP hD hS hl
    have ho := odI_b E9 Y
    refine lv_aload_n hx hb dX4_over_166 rfl (lv_at hl 0 rfl) ?_
    refine rg_4_e hx hb hts in4 hown hK hP 0 (by decide) mg_0 (hts _ (by decide +kernel)) dX4_over_167 ?_
    refine lv_aload_n hx hb dX4_over_170 rfl (lv_at hl 0 rfl) ?_
    refine rg_4_b hx hb hts in4 hown hK hP 0 (by decide) mg_0 (hts _ (by decide +kernel)) dX4_over_171 ?_
    refine va_calli (va_runS (As := [.ref (ad 9), .ref (ad 5)]) (rest := []) ⟨hx, hb, hml, hown, hts⟩ (c_X4_sizes l D cA tT A 23 ad _ _ (a := 9) (o := 5) (f := fe) (n := nd_p E9) (b := be) (z := ze) (f1 := fb) (n1 := nb) (b1 := bb) (z1 := zb) (x := E9) (y := Y) (by decide) (by decide) mg_E mg_B hve hvb (by omega) (by omega)) (va_cwS 2 hts gX4_over_X4_sizes rfl rfl rfl (by decide +kernel) ⟨Nat.le_trans (Nat.le_of_ble_eq_true rfl) hRf, Nat.le_trans (Nat.le_of_ble_eq_true rfl) hRl⟩) (wd_preS hP hK hD hT hS) rfl rfl hl.1 rfl (lv_room (Nat.le_of_ble_eq_true rfl)) dX4_over_174 ⟨Nat.zero_le _, Nat.zero_le _⟩) hS id_2 id_1 (fun r_ u t H locs ht hvm hw hB hz1 hk1 hS => ?_)
    refine c00 ?_
    obtain ⟨hP, hD⟩ := wd_back ht hB
    clear ht hvm hB hz1 hk1
    obtain ⟨hr_, hu_⟩ := hw
    subst hr_
    rw [hu_] at hP hD
    clear hu_
    refine by_lt (tgt := 333) hx hb dX4_over_177 (by decide) (by omega) (by omega) (fun q => ?_) (fun q => ?_)
    · have h5 := ov_q hE (odI_lt0 q)
      obtain ⟨h6, h7⟩ := h5
      subst h7; subst h6
      exact kk fe H locs ls hve hP hD hS hl
    · have h5 := odI_ge.mp q
      exact absurd h5 (by omega)
  | succ t9 ih =>
    intro q9 E9 fe H locs ls hn ht hE hl7 hve hP hD hS hl
    have ho := odI_b E9 Y
    refine lv_aload_n hx hb dX4_over_166 rfl (lv_at hl 0 rfl) ?_
    refine rg_4_e hx hb hts in4 hown hK hP 0 (by decide) mg_0 (hts _ (by decide +kernel)) dX4_over_167 ?_
    refine lv_aload_n hx hb dX4_over_170 rfl (lv_at hl 0 rfl) ?_
    refine rg_4_b hx hb hts in4 hown hK hP 0 (by decide) mg_0 (hts _ (by decide +kernel)) dX4_over_171 ?_
    refine va_calli (va_runS (As := [.ref (ad 9), .ref (ad 5)]) (rest := []) ⟨hx, hb, hml, hown, hts⟩ (c_X4_sizes l D cA tT A 23 ad _ _ (a := 9) (o := 5) (f := fe) (n := nd_p E9) (b := be) (z := ze) (f1 := fb) (n1 := nb) (b1 := bb) (z1 := zb) (x := E9) (y := Y) (by decide) (by decide) mg_E mg_B hve hvb (by omega) (by omega)) (va_cwS 2 hts gX4_over_X4_sizes rfl rfl rfl (by decide +kernel) ⟨Nat.le_trans (Nat.le_of_ble_eq_true rfl) hRf, Nat.le_trans (Nat.le_of_ble_eq_true rfl) hRl⟩) (wd_preS hP hK hD hT hS) rfl rfl hl.1 rfl (lv_room (Nat.le_of_ble_eq_true rfl)) dX4_over_174 ⟨Nat.zero_le _, Nat.zero_le _⟩) hS id_2 id_1 (fun r_ u t H locs ht hvm hw hB hz1 hk1 hS => ?_)
    refine c00 ?_
    obtain ⟨hP, hD⟩ := wd_back ht hB
    clear ht hvm hB hz1 hk1
    obtain ⟨hr_, hu_⟩ := hw
    subst hr_
    rw [hu_] at hP hD
    clear hu_
    refine by_lt (tgt := 333) hx hb dX4_over_177 (by decide) (by omega) (by omega) (fun q => ?_) (fun q => ?_)
    · have h5 := ov_q hE (odI_lt0 q)
      obtain ⟨h6, h7⟩ := h5
      subst h7; subst h6
      exact kk fe H locs ls hve hP hD hS hl
    · have h5 := odI_ge.mp q
      obtain ⟨V9, hV9⟩ : ∃ V9, V9 = E9 - Y := ⟨_, rfl⟩
      have hVl : V9 < 10 ^ nd_p E9 := Nat.lt_of_le_of_lt (by omega) (nd_p_lt E9)
      have hp1 := nd_p_pos E9
      refine lv_iconst (v := nI (0)) hx hb dX4_over_180 (by decide) ?_
      refine lv_istore_n (lv' := [(3, .int (nI (0))), (0, .ref (ad 0)), (1, .int (nI (k9))), (2, .int (nI (q9)))]) hx hb dX4_over_181 rfl hl (by decide) rfl (fun ls hl => ?_)
      refine lv_iconst (v := nI (0)) hx hb dX4_over_182 (by decide) ?_
      refine lv_istore (lv' := [(4, .int (nI (0))), (3, .int (nI (0))), (0, .ref (ad 0)), (1, .int (nI (k9))), (2, .int (nI (q9)))]) hx hb dX4_over_183 hl (by decide) rfl (fun ls hl => ?_)
      refine lp_X4_over_m (E := E9) (Y := Y) (V9 := V9) S9 hK hT (by omega) (by omega) hvb (fun fe H locs ls h3 hP hD hS hl => ?_) (nd_p E9) 0 0 fe _ _ ls (by omega) (by decide) (by rw [Nat.pow_zero, Nat.div_one, Nat.div_one, Nat.div_one]; omega) (fun j hj => absurd hj (Nat.not_lt_zero _)) (fun j _ hj => hve.2 j hj) hP hD hS (lv_sub hl [0, 1, 2, 3, 4] rfl)
      obtain ⟨n9, hn9⟩ : ∃ n9, nd_p E9 = n9 + 1 := ⟨nd_p E9 - 1, by omega⟩
      rw [hn9] at hP hD h3 hVl
      refine lp_X4_over_t2 (v9 := V9) S9 hK hT (fun H locs ls hr9 hP hD hS hl => ?_) n9 _ _ ls (by omega) ⟨hVl, h3⟩ hP hD hS hl
      refine lv_iinc (v := nI (q9 + 1)) (lv' := [(2, .int (nI (q9 + 1))), (0, .ref (ad 0)), (1, .int (nI (k9)))]) hx hb dX4_over_327 hl (k := 2) rfl (nI_inc q9 1) (by decide) rfl (fun ls hl => ?_)
      refine lv_goto (tgt := 166) hx hb dX4_over_330 (by decide) ?_
      rw [Nat.succ_mul] at ht
      have hpv : nd_p V9 ≤ n9 + 1 := (nd_p_le (by omega)).mpr hVl
      exact ih (q9 + 1) V9 fe H locs ls (by omega) (by omega) (by rw [Nat.succ_mul]; omega) (by omega) hr9 hP hD hS (lv_sub hl [1, 2, 0] rfl)
set_option maxHeartbeats 4000000 in
set_option maxRecDepth 100000 in
theorem lp_X4_over_o {p : Program} {l : Launch} {e : Env} {R : Room} {s : State} {m : MethodId} {args : Array Value} {below : List Frame} {meth : Method} {c : Code} {Q : State → Prop} {D : va_G} {cA : Nat → ClassId} {tT : Nat} {A : Nat → Prop} {ad : Nat → Nat} {rg : Nat → RWt} {tx : Nat → Int32} {tl : Nat} {fa fb : Nat → Int32} {na nb nc : Nat} {ba bb bc be : Bool} {za zb zc ze : Int} {X Y : Nat} (S : CallFix p m c cX4_over 6 s args wsX4_over RX4) (hK : va_K D vwCl (ty_s cA) s) (hT : st_T tT A s s.heap) (hRf : 1 ≤ R.frames) (hRl : 22 ≤ R.locals) (hna : na ≤ 600) (hnb : nb ≤ 600) (hva : rv fa na X) (hvb : rv fb nb Y) (hY : Y ≠ 0) (kk : ∀ (fc fe : Nat → Int32) (H : Heap) (locs : List Loc) (ls : Array Slot), rv fe (nd_p (X % Y)) (X % Y) → (∀ j, j < na → fc j = nI (X / Y / 10 ^ j % 10)) → va_P D vwCl (wm_W 23 ad (mg cA ad (fa, na, ba, za) (fb, nb, bb, zb) (fc, nc, bc, zc) (fe, nd_p (X % Y), be, ze) rg tx tl)) H → va_D A (wm_W 23 ad (mg cA ad (fa, na, ba, za) (fb, nb, bb, zb) (fc, nc, bc, zc) (fe, nd_p (X % Y), be, ze) rg tx tl)) → va_S A s.heap H locs → lv_has ls 6 [(0, .ref (ad 0))] → W p l e R s m args below meth c H locs 0 0 Q (F0 m 349 ls [])) :
    ∀ (k : Nat) (fc fe : Nat → Int32) (H : Heap) (locs : List Loc) (ls : Array Slot), k ≤ na → rv fe (nd_p (X / 10 ^ k % Y)) (X / 10 ^ k % Y) → (∀ j, k ≤ j → j < na → fc j = nI (X / Y / 10 ^ j % 10)) → va_P D vwCl (wm_W 23 ad (mg cA ad (fa, na, ba, za) (fb, nb, bb, zb) (fc, nc, bc, zc) (fe, nd_p (X / 10 ^ k % Y), be, ze) rg tx tl)) H → va_D A (wm_W 23 ad (mg cA ad (fa, na, ba, za) (fb, nb, bb, zb) (fc, nc, bc, zc) (fe, nd_p (X / 10 ^ k % Y), be, ze) rg tx tl)) → va_S A s.heap H locs → lv_has ls 6 [(1, .int (dn k)), (0, .ref (ad 0))] → W p l e R s m args below meth c H locs 0 0 Q (F0 m 42 ls []) := by
  have S9 := S
  obtain ⟨hx, hb, hml, hown, hts⟩ := S
  have in3 : ∀ w ∈ wsX30, w ∈ wsX4_over := by decide +kernel
  have in4 : ∀ w ∈ wsX40, w ∈ wsX4_over := by decide +kernel
  intro k
  induction k with
  | zero =>
    intro fc fe H locs ls hk h1 h2 hP hD hS hl
    refine lv_iload_n hx hb dX4_over_42 rfl (lv_at hl 0 rfl) ?_
    refine by_lt (tgt := 349) hx hb dX4_over_43 (by decide) (by omega) (by omega) (fun q => ?_) (fun q => ?_)
    · rw [Nat.pow_zero, Nat.div_one] at h1 hP hD
      exact kk fc fe H locs ls h1 (fun j hj => h2 j (Nat.zero_le _) hj) hP hD hS (lv_sub hl [1] rfl)
    · exact absurd (by decide) q
  | succ k ih =>
    intro fc fe H locs ls hk h1 h2 hP hD hS hl
    have hE0 := Nat.mod_lt (X / 10 ^ (k + 1)) (Nat.pos_of_ne_zero hY)
    have hp1 := nd_p_pos (X / 10 ^ (k + 1) % Y)
    have pb : 1 ≤ nb := by rw [hvb.1]; exact nd_p_pos _
    have hpl : nd_p (X / 10 ^ (k + 1) % Y) ≤ nb := (nd_p_le pb).mpr (Nat.lt_trans hE0 (rv_dv hvb).1)
    refine lv_iload_n hx hb dX4_over_42 rfl (lv_at hl 0 rfl) ?_
    refine bz_lt (tgt := 349) hx hb dX4_over_43 (by decide) (by omega) (fun q => ?_) (fun q => ?_)
    · exact absurd q (Nat.not_lt_zero _)
    · refine lv_aload_n hx hb dX4_over_46 rfl (lv_at hl 1 rfl) ?_
      refine rg_4_e hx hb hts in4 hown hK hP 0 (by decide) mg_0 (hts _ (by decide +kernel)) dX4_over_47 ?_
      refine rg_3_n hx hb hts in3 hown hK hP 9 (by omega) mg_E.1 (hts _ (by decide +kernel)) dX4_over_50 ?_
      refine tp_i (y := nI (nd_p (X / 10 ^ (k + 1) % Y))) rfl ?_
      refine lv_iconst (v := nI (1)) hx hb dX4_over_53 (by decide) ?_
      refine lv_isub hx hb dX4_over_54 ?_
      refine tp_i (y := dn (nd_p (X / 10 ^ (k + 1) % Y))) (dn_sub _) ?_
      refine lv_istore_n (lv' := [(2, .int (dn (nd_p (X / 10 ^ (k + 1) % Y)))), (1, .int (nI (k))), (0, .ref (ad 0))]) hx hb dX4_over_55 rfl hl (by decide) rfl (fun ls hl => ?_)
      refine lp_X4_over_s (k9 := k) S9 hK hT (by omega) (fun f1 H locs ls h3 hP hD hS hl => ?_) (nd_p (X / 10 ^ (k + 1) % Y)) fe _ _ ls (Nat.le_refl _) (fun j hj hj2 => absurd hj2 (by omega)) (fun _ _ => rfl) hP hD hS (lv_sub hl [0, 2, 1] rfl)
      have hdk := dg_lt X k
      refine lv_aload_n hx hb dX4_over_86 rfl (lv_at hl 0 rfl) ?_
      refine rg_4_e hx hb hts in4 hown hK hP 0 (by decide) mg_0 (hts _ (by decide +kernel)) dX4_over_87 ?_
      refine rg_3_d hx hb hts in3 hown hK hP 9 (by omega) mg_E.1 (hts _ (by decide +kernel)) dX4_over_90 ?_
      refine lv_iconst (v := nI (0)) hx hb dX4_over_93 (by decide) ?_
      refine lv_aload_n hx hb dX4_over_94 rfl (lv_at hl 0 rfl) ?_
      refine rg_4_a hx hb hts in4 hown hK hP 0 (by decide) mg_0 (hts _ (by decide +kernel)) dX4_over_95 ?_
      refine rg_3_d hx hb hts in3 hown hK hP 3 (by omega) mg_A.1 (hts _ (by decide +kernel)) dX4_over_98 ?_
      refine lv_iload_n hx hb dX4_over_101 rfl (lv_at hl 1 rfl) ?_
      refine rn_i hx hb hK hP (3 + 1) (by omega) mg_A.2 (by omega) (by decide) dX4_over_102 ?_
      refine tp_i (y := nI (X / 10 ^ k % 10)) (hva.2 k (by omega)) ?_
      refine rt_i hx hb hK hP hD hS (9 + 1) (by omega) mg_E.2 (by omega) (by decide) dX4_over_103 (fun H locs hP hD hS => ?_)
      rw [mg_se] at hP hD
      refine lv_aload_n hx hb dX4_over_104 rfl (lv_at hl 0 rfl) ?_
      refine rg_4_e hx hb hts in4 hown hK hP 0 (by decide) mg_0 (hts _ (by decide +kernel)) dX4_over_105 ?_
      refine lv_dup hx hb dX4_over_108 rfl ?_
      refine rg_3_n hx hb hts in3 hown hK hP 9 (by omega) mg_E.1 (hts _ (by decide +kernel)) dX4_over_109 ?_
      refine tp_i (y := nI (nd_p (X / 10 ^ (k + 1) % Y))) rfl ?_
      refine lv_iconst (v := nI (1)) hx hb dX4_over_112 (by decide) ?_
      refine lv_iadd hx hb dX4_over_113 ?_
      refine tp_i (y := nI ((nd_p (X / 10 ^ (k + 1) % Y)) + 1)) (nI_add _ _) ?_
      refine rp_3_n hx hb hts in3 hown hK hP hD hS 9 (by omega) mg_E.1 (hts _ (by decide +kernel)) rfl rfl dX4_over_114 (fun H locs hP hD hS => ?_)
      rw [mg_pe ((nd_p (X / 10 ^ (k + 1) % Y)) + 1) be ze (v := nI (be.toNat)) rfl] at hP hD
      obtain ⟨E9, hE9⟩ : ∃ E9, E9 = X / 10 ^ (k + 1) % Y * 10 + X / 10 ^ k % 10 := ⟨_, rfl⟩
      have hdv : dv (upd f1 0 (nI (X / 10 ^ k % 10))) (nd_p (X / 10 ^ (k + 1) % Y) + 1) E9 := by
        have h5 := nd_p_lt (X / 10 ^ (k + 1) % Y)
        refine ⟨by rw [Nat.pow_succ, hE9]; omega, fun j hj => ?_⟩
        have h6 := tp_cat (X := X / 10 ^ (k + 1) % Y) (r := X / 10 ^ k % 10) (F := 1) (by omega) j
        rw [Nat.pow_one] at h6
        rw [hE9, h6]
        rcases Nat.eq_zero_or_pos j with r | r
        · subst r; rw [pk_us, if_pos (by decide), Nat.pow_zero, Nat.div_one, Nat.mod_mod]
        · rw [pk_un (by omega), if_neg (by omega), h3 j r hj]; exact h1.2 (j - 1) (by omega)
      refine lp_X4_over_t1 (k9 := k) (v9 := E9) S9 hK hT (fun H locs ls hr9 hP hD hS hl => ?_) (nd_p (X / 10 ^ (k + 1) % Y)) _ _ ls (by omega) hdv hP hD hS (lv_sub hl [0, 1] rfl)
      refine lv_iconst (v := nI (0)) hx hb dX4_over_164 (by decide) ?_
      refine lv_istore_n (lv' := [(2, .int (nI (0))), (0, .ref (ad 0)), (1, .int (nI (k)))]) hx hb dX4_over_165 rfl hl (by decide) rfl (fun ls hl => ?_)
      have hE10 : E9 < 9 * Y + Y := by rw [hE9]; omega
      have hpE : nd_p E9 ≤ nb + 1 := Nat.le_trans ((nd_p_le (by omega)).mpr hdv.1) (by omega)
      refine lp_X4_over_q (k9 := k) (E := E9) (Y := Y) S9 hK hT hRf hRl (by omega) hvb hY (fun fe H locs ls h7 hP hD hS hl => ?_) 9 0 E9 _ _ _ ls (by omega) hE10 (by omega) (by omega) hr9 hP hD hS (lv_sub hl [1, 2, 0] rfl)
      have hm9 : E9 % Y = X / 10 ^ k % Y := by rw [hE9, ← ov_1, ← ov_x]
      have hd9 : E9 / Y = X / Y / 10 ^ k % 10 := by rw [hE9, ← ov_2 (Nat.pos_of_ne_zero hY) hdk, ← ov_x, Nat.div_div_eq_div_mul, Nat.mul_comm, ← Nat.div_div_eq_div_mul]
      refine lv_aload_n hx hb dX4_over_333 rfl (lv_at hl 0 rfl) ?_
      refine rg_4_c hx hb hts in4 hown hK hP 0 (by decide) mg_0 (hts _ (by decide +kernel)) dX4_over_334 ?_
      refine rg_3_d hx hb hts in3 hown hK hP 7 (by omega) mg_C.1 (hts _ (by decide +kernel)) dX4_over_337 ?_
      refine lv_iload_n hx hb dX4_over_340 rfl (lv_at hl 1 rfl) ?_
      refine lv_iload_n hx hb dX4_over_341 rfl (lv_at hl 2 rfl) ?_
      refine rt_i hx hb hK hP hD hS (7 + 1) (by omega) mg_C.2 (by omega) (by decide) dX4_over_342 (fun H locs hP hD hS => ?_)
      rw [mg_sc] at hP hD
      refine lv_iinc (v := dn k) (lv' := [(1, .int (dn k)), (0, .ref (ad 0)), (2, .int (nI (E9 / Y)))]) hx hb dX4_over_343 hl (k := 1) rfl (dn_dec k) (by decide) rfl (fun ls hl => ?_)
      refine lv_goto (tgt := 42) hx hb dX4_over_346 (by decide) ?_
      rw [hm9] at h7 hP hD
      refine ih _ fe H locs ls (by omega) h7 (fun j hj hj2 => ?_) hP hD hS (lv_sub hl [0, 1] rfl)
      rcases Nat.lt_or_ge k j with r | r
      · rw [pk_un (by omega)]; exact h2 j (by omega) hj2
      · obtain rfl : j = k := by omega
        rw [pk_us, hd9]
set_option maxHeartbeats 4000000 in
set_option maxRecDepth 100000 in
theorem lp_X4_over_c {p : Program} {l : Launch} {e : Env} {R : Room} {s : State} {m : MethodId} {args : Array Value} {below : List Frame} {meth : Method} {c : Code} {Q : State → Prop} {D : va_G} {cA : Nat → ClassId} {tT : Nat} {A : Nat → Prop} {ad : Nat → Nat} {rg : Nat → RWt} {tx : Nat → Int32} {tl : Nat} {fa fb fc fe : Nat → Int32} {nb nc ne : Nat} {ba bb bc be : Bool} {za zb zc ze : Int} (S : CallFix p m c cX4_over 6 s args wsX4_over RX4) (hK : va_K D vwCl (ty_s cA) s) (hT : st_T tT A s s.heap) (hne : ne ≤ 800) (kk : ∀ (H : Heap) (locs : List Loc) (ls : Array Slot), va_P D vwCl (wm_W 23 ad (mg cA ad ((tk fe fa ne), ne, ba, za) (fb, nb, bb, zb) (fc, nc, bc, zc) (fe, ne, be, ze) rg tx tl)) H → va_D A (wm_W 23 ad (mg cA ad ((tk fe fa ne), ne, ba, za) (fb, nb, bb, zb) (fc, nc, bc, zc) (fe, ne, be, ze) rg tx tl)) → va_S A s.heap H locs → W p l e R s m args below meth c H locs 0 0 Q (F0 m 447 ls [])) :
    ∀ (k i : Nat) (H : Heap) (locs : List Loc) (ls : Array Slot), i + k = ne → va_P D vwCl (wm_W 23 ad (mg cA ad ((tk fe fa i), ne, ba, za) (fb, nb, bb, zb) (fc, nc, bc, zc) (fe, ne, be, ze) rg tx tl)) H → va_D A (wm_W 23 ad (mg cA ad ((tk fe fa i), ne, ba, za) (fb, nb, bb, zb) (fc, nc, bc, zc) (fe, ne, be, ze) rg tx tl)) → va_S A s.heap H locs → lv_has ls 6 [(1, .int (nI (i))), (0, .ref (ad 0))] → W p l e R s m args below meth c H locs 0 0 Q (F0 m 412 ls []) := by
  obtain ⟨hx, hb, hml, hown, hts⟩ := S
  have in3 : ∀ w ∈ wsX30, w ∈ wsX4_over := by decide +kernel
  have in4 : ∀ w ∈ wsX40, w ∈ wsX4_over := by decide +kernel
  intro k
  induction k with
  | zero =>
    intro i H locs ls hn hP hD hS hl
    refine lv_iload_n hx hb dX4_over_412 rfl (lv_at hl 0 rfl) ?_
    refine lv_aload_n hx hb dX4_over_413 rfl (lv_at hl 1 rfl) ?_
    refine rg_4_e hx hb hts in4 hown hK hP 0 (by decide) mg_0 (hts _ (by decide +kernel)) dX4_over_414 ?_
    refine rg_3_n hx hb hts in3 hown hK hP 9 (by omega) mg_E.1 (hts _ (by decide +kernel)) dX4_over_417 ?_
    refine tp_i (y := nI (ne)) rfl ?_
    refine bi_ge (tgt := 447) hx hb dX4_over_420 (by decide) (by omega) (by omega) (fun q => ?_) (fun q => ?_)
    · obtain rfl : i = ne := by omega
      exact kk H locs ls hP hD hS
    · exact absurd hn (by omega)
  | succ k ih =>
    intro i H locs ls hn hP hD hS hl
    refine lv_iload_n hx hb dX4_over_412 rfl (lv_at hl 0 rfl) ?_
    refine lv_aload_n hx hb dX4_over_413 rfl (lv_at hl 1 rfl) ?_
    refine rg_4_e hx hb hts in4 hown hK hP 0 (by decide) mg_0 (hts _ (by decide +kernel)) dX4_over_414 ?_
    refine rg_3_n hx hb hts in3 hown hK hP 9 (by omega) mg_E.1 (hts _ (by decide +kernel)) dX4_over_417 ?_
    refine tp_i (y := nI (ne)) rfl ?_
    refine bi_ge (tgt := 447) hx hb dX4_over_420 (by decide) (by omega) (by omega) (fun q => ?_) (fun q => ?_)
    · exact absurd hn (by omega)
    · refine lv_aload_n hx hb dX4_over_423 rfl (lv_at hl 1 rfl) ?_
      refine rg_4_a hx hb hts in4 hown hK hP 0 (by decide) mg_0 (hts _ (by decide +kernel)) dX4_over_424 ?_
      refine rg_3_d hx hb hts in3 hown hK hP 3 (by omega) mg_A.1 (hts _ (by decide +kernel)) dX4_over_427 ?_
      refine lv_iload_n hx hb dX4_over_430 rfl (lv_at hl 0 rfl) ?_
      refine lv_aload_n hx hb dX4_over_431 rfl (lv_at hl 1 rfl) ?_
      refine rg_4_e hx hb hts in4 hown hK hP 0 (by decide) mg_0 (hts _ (by decide +kernel)) dX4_over_432 ?_
      refine rg_3_d hx hb hts in3 hown hK hP 9 (by omega) mg_E.1 (hts _ (by decide +kernel)) dX4_over_435 ?_
      refine lv_iload_n hx hb dX4_over_438 rfl (lv_at hl 0 rfl) ?_
      refine rn_i hx hb hK hP (9 + 1) (by omega) mg_E.2 (by omega) (by decide) dX4_over_439 ?_
      refine tp_i (y := fe i) rfl ?_
      refine rt_i hx hb hK hP hD hS (3 + 1) (by omega) mg_A.2 (by omega) (by decide) dX4_over_440 (fun H locs hP hD hS => ?_)
      rw [mg_sa] at hP hD
      refine lv_iinc (v := nI (i + 1)) (lv' := [(1, .int (nI (i + 1))), (0, .ref (ad 0))]) hx hb dX4_over_441 hl (k := 0) rfl (nI_inc i 1) (by decide) rfl (fun ls hl => ?_)
      refine lv_goto (tgt := 412) hx hb dX4_over_444 (by decide) ?_
      rw [tk_s] at hP hD
      exact ih (i + 1) H locs ls (by omega) hP hD hS hl
set_option maxHeartbeats 4000000 in
set_option maxRecDepth 100000 in
/-- over -/
theorem c_X4_over (l : Launch) (D : va_G) (cA : Nat → ClassId) (tT : Nat) (A : Nat → Prop) (ad : Nat → Nat) (sz : Nat) {fa fb : Nat → Int32} {na nb X Y : Nat} {ba bb : Bool} {za zb : Int} {wc we : RWt} {rg : Nat → RWt} {tx : Nat → Int32} {tl : Nat} (hna : na ≤ 600) (hnb : nb ≤ 600) (hva : rv fa na X) (hvb : rv fb nb Y) (hY : Y ≠ 0) : Met l yX4_over wsX4_over ({ frames := 1, cells := 0, slots := 0, locals := 22 }) (va_Pc [.ref (ad 0)] (wd_B D cA tT A 23 ad sz (mg cA ad (fa, na, ba, za) (fb, nb, bb, zb) wc we rg tx tl))) (va_Qv (fun (u : Nat → va_E) => ∃ (fa1 fc : Nat → Int32) (we1 : RWt), rv fa1 (nd_p (X % Y)) (X % Y) ∧ rv fc (nd_p (X / Y)) (X / Y) ∧ u = mg cA ad (fa1, nd_p (X % Y), ba, za) (fb, nb, bb, zb) (fc, nd_p (X / Y), wc.2.2) we1 rg tx tl) (wd_E D cA A 23 ad) A) 0 0 A := by
  refine Met.ofW (cc := cX4_over) (maxL := 6) (ret := none) (by decide) rfl ?_
  intro p e s m args below meth c s₁ B hml hv
  obtain ⟨rfl, hsz, hP, hK, hD, hT⟩ := hv
  have hx := B.exec
  have hb := B.bytes
  have hr := B.returns
  have hts := atoms_spec (ws := wsX4_over) B.pre
  have hown : s.vm.findClass RX4 = some m.cls := findClass_of_methodNamed B.named
  have hlocks := B.notSynchronized
  subst hsz
  have hS : va_S A s.heap s.heap [] := va_S.rf
  have in3 : ∀ w ∈ wsX30, w ∈ wsX4_over := by decide +kernel
  have in4 : ∀ w ∈ wsX40, w ∈ wsX4_over := by decide +kernel
  have hl := lv_entry ([.ref (ad 0)]) (n := 6) (Nat.le_of_ble_eq_true rfl)
  rw [lg_entry_eq]
  generalize (lg_sl ([.ref (ad 0)]) ++ List.replicate (6 - (lg_sl ([.ref (ad 0)])).length) Slot.unset).toArray = ls at hl ⊢
  have hl : lv_has ls 6 [(0, .ref (ad 0))] := hl
  have S9 : CallFix p m c cX4_over 6 s _ wsX4_over RX4 := ⟨hx, hb, hml, hown, hts⟩
  have pa : 1 ≤ na := by rw [hva.1]; exact nd_p_pos _
  refine lv_aload_n hx hb dX4_over_0 rfl (lv_at hl 0 rfl) ?_
  refine rg_4_c hx hb hts in4 hown hK hP 0 (by decide) mg_0 (hts _ (by decide +kernel)) dX4_over_1 ?_
  refine lv_aload_n hx hb dX4_over_4 rfl (lv_at hl 0 rfl) ?_
  refine rg_4_a hx hb hts in4 hown hK hP 0 (by decide) mg_0 (hts _ (by decide +kernel)) dX4_over_5 ?_
  refine rg_3_n hx hb hts in3 hown hK hP 3 (by omega) mg_A.1 (hts _ (by decide +kernel)) dX4_over_8 ?_
  refine tp_i (y := nI (na)) rfl ?_
  refine rp_3_n hx hb hts in3 hown hK hP hD hS 7 (by omega) mg_C.1 (hts _ (by decide +kernel)) rfl rfl dX4_over_11 (fun H locs hP hD hS => ?_)
  rw [mg_pc na wc.2.2.1 wc.2.2.2 (v := nI (wc.2.2.1.toNat)) rfl] at hP hD
  refine lv_aload_n hx hb dX4_over_14 rfl (lv_at hl 0 rfl) ?_
  refine rg_4_e hx hb hts in4 hown hK hP 0 (by decide) mg_0 (hts _ (by decide +kernel)) dX4_over_15 ?_
  refine lv_iconst (v := nI (1)) hx hb dX4_over_18 (by decide) ?_
  refine rp_3_n hx hb hts in3 hown hK hP hD hS 9 (by omega) mg_E.1 (hts _ (by decide +kernel)) rfl rfl dX4_over_19 (fun H locs hP hD hS => ?_)
  rw [mg_pe 1 we.2.2.1 we.2.2.2 (v := nI (we.2.2.1.toNat)) rfl] at hP hD
  refine lv_aload_n hx hb dX4_over_22 rfl (lv_at hl 0 rfl) ?_
  refine rg_4_e hx hb hts in4 hown hK hP 0 (by decide) mg_0 (hts _ (by decide +kernel)) dX4_over_23 ?_
  refine rg_3_d hx hb hts in3 hown hK hP 9 (by omega) mg_E.1 (hts _ (by decide +kernel)) dX4_over_26 ?_
  refine lv_iconst (v := nI (0)) hx hb dX4_over_29 (by decide) ?_
  refine lv_iconst (v := nI (0)) hx hb dX4_over_30 (by decide) ?_
  refine rt_i hx hb hK hP hD hS (9 + 1) (by omega) mg_E.2 (by omega) (by decide) dX4_over_31 (fun H locs hP hD hS => ?_)
  rw [mg_se] at hP hD
  refine lv_aload_n hx hb dX4_over_32 rfl (lv_at hl 0 rfl) ?_
  refine rg_4_a hx hb hts in4 hown hK hP 0 (by decide) mg_0 (hts _ (by decide +kernel)) dX4_over_33 ?_
  refine rg_3_n hx hb hts in3 hown hK hP 3 (by omega) mg_A.1 (hts _ (by decide +kernel)) dX4_over_36 ?_
  refine tp_i (y := nI (na)) rfl ?_
  refine lv_iconst (v := nI (1)) hx hb dX4_over_39 (by decide) ?_
  refine lv_isub hx hb dX4_over_40 ?_
  refine tp_i (y := dn na) (dn_sub _) ?_
  refine lv_istore_n (lv' := [(1, .int (dn na)), (0, .ref (ad 0))]) hx hb dX4_over_41 rfl hl (by decide) rfl (fun ls hl => ?_)
  have e0 : X / 10 ^ na % Y = 0 := by rw [Nat.div_eq_of_lt (rv_dv hva).1, Nat.zero_mod]
  have e1 : nd_p (X / 10 ^ na % Y) = 1 := by rw [e0]; exact nd_p1 (by decide)
  have hr0 : rv (upd we.1 0 (nI 0)) (nd_p (X / 10 ^ na % Y)) (X / 10 ^ na % Y) := by
    rw [e1, e0]
    refine ⟨(nd_p1 (by decide)).symm, fun j hj => ?_⟩
    obtain rfl : j = 0 := by omega
    rw [pk_us, Nat.zero_div]
  rw [← e1] at hP hD
  refine lp_X4_over_o (X := X) (Y := Y) S9 hK hT (Nat.le_of_ble_eq_true rfl) (Nat.le_of_ble_eq_true rfl) hna hnb hva hvb hY (fun fc fe H locs ls h1 h2 hP hD hS hl => ?_) na wc.1 _ _ _ ls (Nat.le_refl _) hr0 (fun j hj hj2 => absurd hj2 (by omega)) hP hD hS (lv_sub hl [0, 1] rfl)
  have hq9 : X / Y < 10 ^ na := Nat.lt_of_le_of_lt (Nat.div_le_self _ _) (rv_dv hva).1
  obtain ⟨n9, hn9⟩ : ∃ n9, na = n9 + 1 := ⟨na - 1, by omega⟩
  rw [hn9] at hP hD hq9
  refine lp_X4_over_t3 (v9 := X / Y) S9 hK hT (fun H locs ls hr9 hP hD hS hl => ?_) n9 _ _ ls (by omega) ⟨hq9, fun j hj => h2 j (by omega)⟩ hP hD hS hl
  have pb : 1 ≤ nb := by rw [hvb.1]; exact nd_p_pos _
  have hml9 : nd_p (X % Y) ≤ nb := (nd_p_le pb).mpr (Nat.lt_trans (Nat.mod_lt _ (Nat.pos_of_ne_zero hY)) (rv_dv hvb).1)
  refine lv_aload_n hx hb dX4_over_396 rfl (lv_at hl 0 rfl) ?_
  refine rg_4_a hx hb hts in4 hown hK hP 0 (by decide) mg_0 (hts _ (by decide +kernel)) dX4_over_397 ?_
  refine lv_aload_n hx hb dX4_over_400 rfl (lv_at hl 0 rfl) ?_
  refine rg_4_e hx hb hts in4 hown hK hP 0 (by decide) mg_0 (hts _ (by decide +kernel)) dX4_over_401 ?_
  refine rg_3_n hx hb hts in3 hown hK hP 9 (by omega) mg_E.1 (hts _ (by decide +kernel)) dX4_over_404 ?_
  refine tp_i (y := nI (nd_p (X % Y))) rfl ?_
  refine rp_3_n hx hb hts in3 hown hK hP hD hS 3 (by omega) mg_A.1 (hts _ (by decide +kernel)) rfl rfl dX4_over_407 (fun H locs hP hD hS => ?_)
  rw [mg_pa (nd_p (X % Y)) ba za (v := nI (ba.toNat)) rfl] at hP hD
  refine lv_iconst (v := nI (0)) hx hb dX4_over_410 (by decide) ?_
  refine lv_istore_n (lv' := [(1, .int (nI (0))), (0, .ref (ad 0))]) hx hb dX4_over_411 rfl hl (by decide) rfl (fun ls hl => ?_)
  rw [← tk_0 fe fa] at hP hD
  refine lp_X4_over_c S9 hK hT (by omega) (fun H locs ls hP hD hS => ?_) (nd_p (X % Y)) 0 _ _ ls (by omega) hP hD hS (lv_sub hl [0, 1] rfl)
  exact W.vret hx hb hr (fun t ht hW => ⟨⟨_, rfl, ⟨_, fc, _, ⟨rfl, fun j hj => by rw [tk_lt hj]; exact h1.2 j hj⟩, hr9, rfl⟩, wd_end hP hK hD ht hW⟩, hS.F ht⟩) hS.2.2 dX4_over_447
