theorem odI_lt0 {x y : Nat} (h : odI x y < 0) : x < y := by
  rcases Nat.lt_or_ge x y with r | r
  · exact r
  · exact absurd h (odI_ge.mpr r)
theorem nI_subZ (a b : Nat) : nI a - nI b = iZ ((a : Int) - (b : Int)) := by rw [iZ_nat, iZ_nat, iZ_sub]
/-- the sum of two with signs, in numbers -/
def SM (ba : Bool) (X : Nat) (mn : Bool) (Y : Nat) : Bool × Nat :=
  if ba = mn ∨ X = 0 ∨ Y = 0 then (if X = 0 then mn else ba, X + Y) else if X < Y then (mn, Y - X) else (ba, X - Y)
theorem sm_SM {d1 d2 : Bool × Nat × Int} {tb : Bool} (h1 : d1.1 = true → d1.2.1 ≠ 0) (h2 : d2.1 = true → d2.2.1 ≠ 0) {r : Bool × Nat} (hr : r = SM d1.1 (aX d1 d2) (d2.1 != (tb && decide (aX d2 d1 ≠ 0))) (aX d2 d1)) : sm d1 d2 (d2.1 != tb) = (sn r.1 r.2, r.2, max d1.2.2 d2.2.2) := by
  have h1 : d1.1 = true → aX d1 d2 ≠ 0 := fun h q => h1 h (aX_0.mp q)
  have h2 : d2.1 = true → aX d2 d1 ≠ 0 := fun h q => h2 h (aX_0.mp q)
  subst hr
  rw [sm, SM]
  generalize aX d1 d2 = X at h1 ⊢
  generalize aX d2 d1 = Y at h2 ⊢
  generalize d1.1 = a at h1 ⊢
  generalize d2.1 = b at h2 ⊢
  generalize max d1.2.2 d2.2.2 = z
  by_cases y0 : Y = 0
  · have hb : b = false := by cases b; rfl; exact absurd y0 (h2 rfl)
    subst hb; subst y0
    by_cases x0 : X = 0
    · have ha : a = false := by cases a; rfl; exact absurd x0 (h1 rfl)
      subst ha; subst x0
      cases tb <;> simp [sn]
    · cases a <;> cases tb <;> simp [sn, x0]
  · by_cases x0 : X = 0
    · have ha : a = false := by cases a; rfl; exact absurd x0 (h1 rfl)
      subst ha; subst x0
      cases b <;> cases tb <;> simp [sn, y0]
    · have e : (tb && decide (Y ≠ 0)) = tb := by simp [y0]
      rw [e]
      by_cases q : a = (b != tb)
      · rw [if_pos q, if_pos (Or.inl q), if_neg x0]
      · have e2 : ¬ (a = (b != tb) ∨ X = 0 ∨ Y = 0) := fun h => h.elim q (fun h => h.elim x0 y0)
        rw [if_neg q]
        by_cases r : X < Y
        · rw [if_neg (by omega : ¬ Y ≤ X), if_neg e2, if_pos r]
        · rw [if_pos (by omega : Y ≤ X), if_neg e2, if_neg r]
set_option maxHeartbeats 4000000 in
set_option maxRecDepth 100000 in
theorem lp_X4_sum_a {p : Program} {l : Launch} {e : Env} {R : Room} {s : State} {m : MethodId} {args : Array Value} {below : List Frame} {meth : Method} {c : Code} {Q : State → Prop} {D : va_G} {cA : Nat → ClassId} {tT : Nat} {A : Nat → Prop} {ad : Nat → Nat} {we : RWt} {rg : Nat → RWt} {tx : Nat → Int32} {tl : Nat} {fb fc : Nat → Int32} {na nb nc X Y m9 : Nat} {ba bb bc mn : Bool} {za zb zc : Int} (S : CallFix p m c cX4_sum 8 s args wsX4_sum RX4) (hK : va_K D vwCl (ty_s cA) s) (hT : st_T tT A s s.heap) (hm8 : m9 ≤ 800) (hX : ∀ j, na ≤ j → X / 10 ^ j % 10 = 0) (kk : ∀ (f' : Nat → Int32) (H : Heap) (locs : List Loc) (ls : Array Slot), (∀ j, j < m9 → f' j = nI (X / 10 ^ j % 10)) → va_P D vwCl (wm_W 23 ad (mg cA ad (f', na, ba, za) (fb, nb, bb, zb) (fc, nc, bc, zc) we rg tx tl)) H → va_D A (wm_W 23 ad (mg cA ad (f', na, ba, za) (fb, nb, bb, zb) (fc, nc, bc, zc) we rg tx tl)) → va_S A s.heap H locs → lv_has ls 8 [(0, .ref (ad 0)), (2, .int (nI (mn.toNat))), (3, .int (nI (m9)))] → W p l e R s m args below meth c H locs 0 0 Q (F0 m 116 ls [])) :
    ∀ (k i : Nat) (f' : Nat → Int32) (H : Heap) (locs : List Loc) (ls : Array Slot), i + k = m9 → na ≤ i → (∀ j, j < i → f' j = nI (X / 10 ^ j % 10)) → va_P D vwCl (wm_W 23 ad (mg cA ad (f', na, ba, za) (fb, nb, bb, zb) (fc, nc, bc, zc) we rg tx tl)) H → va_D A (wm_W 23 ad (mg cA ad (f', na, ba, za) (fb, nb, bb, zb) (fc, nc, bc, zc) we rg tx tl)) → va_S A s.heap H locs → lv_has ls 8 [(4, .int (nI (i))), (0, .ref (ad 0)), (2, .int (nI (mn.toNat))), (3, .int (nI (m9)))] → W p l e R s m args below meth c H locs 0 0 Q (F0 m 93 ls []) := by
  obtain ⟨hx, hb, hml, hown, hts⟩ := S
  have in3 : ∀ w ∈ wsX30, w ∈ wsX4_sum := by decide +kernel
  have in4 : ∀ w ∈ wsX40, w ∈ wsX4_sum := by decide +kernel
  intro k
  induction k with
  | zero =>
    intro i f' H locs ls hn hi h1 hP hD hS hl
    refine lv_iload hx hb dX4_sum_93 (lv_at hl 0 rfl) ?_
    refine lv_iload_n hx hb dX4_sum_95 rfl (lv_at hl 3 rfl) ?_
    refine bi_ge (tgt := 116) hx hb dX4_sum_96 (by decide) (by omega) (by omega) (fun q => ?_) (fun q => ?_)
    · exact kk f' H locs ls (fun j hj => h1 j (by omega)) hP hD hS (lv_sub hl [1, 2, 3] rfl)
    · exact absurd hn (by omega)
  | succ k ih =>
    intro i f' H locs ls hn hi h1 hP hD hS hl
    refine lv_iload hx hb dX4_sum_93 (lv_at hl 0 rfl) ?_
    refine lv_iload_n hx hb dX4_sum_95 rfl (lv_at hl 3 rfl) ?_
    refine bi_ge (tgt := 116) hx hb dX4_sum_96 (by decide) (by omega) (by omega) (fun q => ?_) (fun q => ?_)
    · exact absurd hn (by omega)
    · refine lv_aload_n hx hb dX4_sum_99 rfl (lv_at hl 1 rfl) ?_
      refine rg_4_a hx hb hts in4 hown hK hP 0 (by decide) mg_0 (hts _ (by decide +kernel)) dX4_sum_100 ?_
      refine rg_3_d hx hb hts in3 hown hK hP 3 (by omega) mg_A.1 (hts _ (by decide +kernel)) dX4_sum_103 ?_
      refine lv_iload hx hb dX4_sum_106 (lv_at hl 0 rfl) ?_
      refine lv_iconst (v := nI (0)) hx hb dX4_sum_108 (by decide) ?_
      refine rt_i hx hb hK hP hD hS (3 + 1) (by omega) mg_A.2 (by omega) (by decide) dX4_sum_109 (fun H locs hP hD hS => ?_)
      rw [mg_sa] at hP hD
      refine lv_iinc (v := nI (i + 1)) (lv' := [(4, .int (nI (i + 1))), (0, .ref (ad 0)), (2, .int (nI (mn.toNat))), (3, .int (nI (m9)))]) hx hb dX4_sum_110 hl (k := 0) rfl (nI_inc i 1) (by decide) rfl (fun ls hl => ?_)
      refine lv_goto (tgt := 93) hx hb dX4_sum_113 (by decide) ?_
      refine ih (i + 1) _ H locs ls (by omega) (by omega) (fun j hj => ?_) hP hD hS hl
      rcases Nat.lt_or_ge j i with r | r
      · rw [pk_un (by omega)]; exact h1 j r
      · obtain rfl : j = i := by omega
        rw [hX j hi]; exact pk_us
set_option maxHeartbeats 4000000 in
set_option maxRecDepth 100000 in
theorem lp_X4_sum_b {p : Program} {l : Launch} {e : Env} {R : Room} {s : State} {m : MethodId} {args : Array Value} {below : List Frame} {meth : Method} {c : Code} {Q : State → Prop} {D : va_G} {cA : Nat → ClassId} {tT : Nat} {A : Nat → Prop} {ad : Nat → Nat} {we : RWt} {rg : Nat → RWt} {tx : Nat → Int32} {tl : Nat} {fa fc : Nat → Int32} {na nb nc X Y m9 : Nat} {ba bb bc mn : Bool} {za zb zc : Int} (S : CallFix p m c cX4_sum 8 s args wsX4_sum RX4) (hK : va_K D vwCl (ty_s cA) s) (hT : st_T tT A s s.heap) (hm8 : m9 ≤ 800) (hX : ∀ j, nb ≤ j → Y / 10 ^ j % 10 = 0) (kk : ∀ (f' : Nat → Int32) (H : Heap) (locs : List Loc) (ls : Array Slot), (∀ j, j < m9 → f' j = nI (Y / 10 ^ j % 10)) → va_P D vwCl (wm_W 23 ad (mg cA ad (fa, na, ba, za) (f', nb, bb, zb) (fc, nc, bc, zc) we rg tx tl)) H → va_D A (wm_W 23 ad (mg cA ad (fa, na, ba, za) (f', nb, bb, zb) (fc, nc, bc, zc) we rg tx tl)) → va_S A s.heap H locs → lv_has ls 8 [(0, .ref (ad 0)), (2, .int (nI (mn.toNat))), (3, .int (nI (m9)))] → W p l e R s m args below meth c H locs 0 0 Q (F0 m 148 ls [])) :
    ∀ (k i : Nat) (f' : Nat → Int32) (H : Heap) (locs : List Loc) (ls : Array Slot), i + k = m9 → nb ≤ i → (∀ j, j < i → f' j = nI (Y / 10 ^ j % 10)) → va_P D vwCl (wm_W 23 ad (mg cA ad (fa, na, ba, za) (f', nb, bb, zb) (fc, nc, bc, zc) we rg tx tl)) H → va_D A (wm_W 23 ad (mg cA ad (fa, na, ba, za) (f', nb, bb, zb) (fc, nc, bc, zc) we rg tx tl)) → va_S A s.heap H locs → lv_has ls 8 [(4, .int (nI (i))), (0, .ref (ad 0)), (2, .int (nI (mn.toNat))), (3, .int (nI (m9)))] → W p l e R s m args below meth c H locs 0 0 Q (F0 m 125 ls []) := by
  obtain ⟨hx, hb, hml, hown, hts⟩ := S
  have in3 : ∀ w ∈ wsX30, w ∈ wsX4_sum := by decide +kernel
  have in4 : ∀ w ∈ wsX40, w ∈ wsX4_sum := by decide +kernel
  intro k
  induction k with
  | zero =>
    intro i f' H locs ls hn hi h1 hP hD hS hl
    refine lv_iload hx hb dX4_sum_125 (lv_at hl 0 rfl) ?_
    refine lv_iload_n hx hb dX4_sum_127 rfl (lv_at hl 3 rfl) ?_
    refine bi_ge (tgt := 148) hx hb dX4_sum_128 (by decide) (by omega) (by omega) (fun q => ?_) (fun q => ?_)
    · exact kk f' H locs ls (fun j hj => h1 j (by omega)) hP hD hS (lv_sub hl [1, 2, 3] rfl)
    · exact absurd hn (by omega)
  | succ k ih =>
    intro i f' H locs ls hn hi h1 hP hD hS hl
    refine lv_iload hx hb dX4_sum_125 (lv_at hl 0 rfl) ?_
    refine lv_iload_n hx hb dX4_sum_127 rfl (lv_at hl 3 rfl) ?_
    refine bi_ge (tgt := 148) hx hb dX4_sum_128 (by decide) (by omega) (by omega) (fun q => ?_) (fun q => ?_)
    · exact absurd hn (by omega)
    · refine lv_aload_n hx hb dX4_sum_131 rfl (lv_at hl 1 rfl) ?_
      refine rg_4_b hx hb hts in4 hown hK hP 0 (by decide) mg_0 (hts _ (by decide +kernel)) dX4_sum_132 ?_
      refine rg_3_d hx hb hts in3 hown hK hP 5 (by omega) mg_B.1 (hts _ (by decide +kernel)) dX4_sum_135 ?_
      refine lv_iload hx hb dX4_sum_138 (lv_at hl 0 rfl) ?_
      refine lv_iconst (v := nI (0)) hx hb dX4_sum_140 (by decide) ?_
      refine rt_i hx hb hK hP hD hS (5 + 1) (by omega) mg_B.2 (by omega) (by decide) dX4_sum_141 (fun H locs hP hD hS => ?_)
      rw [mg_sb] at hP hD
      refine lv_iinc (v := nI (i + 1)) (lv' := [(4, .int (nI (i + 1))), (0, .ref (ad 0)), (2, .int (nI (mn.toNat))), (3, .int (nI (m9)))]) hx hb dX4_sum_142 hl (k := 0) rfl (nI_inc i 1) (by decide) rfl (fun ls hl => ?_)
      refine lv_goto (tgt := 125) hx hb dX4_sum_145 (by decide) ?_
      refine ih (i + 1) _ H locs ls (by omega) (by omega) (fun j hj => ?_) hP hD hS hl
      rcases Nat.lt_or_ge j i with r | r
      · rw [pk_un (by omega)]; exact h1 j r
      · obtain rfl : j = i := by omega
        rw [hX j hi]; exact pk_us
set_option maxHeartbeats 4000000 in
set_option maxRecDepth 100000 in
theorem lp_X4_add {p : Program} {l : Launch} {e : Env} {R : Room} {s : State} {m : MethodId} {args : Array Value} {below : List Frame} {meth : Method} {c : Code} {Q : State → Prop} {D : va_G} {cA : Nat → ClassId} {tT : Nat} {A : Nat → Prop} {ad : Nat → Nat} {we : RWt} {rg : Nat → RWt} {tx : Nat → Int32} {tl : Nat} {fa fb : Nat → Int32} {na nb nc X Y m9 : Nat} {ba bb bc mn : Bool} {za zb zc : Int} (S : CallFix p m c cX4_sum 8 s args wsX4_sum RX4) (hK : va_K D vwCl (ty_s cA) s) (hT : st_T tT A s s.heap) (hm8 : m9 ≤ 800) (hfa : ∀ j, j < m9 → fa j = nI (X / 10 ^ j % 10)) (hfb : ∀ j, j < m9 → fb j = nI (Y / 10 ^ j % 10)) (kk : ∀ (cv : Nat) (fc : Nat → Int32) (H : Heap) (locs : List Loc) (ls : Array Slot), cv < 2 → (X + Y) / 10 ^ m9 = X / 10 ^ m9 + Y / 10 ^ m9 + cv → (∀ j, j < m9 → fc j = nI ((X + Y) / 10 ^ j % 10)) → va_P D vwCl (wm_W 23 ad (mg cA ad (fa, na, ba, za) (fb, nb, bb, zb) (fc, nc, bc, zc) we rg tx tl)) H → va_D A (wm_W 23 ad (mg cA ad (fa, na, ba, za) (fb, nb, bb, zb) (fc, nc, bc, zc) we rg tx tl)) → va_S A s.heap H locs → lv_has ls 8 [(4, .int (nI (cv))), (0, .ref (ad 0)), (2, .int (nI (mn.toNat))), (3, .int (nI (m9)))] → W p l e R s m args below meth c H locs 0 0 Q (F0 m 245 ls [])) :
    ∀ (k i cv : Nat) (fc : Nat → Int32) (H : Heap) (locs : List Loc) (ls : Array Slot), i + k = m9 → cv < 2 → (X + Y) / 10 ^ i = X / 10 ^ i + Y / 10 ^ i + cv → (∀ j, j < i → fc j = nI ((X + Y) / 10 ^ j % 10)) → va_P D vwCl (wm_W 23 ad (mg cA ad (fa, na, ba, za) (fb, nb, bb, zb) (fc, nc, bc, zc) we rg tx tl)) H → va_D A (wm_W 23 ad (mg cA ad (fa, na, ba, za) (fb, nb, bb, zb) (fc, nc, bc, zc) we rg tx tl)) → va_S A s.heap H locs → lv_has ls 8 [(5, .int (nI (i))), (4, .int (nI (cv))), (0, .ref (ad 0)), (2, .int (nI (mn.toNat))), (3, .int (nI (m9)))] → W p l e R s m args below meth c H locs 0 0 Q (F0 m 185 ls []) := by
  obtain ⟨hx, hb, hml, hown, hts⟩ := S
  have in3 : ∀ w ∈ wsX30, w ∈ wsX4_sum := by decide +kernel
  have in4 : ∀ w ∈ wsX40, w ∈ wsX4_sum := by decide +kernel
  intro k
  induction k with
  | zero =>
    intro i cv fc H locs ls hn hc hi h1 hP hD hS hl
    refine lv_iload hx hb dX4_sum_185 (lv_at hl 0 rfl) ?_
    refine lv_iload_n hx hb dX4_sum_187 rfl (lv_at hl 4 rfl) ?_
    refine bi_ge (tgt := 245) hx hb dX4_sum_188 (by decide) (by omega) (by omega) (fun q => ?_) (fun q => ?_)
    · obtain rfl : i = m9 := by omega
      exact kk cv fc H locs ls hc hi h1 hP hD hS (lv_sub hl [1, 2, 3, 4] rfl)
    · exact absurd hn (by omega)
  | succ k ih =>
    intro i cv fc H locs ls hn hc hi h1 hP hD hS hl
    refine lv_iload hx hb dX4_sum_185 (lv_at hl 0 rfl) ?_
    refine lv_iload_n hx hb dX4_sum_187 rfl (lv_at hl 4 rfl) ?_
    refine bi_ge (tgt := 245) hx hb dX4_sum_188 (by decide) (by omega) (by omega) (fun q => ?_) (fun q => ?_)
    · exact absurd hn (by omega)
    · have hdx := dg_lt X i
      have hdy := dg_lt Y i
      refine lv_aload_n hx hb dX4_sum_191 rfl (lv_at hl 2 rfl) ?_
      refine rg_4_a hx hb hts in4 hown hK hP 0 (by decide) mg_0 (hts _ (by decide +kernel)) dX4_sum_192 ?_
      refine rg_3_d hx hb hts in3 hown hK hP 3 (by omega) mg_A.1 (hts _ (by decide +kernel)) dX4_sum_195 ?_
      refine lv_iload hx hb dX4_sum_198 (lv_at hl 0 rfl) ?_
      refine rn_i hx hb hK hP (3 + 1) (by omega) mg_A.2 (by omega) (by decide) dX4_sum_200 ?_
      refine tp_i (y := nI (X / 10 ^ i % 10)) (hfa i (by omega)) ?_
      refine lv_aload_n hx hb dX4_sum_201 rfl (lv_at hl 2 rfl) ?_
      refine rg_4_b hx hb hts in4 hown hK hP 0 (by decide) mg_0 (hts _ (by decide +kernel)) dX4_sum_202 ?_
      refine rg_3_d hx hb hts in3 hown hK hP 5 (by omega) mg_B.1 (hts _ (by decide +kernel)) dX4_sum_205 ?_
      refine lv_iload hx hb dX4_sum_208 (lv_at hl 0 rfl) ?_
      refine rn_i hx hb hK hP (5 + 1) (by omega) mg_B.2 (by omega) (by decide) dX4_sum_210 ?_
      refine tp_i (y := nI (Y / 10 ^ i % 10)) (hfb i (by omega)) ?_
      refine lv_iadd hx hb dX4_sum_211 ?_
      refine tp_i (y := nI ((X / 10 ^ i % 10) + (Y / 10 ^ i % 10))) (nI_add _ _) ?_
      refine lv_iload hx hb dX4_sum_212 (lv_at hl 1 rfl) ?_
      refine lv_iadd hx hb dX4_sum_214 ?_
      refine tp_i (y := nI (((X / 10 ^ i % 10) + (Y / 10 ^ i % 10)) + cv)) (nI_add _ _) ?_
      refine lv_istore (lv' := [(6, .int (nI (((X / 10 ^ i % 10) + (Y / 10 ^ i % 10)) + cv))), (5, .int (nI (i))), (4, .int (nI (cv))), (0, .ref (ad 0)), (2, .int (nI (mn.toNat))), (3, .int (nI (m9)))]) hx hb dX4_sum_215 hl (by decide) rfl (fun ls hl => ?_)
      refine lv_aload_n hx hb dX4_sum_217 rfl (lv_at hl 3 rfl) ?_
      refine rg_4_c hx hb hts in4 hown hK hP 0 (by decide) mg_0 (hts _ (by decide +kernel)) dX4_sum_218 ?_
      refine rg_3_d hx hb hts in3 hown hK hP 7 (by omega) mg_C.1 (hts _ (by decide +kernel)) dX4_sum_221 ?_
      refine lv_iload hx hb dX4_sum_224 (lv_at hl 1 rfl) ?_
      refine lv_iload hx hb dX4_sum_226 (lv_at hl 0 rfl) ?_
      refine lv_bipush (v := nI (10)) hx hb dX4_sum_228 (by decide) ?_
      refine lv_irem hx hb dX4_sum_230 (nI_ne0 (by omega) (by omega)) ?_
      refine tp_i (y := nI ((((X / 10 ^ i % 10) + (Y / 10 ^ i % 10)) + cv) % 10)) (pk_rem (by omega) (by omega) (by omega)) ?_
      refine rt_i hx hb hK hP hD hS (7 + 1) (by omega) mg_C.2 (by omega) (by decide) dX4_sum_231 (fun H locs hP hD hS => ?_)
      rw [mg_sc] at hP hD
      refine lv_iload hx hb dX4_sum_232 (lv_at hl 0 rfl) ?_
      refine lv_bipush (v := nI (10)) hx hb dX4_sum_234 (by decide) ?_
      refine lv_idiv hx hb dX4_sum_236 (nI_ne0 (by omega) (by omega)) ?_
      refine tp_i (y := nI ((((X / 10 ^ i % 10) + (Y / 10 ^ i % 10)) + cv) / 10)) (pk_div (by omega) (by omega) (by omega)) ?_
      refine lv_istore (lv' := [(4, .int (nI ((((X / 10 ^ i % 10) + (Y / 10 ^ i % 10)) + cv) / 10))), (6, .int (nI (((X / 10 ^ i % 10) + (Y / 10 ^ i % 10)) + cv))), (5, .int (nI (i))), (0, .ref (ad 0)), (2, .int (nI (mn.toNat))), (3, .int (nI (m9)))]) hx hb dX4_sum_237 hl (by decide) rfl (fun ls hl => ?_)
      refine lv_iinc (v := nI (i + 1)) (lv' := [(5, .int (nI (i + 1))), (4, .int (nI ((((X / 10 ^ i % 10) + (Y / 10 ^ i % 10)) + cv) / 10))), (6, .int (nI (((X / 10 ^ i % 10) + (Y / 10 ^ i % 10)) + cv))), (0, .ref (ad 0)), (2, .int (nI (mn.toNat))), (3, .int (nI (m9)))]) hx hb dX4_sum_239 hl (k := 2) rfl (nI_inc i 1) (by decide) rfl (fun ls hl => ?_)
      refine lv_goto (tgt := 185) hx hb dX4_sum_242 (by decide) ?_
      refine ih (i + 1) _ _ H locs ls (by omega) (by omega) (by rw [tp_q, tp_q, tp_q]; omega) (fun j hj => ?_) hP hD hS (lv_sub hl [0, 1, 3, 4, 5] rfl)
      rcases Nat.lt_or_ge j i with r | r
      · rw [pk_un (by omega)]; exact h1 j r
      · obtain rfl : j = i := by omega
        rw [pk_us]; congr 1; omega
set_option maxHeartbeats 4000000 in
set_option maxRecDepth 100000 in
theorem lp_X4_sub0 {p : Program} {l : Launch} {e : Env} {R : Room} {s : State} {m : MethodId} {args : Array Value} {below : List Frame} {meth : Method} {c : Code} {Q : State → Prop} {D : va_G} {cA : Nat → ClassId} {tT : Nat} {A : Nat → Prop} {ad : Nat → Nat} {we : RWt} {rg : Nat → RWt} {tx : Nat → Int32} {tl : Nat} {fa fb : Nat → Int32} {na nb nc X Y m9 : Nat} {ba bb bc mn : Bool} {za zb zc : Int} {V9 : Nat} (S : CallFix p m c cX4_sum 8 s args wsX4_sum RX4) (hK : va_K D vwCl (ty_s cA) s) (hT : st_T tT A s s.heap) (hm8 : m9 ≤ 800) (hfa : ∀ j, j < m9 → fa j = nI (X / 10 ^ j % 10)) (hfb : ∀ j, j < m9 → fb j = nI (Y / 10 ^ j % 10)) (kk : ∀ (fc : Nat → Int32) (H : Heap) (locs : List Loc) (ls : Array Slot), (∀ j, j < m9 → fc j = nI (V9 / 10 ^ j % 10)) → va_P D vwCl (wm_W 23 ad (mg cA ad (fa, na, ba, za) (fb, nb, bb, zb) (fc, nc, bc, zc) we rg tx tl)) H → va_D A (wm_W 23 ad (mg cA ad (fa, na, ba, za) (fb, nb, bb, zb) (fc, nc, bc, zc) we rg tx tl)) → va_S A s.heap H locs → lv_has ls 8 [(4, .int (nI (0))), (0, .ref (ad 0)), (2, .int (nI (mn.toNat))), (3, .int (nI (m9)))] → W p l e R s m args below meth c H locs 0 0 Q (F0 m 428 ls [])) :
    ∀ (k i cv : Nat) (fc : Nat → Int32) (H : Heap) (locs : List Loc) (ls : Array Slot), i + k = m9 → cv < 2 → V9 / 10 ^ i + Y / 10 ^ i + cv = X / 10 ^ i → (∀ j, j < i → fc j = nI (V9 / 10 ^ j % 10)) → va_P D vwCl (wm_W 23 ad (mg cA ad (fa, na, ba, za) (fb, nb, bb, zb) (fc, nc, bc, zc) we rg tx tl)) H → va_D A (wm_W 23 ad (mg cA ad (fa, na, ba, za) (fb, nb, bb, zb) (fc, nc, bc, zc) we rg tx tl)) → va_S A s.heap H locs → lv_has ls 8 [(6, .int (nI (i))), (5, .int (nI (cv))), (4, .int (nI (0))), (0, .ref (ad 0)), (2, .int (nI (mn.toNat))), (3, .int (nI (m9)))] → W p l e R s m args below meth c H locs 0 0 Q (F0 m 324 ls []) := by
  obtain ⟨hx, hb, hml, hown, hts⟩ := S
  have in3 : ∀ w ∈ wsX30, w ∈ wsX4_sum := by decide +kernel
  have in4 : ∀ w ∈ wsX40, w ∈ wsX4_sum := by decide +kernel
  intro k
  induction k with
  | zero =>
    intro i cv fc H locs ls hn hc hi h1 hP hD hS hl
    refine lv_iload hx hb dX4_sum_324 (lv_at hl 0 rfl) ?_
    refine lv_iload_n hx hb dX4_sum_326 rfl (lv_at hl 5 rfl) ?_
    refine bi_ge (tgt := 428) hx hb dX4_sum_327 (by decide) (by omega) (by omega) (fun q => ?_) (fun q => ?_)
    · obtain rfl : i = m9 := by omega
      exact kk fc H locs ls h1 hP hD hS (lv_sub hl [2, 3, 4, 5] rfl)
    · exact absurd hn (by omega)
  | succ k ih =>
    intro i cv fc H locs ls hn hc hi h1 hP hD hS hl
    refine lv_iload hx hb dX4_sum_324 (lv_at hl 0 rfl) ?_
    refine lv_iload_n hx hb dX4_sum_326 rfl (lv_at hl 5 rfl) ?_
    refine bi_ge (tgt := 428) hx hb dX4_sum_327 (by decide) (by omega) (by omega) (fun q => ?_) (fun q => ?_)
    · exact absurd hn (by omega)
    · have hdx := dg_lt X i
      have hdy := dg_lt Y i
      refine lv_iload hx hb dX4_sum_330 (lv_at hl 2 rfl) ?_
      refine bz_eq (tgt := 359) hx hb dX4_sum_332 (by decide) (by omega) (fun q2 => ?_) (fun q2 => ?_)
      · refine lv_aload_n hx hb dX4_sum_359 rfl (lv_at hl 3 rfl) ?_
        refine rg_4_a hx hb hts in4 hown hK hP 0 (by decide) mg_0 (hts _ (by decide +kernel)) dX4_sum_360 ?_
        refine rg_3_d hx hb hts in3 hown hK hP 3 (by omega) mg_A.1 (hts _ (by decide +kernel)) dX4_sum_363 ?_
        refine lv_iload hx hb dX4_sum_366 (lv_at hl 0 rfl) ?_
        refine rn_i hx hb hK hP (3 + 1) (by omega) mg_A.2 (by omega) (by decide) dX4_sum_368 ?_
        refine tp_i (y := nI (X / 10 ^ i % 10)) (hfa i (by omega)) ?_
        refine lv_aload_n hx hb dX4_sum_369 rfl (lv_at hl 3 rfl) ?_
        refine rg_4_b hx hb hts in4 hown hK hP 0 (by decide) mg_0 (hts _ (by decide +kernel)) dX4_sum_370 ?_
        refine rg_3_d hx hb hts in3 hown hK hP 5 (by omega) mg_B.1 (hts _ (by decide +kernel)) dX4_sum_373 ?_
        refine lv_iload hx hb dX4_sum_376 (lv_at hl 0 rfl) ?_
        refine rn_i hx hb hK hP (5 + 1) (by omega) mg_B.2 (by omega) (by decide) dX4_sum_378 ?_
        refine tp_i (y := nI (Y / 10 ^ i % 10)) (hfb i (by omega)) ?_
        refine lv_isub hx hb dX4_sum_379 ?_
        refine tp_i (y := iZ (((X / 10 ^ i % 10 : Nat) : Int) - ((Y / 10 ^ i % 10 : Nat) : Int))) (nI_subZ _ _) ?_
        refine lv_iload hx hb dX4_sum_380 (lv_at hl 1 rfl) ?_
        refine lv_isub hx hb dX4_sum_382 ?_
        refine tp_i (y := iZ ((((X / 10 ^ i % 10 : Nat) : Int) - ((Y / 10 ^ i % 10 : Nat) : Int)) - ((cv : Nat) : Int))) (iZ_subN _ _) ?_
        refine lv_istore (lv' := [(7, .int (iZ ((((X / 10 ^ i % 10 : Nat) : Int) - ((Y / 10 ^ i % 10 : Nat) : Int)) - ((cv : Nat) : Int)))), (6, .int (nI (i))), (5, .int (nI (cv))), (4, .int (nI (0))), (0, .ref (ad 0)), (2, .int (nI (mn.toNat))), (3, .int (nI (m9)))]) hx hb dX4_sum_383 hl (by decide) rfl (fun ls hl => ?_)
        refine lv_iload hx hb dX4_sum_385 (lv_at hl 0 rfl) ?_
        refine by_ge (tgt := 394) hx hb dX4_sum_387 (by decide) (by omega) (by omega) (fun q3 => ?_) (fun q3 => ?_)
        · refine lv_iconst (v := nI (0)) hx hb dX4_sum_394 (by decide) ?_
          refine lv_istore (lv' := [(5, .int (nI (0))), (7, .int (iZ ((((X / 10 ^ i % 10 : Nat) : Int) - ((Y / 10 ^ i % 10 : Nat) : Int)) - ((cv : Nat) : Int)))), (6, .int (nI (i))), (4, .int (nI (0))), (0, .ref (ad 0)), (2, .int (nI (mn.toNat))), (3, .int (nI (m9)))]) hx hb dX4_sum_395 hl (by decide) rfl (fun ls hl => ?_)
          refine lv_aload_n hx hb dX4_sum_397 rfl (lv_at hl 4 rfl) ?_
          refine rg_4_c hx hb hts in4 hown hK hP 0 (by decide) mg_0 (hts _ (by decide +kernel)) dX4_sum_398 ?_
          refine rg_3_d hx hb hts in3 hown hK hP 7 (by omega) mg_C.1 (hts _ (by decide +kernel)) dX4_sum_401 ?_
          refine lv_iload hx hb dX4_sum_404 (lv_at hl 2 rfl) ?_
          refine lv_iload hx hb dX4_sum_406 (lv_at hl 1 rfl) ?_
          refine by_ge (tgt := 419) hx hb dX4_sum_408 (by decide) (by omega) (by omega) (fun q4 => ?_) (fun q4 => ?_)
          · refine lv_iload hx hb dX4_sum_419 (lv_at hl 1 rfl) ?_
            refine tp_i (y := nI (V9 / 10 ^ i % 10)) (by rw [iZ_nat]; congr 1; omega) ?_
            refine rt_i hx hb hK hP hD hS (7 + 1) (by omega) mg_C.2 (by omega) (by decide) dX4_sum_421 (fun H locs hP hD hS => ?_)
            rw [mg_sc] at hP hD
            refine lv_iinc (v := nI (i + 1)) (lv' := [(6, .int (nI (i + 1))), (5, .int (nI (0))), (7, .int (iZ ((((X / 10 ^ i % 10 : Nat) : Int) - ((Y / 10 ^ i % 10 : Nat) : Int)) - ((cv : Nat) : Int)))), (4, .int (nI (0))), (0, .ref (ad 0)), (2, .int (nI (mn.toNat))), (3, .int (nI (m9)))]) hx hb dX4_sum_422 hl (k := 2) rfl (nI_inc i 1) (by decide) rfl (fun ls hl => ?_)
            refine lv_goto (tgt := 324) hx hb dX4_sum_425 (by decide) ?_
            refine ih (i + 1) _ _ H locs ls (by omega) (by decide) (by rw [tp_q, tp_q, tp_q]; omega) (fun j hj => ?_) hP hD hS (lv_sub hl [0, 1, 3, 4, 5, 6] rfl)
            rcases Nat.lt_or_ge j i with r | r
            · rw [pk_un (by omega)]; exact h1 j r
            · obtain rfl : j = i := by omega
              exact pk_us
          · exact absurd q4 (by omega)
        · refine lv_iconst (v := nI (1)) hx hb dX4_sum_390 (by decide) ?_
          refine lv_goto (tgt := 395) hx hb dX4_sum_391 (by decide) ?_
          refine lv_istore (lv' := [(5, .int (nI (1))), (7, .int (iZ ((((X / 10 ^ i % 10 : Nat) : Int) - ((Y / 10 ^ i % 10 : Nat) : Int)) - ((cv : Nat) : Int)))), (6, .int (nI (i))), (4, .int (nI (0))), (0, .ref (ad 0)), (2, .int (nI (mn.toNat))), (3, .int (nI (m9)))]) hx hb dX4_sum_395 hl (by decide) rfl (fun ls hl => ?_)
          refine lv_aload_n hx hb dX4_sum_397 rfl (lv_at hl 4 rfl) ?_
          refine rg_4_c hx hb hts in4 hown hK hP 0 (by decide) mg_0 (hts _ (by decide +kernel)) dX4_sum_398 ?_
          refine rg_3_d hx hb hts in3 hown hK hP 7 (by omega) mg_C.1 (hts _ (by decide +kernel)) dX4_sum_401 ?_
          refine lv_iload hx hb dX4_sum_404 (lv_at hl 2 rfl) ?_
          refine lv_iload hx hb dX4_sum_406 (lv_at hl 1 rfl) ?_
          refine by_ge (tgt := 419) hx hb dX4_sum_408 (by decide) (by omega) (by omega) (fun q4 => ?_) (fun q4 => ?_)
          · exact absurd q3 (by omega)
          · refine lv_iload hx hb dX4_sum_411 (lv_at hl 1 rfl) ?_
            refine lv_bipush (v := nI (10)) hx hb dX4_sum_413 (by decide) ?_
            refine lv_iadd hx hb dX4_sum_415 ?_
            refine tp_i (y := iZ (((((X / 10 ^ i % 10 : Nat) : Int) - ((Y / 10 ^ i % 10 : Nat) : Int)) - ((cv : Nat) : Int)) + ((10 : Nat) : Int))) (iZ_addN _ _) ?_
            refine lv_goto (tgt := 421) hx hb dX4_sum_416 (by decide) ?_
            refine tp_i (y := nI (V9 / 10 ^ i % 10)) (by rw [iZ_nat]; congr 1; omega) ?_
            refine rt_i hx hb hK hP hD hS (7 + 1) (by omega) mg_C.2 (by omega) (by decide) dX4_sum_421 (fun H locs hP hD hS => ?_)
            rw [mg_sc] at hP hD
            refine lv_iinc (v := nI (i + 1)) (lv' := [(6, .int (nI (i + 1))), (5, .int (nI (1))), (7, .int (iZ ((((X / 10 ^ i % 10 : Nat) : Int) - ((Y / 10 ^ i % 10 : Nat) : Int)) - ((cv : Nat) : Int)))), (4, .int (nI (0))), (0, .ref (ad 0)), (2, .int (nI (mn.toNat))), (3, .int (nI (m9)))]) hx hb dX4_sum_422 hl (k := 2) rfl (nI_inc i 1) (by decide) rfl (fun ls hl => ?_)
            refine lv_goto (tgt := 324) hx hb dX4_sum_425 (by decide) ?_
            refine ih (i + 1) _ _ H locs ls (by omega) (by decide) (by rw [tp_q, tp_q, tp_q]; omega) (fun j hj => ?_) hP hD hS (lv_sub hl [0, 1, 3, 4, 5, 6] rfl)
            rcases Nat.lt_or_ge j i with r | r
            · rw [pk_un (by omega)]; exact h1 j r
            · obtain rfl : j = i := by omega
              exact pk_us
      · exact absurd q2 (by decide)
set_option maxHeartbeats 4000000 in
set_option maxRecDepth 100000 in
theorem lp_X4_sub1 {p : Program} {l : Launch} {e : Env} {R : Room} {s : State} {m : MethodId} {args : Array Value} {below : List Frame} {meth : Method} {c : Code} {Q : State → Prop} {D : va_G} {cA : Nat → ClassId} {tT : Nat} {A : Nat → Prop} {ad : Nat → Nat} {we : RWt} {rg : Nat → RWt} {tx : Nat → Int32} {tl : Nat} {fa fb : Nat → Int32} {na nb nc X Y m9 : Nat} {ba bb bc mn : Bool} {za zb zc : Int} {V9 : Nat} (S : CallFix p m c cX4_sum 8 s args wsX4_sum RX4) (hK : va_K D vwCl (ty_s cA) s) (hT : st_T tT A s s.heap) (hm8 : m9 ≤ 800) (hfa : ∀ j, j < m9 → fa j = nI (X / 10 ^ j % 10)) (hfb : ∀ j, j < m9 → fb j = nI (Y / 10 ^ j % 10)) (kk : ∀ (fc : Nat → Int32) (H : Heap) (locs : List Loc) (ls : Array Slot), (∀ j, j < m9 → fc j = nI (V9 / 10 ^ j % 10)) → va_P D vwCl (wm_W 23 ad (mg cA ad (fa, na, ba, za) (fb, nb, bb, zb) (fc, nc, bc, zc) we rg tx tl)) H → va_D A (wm_W 23 ad (mg cA ad (fa, na, ba, za) (fb, nb, bb, zb) (fc, nc, bc, zc) we rg tx tl)) → va_S A s.heap H locs → lv_has ls 8 [(4, .int (nI (1))), (0, .ref (ad 0)), (2, .int (nI (mn.toNat))), (3, .int (nI (m9)))] → W p l e R s m args below meth c H locs 0 0 Q (F0 m 428 ls [])) :
    ∀ (k i cv : Nat) (fc : Nat → Int32) (H : Heap) (locs : List Loc) (ls : Array Slot), i + k = m9 → cv < 2 → V9 / 10 ^ i + X / 10 ^ i + cv = Y / 10 ^ i → (∀ j, j < i → fc j = nI (V9 / 10 ^ j % 10)) → va_P D vwCl (wm_W 23 ad (mg cA ad (fa, na, ba, za) (fb, nb, bb, zb) (fc, nc, bc, zc) we rg tx tl)) H → va_D A (wm_W 23 ad (mg cA ad (fa, na, ba, za) (fb, nb, bb, zb) (fc, nc, bc, zc) we rg tx tl)) → va_S A s.heap H locs → lv_has ls 8 [(6, .int (nI (i))), (5, .int (nI (cv))), (4, .int (nI (1))), (0, .ref (ad 0)), (2, .int (nI (mn.toNat))), (3, .int (nI (m9)))] → W p l e R s m args below meth c H locs 0 0 Q (F0 m 324 ls []) := by
  obtain ⟨hx, hb, hml, hown, hts⟩ := S
  have in3 : ∀ w ∈ wsX30, w ∈ wsX4_sum := by decide +kernel
  have in4 : ∀ w ∈ wsX40, w ∈ wsX4_sum := by decide +kernel
  intro k
  induction k with
  | zero =>
    intro i cv fc H locs ls hn hc hi h1 hP hD hS hl
    refine lv_iload hx hb dX4_sum_324 (lv_at hl 0 rfl) ?_
    refine lv_iload_n hx hb dX4_sum_326 rfl (lv_at hl 5 rfl) ?_
    refine bi_ge (tgt := 428) hx hb dX4_sum_327 (by decide) (by omega) (by omega) (fun q => ?_) (fun q => ?_)
    · obtain rfl : i = m9 := by omega
      exact kk fc H locs ls h1 hP hD hS (lv_sub hl [2, 3, 4, 5] rfl)
    · exact absurd hn (by omega)
  | succ k ih =>
    intro i cv fc H locs ls hn hc hi h1 hP hD hS hl
    refine lv_iload hx hb dX4_sum_324 (lv_at hl 0 rfl) ?_
    refine lv_iload_n hx hb dX4_sum_326 rfl (lv_at hl 5 rfl) ?_
    refine bi_ge (tgt := 428) hx hb dX4_sum_327 (by decide) (by omega) (by omega) (fun q => ?_) (fun q => ?_)
    · exact absurd hn (by omega)
    · have hdx := dg_lt X i
      have hdy := dg_lt Y i
      refine lv_iload hx hb dX4_sum_330 (lv_at hl 2 rfl) ?_
      refine bz_eq (tgt := 359) hx hb dX4_sum_332 (by decide) (by omega) (fun q2 => ?_) (fun q2 => ?_)
      · exact absurd q2 (by decide)
      · refine lv_aload_n hx hb dX4_sum_335 rfl (lv_at hl 3 rfl) ?_
        refine rg_4_b hx hb hts in4 hown hK hP 0 (by decide) mg_0 (hts _ (by decide +kernel)) dX4_sum_336 ?_
        refine rg_3_d hx hb hts in3 hown hK hP 5 (by omega) mg_B.1 (hts _ (by decide +kernel)) dX4_sum_339 ?_
        refine lv_iload hx hb dX4_sum_342 (lv_at hl 0 rfl) ?_
        refine rn_i hx hb hK hP (5 + 1) (by omega) mg_B.2 (by omega) (by decide) dX4_sum_344 ?_
        refine tp_i (y := nI (Y / 10 ^ i % 10)) (hfb i (by omega)) ?_
        refine lv_aload_n hx hb dX4_sum_345 rfl (lv_at hl 3 rfl) ?_
        refine rg_4_a hx hb hts in4 hown hK hP 0 (by decide) mg_0 (hts _ (by decide +kernel)) dX4_sum_346 ?_
        refine rg_3_d hx hb hts in3 hown hK hP 3 (by omega) mg_A.1 (hts _ (by decide +kernel)) dX4_sum_349 ?_
        refine lv_iload hx hb dX4_sum_352 (lv_at hl 0 rfl) ?_
        refine rn_i hx hb hK hP (3 + 1) (by omega) mg_A.2 (by omega) (by decide) dX4_sum_354 ?_
        refine tp_i (y := nI (X / 10 ^ i % 10)) (hfa i (by omega)) ?_
        refine lv_isub hx hb dX4_sum_355 ?_
        refine tp_i (y := iZ (((Y / 10 ^ i % 10 : Nat) : Int) - ((X / 10 ^ i % 10 : Nat) : Int))) (nI_subZ _ _) ?_
        refine lv_goto (tgt := 380) hx hb dX4_sum_356 (by decide) ?_
        refine lv_iload hx hb dX4_sum_380 (lv_at hl 1 rfl) ?_
        refine lv_isub hx hb dX4_sum_382 ?_
        refine tp_i (y := iZ ((((Y / 10 ^ i % 10 : Nat) : Int) - ((X / 10 ^ i % 10 : Nat) : Int)) - ((cv : Nat) : Int))) (iZ_subN _ _) ?_
        refine lv_istore (lv' := [(7, .int (iZ ((((Y / 10 ^ i % 10 : Nat) : Int) - ((X / 10 ^ i % 10 : Nat) : Int)) - ((cv : Nat) : Int)))), (6, .int (nI (i))), (5, .int (nI (cv))), (4, .int (nI (1))), (0, .ref (ad 0)), (2, .int (nI (mn.toNat))), (3, .int (nI (m9)))]) hx hb dX4_sum_383 hl (by decide) rfl (fun ls hl => ?_)
        refine lv_iload hx hb dX4_sum_385 (lv_at hl 0 rfl) ?_
        refine by_ge (tgt := 394) hx hb dX4_sum_387 (by decide) (by omega) (by omega) (fun q3 => ?_) (fun q3 => ?_)
        · refine lv_iconst (v := nI (0)) hx hb dX4_sum_394 (by decide) ?_
          refine lv_istore (lv' := [(5, .int (nI (0))), (7, .int (iZ ((((Y / 10 ^ i % 10 : Nat) : Int) - ((X / 10 ^ i % 10 : Nat) : Int)) - ((cv : Nat) : Int)))), (6, .int (nI (i))), (4, .int (nI (1))), (0, .ref (ad 0)), (2, .int (nI (mn.toNat))), (3, .int (nI (m9)))]) hx hb dX4_sum_395 hl (by decide) rfl (fun ls hl => ?_)
          refine lv_aload_n hx hb dX4_sum_397 rfl (lv_at hl 4 rfl) ?_
          refine rg_4_c hx hb hts in4 hown hK hP 0 (by decide) mg_0 (hts _ (by decide +kernel)) dX4_sum_398 ?_
          refine rg_3_d hx hb hts in3 hown hK hP 7 (by omega) mg_C.1 (hts _ (by decide +kernel)) dX4_sum_401 ?_
          refine lv_iload hx hb dX4_sum_404 (lv_at hl 2 rfl) ?_
          refine lv_iload hx hb dX4_sum_406 (lv_at hl 1 rfl) ?_
          refine by_ge (tgt := 419) hx hb dX4_sum_408 (by decide) (by omega) (by omega) (fun q4 => ?_) (fun q4 => ?_)
          · refine lv_iload hx hb dX4_sum_419 (lv_at hl 1 rfl) ?_
            refine tp_i (y := nI (V9 / 10 ^ i % 10)) (by rw [iZ_nat]; congr 1; omega) ?_
            refine rt_i hx hb hK hP hD hS (7 + 1) (by omega) mg_C.2 (by omega) (by decide) dX4_sum_421 (fun H locs hP hD hS => ?_)
            rw [mg_sc] at hP hD
            refine lv_iinc (v := nI (i + 1)) (lv' := [(6, .int (nI (i + 1))), (5, .int (nI (0))), (7, .int (iZ ((((Y / 10 ^ i % 10 : Nat) : Int) - ((X / 10 ^ i % 10 : Nat) : Int)) - ((cv : Nat) : Int)))), (4, .int (nI (1))), (0, .ref (ad 0)), (2, .int (nI (mn.toNat))), (3, .int (nI (m9)))]) hx hb dX4_sum_422 hl (k := 2) rfl (nI_inc i 1) (by decide) rfl (fun ls hl => ?_)
            refine lv_goto (tgt := 324) hx hb dX4_sum_425 (by decide) ?_
            refine ih (i + 1) _ _ H locs ls (by omega) (by decide) (by rw [tp_q, tp_q, tp_q]; omega) (fun j hj => ?_) hP hD hS (lv_sub hl [0, 1, 3, 4, 5, 6] rfl)
            rcases Nat.lt_or_ge j i with r | r
            · rw [pk_un (by omega)]; exact h1 j r
            · obtain rfl : j = i := by omega
              exact pk_us
          · exact absurd q4 (by omega)
        · refine lv_iconst (v := nI (1)) hx hb dX4_sum_390 (by decide) ?_
          refine lv_goto (tgt := 395) hx hb dX4_sum_391 (by decide) ?_
          refine lv_istore (lv' := [(5, .int (nI (1))), (7, .int (iZ ((((Y / 10 ^ i % 10 : Nat) : Int) - ((X / 10 ^ i % 10 : Nat) : Int)) - ((cv : Nat) : Int)))), (6, .int (nI (i))), (4, .int (nI (1))), (0, .ref (ad 0)), (2, .int (nI (mn.toNat))), (3, .int (nI (m9)))]) hx hb dX4_sum_395 hl (by decide) rfl (fun ls hl => ?_)
          refine lv_aload_n hx hb dX4_sum_397 rfl (lv_at hl 4 rfl) ?_
          refine rg_4_c hx hb hts in4 hown hK hP 0 (by decide) mg_0 (hts _ (by decide +kernel)) dX4_sum_398 ?_
          refine rg_3_d hx hb hts in3 hown hK hP 7 (by omega) mg_C.1 (hts _ (by decide +kernel)) dX4_sum_401 ?_
          refine lv_iload hx hb dX4_sum_404 (lv_at hl 2 rfl) ?_
          refine lv_iload hx hb dX4_sum_406 (lv_at hl 1 rfl) ?_
          refine by_ge (tgt := 419) hx hb dX4_sum_408 (by decide) (by omega) (by omega) (fun q4 => ?_) (fun q4 => ?_)
          · exact absurd q3 (by omega)
          · refine lv_iload hx hb dX4_sum_411 (lv_at hl 1 rfl) ?_
            refine lv_bipush (v := nI (10)) hx hb dX4_sum_413 (by decide) ?_
            refine lv_iadd hx hb dX4_sum_415 ?_
            refine tp_i (y := iZ (((((Y / 10 ^ i % 10 : Nat) : Int) - ((X / 10 ^ i % 10 : Nat) : Int)) - ((cv : Nat) : Int)) + ((10 : Nat) : Int))) (iZ_addN _ _) ?_
            refine lv_goto (tgt := 421) hx hb dX4_sum_416 (by decide) ?_
            refine tp_i (y := nI (V9 / 10 ^ i % 10)) (by rw [iZ_nat]; congr 1; omega) ?_
            refine rt_i hx hb hK hP hD hS (7 + 1) (by omega) mg_C.2 (by omega) (by decide) dX4_sum_421 (fun H locs hP hD hS => ?_)
            rw [mg_sc] at hP hD
            refine lv_iinc (v := nI (i + 1)) (lv' := [(6, .int (nI (i + 1))), (5, .int (nI (1))), (7, .int (iZ ((((Y / 10 ^ i % 10 : Nat) : Int) - ((X / 10 ^ i % 10 : Nat) : Int)) - ((cv : Nat) : Int)))), (4, .int (nI (1))), (0, .ref (ad 0)), (2, .int (nI (mn.toNat))), (3, .int (nI (m9)))]) hx hb dX4_sum_422 hl (k := 2) rfl (nI_inc i 1) (by decide) rfl (fun ls hl => ?_)
            refine lv_goto (tgt := 324) hx hb dX4_sum_425 (by decide) ?_
            refine ih (i + 1) _ _ H locs ls (by omega) (by decide) (by rw [tp_q, tp_q, tp_q]; omega) (fun j hj => ?_) hP hD hS (lv_sub hl [0, 1, 3, 4, 5, 6] rfl)
            rcases Nat.lt_or_ge j i with r | r
            · rw [pk_un (by omega)]; exact h1 j r
            · obtain rfl : j = i := by omega
              exact pk_us
set_option maxHeartbeats 4000000 in
set_option maxRecDepth 100000 in
theorem lp_X4_sum179 {p : Program} {l : Launch} {e : Env} {R : Room} {s : State} {m : MethodId} {args : Array Value} {below : List Frame} {meth : Method} {c : Code} {Q : State → Prop} {D : va_G} {cA : Nat → ClassId} {tT : Nat} {A : Nat → Prop} {ad : Nat → Nat} {we : RWt} {rg : Nat → RWt} {tx : Nat → Int32} {tl : Nat} {fa fb : Nat → Int32} {na nb nc X Y m9 : Nat} {ba bb bc mn : Bool} {za zb zc : Int} (S : CallFix p m c cX4_sum 8 s args wsX4_sum RX4) (hK : va_K D vwCl (ty_s cA) s) (hT : st_T tT A s s.heap) (hRf : 2 ≤ R.frames) (hRl : 40 ≤ R.locals) (h1m : 1 ≤ m9) (h8m : m9 ≤ 300) (hva : rv fa na X) (hvb : rv fb nb Y) (hlX : X < 10 ^ m9) (hlY : Y < 10 ^ m9) (hfa : ∀ j, j < m9 → fa j = nI (X / 10 ^ j % 10)) (hfb : ∀ j, j < m9 → fb j = nI (Y / 10 ^ j % 10)) (hna : na ≤ 300) (hnb : nb ≤ 300) (hc9 : ba = mn ∨ X = 0 ∨ Y = 0) (kk : ∀ (fc : Nat → Int32) (nc : Nat) (sg9 : Bool) (v9 : Nat) (H : Heap) (locs : List Loc) (ls : Array Slot), dv fc nc v9 → 1 ≤ nc → nc ≤ 400 → (sg9, v9) = SM ba X mn Y → va_P D vwCl (wm_W 23 ad (mg cA ad (fa, na, ba, za) (fb, nb, bb, zb) (fc, nc, sg9, zc) we rg tx tl)) H → va_D A (wm_W 23 ad (mg cA ad (fa, na, ba, za) (fb, nb, bb, zb) (fc, nc, sg9, zc) we rg tx tl)) → va_S A s.heap H locs → lv_has ls 8 [(0, .ref (ad 0))] → W p l e R s m args below meth c H locs 0 0 Q (F0 m 459 ls [])) (fc : Nat → Int32) (H : Heap) (locs : List Loc) (ls : Array Slot) (hP : va_P D vwCl (wm_W 23 ad (mg cA ad (fa, na, ba, za) (fb, nb, bb, zb) (fc, nc, bc, zc) we rg tx tl)) H) (hD : va_D A (wm_W 23 ad (mg cA ad (fa, na, ba, za) (fb, nb, bb, zb) (fc, nc, bc, zc) we rg tx tl))) (hS : va_S A s.heap H locs) (hl : lv_has ls 8 [(0, .ref (ad 0)), (2, .int (nI (mn.toNat))), (3, .int (nI (m9)))]) : W p l e R s m args below meth c H locs 0 0 Q (F0 m 179 ls []) := by
  have S9 := S
  obtain ⟨hx, hb, hml, hown, hts⟩ := S
  have in3 : ∀ w ∈ wsX30, w ∈ wsX4_sum := by decide +kernel
  have in4 : ∀ w ∈ wsX40, w ∈ wsX4_sum := by decide +kernel
  have t_a := tn_le ba
  have t_m := tn_le mn
  refine lv_iconst (v := nI (0)) hx hb dX4_sum_179 (by decide) ?_
  refine lv_istore (lv' := [(4, .int (nI (0))), (0, .ref (ad 0)), (2, .int (nI (mn.toNat))), (3, .int (nI (m9)))]) hx hb dX4_sum_180 hl (by decide) rfl (fun ls hl => ?_)
  refine lv_iconst (v := nI (0)) hx hb dX4_sum_182 (by decide) ?_
  refine lv_istore (lv' := [(5, .int (nI (0))), (4, .int (nI (0))), (0, .ref (ad 0)), (2, .int (nI (mn.toNat))), (3, .int (nI (m9)))]) hx hb dX4_sum_183 hl (by decide) rfl (fun ls hl => ?_)
  refine lp_X4_add S9 hK hT (by omega) hfa hfb (fun cv fc H locs ls hcv h2 h3 hP hD hS hl => ?_) m9 0 0 fc _ _ ls (by omega) (by decide) (by simp) (fun j hj => absurd hj (Nat.not_lt_zero _)) hP hD hS (lv_sub hl [0, 1, 2, 3, 4] rfl)
  rw [Nat.div_eq_of_lt hlX, Nat.div_eq_of_lt hlY] at h2
  have hdv : dv (upd fc m9 (nI cv)) (m9 + 1) (X + Y) := by
    refine ⟨by rw [Nat.pow_succ]; omega, fun j hj => ?_⟩
    rcases Nat.lt_or_ge j m9 with r | r
    · rw [pk_un (by omega)]; exact h3 j r
    · obtain rfl : j = m9 := by omega
      rw [pk_us]; congr 1; omega
  refine lv_aload_n hx hb dX4_sum_245 rfl (lv_at hl 1 rfl) ?_
  refine rg_4_c hx hb hts in4 hown hK hP 0 (by decide) mg_0 (hts _ (by decide +kernel)) dX4_sum_246 ?_
  refine rg_3_d hx hb hts in3 hown hK hP 7 (by omega) mg_C.1 (hts _ (by decide +kernel)) dX4_sum_249 ?_
  refine lv_iload_n hx hb dX4_sum_252 rfl (lv_at hl 3 rfl) ?_
  refine lv_iload hx hb dX4_sum_253 (lv_at hl 0 rfl) ?_
  refine rt_i hx hb hK hP hD hS (7 + 1) (by omega) mg_C.2 (by omega) (by decide) dX4_sum_255 (fun H locs hP hD hS => ?_)
  rw [mg_sc] at hP hD
  refine lv_aload_n hx hb dX4_sum_256 rfl (lv_at hl 1 rfl) ?_
  refine rg_4_c hx hb hts in4 hown hK hP 0 (by decide) mg_0 (hts _ (by decide +kernel)) dX4_sum_257 ?_
  refine lv_iload_n hx hb dX4_sum_260 rfl (lv_at hl 3 rfl) ?_
  refine lv_iconst (v := nI (1)) hx hb dX4_sum_261 (by decide) ?_
  refine lv_iadd hx hb dX4_sum_262 ?_
  refine tp_i (y := nI (m9 + 1)) (nI_add _ _) ?_
  refine rp_3_n hx hb hts in3 hown hK hP hD hS 7 (by omega) mg_C.1 (hts _ (by decide +kernel)) rfl rfl dX4_sum_263 (fun H locs hP hD hS => ?_)
  rw [mg_pc (m9 + 1) bc zc (v := nI (bc.toNat)) rfl] at hP hD
  refine lv_aload_n hx hb dX4_sum_266 rfl (lv_at hl 1 rfl) ?_
  refine rg_4_c hx hb hts in4 hown hK hP 0 (by decide) mg_0 (hts _ (by decide +kernel)) dX4_sum_267 ?_
  refine lv_aload_n hx hb dX4_sum_270 rfl (lv_at hl 1 rfl) ?_
  refine rg_4_a hx hb hts in4 hown hK hP 0 (by decide) mg_0 (hts _ (by decide +kernel)) dX4_sum_271 ?_
  refine va_calli (va_runV (As := []) (rest := [.ref (ad 7)]) ⟨hx, hb, hml, hown, hts⟩ (c_X3_isZero l D cA tT A 23 ad _ _ (a := 3) (f := fa) (n := na) (b := ba) (z := za) (v := X) (by decide) mg_A hva (by omega)) (cwV 0 hts gX4_sum_X3_isZero rfl rfl rfl (by decide +kernel) ⟨Nat.le_trans (Nat.le_of_ble_eq_true rfl) hRf, Nat.le_trans (Nat.le_of_ble_eq_true rfl) hRl⟩) (wd_preV (k := 3) hP hK hD hT hS (by decide) mg_A.1 rfl) rfl rfl hl.1 rfl (lv_room (Nat.le_of_ble_eq_true rfl)) dX4_sum_274 ⟨Nat.zero_le _, Nat.zero_le _⟩) hS id_2 id_1 (fun r_ u t H locs ht hvm hw hB hz1 hk1 hS => ?_)
  refine c00 ?_
  obtain ⟨hP, hD⟩ := wd_back ht hB
  clear ht hvm hB hz1 hk1
  obtain ⟨hr_, hu_⟩ := hw
  subst hr_
  rw [hu_] at hP hD
  clear hu_
  refine bz_eq (tgt := 284) hx hb dX4_sum_277 (by decide) it_lt (fun q => ?_) (fun q => ?_)
  · refine lv_aload_n hx hb dX4_sum_284 rfl (lv_at hl 1 rfl) ?_
    refine rg_4_a hx hb hts in4 hown hK hP 0 (by decide) mg_0 (hts _ (by decide +kernel)) dX4_sum_285 ?_
    refine rg_3_minus hx hb hts in3 hown hK hP 3 (by omega) mg_A.1 (hts _ (by decide +kernel)) dX4_sum_288 ?_
    refine tp_i (y := nI (ba.toNat)) rfl ?_
    refine rp_3_minus hx hb hts in3 hown hK hP hD hS 7 (by omega) mg_C.1 (hts _ (by decide +kernel)) (bt_nar _) (bt_fit _) dX4_sum_291 (fun H locs hP hD hS => ?_)
    rw [mg_pc (m9 + 1) ba zc (v := nI (ba.toNat)) rfl] at hP hD
    refine lv_goto (tgt := 459) hx hb dX4_sum_294 (by decide) ?_
    exact kk _ (m9 + 1) ba (X + Y) H locs ls hdv (by omega) (by omega) (by rw [SM, if_pos hc9, if_neg (it_eq q)]) hP hD hS (lv_sub hl [1] rfl)
  · refine lv_iload_n hx hb dX4_sum_280 rfl (lv_at hl 2 rfl) ?_
    refine lv_goto (tgt := 291) hx hb dX4_sum_281 (by decide) ?_
    refine rp_3_minus hx hb hts in3 hown hK hP hD hS 7 (by omega) mg_C.1 (hts _ (by decide +kernel)) (bt_nar _) (bt_fit _) dX4_sum_291 (fun H locs hP hD hS => ?_)
    rw [mg_pc (m9 + 1) mn zc (v := nI (mn.toNat)) rfl] at hP hD
    refine lv_goto (tgt := 459) hx hb dX4_sum_294 (by decide) ?_
    exact kk _ (m9 + 1) mn (X + Y) H locs ls hdv (by omega) (by omega) (by rw [SM, if_pos hc9, if_pos (it_ne q)]) hP hD hS (lv_sub hl [1] rfl)
set_option maxHeartbeats 4000000 in
set_option maxRecDepth 100000 in
theorem lp_X4_sum297 {p : Program} {l : Launch} {e : Env} {R : Room} {s : State} {m : MethodId} {args : Array Value} {below : List Frame} {meth : Method} {c : Code} {Q : State → Prop} {D : va_G} {cA : Nat → ClassId} {tT : Nat} {A : Nat → Prop} {ad : Nat → Nat} {we : RWt} {rg : Nat → RWt} {tx : Nat → Int32} {tl : Nat} {fa fb : Nat → Int32} {na nb nc X Y m9 : Nat} {ba bb bc mn : Bool} {za zb zc : Int} (S : CallFix p m c cX4_sum 8 s args wsX4_sum RX4) (hK : va_K D vwCl (ty_s cA) s) (hT : st_T tT A s s.heap) (hRf : 2 ≤ R.frames) (hRl : 40 ≤ R.locals) (h1m : 1 ≤ m9) (h8m : m9 ≤ 300) (hva : rv fa na X) (hvb : rv fb nb Y) (hlX : X < 10 ^ m9) (hlY : Y < 10 ^ m9) (hfa : ∀ j, j < m9 → fa j = nI (X / 10 ^ j % 10)) (hfb : ∀ j, j < m9 → fb j = nI (Y / 10 ^ j % 10)) (hna : na ≤ 300) (hnb : nb ≤ 300) (hc9 : ¬ (ba = mn ∨ X = 0 ∨ Y = 0)) (kk : ∀ (fc : Nat → Int32) (nc : Nat) (sg9 : Bool) (v9 : Nat) (H : Heap) (locs : List Loc) (ls : Array Slot), dv fc nc v9 → 1 ≤ nc → nc ≤ 400 → (sg9, v9) = SM ba X mn Y → va_P D vwCl (wm_W 23 ad (mg cA ad (fa, na, ba, za) (fb, nb, bb, zb) (fc, nc, sg9, zc) we rg tx tl)) H → va_D A (wm_W 23 ad (mg cA ad (fa, na, ba, za) (fb, nb, bb, zb) (fc, nc, sg9, zc) we rg tx tl)) → va_S A s.heap H locs → lv_has ls 8 [(0, .ref (ad 0))] → W p l e R s m args below meth c H locs 0 0 Q (F0 m 459 ls [])) (fc : Nat → Int32) (H : Heap) (locs : List Loc) (ls : Array Slot) (hP : va_P D vwCl (wm_W 23 ad (mg cA ad (fa, na, ba, za) (fb, nb, bb, zb) (fc, nc, bc, zc) we rg tx tl)) H) (hD : va_D A (wm_W 23 ad (mg cA ad (fa, na, ba, za) (fb, nb, bb, zb) (fc, nc, bc, zc) we rg tx tl))) (hS : va_S A s.heap H locs) (hl : lv_has ls 8 [(0, .ref (ad 0)), (2, .int (nI (mn.toNat))), (3, .int (nI (m9)))]) : W p l e R s m args below meth c H locs 0 0 Q (F0 m 297 ls []) := by
  have S9 := S
  obtain ⟨hx, hb, hml, hown, hts⟩ := S
  have in3 : ∀ w ∈ wsX30, w ∈ wsX4_sum := by decide +kernel
  have in4 : ∀ w ∈ wsX40, w ∈ wsX4_sum := by decide +kernel
  have t_a := tn_le ba
  have t_m := tn_le mn
  have ho := odI_b X Y
  refine lv_aload_n hx hb dX4_sum_297 rfl (lv_at hl 0 rfl) ?_
  refine rg_4_a hx hb hts in4 hown hK hP 0 (by decide) mg_0 (hts _ (by decide +kernel)) dX4_sum_298 ?_
  refine lv_aload_n hx hb dX4_sum_301 rfl (lv_at hl 0 rfl) ?_
  refine rg_4_b hx hb hts in4 hown hK hP 0 (by decide) mg_0 (hts _ (by decide +kernel)) dX4_sum_302 ?_
  refine va_calli (va_runS (As := [.ref (ad 3), .ref (ad 5)]) (rest := []) ⟨hx, hb, hml, hown, hts⟩ (c_X4_sizes l D cA tT A 23 ad _ _ (a := 3) (o := 5) (f := fa) (n := na) (b := ba) (z := za) (f1 := fb) (n1 := nb) (b1 := bb) (z1 := zb) (x := X) (y := Y) (by decide) (by decide) mg_A mg_B hva hvb (by omega) (by omega)) (va_cwS 2 hts gX4_sum_X4_sizes rfl rfl rfl (by decide +kernel) ⟨Nat.le_trans (Nat.le_of_ble_eq_true rfl) hRf, Nat.le_trans (Nat.le_of_ble_eq_true rfl) hRl⟩) (wd_preS hP hK hD hT hS) rfl rfl hl.1 rfl (lv_room (Nat.le_of_ble_eq_true rfl)) dX4_sum_305 ⟨Nat.zero_le _, Nat.zero_le _⟩) hS id_2 id_1 (fun r_ u t H locs ht hvm hw hB hz1 hk1 hS => ?_)
  refine c00 ?_
  obtain ⟨hP, hD⟩ := wd_back ht hB
  clear ht hvm hB hz1 hk1
  obtain ⟨hr_, hu_⟩ := hw
  subst hr_
  rw [hu_] at hP hD
  clear hu_
  refine by_ge (tgt := 315) hx hb dX4_sum_308 (by decide) (by omega) (by omega) (fun q => ?_) (fun q => ?_)
  · have hxy := odI_ge.mp (by omega : ¬ odI X Y < 0)
    obtain ⟨V9, hV9⟩ : ∃ V9, V9 = X - Y := ⟨_, rfl⟩
    refine lv_iconst (v := nI (0)) hx hb dX4_sum_315 (by decide) ?_
    refine lv_istore (lv' := [(4, .int (nI (0))), (0, .ref (ad 0)), (2, .int (nI (mn.toNat))), (3, .int (nI (m9)))]) hx hb dX4_sum_316 hl (by decide) rfl (fun ls hl => ?_)
    refine lv_iconst (v := nI (0)) hx hb dX4_sum_318 (by decide) ?_
    refine lv_istore (lv' := [(5, .int (nI (0))), (4, .int (nI (0))), (0, .ref (ad 0)), (2, .int (nI (mn.toNat))), (3, .int (nI (m9)))]) hx hb dX4_sum_319 hl (by decide) rfl (fun ls hl => ?_)
    refine lv_iconst (v := nI (0)) hx hb dX4_sum_321 (by decide) ?_
    refine lv_istore (lv' := [(6, .int (nI (0))), (5, .int (nI (0))), (4, .int (nI (0))), (0, .ref (ad 0)), (2, .int (nI (mn.toNat))), (3, .int (nI (m9)))]) hx hb dX4_sum_322 hl (by decide) rfl (fun ls hl => ?_)
    refine lp_X4_sub0 (V9 := V9) S9 hK hT (by omega) hfa hfb (fun fc H locs ls h3 hP hD hS hl => ?_) m9 0 0 fc _ _ ls (by omega) (by decide) (by rw [Nat.pow_zero, Nat.div_one, Nat.div_one, Nat.div_one]; omega) (fun j hj => absurd hj (Nat.not_lt_zero _)) hP hD hS (lv_sub hl [0, 1, 2, 3, 4, 5] rfl)
    refine lv_aload_n hx hb dX4_sum_428 rfl (lv_at hl 1 rfl) ?_
    refine rg_4_c hx hb hts in4 hown hK hP 0 (by decide) mg_0 (hts _ (by decide +kernel)) dX4_sum_429 ?_
    refine lv_iload_n hx hb dX4_sum_432 rfl (lv_at hl 3 rfl) ?_
    refine rp_3_n hx hb hts in3 hown hK hP hD hS 7 (by omega) mg_C.1 (hts _ (by decide +kernel)) rfl rfl dX4_sum_433 (fun H locs hP hD hS => ?_)
    rw [mg_pc m9 bc zc (v := nI (bc.toNat)) rfl] at hP hD
    refine lv_aload_n hx hb dX4_sum_436 rfl (lv_at hl 1 rfl) ?_
    refine rg_4_c hx hb hts in4 hown hK hP 0 (by decide) mg_0 (hts _ (by decide +kernel)) dX4_sum_437 ?_
    refine lv_iload hx hb dX4_sum_440 (lv_at hl 0 rfl) ?_
    refine bz_eq (tgt := 449) hx hb dX4_sum_442 (by decide) (by omega) (fun q2 => ?_) (fun q2 => ?_)
    · refine lv_aload_n hx hb dX4_sum_449 rfl (lv_at hl 1 rfl) ?_
      refine rg_4_a hx hb hts in4 hown hK hP 0 (by decide) mg_0 (hts _ (by decide +kernel)) dX4_sum_450 ?_
      refine rg_3_minus hx hb hts in3 hown hK hP 3 (by omega) mg_A.1 (hts _ (by decide +kernel)) dX4_sum_453 ?_
      refine tp_i (y := nI (ba.toNat)) rfl ?_
      refine rp_3_minus hx hb hts in3 hown hK hP hD hS 7 (by omega) mg_C.1 (hts _ (by decide +kernel)) (bt_nar _) (bt_fit _) dX4_sum_456 (fun H locs hP hD hS => ?_)
      rw [mg_pc m9 ba zc (v := nI (ba.toNat)) rfl] at hP hD
      exact kk _ m9 ba V9 H locs ls ⟨by omega, h3⟩ (by omega) (by omega) (by rw [SM, if_neg hc9, if_neg (by omega), hV9]) hP hD hS (lv_sub hl [1] rfl)
    · exact absurd q2 (by decide)
  · have hxy : X < Y := odI_lt0 (by omega)
    obtain ⟨V9, hV9⟩ : ∃ V9, V9 = Y - X := ⟨_, rfl⟩
    refine lv_iconst (v := nI (1)) hx hb dX4_sum_311 (by decide) ?_
    refine lv_goto (tgt := 316) hx hb dX4_sum_312 (by decide) ?_
    refine lv_istore (lv' := [(4, .int (nI (1))), (0, .ref (ad 0)), (2, .int (nI (mn.toNat))), (3, .int (nI (m9)))]) hx hb dX4_sum_316 hl (by decide) rfl (fun ls hl => ?_)
    refine lv_iconst (v := nI (0)) hx hb dX4_sum_318 (by decide) ?_
    refine lv_istore (lv' := [(5, .int (nI (0))), (4, .int (nI (1))), (0, .ref (ad 0)), (2, .int (nI (mn.toNat))), (3, .int (nI (m9)))]) hx hb dX4_sum_319 hl (by decide) rfl (fun ls hl => ?_)
    refine lv_iconst (v := nI (0)) hx hb dX4_sum_321 (by decide) ?_
    refine lv_istore (lv' := [(6, .int (nI (0))), (5, .int (nI (0))), (4, .int (nI (1))), (0, .ref (ad 0)), (2, .int (nI (mn.toNat))), (3, .int (nI (m9)))]) hx hb dX4_sum_322 hl (by decide) rfl (fun ls hl => ?_)
    refine lp_X4_sub1 (V9 := V9) S9 hK hT (by omega) hfa hfb (fun fc H locs ls h3 hP hD hS hl => ?_) m9 0 0 fc _ _ ls (by omega) (by decide) (by rw [Nat.pow_zero, Nat.div_one, Nat.div_one, Nat.div_one]; omega) (fun j hj => absurd hj (Nat.not_lt_zero _)) hP hD hS (lv_sub hl [0, 1, 2, 3, 4, 5] rfl)
    refine lv_aload_n hx hb dX4_sum_428 rfl (lv_at hl 1 rfl) ?_
    refine rg_4_c hx hb hts in4 hown hK hP 0 (by decide) mg_0 (hts _ (by decide +kernel)) dX4_sum_429 ?_
    refine lv_iload_n hx hb dX4_sum_432 rfl (lv_at hl 3 rfl) ?_
    refine rp_3_n hx hb hts in3 hown hK hP hD hS 7 (by omega) mg_C.1 (hts _ (by decide +kernel)) rfl rfl dX4_sum_433 (fun H locs hP hD hS => ?_)
    rw [mg_pc m9 bc zc (v := nI (bc.toNat)) rfl] at hP hD
    refine lv_aload_n hx hb dX4_sum_436 rfl (lv_at hl 1 rfl) ?_
    refine rg_4_c hx hb hts in4 hown hK hP 0 (by decide) mg_0 (hts _ (by decide +kernel)) dX4_sum_437 ?_
    refine lv_iload hx hb dX4_sum_440 (lv_at hl 0 rfl) ?_
    refine bz_eq (tgt := 449) hx hb dX4_sum_442 (by decide) (by omega) (fun q2 => ?_) (fun q2 => ?_)
    · exact absurd q2 (by decide)
    · refine lv_iload_n hx hb dX4_sum_445 rfl (lv_at hl 2 rfl) ?_
      refine lv_goto (tgt := 456) hx hb dX4_sum_446 (by decide) ?_
      refine rp_3_minus hx hb hts in3 hown hK hP hD hS 7 (by omega) mg_C.1 (hts _ (by decide +kernel)) (bt_nar _) (bt_fit _) dX4_sum_456 (fun H locs hP hD hS => ?_)
      rw [mg_pc m9 mn zc (v := nI (mn.toNat)) rfl] at hP hD
      exact kk _ m9 mn V9 H locs ls ⟨by omega, h3⟩ (by omega) (by omega) (by rw [SM, if_neg hc9, if_pos hxy, hV9]) hP hD hS (lv_sub hl [1] rfl)
set_option maxHeartbeats 4000000 in
set_option maxRecDepth 100000 in
theorem lp_X4_sum35 {p : Program} {l : Launch} {e : Env} {R : Room} {s : State} {m : MethodId} {args : Array Value} {below : List Frame} {meth : Method} {c : Code} {Q : State → Prop} {D : va_G} {cA : Nat → ClassId} {tT : Nat} {A : Nat → Prop} {ad : Nat → Nat} {we : RWt} {rg : Nat → RWt} {tx : Nat → Int32} {tl : Nat} {fa fb : Nat → Int32} {na nb nc X Y m9 : Nat} {ba bb bc mn : Bool} {za zb zc : Int} (S : CallFix p m c cX4_sum 8 s args wsX4_sum RX4) (hK : va_K D vwCl (ty_s cA) s) (hT : st_T tT A s s.heap) (hRf : 2 ≤ R.frames) (hRl : 40 ≤ R.locals) (hva : rv fa na X) (hvb : rv fb nb Y) (hna : na ≤ 300) (hnb : nb ≤ 300) (hz1 : -2147483648 ≤ za) (hz2 : za < 2147483648) (kk : ∀ (fa fb fc : Nat → Int32) (nc : Nat) (sg9 : Bool) (v9 : Nat) (H : Heap) (locs : List Loc) (ls : Array Slot), dv fc nc v9 → 1 ≤ nc → nc ≤ 400 → (sg9, v9) = SM ba X mn Y → va_P D vwCl (wm_W 23 ad (mg cA ad (fa, na, ba, za) (fb, nb, bb, zb) (fc, nc, sg9, za) we rg tx tl)) H → va_D A (wm_W 23 ad (mg cA ad (fa, na, ba, za) (fb, nb, bb, zb) (fc, nc, sg9, za) we rg tx tl)) → va_S A s.heap H locs → lv_has ls 8 [(0, .ref (ad 0))] → W p l e R s m args below meth c H locs 0 0 Q (F0 m 459 ls [])) (fc : Nat → Int32) (H : Heap) (locs : List Loc) (ls : Array Slot) (hP : va_P D vwCl (wm_W 23 ad (mg cA ad (fa, na, ba, za) (fb, nb, bb, zb) (fc, nc, bc, zc) we rg tx tl)) H) (hD : va_D A (wm_W 23 ad (mg cA ad (fa, na, ba, za) (fb, nb, bb, zb) (fc, nc, bc, zc) we rg tx tl))) (hS : va_S A s.heap H locs) (hl : lv_has ls 8 [(0, .ref (ad 0)), (2, .int (nI (mn.toNat)))]) : W p l e R s m args below meth c H locs 0 0 Q (F0 m 35 ls []) := by
  have S9 := S
  obtain ⟨hx, hb, hml, hown, hts⟩ := S
  have in3 : ∀ w ∈ wsX30, w ∈ wsX4_sum := by decide +kernel
  have in4 : ∀ w ∈ wsX40, w ∈ wsX4_sum := by decide +kernel
  have t_a := tn_le ba
  have t_m := tn_le mn
  have t_b := tn_le bb
  have zX : ∀ j, na ≤ j → X / 10 ^ j % 10 = 0 := fun j hj => by rw [Nat.div_eq_of_lt (Nat.lt_of_lt_of_le (rv_dv hva).1 (Nat.pow_le_pow_right (by decide) hj))]
  have zY : ∀ j, nb ≤ j → Y / 10 ^ j % 10 = 0 := fun j hj => by rw [Nat.div_eq_of_lt (Nat.lt_of_lt_of_le (rv_dv hvb).1 (Nat.pow_le_pow_right (by decide) hj))]
  have pX : 1 ≤ na := by rw [hva.1]; exact nd_p_pos _
  have pY : 1 ≤ nb := by rw [hvb.1]; exact nd_p_pos _
  refine lv_aload_n hx hb dX4_sum_35 rfl (lv_at hl 0 rfl) ?_
  refine rg_4_c hx hb hts in4 hown hK hP 0 (by decide) mg_0 (hts _ (by decide +kernel)) dX4_sum_36 ?_
  refine lv_aload_n hx hb dX4_sum_39 rfl (lv_at hl 0 rfl) ?_
  refine rg_4_a hx hb hts in4 hown hK hP 0 (by decide) mg_0 (hts _ (by decide +kernel)) dX4_sum_40 ?_
  refine rg_3_scale hx hb hts in3 hown hK hP 3 (by omega) mg_A.1 (hts _ (by decide +kernel)) dX4_sum_43 ?_
  refine tp_i (y := iZ (za)) rfl ?_
  refine rp_3_scale hx hb hts in3 hown hK hP hD hS 7 (by omega) mg_C.1 (hts _ (by decide +kernel)) rfl rfl dX4_sum_46 (fun H locs hP hD hS => ?_)
  rw [mg_pc nc bc za (v := nI (bc.toNat)) rfl] at hP hD
  refine lv_aload_n hx hb dX4_sum_49 rfl (lv_at hl 0 rfl) ?_
  refine rg_4_a hx hb hts in4 hown hK hP 0 (by decide) mg_0 (hts _ (by decide +kernel)) dX4_sum_50 ?_
  refine rg_3_n hx hb hts in3 hown hK hP 3 (by omega) mg_A.1 (hts _ (by decide +kernel)) dX4_sum_53 ?_
  refine tp_i (y := nI (na)) rfl ?_
  refine lv_aload_n hx hb dX4_sum_56 rfl (lv_at hl 0 rfl) ?_
  refine rg_4_b hx hb hts in4 hown hK hP 0 (by decide) mg_0 (hts _ (by decide +kernel)) dX4_sum_57 ?_
  refine rg_3_n hx hb hts in3 hown hK hP 5 (by omega) mg_B.1 (hts _ (by decide +kernel)) dX4_sum_60 ?_
  refine tp_i (y := nI (nb)) rfl ?_
  refine bi_le (tgt := 76) hx hb dX4_sum_63 (by decide) (by omega) (by omega) (fun q => ?_) (fun q => ?_)
  · have hlX : X < 10 ^ nb := Nat.lt_of_lt_of_le (rv_dv hva).1 (Nat.pow_le_pow_right (by decide) (by omega))
    have hlY : Y < 10 ^ nb := Nat.lt_of_lt_of_le (rv_dv hvb).1 (Nat.pow_le_pow_right (by decide) (by omega))
    refine lv_aload_n hx hb dX4_sum_76 rfl (lv_at hl 0 rfl) ?_
    refine rg_4_b hx hb hts in4 hown hK hP 0 (by decide) mg_0 (hts _ (by decide +kernel)) dX4_sum_77 ?_
    refine rg_3_n hx hb hts in3 hown hK hP 5 (by omega) mg_B.1 (hts _ (by decide +kernel)) dX4_sum_80 ?_
    refine tp_i (y := nI (nb)) rfl ?_
    refine lv_istore_n (lv' := [(3, .int (nI (nb))), (0, .ref (ad 0)), (2, .int (nI (mn.toNat)))]) hx hb dX4_sum_83 rfl hl (by decide) rfl (fun ls hl => ?_)
    refine lv_aload_n hx hb dX4_sum_84 rfl (lv_at hl 1 rfl) ?_
    refine rg_4_a hx hb hts in4 hown hK hP 0 (by decide) mg_0 (hts _ (by decide +kernel)) dX4_sum_85 ?_
    refine rg_3_n hx hb hts in3 hown hK hP 3 (by omega) mg_A.1 (hts _ (by decide +kernel)) dX4_sum_88 ?_
    refine tp_i (y := nI (na)) rfl ?_
    refine lv_istore (lv' := [(4, .int (nI (na))), (3, .int (nI (nb))), (0, .ref (ad 0)), (2, .int (nI (mn.toNat)))]) hx hb dX4_sum_91 hl (by decide) rfl (fun ls hl => ?_)
    refine lp_X4_sum_a (X := X) (Y := Y) (mn := mn) (m9 := nb) S9 hK hT (by omega) zX (fun fa H locs ls hfa hP hD hS hl => ?_) (nb - na) na fa _ _ ls (by omega) (by omega) (fun j hj => hva.2 j hj) hP hD hS (lv_sub hl [0, 2, 3, 1] rfl)
    refine lv_aload_n hx hb dX4_sum_116 rfl (lv_at hl 0 rfl) ?_
    refine rg_4_b hx hb hts in4 hown hK hP 0 (by decide) mg_0 (hts _ (by decide +kernel)) dX4_sum_117 ?_
    refine rg_3_n hx hb hts in3 hown hK hP 5 (by omega) mg_B.1 (hts _ (by decide +kernel)) dX4_sum_120 ?_
    refine tp_i (y := nI (nb)) rfl ?_
    refine lv_istore (lv' := [(4, .int (nI (nb))), (0, .ref (ad 0)), (2, .int (nI (mn.toNat))), (3, .int (nI (nb)))]) hx hb dX4_sum_123 hl (by decide) rfl (fun ls hl => ?_)
    refine lp_X4_sum_b (X := X) (Y := Y) (mn := mn) (m9 := nb) S9 hK hT (by omega) zY (fun fb H locs ls hfb hP hD hS hl => ?_) (nb - nb) nb fb _ _ ls (by omega) (by omega) (fun j hj => hvb.2 j hj) hP hD hS (lv_sub hl [0, 1, 2, 3] rfl)
    have hva : rv fa na X := ⟨hva.1, fun j hj => hfa j (by omega)⟩
    have hvb : rv fb nb Y := ⟨hvb.1, fun j hj => hfb j (by omega)⟩
    refine lv_aload_n hx hb dX4_sum_148 rfl (lv_at hl 0 rfl) ?_
    refine rg_4_a hx hb hts in4 hown hK hP 0 (by decide) mg_0 (hts _ (by decide +kernel)) dX4_sum_149 ?_
    refine rg_3_minus hx hb hts in3 hown hK hP 3 (by omega) mg_A.1 (hts _ (by decide +kernel)) dX4_sum_152 ?_
    refine tp_i (y := nI (ba.toNat)) rfl ?_
    refine lv_iload_n hx hb dX4_sum_155 rfl (lv_at hl 1 rfl) ?_
    refine bi_eq (tgt := 179) hx hb dX4_sum_156 (by decide) (by omega) (by omega) (fun q2 => ?_) (fun q2 => ?_)
    · exact lp_X4_sum179 S9 hK hT hRf hRl (by omega) (by omega) hva hvb hlX hlY hfa hfb hna hnb (Or.inl (tn_eq.mp q2)) (kk fa fb) fc _ _ ls hP hD hS hl
    · refine lv_aload_n hx hb dX4_sum_159 rfl (lv_at hl 0 rfl) ?_
      refine rg_4_a hx hb hts in4 hown hK hP 0 (by decide) mg_0 (hts _ (by decide +kernel)) dX4_sum_160 ?_
      refine va_calli (va_runV (As := []) (rest := []) ⟨hx, hb, hml, hown, hts⟩ (c_X3_isZero l D cA tT A 23 ad _ _ (a := 3) (f := fa) (n := na) (b := ba) (z := za) (v := X) (by decide) mg_A hva (by omega)) (cwV 0 hts gX4_sum_X3_isZero rfl rfl rfl (by decide +kernel) ⟨Nat.le_trans (Nat.le_of_ble_eq_true rfl) hRf, Nat.le_trans (Nat.le_of_ble_eq_true rfl) hRl⟩) (wd_preV (k := 3) hP hK hD hT hS (by decide) mg_A.1 rfl) rfl rfl hl.1 rfl (lv_room (Nat.le_of_ble_eq_true rfl)) dX4_sum_163 ⟨Nat.zero_le _, Nat.zero_le _⟩) hS id_2 id_1 (fun r_ u t H locs ht hvm hw hB hz1 hk1 hS => ?_)
      refine c00 ?_
      obtain ⟨hP, hD⟩ := wd_back ht hB
      clear ht hvm hB hz1 hk1
      obtain ⟨hr_, hu_⟩ := hw
      subst hr_
      rw [hu_] at hP hD
      clear hu_
      refine bz_ne (tgt := 179) hx hb dX4_sum_166 (by decide) it_lt (fun q3 => ?_) (fun q3 => ?_)
      · exact lp_X4_sum179 S9 hK hT hRf hRl (by omega) (by omega) hva hvb hlX hlY hfa hfb hna hnb (Or.inr (Or.inl (it_ne q3))) (kk fa fb) fc _ _ ls hP hD hS hl
      · refine lv_aload_n hx hb dX4_sum_169 rfl (lv_at hl 0 rfl) ?_
        refine rg_4_b hx hb hts in4 hown hK hP 0 (by decide) mg_0 (hts _ (by decide +kernel)) dX4_sum_170 ?_
        refine va_calli (va_runV (As := []) (rest := []) ⟨hx, hb, hml, hown, hts⟩ (c_X3_isZero l D cA tT A 23 ad _ _ (a := 5) (f := fb) (n := nb) (b := bb) (z := zb) (v := Y) (by decide) mg_B hvb (by omega)) (cwV 0 hts gX4_sum_X3_isZero rfl rfl rfl (by decide +kernel) ⟨Nat.le_trans (Nat.le_of_ble_eq_true rfl) hRf, Nat.le_trans (Nat.le_of_ble_eq_true rfl) hRl⟩) (wd_preV (k := 5) hP hK hD hT hS (by decide) mg_B.1 rfl) rfl rfl hl.1 rfl (lv_room (Nat.le_of_ble_eq_true rfl)) dX4_sum_173 ⟨Nat.zero_le _, Nat.zero_le _⟩) hS id_2 id_1 (fun r_ u t H locs ht hvm hw hB hz1 hk1 hS => ?_)
        refine c00 ?_
        obtain ⟨hP, hD⟩ := wd_back ht hB
        clear ht hvm hB hz1 hk1
        obtain ⟨hr_, hu_⟩ := hw
        subst hr_
        rw [hu_] at hP hD
        clear hu_
        refine bz_eq (tgt := 297) hx hb dX4_sum_176 (by decide) it_lt (fun q4 => ?_) (fun q4 => ?_)
        · exact lp_X4_sum297 S9 hK hT hRf hRl (by omega) (by omega) hva hvb hlX hlY hfa hfb hna hnb (fun h => h.elim (fun h => q2 (tn_eq.mpr h)) (fun h => h.elim (it_eq q3) (it_eq q4))) (kk fa fb) fc _ _ ls hP hD hS hl
        · exact lp_X4_sum179 S9 hK hT hRf hRl (by omega) (by omega) hva hvb hlX hlY hfa hfb hna hnb (Or.inr (Or.inr (it_ne q4))) (kk fa fb) fc _ _ ls hP hD hS hl
  · have hlX : X < 10 ^ na := Nat.lt_of_lt_of_le (rv_dv hva).1 (Nat.pow_le_pow_right (by decide) (by omega))
    have hlY : Y < 10 ^ na := Nat.lt_of_lt_of_le (rv_dv hvb).1 (Nat.pow_le_pow_right (by decide) (by omega))
    refine lv_aload_n hx hb dX4_sum_66 rfl (lv_at hl 0 rfl) ?_
    refine rg_4_a hx hb hts in4 hown hK hP 0 (by decide) mg_0 (hts _ (by decide +kernel)) dX4_sum_67 ?_
    refine rg_3_n hx hb hts in3 hown hK hP 3 (by omega) mg_A.1 (hts _ (by decide +kernel)) dX4_sum_70 ?_
    refine tp_i (y := nI (na)) rfl ?_
    refine lv_goto (tgt := 83) hx hb dX4_sum_73 (by decide) ?_
    refine lv_istore_n (lv' := [(3, .int (nI (na))), (0, .ref (ad 0)), (2, .int (nI (mn.toNat)))]) hx hb dX4_sum_83 rfl hl (by decide) rfl (fun ls hl => ?_)
    refine lv_aload_n hx hb dX4_sum_84 rfl (lv_at hl 1 rfl) ?_
    refine rg_4_a hx hb hts in4 hown hK hP 0 (by decide) mg_0 (hts _ (by decide +kernel)) dX4_sum_85 ?_
    refine rg_3_n hx hb hts in3 hown hK hP 3 (by omega) mg_A.1 (hts _ (by decide +kernel)) dX4_sum_88 ?_
    refine tp_i (y := nI (na)) rfl ?_
    refine lv_istore (lv' := [(4, .int (nI (na))), (3, .int (nI (na))), (0, .ref (ad 0)), (2, .int (nI (mn.toNat)))]) hx hb dX4_sum_91 hl (by decide) rfl (fun ls hl => ?_)
    refine lp_X4_sum_a (X := X) (Y := Y) (mn := mn) (m9 := na) S9 hK hT (by omega) zX (fun fa H locs ls hfa hP hD hS hl => ?_) (na - na) na fa _ _ ls (by omega) (by omega) (fun j hj => hva.2 j hj) hP hD hS (lv_sub hl [0, 2, 3, 1] rfl)
    refine lv_aload_n hx hb dX4_sum_116 rfl (lv_at hl 0 rfl) ?_
    refine rg_4_b hx hb hts in4 hown hK hP 0 (by decide) mg_0 (hts _ (by decide +kernel)) dX4_sum_117 ?_
    refine rg_3_n hx hb hts in3 hown hK hP 5 (by omega) mg_B.1 (hts _ (by decide +kernel)) dX4_sum_120 ?_
    refine tp_i (y := nI (nb)) rfl ?_
    refine lv_istore (lv' := [(4, .int (nI (nb))), (0, .ref (ad 0)), (2, .int (nI (mn.toNat))), (3, .int (nI (na)))]) hx hb dX4_sum_123 hl (by decide) rfl (fun ls hl => ?_)
    refine lp_X4_sum_b (X := X) (Y := Y) (mn := mn) (m9 := na) S9 hK hT (by omega) zY (fun fb H locs ls hfb hP hD hS hl => ?_) (na - nb) nb fb _ _ ls (by omega) (by omega) (fun j hj => hvb.2 j hj) hP hD hS (lv_sub hl [0, 1, 2, 3] rfl)
    have hva : rv fa na X := ⟨hva.1, fun j hj => hfa j (by omega)⟩
    have hvb : rv fb nb Y := ⟨hvb.1, fun j hj => hfb j (by omega)⟩
    refine lv_aload_n hx hb dX4_sum_148 rfl (lv_at hl 0 rfl) ?_
    refine rg_4_a hx hb hts in4 hown hK hP 0 (by decide) mg_0 (hts _ (by decide +kernel)) dX4_sum_149 ?_
    refine rg_3_minus hx hb hts in3 hown hK hP 3 (by omega) mg_A.1 (hts _ (by decide +kernel)) dX4_sum_152 ?_
    refine tp_i (y := nI (ba.toNat)) rfl ?_
    refine lv_iload_n hx hb dX4_sum_155 rfl (lv_at hl 1 rfl) ?_
    refine bi_eq (tgt := 179) hx hb dX4_sum_156 (by decide) (by omega) (by omega) (fun q2 => ?_) (fun q2 => ?_)
    · exact lp_X4_sum179 S9 hK hT hRf hRl (by omega) (by omega) hva hvb hlX hlY hfa hfb hna hnb (Or.inl (tn_eq.mp q2)) (kk fa fb) fc _ _ ls hP hD hS hl
    · refine lv_aload_n hx hb dX4_sum_159 rfl (lv_at hl 0 rfl) ?_
      refine rg_4_a hx hb hts in4 hown hK hP 0 (by decide) mg_0 (hts _ (by decide +kernel)) dX4_sum_160 ?_
      refine va_calli (va_runV (As := []) (rest := []) ⟨hx, hb, hml, hown, hts⟩ (c_X3_isZero l D cA tT A 23 ad _ _ (a := 3) (f := fa) (n := na) (b := ba) (z := za) (v := X) (by decide) mg_A hva (by omega)) (cwV 0 hts gX4_sum_X3_isZero rfl rfl rfl (by decide +kernel) ⟨Nat.le_trans (Nat.le_of_ble_eq_true rfl) hRf, Nat.le_trans (Nat.le_of_ble_eq_true rfl) hRl⟩) (wd_preV (k := 3) hP hK hD hT hS (by decide) mg_A.1 rfl) rfl rfl hl.1 rfl (lv_room (Nat.le_of_ble_eq_true rfl)) dX4_sum_163 ⟨Nat.zero_le _, Nat.zero_le _⟩) hS id_2 id_1 (fun r_ u t H locs ht hvm hw hB hz1 hk1 hS => ?_)
      refine c00 ?_
      obtain ⟨hP, hD⟩ := wd_back ht hB
      clear ht hvm hB hz1 hk1
      obtain ⟨hr_, hu_⟩ := hw
      subst hr_
      rw [hu_] at hP hD
      clear hu_
      refine bz_ne (tgt := 179) hx hb dX4_sum_166 (by decide) it_lt (fun q3 => ?_) (fun q3 => ?_)
      · exact lp_X4_sum179 S9 hK hT hRf hRl (by omega) (by omega) hva hvb hlX hlY hfa hfb hna hnb (Or.inr (Or.inl (it_ne q3))) (kk fa fb) fc _ _ ls hP hD hS hl
      · refine lv_aload_n hx hb dX4_sum_169 rfl (lv_at hl 0 rfl) ?_
        refine rg_4_b hx hb hts in4 hown hK hP 0 (by decide) mg_0 (hts _ (by decide +kernel)) dX4_sum_170 ?_
        refine va_calli (va_runV (As := []) (rest := []) ⟨hx, hb, hml, hown, hts⟩ (c_X3_isZero l D cA tT A 23 ad _ _ (a := 5) (f := fb) (n := nb) (b := bb) (z := zb) (v := Y) (by decide) mg_B hvb (by omega)) (cwV 0 hts gX4_sum_X3_isZero rfl rfl rfl (by decide +kernel) ⟨Nat.le_trans (Nat.le_of_ble_eq_true rfl) hRf, Nat.le_trans (Nat.le_of_ble_eq_true rfl) hRl⟩) (wd_preV (k := 5) hP hK hD hT hS (by decide) mg_B.1 rfl) rfl rfl hl.1 rfl (lv_room (Nat.le_of_ble_eq_true rfl)) dX4_sum_173 ⟨Nat.zero_le _, Nat.zero_le _⟩) hS id_2 id_1 (fun r_ u t H locs ht hvm hw hB hz1 hk1 hS => ?_)
        refine c00 ?_
        obtain ⟨hP, hD⟩ := wd_back ht hB
        clear ht hvm hB hz1 hk1
        obtain ⟨hr_, hu_⟩ := hw
        subst hr_
        rw [hu_] at hP hD
        clear hu_
        refine bz_eq (tgt := 297) hx hb dX4_sum_176 (by decide) it_lt (fun q4 => ?_) (fun q4 => ?_)
        · exact lp_X4_sum297 S9 hK hT hRf hRl (by omega) (by omega) hva hvb hlX hlY hfa hfb hna hnb (fun h => h.elim (fun h => q2 (tn_eq.mpr h)) (fun h => h.elim (it_eq q3) (it_eq q4))) (kk fa fb) fc _ _ ls hP hD hS hl
        · exact lp_X4_sum179 S9 hK hT hRf hRl (by omega) (by omega) hva hvb hlX hlY hfa hfb hna hnb (Or.inr (Or.inr (it_ne q4))) (kk fa fb) fc _ _ ls hP hD hS hl
set_option maxHeartbeats 4000000 in
set_option maxRecDepth 100000 in
/-- sum -/
theorem c_X4_sum (l : Launch) (D : va_G) (cA : Nat → ClassId) (tT : Nat) (A : Nat → Prop) (ad : Nat → Nat) (sz : Nat) {fa fb : Nat → Int32} {na nb X Y : Nat} {ba bb : Bool} {za zb : Int} {wc we : RWt} {rg : Nat → RWt} {tx : Nat → Int32} {tl : Nat} {tb : Bool} (hva : rv fa na X) (hvb : rv fb nb Y) (hna : na ≤ 300) (hnb : nb ≤ 300) (hz1 : -2147483648 ≤ za) (hz2 : za < 2147483648) : Met l yX4_sum wsX4_sum ({ frames := 2, cells := 0, slots := 0, locals := 40 }) (va_Pc [.ref (ad 0), .int (nI (tb.toNat))] (wd_B D cA tT A 23 ad sz (mg cA ad (fa, na, ba, za) (fb, nb, bb, zb) wc we rg tx tl))) (va_Qv (fun (u : Nat → va_E) => ∃ (fa1 fb1 fc : Nat → Int32) (r9 : Bool × Nat), r9 = SM ba X (bb != (tb && decide (Y ≠ 0))) Y ∧ rv fc (nd_p r9.2) r9.2 ∧ nd_p r9.2 ≤ 400 ∧ u = mg cA ad (fa1, na, ba, za) (fb1, nb, bb, zb) (fc, nd_p r9.2, sn r9.1 r9.2, za) we rg tx tl) (wd_E D cA A 23 ad) A) 0 0 A := by
  refine Met.ofW (cc := cX4_sum) (maxL := 8) (ret := none) (by decide) rfl ?_
  intro p e s m args below meth c s₁ B hml hv
  obtain ⟨rfl, hsz, hP, hK, hD, hT⟩ := hv
  have hx := B.exec
  have hb := B.bytes
  have hr := B.returns
  have hts := atoms_spec (ws := wsX4_sum) B.pre
  have hown : s.vm.findClass RX4 = some m.cls := findClass_of_methodNamed B.named
  have hlocks := B.notSynchronized
  subst hsz
  have hS : va_S A s.heap s.heap [] := va_S.rf
  have in3 : ∀ w ∈ wsX30, w ∈ wsX4_sum := by decide +kernel
  have in4 : ∀ w ∈ wsX40, w ∈ wsX4_sum := by decide +kernel
  have hl := lv_entry ([.ref (ad 0), .int (nI (tb.toNat))]) (n := 8) (Nat.le_of_ble_eq_true rfl)
  rw [lg_entry_eq]
  generalize (lg_sl ([.ref (ad 0), .int (nI (tb.toNat))]) ++ List.replicate (8 - (lg_sl ([.ref (ad 0), .int (nI (tb.toNat))])).length) Slot.unset).toArray = ls at hl ⊢
  have hl : lv_has ls 8 [(0, .ref (ad 0)), (1, .int (nI (tb.toNat)))] := hl
  have t_t := tn_le tb
  have t_b := tn_le bb
  refine lv_aload_n hx hb dX4_sum_0 rfl (lv_at hl 0 rfl) ?_
  refine rg_4_b hx hb hts in4 hown hK hP 0 (by decide) mg_0 (hts _ (by decide +kernel)) dX4_sum_1 ?_
  refine rg_3_minus hx hb hts in3 hown hK hP 5 (by omega) mg_B.1 (hts _ (by decide +kernel)) dX4_sum_4 ?_
  refine tp_i (y := nI (bb.toNat)) rfl ?_
  refine lv_iload_n hx hb dX4_sum_7 rfl (lv_at hl 1 rfl) ?_
  refine bz_eq (tgt := 25) hx hb dX4_sum_8 (by decide) (by omega) (fun q1 => ?_) (fun q1 => ?_)
  · refine lv_iconst (v := nI (0)) hx hb dX4_sum_25 (by decide) ?_
    refine bi_eq (tgt := 33) hx hb dX4_sum_26 (by decide) (by omega) (by omega) (fun q7 => ?_) (fun q7 => ?_)
    · have hmn : (bb != (tb && decide (Y ≠ 0))) = false := by rw [tn_z q1, Bool.false_and]; exact bn_f (tn_eq.mp (q7 : bb.toNat = Bool.toNat false))
      refine lv_iconst (v := nI (0)) hx hb dX4_sum_33 (by decide) ?_
      refine lv_istore_n (lv' := [(2, .int (nI (0))), (0, .ref (ad 0)), (1, .int (nI (tb.toNat)))]) hx hb dX4_sum_34 rfl hl (by decide) rfl (fun ls hl => ?_)
      refine lp_X4_sum35 (mn := false) (m9 := 0) (X := X) (Y := Y) ⟨hx, hb, hml, hown, hts⟩ hK hT (Nat.le_of_ble_eq_true rfl) (Nat.le_of_ble_eq_true rfl) hva hvb hna hnb hz1 hz2 (fun fa fb fc nc sg9 v9 H locs ls hd9 hc1 hc4 hsm hP hD hS hl => ?_) wc.1 _ _ ls hP hD hS (lv_sub hl [1, 0] rfl)
      refine lv_aload_n hx hb dX4_sum_459 rfl (lv_at hl 0 rfl) ?_
      refine rg_4_c hx hb hts in4 hown hK hP 0 (by decide) mg_0 (hts _ (by decide +kernel)) dX4_sum_460 ?_
      refine va_callv (va_runV (As := []) (rest := []) ⟨hx, hb, hml, hown, hts⟩ (c_X3_trim l D cA tT A 23 ad _ _ (a := 7) (f := fc) (n := nc) (b := sg9) (z := za) (v := v9) (by decide) mg_C hc1 (by omega) hd9) (cwV 0 hts gX4_sum_X3_trim rfl rfl rfl (by decide +kernel) ⟨Nat.le_of_ble_eq_true rfl, Nat.le_of_ble_eq_true rfl⟩) (wd_preV (k := 7) hP hK hD hT hS (by decide) mg_C.1 rfl) rfl rfl hl.1 rfl (lv_room (Nat.le_of_ble_eq_true rfl)) dX4_sum_463 ⟨Nat.zero_le _, Nat.zero_le _⟩) hS id_2 id_1 (fun u t H locs ht hvm hw hB hz1 hk1 hS => ?_)
      refine c00 ?_
      obtain ⟨hP, hD⟩ := wd_back ht hB
      clear ht hvm hB hz1 hk1
      obtain ⟨hv9, hu_⟩ := hw
      rw [hu_] at hP hD
      clear hu_
      rw [show rw_ cA ad (mg cA ad (fa, na, ba, za) (fb, nb, bb, zb) (fc, nc, sg9, za) we rg tx tl) 7 fc (nd_p v9) (sn sg9 v9) za = mg cA ad (fa, na, ba, za) (fb, nb, bb, zb) (fc, nd_p v9, sn sg9 v9, za) we rg tx tl from mg_uc (w' := (fc, nd_p v9, sn sg9 v9, za))] at hP hD
      exact W.vret hx hb hr (fun t ht hW => ⟨⟨_, rfl, ⟨fa, fb, fc, (sg9, v9), by rw [hmn]; exact hsm, hv9, Nat.le_trans ((nd_p_le hc1).mpr hd9.1) hc4, rfl⟩, wd_end hP hK hD ht hW⟩, hS.F ht⟩) hS.2.2 dX4_sum_466
    · have hmn : (bb != (tb && decide (Y ≠ 0))) = true := by rw [tn_z q1, Bool.false_and]; exact bn_t (fun h => q7 (tn_eq.mpr h : bb.toNat = Bool.toNat false))
      refine lv_iconst (v := nI (1)) hx hb dX4_sum_29 (by decide) ?_
      refine lv_goto (tgt := 34) hx hb dX4_sum_30 (by decide) ?_
      refine lv_istore_n (lv' := [(2, .int (nI (1))), (0, .ref (ad 0)), (1, .int (nI (tb.toNat)))]) hx hb dX4_sum_34 rfl hl (by decide) rfl (fun ls hl => ?_)
      refine lp_X4_sum35 (mn := true) (m9 := 0) (X := X) (Y := Y) ⟨hx, hb, hml, hown, hts⟩ hK hT (Nat.le_of_ble_eq_true rfl) (Nat.le_of_ble_eq_true rfl) hva hvb hna hnb hz1 hz2 (fun fa fb fc nc sg9 v9 H locs ls hd9 hc1 hc4 hsm hP hD hS hl => ?_) wc.1 _ _ ls hP hD hS (lv_sub hl [1, 0] rfl)
      refine lv_aload_n hx hb dX4_sum_459 rfl (lv_at hl 0 rfl) ?_
      refine rg_4_c hx hb hts in4 hown hK hP 0 (by decide) mg_0 (hts _ (by decide +kernel)) dX4_sum_460 ?_
      refine va_callv (va_runV (As := []) (rest := []) ⟨hx, hb, hml, hown, hts⟩ (c_X3_trim l D cA tT A 23 ad _ _ (a := 7) (f := fc) (n := nc) (b := sg9) (z := za) (v := v9) (by decide) mg_C hc1 (by omega) hd9) (cwV 0 hts gX4_sum_X3_trim rfl rfl rfl (by decide +kernel) ⟨Nat.le_of_ble_eq_true rfl, Nat.le_of_ble_eq_true rfl⟩) (wd_preV (k := 7) hP hK hD hT hS (by decide) mg_C.1 rfl) rfl rfl hl.1 rfl (lv_room (Nat.le_of_ble_eq_true rfl)) dX4_sum_463 ⟨Nat.zero_le _, Nat.zero_le _⟩) hS id_2 id_1 (fun u t H locs ht hvm hw hB hz1 hk1 hS => ?_)
      refine c00 ?_
      obtain ⟨hP, hD⟩ := wd_back ht hB
      clear ht hvm hB hz1 hk1
      obtain ⟨hv9, hu_⟩ := hw
      rw [hu_] at hP hD
      clear hu_
      rw [show rw_ cA ad (mg cA ad (fa, na, ba, za) (fb, nb, bb, zb) (fc, nc, sg9, za) we rg tx tl) 7 fc (nd_p v9) (sn sg9 v9) za = mg cA ad (fa, na, ba, za) (fb, nb, bb, zb) (fc, nd_p v9, sn sg9 v9, za) we rg tx tl from mg_uc (w' := (fc, nd_p v9, sn sg9 v9, za))] at hP hD
      exact W.vret hx hb hr (fun t ht hW => ⟨⟨_, rfl, ⟨fa, fb, fc, (sg9, v9), by rw [hmn]; exact hsm, hv9, Nat.le_trans ((nd_p_le hc1).mpr hd9.1) hc4, rfl⟩, wd_end hP hK hD ht hW⟩, hS.F ht⟩) hS.2.2 dX4_sum_466
  · refine lv_aload_n hx hb dX4_sum_11 rfl (lv_at hl 0 rfl) ?_
    refine rg_4_b hx hb hts in4 hown hK hP 0 (by decide) mg_0 (hts _ (by decide +kernel)) dX4_sum_12 ?_
    refine va_calli (va_runV (As := []) (rest := [.int (nI (bb.toNat))]) ⟨hx, hb, hml, hown, hts⟩ (c_X3_isZero l D cA tT A 23 ad _ _ (a := 5) (f := fb) (n := nb) (b := bb) (z := zb) (v := Y) (by decide) mg_B hvb (by omega)) (cwV 0 hts gX4_sum_X3_isZero rfl rfl rfl (by decide +kernel) ⟨Nat.le_of_ble_eq_true rfl, Nat.le_of_ble_eq_true rfl⟩) (wd_preV (k := 5) hP hK hD hT hS (by decide) mg_B.1 rfl) rfl rfl hl.1 rfl (lv_room (Nat.le_of_ble_eq_true rfl)) dX4_sum_15 ⟨Nat.zero_le _, Nat.zero_le _⟩) hS id_2 id_1 (fun r_ u t H locs ht hvm hw hB hz1 hk1 hS => ?_)
    refine c00 ?_
    obtain ⟨hP, hD⟩ := wd_back ht hB
    clear ht hvm hB hz1 hk1
    obtain ⟨hr_, hu_⟩ := hw
    subst hr_
    rw [hu_] at hP hD
    clear hu_
    refine bz_ne (tgt := 25) hx hb dX4_sum_18 (by decide) it_lt (fun q2 => ?_) (fun q2 => ?_)
    · refine lv_iconst (v := nI (0)) hx hb dX4_sum_25 (by decide) ?_
      refine bi_eq (tgt := 33) hx hb dX4_sum_26 (by decide) (by omega) (by omega) (fun q7 => ?_) (fun q7 => ?_)
      · have hmn : (bb != (tb && decide (Y ≠ 0))) = false := by rw [tn_nz q1, Bool.true_and, decide_eq_false (fun h => h (it_ne q2))]; exact bn_f (tn_eq.mp (q7 : bb.toNat = Bool.toNat false))
        refine lv_iconst (v := nI (0)) hx hb dX4_sum_33 (by decide) ?_
        refine lv_istore_n (lv' := [(2, .int (nI (0))), (0, .ref (ad 0)), (1, .int (nI (tb.toNat)))]) hx hb dX4_sum_34 rfl hl (by decide) rfl (fun ls hl => ?_)
        refine lp_X4_sum35 (mn := false) (m9 := 0) (X := X) (Y := Y) ⟨hx, hb, hml, hown, hts⟩ hK hT (Nat.le_of_ble_eq_true rfl) (Nat.le_of_ble_eq_true rfl) hva hvb hna hnb hz1 hz2 (fun fa fb fc nc sg9 v9 H locs ls hd9 hc1 hc4 hsm hP hD hS hl => ?_) wc.1 _ _ ls hP hD hS (lv_sub hl [1, 0] rfl)
        refine lv_aload_n hx hb dX4_sum_459 rfl (lv_at hl 0 rfl) ?_
        refine rg_4_c hx hb hts in4 hown hK hP 0 (by decide) mg_0 (hts _ (by decide +kernel)) dX4_sum_460 ?_
        refine va_callv (va_runV (As := []) (rest := []) ⟨hx, hb, hml, hown, hts⟩ (c_X3_trim l D cA tT A 23 ad _ _ (a := 7) (f := fc) (n := nc) (b := sg9) (z := za) (v := v9) (by decide) mg_C hc1 (by omega) hd9) (cwV 0 hts gX4_sum_X3_trim rfl rfl rfl (by decide +kernel) ⟨Nat.le_of_ble_eq_true rfl, Nat.le_of_ble_eq_true rfl⟩) (wd_preV (k := 7) hP hK hD hT hS (by decide) mg_C.1 rfl) rfl rfl hl.1 rfl (lv_room (Nat.le_of_ble_eq_true rfl)) dX4_sum_463 ⟨Nat.zero_le _, Nat.zero_le _⟩) hS id_2 id_1 (fun u t H locs ht hvm hw hB hz1 hk1 hS => ?_)
        refine c00 ?_
        obtain ⟨hP, hD⟩ := wd_back ht hB
        clear ht hvm hB hz1 hk1
        obtain ⟨hv9, hu_⟩ := hw
        rw [hu_] at hP hD
        clear hu_
        rw [show rw_ cA ad (mg cA ad (fa, na, ba, za) (fb, nb, bb, zb) (fc, nc, sg9, za) we rg tx tl) 7 fc (nd_p v9) (sn sg9 v9) za = mg cA ad (fa, na, ba, za) (fb, nb, bb, zb) (fc, nd_p v9, sn sg9 v9, za) we rg tx tl from mg_uc (w' := (fc, nd_p v9, sn sg9 v9, za))] at hP hD
        exact W.vret hx hb hr (fun t ht hW => ⟨⟨_, rfl, ⟨fa, fb, fc, (sg9, v9), by rw [hmn]; exact hsm, hv9, Nat.le_trans ((nd_p_le hc1).mpr hd9.1) hc4, rfl⟩, wd_end hP hK hD ht hW⟩, hS.F ht⟩) hS.2.2 dX4_sum_466
      · have hmn : (bb != (tb && decide (Y ≠ 0))) = true := by rw [tn_nz q1, Bool.true_and, decide_eq_false (fun h => h (it_ne q2))]; exact bn_t (fun h => q7 (tn_eq.mpr h : bb.toNat = Bool.toNat false))
        refine lv_iconst (v := nI (1)) hx hb dX4_sum_29 (by decide) ?_
        refine lv_goto (tgt := 34) hx hb dX4_sum_30 (by decide) ?_
        refine lv_istore_n (lv' := [(2, .int (nI (1))), (0, .ref (ad 0)), (1, .int (nI (tb.toNat)))]) hx hb dX4_sum_34 rfl hl (by decide) rfl (fun ls hl => ?_)
        refine lp_X4_sum35 (mn := true) (m9 := 0) (X := X) (Y := Y) ⟨hx, hb, hml, hown, hts⟩ hK hT (Nat.le_of_ble_eq_true rfl) (Nat.le_of_ble_eq_true rfl) hva hvb hna hnb hz1 hz2 (fun fa fb fc nc sg9 v9 H locs ls hd9 hc1 hc4 hsm hP hD hS hl => ?_) wc.1 _ _ ls hP hD hS (lv_sub hl [1, 0] rfl)
        refine lv_aload_n hx hb dX4_sum_459 rfl (lv_at hl 0 rfl) ?_
        refine rg_4_c hx hb hts in4 hown hK hP 0 (by decide) mg_0 (hts _ (by decide +kernel)) dX4_sum_460 ?_
        refine va_callv (va_runV (As := []) (rest := []) ⟨hx, hb, hml, hown, hts⟩ (c_X3_trim l D cA tT A 23 ad _ _ (a := 7) (f := fc) (n := nc) (b := sg9) (z := za) (v := v9) (by decide) mg_C hc1 (by omega) hd9) (cwV 0 hts gX4_sum_X3_trim rfl rfl rfl (by decide +kernel) ⟨Nat.le_of_ble_eq_true rfl, Nat.le_of_ble_eq_true rfl⟩) (wd_preV (k := 7) hP hK hD hT hS (by decide) mg_C.1 rfl) rfl rfl hl.1 rfl (lv_room (Nat.le_of_ble_eq_true rfl)) dX4_sum_463 ⟨Nat.zero_le _, Nat.zero_le _⟩) hS id_2 id_1 (fun u t H locs ht hvm hw hB hz1 hk1 hS => ?_)
        refine c00 ?_
        obtain ⟨hP, hD⟩ := wd_back ht hB
        clear ht hvm hB hz1 hk1
        obtain ⟨hv9, hu_⟩ := hw
        rw [hu_] at hP hD
        clear hu_
        rw [show rw_ cA ad (mg cA ad (fa, na, ba, za) (fb, nb, bb, zb) (fc, nc, sg9, za) we rg tx tl) 7 fc (nd_p v9) (sn sg9 v9) za = mg cA ad (fa, na, ba, za) (fb, nb, bb, zb) (fc, nd_p v9, sn sg9 v9, za) we rg tx tl from mg_uc (w' := (fc, nd_p v9, sn sg9 v9, za))] at hP hD
        exact W.vret hx hb hr (fun t ht hW => ⟨⟨_, rfl, ⟨fa, fb, fc, (sg9, v9), by rw [hmn]; exact hsm, hv9, Nat.le_trans ((nd_p_le hc1).mpr hd9.1) hc4, rfl⟩, wd_end hP hK hD ht hW⟩, hS.F ht⟩) hS.2.2 dX4_sum_466
    · refine lv_iconst (v := nI (1)) hx hb dX4_sum_21 (by decide) ?_
      refine lv_goto (tgt := 26) hx hb dX4_sum_22 (by decide) ?_
      refine bi_eq (tgt := 33) hx hb dX4_sum_26 (by decide) (by omega) (by omega) (fun q7 => ?_) (fun q7 => ?_)
      · have hmn : (bb != (tb && decide (Y ≠ 0))) = false := by rw [tn_nz q1, Bool.true_and, decide_eq_true (it_eq q2)]; exact bn_f (tn_eq.mp (q7 : bb.toNat = Bool.toNat true))
        refine lv_iconst (v := nI (0)) hx hb dX4_sum_33 (by decide) ?_
        refine lv_istore_n (lv' := [(2, .int (nI (0))), (0, .ref (ad 0)), (1, .int (nI (tb.toNat)))]) hx hb dX4_sum_34 rfl hl (by decide) rfl (fun ls hl => ?_)
        refine lp_X4_sum35 (mn := false) (m9 := 0) (X := X) (Y := Y) ⟨hx, hb, hml, hown, hts⟩ hK hT (Nat.le_of_ble_eq_true rfl) (Nat.le_of_ble_eq_true rfl) hva hvb hna hnb hz1 hz2 (fun fa fb fc nc sg9 v9 H locs ls hd9 hc1 hc4 hsm hP hD hS hl => ?_) wc.1 _ _ ls hP hD hS (lv_sub hl [1, 0] rfl)
        refine lv_aload_n hx hb dX4_sum_459 rfl (lv_at hl 0 rfl) ?_
        refine rg_4_c hx hb hts in4 hown hK hP 0 (by decide) mg_0 (hts _ (by decide +kernel)) dX4_sum_460 ?_
        refine va_callv (va_runV (As := []) (rest := []) ⟨hx, hb, hml, hown, hts⟩ (c_X3_trim l D cA tT A 23 ad _ _ (a := 7) (f := fc) (n := nc) (b := sg9) (z := za) (v := v9) (by decide) mg_C hc1 (by omega) hd9) (cwV 0 hts gX4_sum_X3_trim rfl rfl rfl (by decide +kernel) ⟨Nat.le_of_ble_eq_true rfl, Nat.le_of_ble_eq_true rfl⟩) (wd_preV (k := 7) hP hK hD hT hS (by decide) mg_C.1 rfl) rfl rfl hl.1 rfl (lv_room (Nat.le_of_ble_eq_true rfl)) dX4_sum_463 ⟨Nat.zero_le _, Nat.zero_le _⟩) hS id_2 id_1 (fun u t H locs ht hvm hw hB hz1 hk1 hS => ?_)
        refine c00 ?_
        obtain ⟨hP, hD⟩ := wd_back ht hB
        clear ht hvm hB hz1 hk1
        obtain ⟨hv9, hu_⟩ := hw
        rw [hu_] at hP hD
        clear hu_
        rw [show rw_ cA ad (mg cA ad (fa, na, ba, za) (fb, nb, bb, zb) (fc, nc, sg9, za) we rg tx tl) 7 fc (nd_p v9) (sn sg9 v9) za = mg cA ad (fa, na, ba, za) (fb, nb, bb, zb) (fc, nd_p v9, sn sg9 v9, za) we rg tx tl from mg_uc (w' := (fc, nd_p v9, sn sg9 v9, za))] at hP hD
        exact W.vret hx hb hr (fun t ht hW => ⟨⟨_, rfl, ⟨fa, fb, fc, (sg9, v9), by rw [hmn]; exact hsm, hv9, Nat.le_trans ((nd_p_le hc1).mpr hd9.1) hc4, rfl⟩, wd_end hP hK hD ht hW⟩, hS.F ht⟩) hS.2.2 dX4_sum_466
      · have hmn : (bb != (tb && decide (Y ≠ 0))) = true := by rw [tn_nz q1, Bool.true_and, decide_eq_true (it_eq q2)]; exact bn_t (fun h => q7 (tn_eq.mpr h : bb.toNat = Bool.toNat true))
        refine lv_iconst (v := nI (1)) hx hb dX4_sum_29 (by decide) ?_
        refine lv_goto (tgt := 34) hx hb dX4_sum_30 (by decide) ?_
        refine lv_istore_n (lv' := [(2, .int (nI (1))), (0, .ref (ad 0)), (1, .int (nI (tb.toNat)))]) hx hb dX4_sum_34 rfl hl (by decide) rfl (fun ls hl => ?_)
        refine lp_X4_sum35 (mn := true) (m9 := 0) (X := X) (Y := Y) ⟨hx, hb, hml, hown, hts⟩ hK hT (Nat.le_of_ble_eq_true rfl) (Nat.le_of_ble_eq_true rfl) hva hvb hna hnb hz1 hz2 (fun fa fb fc nc sg9 v9 H locs ls hd9 hc1 hc4 hsm hP hD hS hl => ?_) wc.1 _ _ ls hP hD hS (lv_sub hl [1, 0] rfl)
        refine lv_aload_n hx hb dX4_sum_459 rfl (lv_at hl 0 rfl) ?_
        refine rg_4_c hx hb hts in4 hown hK hP 0 (by decide) mg_0 (hts _ (by decide +kernel)) dX4_sum_460 ?_
        refine va_callv (va_runV (As := []) (rest := []) ⟨hx, hb, hml, hown, hts⟩ (c_X3_trim l D cA tT A 23 ad _ _ (a := 7) (f := fc) (n := nc) (b := sg9) (z := za) (v := v9) (by decide) mg_C hc1 (by omega) hd9) (cwV 0 hts gX4_sum_X3_trim rfl rfl rfl (by decide +kernel) ⟨Nat.le_of_ble_eq_true rfl, Nat.le_of_ble_eq_true rfl⟩) (wd_preV (k := 7) hP hK hD hT hS (by decide) mg_C.1 rfl) rfl rfl hl.1 rfl (lv_room (Nat.le_of_ble_eq_true rfl)) dX4_sum_463 ⟨Nat.zero_le _, Nat.zero_le _⟩) hS id_2 id_1 (fun u t H locs ht hvm hw hB hz1 hk1 hS => ?_)
        refine c00 ?_
        obtain ⟨hP, hD⟩ := wd_back ht hB
        clear ht hvm hB hz1 hk1
        obtain ⟨hv9, hu_⟩ := hw
        rw [hu_] at hP hD
        clear hu_
        rw [show rw_ cA ad (mg cA ad (fa, na, ba, za) (fb, nb, bb, zb) (fc, nc, sg9, za) we rg tx tl) 7 fc (nd_p v9) (sn sg9 v9) za = mg cA ad (fa, na, ba, za) (fb, nb, bb, zb) (fc, nd_p v9, sn sg9 v9, za) we rg tx tl from mg_uc (w' := (fc, nd_p v9, sn sg9 v9, za))] at hP hD
        exact W.vret hx hb hr (fun t ht hW => ⟨⟨_, rfl, ⟨fa, fb, fc, (sg9, v9), by rw [hmn]; exact hsm, hv9, Nat.le_trans ((nd_p_le hc1).mpr hd9.1) hc4, rfl⟩, wd_end hP hK hD ht hW⟩, hS.F ht⟩) hS.2.2 dX4_sum_466
