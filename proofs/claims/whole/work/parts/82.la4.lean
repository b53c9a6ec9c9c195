set_option maxHeartbeats 4000000 in
set_option maxRecDepth 100000 in
theorem lw_loop {p : Program} {l : Launch} {e : Env} {s : State} {m : MethodId} {below : List Frame} {meth : Method} {c : Code} {b L : Nat} {xs : Nat → Int32} {D : va_G} {cA : Nat → ClassId} {tT : Nat} {ad1 ad2 : Nat → Nat} {Q : State → Prop} (C : lw_C p s m c b L xs D cA tT ad1 ad2) (hL : L < 2147483000) (hend : ∀ (H : Heap) (locs : List Loc) (ls : Array Slot), va_S (fun q : Nat => s.heap.size ≤ q) s.heap H locs → W p l e room_1 s m #[Value.ref b] below meth c H locs 54 9350 Q (F0 m 874 ls [])) :
    ∀ (n i : Nat), i ≤ L → L + 1 ≤ i + n → ∀ (H : Heap) (locs : List Loc) (sf : Nat → Bool × Nat × Int) (x y : Nat) (tx : Nat → Int32) (wa wb wc we : RWt) (rg : Nat → RWt) (tx2 : Nat → Int32) (T : List Nat), lw_I s D cA ad1 ad2 H locs sf x y tx wa wb wc we rg tx2 T → ∀ (ls : Array Slot), lv_has ls 4 [(3, .int (nI i)), (0, .ref b), (1, .ref (ad1 0)), (2, .ref (ad2 0))] → W p l e room_1 s m #[Value.ref b] below meth c H locs 54 9350 Q (F0 m 18 ls []) := by
  intro n
  induction n with
  | zero => intro i h1 h2; exact absurd h2 (by omega)
  | succ n ih =>
    intro i h1 h2 H locs sf x y tx wa wb wc we rg tx2 T I ls hl
    obtain ⟨hx, hb, hml, hown, hts, hX, hbl, hK, hT, hD1, hD2, hap⟩ := id C
    have hS := I.2.2.2.2.2.2.2
    have hbA : ¬ (fun q : Nat => s.heap.size ≤ q) b := Nat.not_le.mpr hbl
    refine lv_iload_n hx hb dL_law_18 rfl (lv_at hl 0 rfl) ?_
    refine lv_aload_n hx hb dL_law_19 rfl (lv_at hl 1 rfl) ?_
    refine va_slen hx hb hX hbl hbA hS dL_law_20 ?_
    refine lv_bipush (v := nI 6) hx hb dL_law_21 (by decide) ?_
    refine lv_isub hx hb dL_law_23 ?_
    refine tp_i (y := iZ ((L : Int) - 6)) (by show nI L - nI 6 = _; rw [iZ_nat, iZ_nat, iZ_sub]; rfl) ?_
    refine lv_icmp_gt (tgt := 874) hx hb dL_law_24 (by decide) (fun _ => hend H locs ls hS) (fun q => ?_)
    have hi : i + 6 ≤ L := by
      rw [iZ_nat i, iZ_lt (by omega) (by omega) (by omega) (by omega)] at q
      omega
    refine lv_aload_n hx hb dL_law_27 rfl (lv_at hl 1 rfl) ?_
    refine lv_iload_n hx hb dL_law_28 rfl (lv_at hl 0 rfl) ?_
    refine va_sld hx hb hX hbl hbA hS (vp_in_nI (n := i) (by omega) (by omega)) dL_law_29 ?_
    refine lv_bipush (v := nI 31) hx hb dL_law_30 (by decide) ?_
    refine lv_iand hx hb dL_law_32 ?_
    generalize xs (nI i).toNatClampNeg &&& nI 31 = w
    have kk : ∀ (H : Heap) (locs : List Loc) (sf : Nat → Bool × Nat × Int) (x y : Nat) (tx : Nat → Int32) (wa wb wc we : RWt) (rg : Nat → RWt) (tx2 : Nat → Int32) (T : List Nat), lw_I s D cA ad1 ad2 H locs sf x y tx wa wb wc we rg tx2 T → W p l e room_1 s m #[Value.ref b] below meth c H locs 54 9350 Q (F0 m 868 ls []) := by
      intro H locs sf x y tx wa wb wc we rg tx2 T I
      refine lv_iinc (v := nI (i + 6)) (lv' := [(3, .int (nI (i + 6))), (0, .ref b), (1, .ref (ad1 0)), (2, .ref (ad2 0))]) hx hb dL_law_868 hl (k := 0) rfl (nI_inc i 6) (by decide) rfl (fun ls hl => ?_)
      refine lv_goto (tgt := 18) hx hb dL_law_871 (by decide) ?_
      exact ih (i + 6) (by omega) (by omega) H locs sf x y tx wa wb wc we rg tx2 T I ls hl
    have hL2 : L < 2 ^ 31 := by omega
    by_cases hw : 0 ≤ w.toInt ∧ w.toInt ≤ 16
    · rcases (show w.toInt = 0 ∨ w.toInt = 1 ∨ w.toInt = 2 ∨ w.toInt = 3 ∨ w.toInt = 4 ∨ w.toInt = 5 ∨ w.toInt = 6 ∨ w.toInt = 7 ∨ w.toInt = 8 ∨ w.toInt = 9 ∨ w.toInt = 10 ∨ w.toInt = 11 ∨ w.toInt = 12 ∨ w.toInt = 13 ∨ w.toInt = 14 ∨ w.toInt = 15 ∨ w.toInt = 16 by omega) with h | h | h | h | h | h | h | h | h | h | h | h | h | h | h | h | h
      · exact lv_tableIn (off := 83) hx hb dL_law_33 (by rw [h]; decide) (by rw [h]; decide) (by rw [h]; rfl) (by decide) (lw_c0 C hL2 I hl hi kk)
      · exact lv_tableIn (off := 156) hx hb dL_law_33 (by rw [h]; decide) (by rw [h]; decide) (by rw [h]; rfl) (by decide) (lw_c1 C hL2 I hl hi kk)
      · exact lv_tableIn (off := 219) hx hb dL_law_33 (by rw [h]; decide) (by rw [h]; decide) (by rw [h]; rfl) (by decide) (lw_c2 C hL2 I hl hi kk)
      · exact lv_tableIn (off := 272) hx hb dL_law_33 (by rw [h]; decide) (by rw [h]; decide) (by rw [h]; rfl) (by decide) (lw_c3 C hL2 I hl hi kk)
      · exact lv_tableIn (off := 335) hx hb dL_law_33 (by rw [h]; decide) (by rw [h]; decide) (by rw [h]; rfl) (by decide) (lw_c4 C hL2 I hl hi kk)
      · exact lv_tableIn (off := 388) hx hb dL_law_33 (by rw [h]; decide) (by rw [h]; decide) (by rw [h]; rfl) (by decide) (lw_c5 C hL2 I hl hi kk)
      · exact lv_tableIn (off := 441) hx hb dL_law_33 (by rw [h]; decide) (by rw [h]; decide) (by rw [h]; rfl) (by decide) (lw_c6 C hL2 I hl hi kk)
      · exact lv_tableIn (off := 494) hx hb dL_law_33 (by rw [h]; decide) (by rw [h]; decide) (by rw [h]; rfl) (by decide) (lw_c7 C hL2 I hl hi kk)
      · exact lv_tableIn (off := 537) hx hb dL_law_33 (by rw [h]; decide) (by rw [h]; decide) (by rw [h]; rfl) (by decide) (lw_c8 C hL2 I hl hi kk)
      · exact lv_tableIn (off := 590) hx hb dL_law_33 (by rw [h]; decide) (by rw [h]; decide) (by rw [h]; rfl) (by decide) (lw_c9 C hL2 I hl hi kk)
      · exact lv_tableIn (off := 633) hx hb dL_law_33 (by rw [h]; decide) (by rw [h]; decide) (by rw [h]; rfl) (by decide) (lw_c10 C hL2 I hl hi kk)
      · exact lv_tableIn (off := 666) hx hb dL_law_33 (by rw [h]; decide) (by rw [h]; decide) (by rw [h]; rfl) (by decide) (lw_c11 C hL2 I hl hi kk)
      · exact lv_tableIn (off := 699) hx hb dL_law_33 (by rw [h]; decide) (by rw [h]; decide) (by rw [h]; rfl) (by decide) (lw_c12 C hL2 I hl hi kk)
      · exact lv_tableIn (off := 732) hx hb dL_law_33 (by rw [h]; decide) (by rw [h]; decide) (by rw [h]; rfl) (by decide) (lw_c13 C hL2 I hl hi kk)
      · exact lv_tableIn (off := 765) hx hb dL_law_33 (by rw [h]; decide) (by rw [h]; decide) (by rw [h]; rfl) (by decide) (lw_c14 C hL2 I hl hi kk)
      · exact lv_tableIn (off := 789) hx hb dL_law_33 (by rw [h]; decide) (by rw [h]; decide) (by rw [h]; rfl) (by decide) (lw_c15 C hL2 I hl hi kk)
      · exact lv_tableIn (off := 812) hx hb dL_law_33 (by rw [h]; decide) (by rw [h]; decide) (by rw [h]; rfl) (by decide) (lw_c16 C hL2 I hl hi kk)
    · refine lv_tableOut (tgt := 868) hx hb dL_law_33 (by omega) (by decide) ?_
      exact kk H locs sf x y tx wa wb wc we rg tx2 T I
