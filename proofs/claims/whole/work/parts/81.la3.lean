set_option maxHeartbeats 4000000 in
set_option maxRecDepth 100000 in
theorem lw_c9 {p : Program} {l : Launch} {e : Env} {s : State} {m : MethodId} {below : List Frame} {meth : Method} {c : Code} {b L : Nat} {xs : Nat → Int32} {D : va_G} {cA : Nat → ClassId} {tT : Nat} {ad1 ad2 : Nat → Nat} {Q : State → Prop} (C : lw_C p s m c b L xs D cA tT ad1 ad2) (hL : L < 2 ^ 31) {H : Heap} {locs : List Loc} {sf : Nat → Bool × Nat × Int} {x y : Nat} {tx : Nat → Int32} {wa wb wc we : RWt} {rg : Nat → RWt} {tx2 : Nat → Int32} {T : List Nat} (I : lw_I s D cA ad1 ad2 H locs sf x y tx wa wb wc we rg tx2 T) {ls : Array Slot} {i : Nat} (hl : lv_has ls 4 [(3, .int (nI i)), (0, .ref b), (1, .ref (ad1 0)), (2, .ref (ad2 0))]) (hi : i + 6 ≤ L)
    (kk : ∀ (H : Heap) (locs : List Loc) (sf : Nat → Bool × Nat × Int) (x y : Nat) (tx : Nat → Int32) (wa wb wc we : RWt) (rg : Nat → RWt) (tx2 : Nat → Int32) (T : List Nat), lw_I s D cA ad1 ad2 H locs sf x y tx wa wb wc we rg tx2 T → W p l e room_1 s m #[Value.ref b] below meth c H locs 54 9350 Q (F0 m 868 ls [])) : W p l e room_1 s m #[Value.ref b] below meth c H locs 54 9350 Q (F0 m 623 ls []) := by
  obtain ⟨hx, hb, hml, hown, hts, hX, hbl, hK, hT, hD1, hD2, hap⟩ := C
  obtain ⟨hc, hm, ht1, ht2, hT9, hP1, hP2, hS⟩ := I
  have hbA : ¬ (fun q : Nat => s.heap.size ≤ q) b := Nat.not_le.mpr hbl
  have hA : ∀ q : Nat, s.heap.size ≤ q → (fun q : Nat => s.heap.size ≤ q) q := fun _ h => h
  refine lv_aload_n hx hb dL_law_623 rfl (lv_at hl 2 rfl) ?_
  refine la_arg (A := (fun q : Nat => s.heap.size ≤ q)) 1 hx hb hX hbl hbA hS hl rfl rfl dL_law_624 dL_law_625 dL_law_626 dL_law_627 dL_law_628 (by decide) (by omega) hL ?_
  refine la_arg (A := (fun q : Nat => s.heap.size ≤ q)) 2 hx hb hX hbl hbA hS hl rfl rfl dL_law_629 dL_law_630 dL_law_631 dL_law_632 dL_law_633 (by decide) (by omega) hL ?_
  refine la_arg (A := (fun q : Nat => s.heap.size ≤ q)) 3 hx hb hX hbl hbA hS hl rfl rfl dL_law_634 dL_law_635 dL_law_636 dL_law_637 dL_law_638 (by decide) (by omega) hL ?_
  have hF1 := lw_sub (wm_D (g' := cg cA ad1 sf x y tx T.length) hD1) hS hA
  refine va_calli (va_runV (b := ad1 0) (As := [.int (iZ (xs (i + 1)).toInt), .int (iZ (xs (i + 2)).toInt), .int (iZ (xs (i + 3)).toInt)]) (rest := []) ⟨hx, hb, hml, hown, hts⟩ (c_X2_power l D cA tT (va_A (wm_W 31 ad1 (cg cA ad1 sf x y tx T.length)) H.size) ad1 H.size hc (xb1 (xs (i + 1))) (xb2 (xs (i + 1))) (xb1 (xs (i + 2))) (xb2 (xs (i + 2))) (xb1 (xs (i + 3))) (xb2 (xs (i + 3)))) (cwV 3 hts gL_law_X2_power rfl rfl rfl (by decide +kernel) ⟨(Nat.le_of_ble_eq_true rfl), (Nat.le_of_ble_eq_true rfl)⟩) (lw_preV (k := 0) hP1 hK (wm_D hD1) hT hS hA (by decide) rfl rfl) rfl rfl hl.1 rfl (lv_room (Nat.le_of_ble_eq_true rfl)) dL_law_639 ⟨(Nat.le_of_ble_eq_true rfl), (Nat.le_of_ble_eq_true rfl)⟩) hS (fun q _ h => hF1 q h) hF1 (fun r1 u t H1 locs1 ht hvm hw hB hz1 hk1 hS1 => ?_)
  obtain ⟨e1, sf1, x1, y1, hc1, es1, rfl⟩ := hw
  obtain ⟨hP1, -⟩ := wd_back ht hB
  have hP2 := lw_kept hP2 hk1 hap
  clear hF1 hB hvm ht hz1 hk1 hS
  have hS := hS1
  refine lv_aload_n hx hb dL_law_642 rfl (lv_at hl 3 rfl) ?_
  refine la_arg (A := (fun q : Nat => s.heap.size ≤ q)) 1 hx hb hX hbl hbA hS hl rfl rfl dL_law_643 dL_law_644 dL_law_645 dL_law_646 dL_law_647 (by decide) (by omega) hL ?_
  refine la_arg (A := (fun q : Nat => s.heap.size ≤ q)) 2 hx hb hX hbl hbA hS hl rfl rfl dL_law_648 dL_law_649 dL_law_650 dL_law_651 dL_law_652 (by decide) (by omega) hL ?_
  refine la_arg (A := (fun q : Nat => s.heap.size ≤ q)) 3 hx hb hX hbl hbA hS hl rfl rfl dL_law_653 dL_law_654 dL_law_655 dL_law_656 dL_law_657 (by decide) (by omega) hL ?_
  have hF2 := lw_sub (wm_D (g' := mg cA ad2 wa wb wc we rg tx2 T.length) hD2) hS hA
  refine va_calli (va_runV (b := ad2 0) (As := [.int (iZ (xs (i + 1)).toInt), .int (iZ (xs (i + 2)).toInt), .int (iZ (xs (i + 3)).toInt)]) (rest := [.int r1]) ⟨hx, hb, hml, hown, hts⟩ (c_X4_power l D cA tT (va_A (wm_W 23 ad2 (mg cA ad2 wa wb wc we rg tx2 T.length)) H1.size) ad2 H1.size hm hc.2.2.2.2 (xb1 (xs (i + 1))) (xb2 (xs (i + 1))) (xb1 (xs (i + 2))) (xb2 (xs (i + 2))) (xb1 (xs (i + 3))) (xb2 (xs (i + 3)))) (cwV 3 hts gL_law_X4_power rfl rfl rfl (by decide +kernel) ⟨(Nat.le_of_ble_eq_true rfl), (Nat.le_of_ble_eq_true rfl)⟩) (lw_preV (k := 0) hP2 hK (wm_D hD2) hT hS hA (by decide) rfl rfl) rfl rfl hl.1 rfl (lv_room (Nat.le_of_ble_eq_true rfl)) dL_law_658 ⟨(Nat.le_of_ble_eq_true rfl), (Nat.le_of_ble_eq_true rfl)⟩) hS (fun q _ h => hF2 q h) hF2 (fun r2 u2 t2 H2 locs2 ht hvm hw hB hz1 hk1 hS2 => ?_)
  obtain ⟨e2, wa1, wb1, wc1, we1, rg1, hm1, rfl⟩ := hw
  obtain ⟨hP2, -⟩ := wd_back ht hB
  have hP1 := lw_kept hP1 hk1 (fun i j hi hj h => hap j i hj hi h.symm)
  refine lv_icmp_eq (tgt := 868) hx hb dL_law_661 (by decide) (fun _ => ?_) (fun q => absurd (e1.trans e2.symm) q)
  exact kk _ _ sf1 x1 y1 tx wa1 wb1 wc1 we1 rg1 tx2 T ⟨hc1, by rw [es1]; exact hm1, ht1, ht2, hT9, hP1, hP2, hS2⟩
set_option maxHeartbeats 4000000 in
set_option maxRecDepth 100000 in
theorem lw_c10 {p : Program} {l : Launch} {e : Env} {s : State} {m : MethodId} {below : List Frame} {meth : Method} {c : Code} {b L : Nat} {xs : Nat → Int32} {D : va_G} {cA : Nat → ClassId} {tT : Nat} {ad1 ad2 : Nat → Nat} {Q : State → Prop} (C : lw_C p s m c b L xs D cA tT ad1 ad2) (hL : L < 2 ^ 31) {H : Heap} {locs : List Loc} {sf : Nat → Bool × Nat × Int} {x y : Nat} {tx : Nat → Int32} {wa wb wc we : RWt} {rg : Nat → RWt} {tx2 : Nat → Int32} {T : List Nat} (I : lw_I s D cA ad1 ad2 H locs sf x y tx wa wb wc we rg tx2 T) {ls : Array Slot} {i : Nat} (hl : lv_has ls 4 [(3, .int (nI i)), (0, .ref b), (1, .ref (ad1 0)), (2, .ref (ad2 0))]) (hi : i + 6 ≤ L)
    (kk : ∀ (H : Heap) (locs : List Loc) (sf : Nat → Bool × Nat × Int) (x y : Nat) (tx : Nat → Int32) (wa wb wc we : RWt) (rg : Nat → RWt) (tx2 : Nat → Int32) (T : List Nat), lw_I s D cA ad1 ad2 H locs sf x y tx wa wb wc we rg tx2 T → W p l e room_1 s m #[Value.ref b] below meth c H locs 54 9350 Q (F0 m 868 ls [])) : W p l e room_1 s m #[Value.ref b] below meth c H locs 54 9350 Q (F0 m 666 ls []) := by
  obtain ⟨hx, hb, hml, hown, hts, hX, hbl, hK, hT, hD1, hD2, hap⟩ := C
  obtain ⟨hc, hm, ht1, ht2, hT9, hP1, hP2, hS⟩ := I
  have hbA : ¬ (fun q : Nat => s.heap.size ≤ q) b := Nat.not_le.mpr hbl
  have hA : ∀ q : Nat, s.heap.size ≤ q → (fun q : Nat => s.heap.size ≤ q) q := fun _ h => h
  refine lv_aload_n hx hb dL_law_666 rfl (lv_at hl 2 rfl) ?_
  refine la_arg (A := (fun q : Nat => s.heap.size ≤ q)) 1 hx hb hX hbl hbA hS hl rfl rfl dL_law_667 dL_law_668 dL_law_669 dL_law_670 dL_law_671 (by decide) (by omega) hL ?_
  refine la_arg (A := (fun q : Nat => s.heap.size ≤ q)) 2 hx hb hX hbl hbA hS hl rfl rfl dL_law_672 dL_law_673 dL_law_674 dL_law_675 dL_law_676 (by decide) (by omega) hL ?_
  have hF1 := lw_sub (wm_D (g' := cg cA ad1 sf x y tx T.length) hD1) hS hA
  refine va_calli (va_runV (b := ad1 0) (As := [.int (iZ (xs (i + 1)).toInt), .int (iZ (xs (i + 2)).toInt)]) (rest := []) ⟨hx, hb, hml, hown, hts⟩ (c_X2_compare l D cA tT (va_A (wm_W 31 ad1 (cg cA ad1 sf x y tx T.length)) H.size) ad1 H.size hc (xb1 (xs (i + 1))) (xb2 (xs (i + 1))) (xb1 (xs (i + 2))) (xb2 (xs (i + 2)))) (cwV 2 hts gL_law_X2_compare rfl rfl rfl (by decide +kernel) ⟨(Nat.le_of_ble_eq_true rfl), (Nat.le_of_ble_eq_true rfl)⟩) (lw_preV (k := 0) hP1 hK (wm_D hD1) hT hS hA (by decide) rfl rfl) rfl rfl hl.1 rfl (lv_room (Nat.le_of_ble_eq_true rfl)) dL_law_677 ⟨(Nat.le_of_ble_eq_true rfl), (Nat.le_of_ble_eq_true rfl)⟩) hS (fun q _ h => hF1 q h) hF1 (fun r1 u t H1 locs1 ht hvm hw hB hz1 hk1 hS1 => ?_)
  obtain ⟨e1, x1, y1, hx1, hy1, rfl⟩ := hw
  obtain ⟨hP1, -⟩ := wd_back ht hB
  have hP2 := lw_kept hP2 hk1 hap
  clear hF1 hB hvm ht hz1 hk1 hS
  have hS := hS1
  refine lv_aload_n hx hb dL_law_680 rfl (lv_at hl 3 rfl) ?_
  refine la_arg (A := (fun q : Nat => s.heap.size ≤ q)) 1 hx hb hX hbl hbA hS hl rfl rfl dL_law_681 dL_law_682 dL_law_683 dL_law_684 dL_law_685 (by decide) (by omega) hL ?_
  refine la_arg (A := (fun q : Nat => s.heap.size ≤ q)) 2 hx hb hX hbl hbA hS hl rfl rfl dL_law_686 dL_law_687 dL_law_688 dL_law_689 dL_law_690 (by decide) (by omega) hL ?_
  have hF2 := lw_sub (wm_D (g' := mg cA ad2 wa wb wc we rg tx2 T.length) hD2) hS hA
  refine va_calli (va_runV (b := ad2 0) (As := [.int (iZ (xs (i + 1)).toInt), .int (iZ (xs (i + 2)).toInt)]) (rest := [.int r1]) ⟨hx, hb, hml, hown, hts⟩ (c_X4_compare l D cA tT (va_A (wm_W 23 ad2 (mg cA ad2 wa wb wc we rg tx2 T.length)) H1.size) ad2 H1.size hm hc.2.2.2.2 (xb1 (xs (i + 1))) (xb2 (xs (i + 1))) (xb1 (xs (i + 2))) (xb2 (xs (i + 2)))) (cwV 2 hts gL_law_X4_compare rfl rfl rfl (by decide +kernel) ⟨(Nat.le_of_ble_eq_true rfl), (Nat.le_of_ble_eq_true rfl)⟩) (lw_preV (k := 0) hP2 hK (wm_D hD2) hT hS hA (by decide) rfl rfl) rfl rfl hl.1 rfl (lv_room (Nat.le_of_ble_eq_true rfl)) dL_law_691 ⟨(Nat.le_of_ble_eq_true rfl), (Nat.le_of_ble_eq_true rfl)⟩) hS (fun q _ h => hF2 q h) hF2 (fun r2 u2 t2 H2 locs2 ht hvm hw hB hz1 hk1 hS2 => ?_)
  obtain ⟨e2, wa1, wb1, rfl⟩ := hw
  obtain ⟨hP2, -⟩ := wd_back ht hB
  have hP1 := lw_kept hP1 hk1 (fun i j hi hj h => hap j i hj hi h.symm)
  refine lv_icmp_eq (tgt := 868) hx hb dL_law_694 (by decide) (fun _ => ?_) (fun q => absurd (e1.trans e2.symm) q)
  exact kk _ _ sf x1 y1 tx wa1 wb1 wc we rg tx2 T ⟨⟨hx1, hy1, hc.2.2⟩, hm, ht1, ht2, hT9, hP1, hP2, hS2⟩
set_option maxHeartbeats 4000000 in
set_option maxRecDepth 100000 in
theorem lw_c11 {p : Program} {l : Launch} {e : Env} {s : State} {m : MethodId} {below : List Frame} {meth : Method} {c : Code} {b L : Nat} {xs : Nat → Int32} {D : va_G} {cA : Nat → ClassId} {tT : Nat} {ad1 ad2 : Nat → Nat} {Q : State → Prop} (C : lw_C p s m c b L xs D cA tT ad1 ad2) (hL : L < 2 ^ 31) {H : Heap} {locs : List Loc} {sf : Nat → Bool × Nat × Int} {x y : Nat} {tx : Nat → Int32} {wa wb wc we : RWt} {rg : Nat → RWt} {tx2 : Nat → Int32} {T : List Nat} (I : lw_I s D cA ad1 ad2 H locs sf x y tx wa wb wc we rg tx2 T) {ls : Array Slot} {i : Nat} (hl : lv_has ls 4 [(3, .int (nI i)), (0, .ref b), (1, .ref (ad1 0)), (2, .ref (ad2 0))]) (hi : i + 6 ≤ L)
    (kk : ∀ (H : Heap) (locs : List Loc) (sf : Nat → Bool × Nat × Int) (x y : Nat) (tx : Nat → Int32) (wa wb wc we : RWt) (rg : Nat → RWt) (tx2 : Nat → Int32) (T : List Nat), lw_I s D cA ad1 ad2 H locs sf x y tx wa wb wc we rg tx2 T → W p l e room_1 s m #[Value.ref b] below meth c H locs 54 9350 Q (F0 m 868 ls [])) : W p l e room_1 s m #[Value.ref b] below meth c H locs 54 9350 Q (F0 m 699 ls []) := by
  obtain ⟨hx, hb, hml, hown, hts, hX, hbl, hK, hT, hD1, hD2, hap⟩ := C
  obtain ⟨hc, hm, ht1, ht2, hT9, hP1, hP2, hS⟩ := I
  have hbA : ¬ (fun q : Nat => s.heap.size ≤ q) b := Nat.not_le.mpr hbl
  have hA : ∀ q : Nat, s.heap.size ≤ q → (fun q : Nat => s.heap.size ≤ q) q := fun _ h => h
  refine lv_aload_n hx hb dL_law_699 rfl (lv_at hl 2 rfl) ?_
  refine la_arg (A := (fun q : Nat => s.heap.size ≤ q)) 1 hx hb hX hbl hbA hS hl rfl rfl dL_law_700 dL_law_701 dL_law_702 dL_law_703 dL_law_704 (by decide) (by omega) hL ?_
  refine la_arg (A := (fun q : Nat => s.heap.size ≤ q)) 2 hx hb hX hbl hbA hS hl rfl rfl dL_law_705 dL_law_706 dL_law_707 dL_law_708 dL_law_709 (by decide) (by omega) hL ?_
  have hF1 := lw_sub (wm_D (g' := cg cA ad1 sf x y tx T.length) hD1) hS hA
  refine va_calli (va_runV (b := ad1 0) (As := [.int (iZ (xs (i + 1)).toInt), .int (iZ (xs (i + 2)).toInt)]) (rest := []) ⟨hx, hb, hml, hown, hts⟩ (c_X2_same l D cA tT (va_A (wm_W 31 ad1 (cg cA ad1 sf x y tx T.length)) H.size) ad1 H.size hc (xb1 (xs (i + 1))) (xb2 (xs (i + 1))) (xb1 (xs (i + 2))) (xb2 (xs (i + 2)))) (cwV 2 hts gL_law_X2_same rfl rfl rfl (by decide +kernel) ⟨(Nat.le_of_ble_eq_true rfl), (Nat.le_of_ble_eq_true rfl)⟩) (lw_preV (k := 0) hP1 hK (wm_D hD1) hT hS hA (by decide) rfl rfl) rfl rfl hl.1 rfl (lv_room (Nat.le_of_ble_eq_true rfl)) dL_law_710 ⟨(Nat.le_of_ble_eq_true rfl), (Nat.le_of_ble_eq_true rfl)⟩) hS (fun q _ h => hF1 q h) hF1 (fun r1 u t H1 locs1 ht hvm hw hB hz1 hk1 hS1 => ?_)
  obtain ⟨e1, x1, y1, hx1, hy1, rfl⟩ := hw
  obtain ⟨hP1, -⟩ := wd_back ht hB
  have hP2 := lw_kept hP2 hk1 hap
  clear hF1 hB hvm ht hz1 hk1 hS
  have hS := hS1
  refine lv_aload_n hx hb dL_law_713 rfl (lv_at hl 3 rfl) ?_
  refine la_arg (A := (fun q : Nat => s.heap.size ≤ q)) 1 hx hb hX hbl hbA hS hl rfl rfl dL_law_714 dL_law_715 dL_law_716 dL_law_717 dL_law_718 (by decide) (by omega) hL ?_
  refine la_arg (A := (fun q : Nat => s.heap.size ≤ q)) 2 hx hb hX hbl hbA hS hl rfl rfl dL_law_719 dL_law_720 dL_law_721 dL_law_722 dL_law_723 (by decide) (by omega) hL ?_
  have hF2 := lw_sub (wm_D (g' := mg cA ad2 wa wb wc we rg tx2 T.length) hD2) hS hA
  refine va_calli (va_runV (b := ad2 0) (As := [.int (iZ (xs (i + 1)).toInt), .int (iZ (xs (i + 2)).toInt)]) (rest := [.int r1]) ⟨hx, hb, hml, hown, hts⟩ (c_X4_same l D cA tT (va_A (wm_W 23 ad2 (mg cA ad2 wa wb wc we rg tx2 T.length)) H1.size) ad2 H1.size hm hc.2.2.2.2 (xb1 (xs (i + 1))) (xb2 (xs (i + 1))) (xb1 (xs (i + 2))) (xb2 (xs (i + 2)))) (cwV 2 hts gL_law_X4_same rfl rfl rfl (by decide +kernel) ⟨(Nat.le_of_ble_eq_true rfl), (Nat.le_of_ble_eq_true rfl)⟩) (lw_preV (k := 0) hP2 hK (wm_D hD2) hT hS hA (by decide) rfl rfl) rfl rfl hl.1 rfl (lv_room (Nat.le_of_ble_eq_true rfl)) dL_law_724 ⟨(Nat.le_of_ble_eq_true rfl), (Nat.le_of_ble_eq_true rfl)⟩) hS (fun q _ h => hF2 q h) hF2 (fun r2 u2 t2 H2 locs2 ht hvm hw hB hz1 hk1 hS2 => ?_)
  obtain ⟨e2, rfl⟩ := hw
  obtain ⟨hP2, -⟩ := wd_back ht hB
  have hP1 := lw_kept hP1 hk1 (fun i j hi hj h => hap j i hj hi h.symm)
  refine lv_icmp_eq (tgt := 868) hx hb dL_law_727 (by decide) (fun _ => ?_) (fun q => absurd (e1.trans e2.symm) q)
  exact kk _ _ sf x1 y1 tx wa wb wc we rg tx2 T ⟨⟨hx1, hy1, hc.2.2⟩, hm, ht1, ht2, hT9, hP1, hP2, hS2⟩
set_option maxHeartbeats 4000000 in
set_option maxRecDepth 100000 in
theorem lw_c12 {p : Program} {l : Launch} {e : Env} {s : State} {m : MethodId} {below : List Frame} {meth : Method} {c : Code} {b L : Nat} {xs : Nat → Int32} {D : va_G} {cA : Nat → ClassId} {tT : Nat} {ad1 ad2 : Nat → Nat} {Q : State → Prop} (C : lw_C p s m c b L xs D cA tT ad1 ad2) (hL : L < 2 ^ 31) {H : Heap} {locs : List Loc} {sf : Nat → Bool × Nat × Int} {x y : Nat} {tx : Nat → Int32} {wa wb wc we : RWt} {rg : Nat → RWt} {tx2 : Nat → Int32} {T : List Nat} (I : lw_I s D cA ad1 ad2 H locs sf x y tx wa wb wc we rg tx2 T) {ls : Array Slot} {i : Nat} (hl : lv_has ls 4 [(3, .int (nI i)), (0, .ref b), (1, .ref (ad1 0)), (2, .ref (ad2 0))]) (hi : i + 6 ≤ L)
    (kk : ∀ (H : Heap) (locs : List Loc) (sf : Nat → Bool × Nat × Int) (x y : Nat) (tx : Nat → Int32) (wa wb wc we : RWt) (rg : Nat → RWt) (tx2 : Nat → Int32) (T : List Nat), lw_I s D cA ad1 ad2 H locs sf x y tx wa wb wc we rg tx2 T → W p l e room_1 s m #[Value.ref b] below meth c H locs 54 9350 Q (F0 m 868 ls [])) : W p l e room_1 s m #[Value.ref b] below meth c H locs 54 9350 Q (F0 m 732 ls []) := by
  obtain ⟨hx, hb, hml, hown, hts, hX, hbl, hK, hT, hD1, hD2, hap⟩ := C
  obtain ⟨hc, hm, ht1, ht2, hT9, hP1, hP2, hS⟩ := I
  have hbA : ¬ (fun q : Nat => s.heap.size ≤ q) b := Nat.not_le.mpr hbl
  have hA : ∀ q : Nat, s.heap.size ≤ q → (fun q : Nat => s.heap.size ≤ q) q := fun _ h => h
  refine lv_aload_n hx hb dL_law_732 rfl (lv_at hl 2 rfl) ?_
  refine la_arg (A := (fun q : Nat => s.heap.size ≤ q)) 1 hx hb hX hbl hbA hS hl rfl rfl dL_law_733 dL_law_734 dL_law_735 dL_law_736 dL_law_737 (by decide) (by omega) hL ?_
  refine la_arg (A := (fun q : Nat => s.heap.size ≤ q)) 2 hx hb hX hbl hbA hS hl rfl rfl dL_law_738 dL_law_739 dL_law_740 dL_law_741 dL_law_742 (by decide) (by omega) hL ?_
  have hF1 := lw_sub (wm_D (g' := cg cA ad1 sf x y tx T.length) hD1) hS hA
  refine va_calli (va_runV (b := ad1 0) (As := [.int (iZ (xs (i + 1)).toInt), .int (iZ (xs (i + 2)).toInt)]) (rest := []) ⟨hx, hb, hml, hown, hts⟩ (c_X2_look l D cA tT (va_A (wm_W 31 ad1 (cg cA ad1 sf x y tx T.length)) H.size) ad1 H.size hc (xb1 (xs (i + 1))) (xb2 (xs (i + 1))) (xb1 (xs (i + 2))) (xb2 (xs (i + 2)))) (cwV 2 hts gL_law_X2_look rfl rfl rfl (by decide +kernel) ⟨(Nat.le_of_ble_eq_true rfl), (Nat.le_of_ble_eq_true rfl)⟩) (lw_preV (k := 0) hP1 hK (wm_D hD1) hT hS hA (by decide) rfl rfl) rfl rfl hl.1 rfl (lv_room (Nat.le_of_ble_eq_true rfl)) dL_law_743 ⟨(Nat.le_of_ble_eq_true rfl), (Nat.le_of_ble_eq_true rfl)⟩) hS (fun q _ h => hF1 q h) hF1 (fun r1 u t H1 locs1 ht hvm hw hB hz1 hk1 hS1 => ?_)
  obtain ⟨e1, x1, y1, hx1, hy1, rfl⟩ := hw
  obtain ⟨hP1, -⟩ := wd_back ht hB
  have hP2 := lw_kept hP2 hk1 hap
  clear hF1 hB hvm ht hz1 hk1 hS
  have hS := hS1
  refine lv_aload_n hx hb dL_law_746 rfl (lv_at hl 3 rfl) ?_
  refine la_arg (A := (fun q : Nat => s.heap.size ≤ q)) 1 hx hb hX hbl hbA hS hl rfl rfl dL_law_747 dL_law_748 dL_law_749 dL_law_750 dL_law_751 (by decide) (by omega) hL ?_
  refine la_arg (A := (fun q : Nat => s.heap.size ≤ q)) 2 hx hb hX hbl hbA hS hl rfl rfl dL_law_752 dL_law_753 dL_law_754 dL_law_755 dL_law_756 (by decide) (by omega) hL ?_
  have hF2 := lw_sub (wm_D (g' := mg cA ad2 wa wb wc we rg tx2 T.length) hD2) hS hA
  refine va_calli (va_runV (b := ad2 0) (As := [.int (iZ (xs (i + 1)).toInt), .int (iZ (xs (i + 2)).toInt)]) (rest := [.int r1]) ⟨hx, hb, hml, hown, hts⟩ (c_X4_look l D cA tT (va_A (wm_W 23 ad2 (mg cA ad2 wa wb wc we rg tx2 T.length)) H1.size) ad2 H1.size hm hc.2.2.2.2 (xb1 (xs (i + 1))) (xb2 (xs (i + 1))) (xb1 (xs (i + 2))) (xb2 (xs (i + 2)))) (cwV 2 hts gL_law_X4_look rfl rfl rfl (by decide +kernel) ⟨(Nat.le_of_ble_eq_true rfl), (Nat.le_of_ble_eq_true rfl)⟩) (lw_preV (k := 0) hP2 hK (wm_D hD2) hT hS hA (by decide) rfl rfl) rfl rfl hl.1 rfl (lv_room (Nat.le_of_ble_eq_true rfl)) dL_law_757 ⟨(Nat.le_of_ble_eq_true rfl), (Nat.le_of_ble_eq_true rfl)⟩) hS (fun q _ h => hF2 q h) hF2 (fun r2 u2 t2 H2 locs2 ht hvm hw hB hz1 hk1 hS2 => ?_)
  obtain ⟨e2, rfl⟩ := hw
  obtain ⟨hP2, -⟩ := wd_back ht hB
  have hP1 := lw_kept hP1 hk1 (fun i j hi hj h => hap j i hj hi h.symm)
  refine lv_icmp_eq (tgt := 868) hx hb dL_law_760 (by decide) (fun _ => ?_) (fun q => absurd (e1.trans e2.symm) q)
  exact kk _ _ sf x1 y1 tx wa wb wc we rg tx2 T ⟨⟨hx1, hy1, hc.2.2⟩, hm, ht1, ht2, hT9, hP1, hP2, hS2⟩
set_option maxHeartbeats 4000000 in
set_option maxRecDepth 100000 in
theorem lw_c13 {p : Program} {l : Launch} {e : Env} {s : State} {m : MethodId} {below : List Frame} {meth : Method} {c : Code} {b L : Nat} {xs : Nat → Int32} {D : va_G} {cA : Nat → ClassId} {tT : Nat} {ad1 ad2 : Nat → Nat} {Q : State → Prop} (C : lw_C p s m c b L xs D cA tT ad1 ad2) (hL : L < 2 ^ 31) {H : Heap} {locs : List Loc} {sf : Nat → Bool × Nat × Int} {x y : Nat} {tx : Nat → Int32} {wa wb wc we : RWt} {rg : Nat → RWt} {tx2 : Nat → Int32} {T : List Nat} (I : lw_I s D cA ad1 ad2 H locs sf x y tx wa wb wc we rg tx2 T) {ls : Array Slot} {i : Nat} (hl : lv_has ls 4 [(3, .int (nI i)), (0, .ref b), (1, .ref (ad1 0)), (2, .ref (ad2 0))]) (hi : i + 6 ≤ L)
    (kk : ∀ (H : Heap) (locs : List Loc) (sf : Nat → Bool × Nat × Int) (x y : Nat) (tx : Nat → Int32) (wa wb wc we : RWt) (rg : Nat → RWt) (tx2 : Nat → Int32) (T : List Nat), lw_I s D cA ad1 ad2 H locs sf x y tx wa wb wc we rg tx2 T → W p l e room_1 s m #[Value.ref b] below meth c H locs 54 9350 Q (F0 m 868 ls [])) : W p l e room_1 s m #[Value.ref b] below meth c H locs 54 9350 Q (F0 m 765 ls []) := by
  obtain ⟨hx, hb, hml, hown, hts, hX, hbl, hK, hT, hD1, hD2, hap⟩ := C
  obtain ⟨hc, hm, ht1, ht2, hT9, hP1, hP2, hS⟩ := I
  have hbA : ¬ (fun q : Nat => s.heap.size ≤ q) b := Nat.not_le.mpr hbl
  have hA : ∀ q : Nat, s.heap.size ≤ q → (fun q : Nat => s.heap.size ≤ q) q := fun _ h => h
  refine lv_aload_n hx hb dL_law_765 rfl (lv_at hl 2 rfl) ?_
  refine la_arg (A := (fun q : Nat => s.heap.size ≤ q)) 1 hx hb hX hbl hbA hS hl rfl rfl dL_law_766 dL_law_767 dL_law_768 dL_law_769 dL_law_770 (by decide) (by omega) hL ?_
  refine la_arg (A := (fun q : Nat => s.heap.size ≤ q)) 2 hx hb hX hbl hbA hS hl rfl rfl dL_law_771 dL_law_772 dL_law_773 dL_law_774 dL_law_775 (by decide) (by omega) hL ?_
  have hF1 := lw_sub (wm_D (g' := cg cA ad1 sf x y tx T.length) hD1) hS hA
  refine va_calli (va_runV (b := ad1 0) (As := [.int (iZ (xs (i + 1)).toInt), .int (iZ (xs (i + 2)).toInt)]) (rest := []) ⟨hx, hb, hml, hown, hts⟩ (c_X2_digit l D cA tT (va_A (wm_W 31 ad1 (cg cA ad1 sf x y tx T.length)) H.size) ad1 H.size hc (xb1 (xs (i + 1))) (xb2 (xs (i + 1))) (xb1 (xs (i + 2))) (xb2 (xs (i + 2)))) (cwV 2 hts gL_law_X2_digit rfl rfl rfl (by decide +kernel) ⟨(Nat.le_of_ble_eq_true rfl), (Nat.le_of_ble_eq_true rfl)⟩) (lw_preV (k := 0) hP1 hK (wm_D hD1) hT hS hA (by decide) rfl rfl) rfl rfl hl.1 rfl (lv_room (Nat.le_of_ble_eq_true rfl)) dL_law_776 ⟨(Nat.le_of_ble_eq_true rfl), (Nat.le_of_ble_eq_true rfl)⟩) hS (fun q _ h => hF1 q h) hF1 (fun r1 u t H1 locs1 ht hvm hw hB hz1 hk1 hS1 => ?_)
  obtain ⟨e1, x1, y1, hx1, hy1, rfl⟩ := hw
  obtain ⟨hP1, -⟩ := wd_back ht hB
  have hP2 := lw_kept hP2 hk1 hap
  clear hF1 hB hvm ht hz1 hk1 hS
  have hS := hS1
  refine lv_aload_n hx hb dL_law_779 rfl (lv_at hl 3 rfl) ?_
  refine la_arg (A := (fun q : Nat => s.heap.size ≤ q)) 1 hx hb hX hbl hbA hS hl rfl rfl dL_law_780 dL_law_781 dL_law_782 dL_law_783 dL_law_784 (by decide) (by omega) hL ?_
  refine la_arg (A := (fun q : Nat => s.heap.size ≤ q)) 2 hx hb hX hbl hbA hS hl rfl rfl dL_law_785 dL_law_786 dL_law_787 dL_law_788 dL_law_789 (by decide) (by omega) hL ?_
  have hF2 := lw_sub (wm_D (g' := mg cA ad2 wa wb wc we rg tx2 T.length) hD2) hS hA
  refine va_calli (va_runV (b := ad2 0) (As := [.int (iZ (xs (i + 1)).toInt), .int (iZ (xs (i + 2)).toInt)]) (rest := [.int r1]) ⟨hx, hb, hml, hown, hts⟩ (c_X4_digit l D cA tT (va_A (wm_W 23 ad2 (mg cA ad2 wa wb wc we rg tx2 T.length)) H1.size) ad2 H1.size hm hc.2.2.2.2 (xb1 (xs (i + 1))) (xb2 (xs (i + 1))) (xb1 (xs (i + 2))) (xb2 (xs (i + 2)))) (cwV 2 hts gL_law_X4_digit rfl rfl rfl (by decide +kernel) ⟨(Nat.le_of_ble_eq_true rfl), (Nat.le_of_ble_eq_true rfl)⟩) (lw_preV (k := 0) hP2 hK (wm_D hD2) hT hS hA (by decide) rfl rfl) rfl rfl hl.1 rfl (lv_room (Nat.le_of_ble_eq_true rfl)) dL_law_790 ⟨(Nat.le_of_ble_eq_true rfl), (Nat.le_of_ble_eq_true rfl)⟩) hS (fun q _ h => hF2 q h) hF2 (fun r2 u2 t2 H2 locs2 ht hvm hw hB hz1 hk1 hS2 => ?_)
  obtain ⟨e2, rfl⟩ := hw
  obtain ⟨hP2, -⟩ := wd_back ht hB
  have hP1 := lw_kept hP1 hk1 (fun i j hi hj h => hap j i hj hi h.symm)
  refine lv_icmp_eq (tgt := 868) hx hb dL_law_793 (by decide) (fun _ => ?_) (fun q => absurd (e1.trans e2.symm) q)
  exact kk _ _ sf x1 y1 tx wa wb wc we rg tx2 T ⟨⟨hx1, hy1, hc.2.2⟩, hm, ht1, ht2, hT9, hP1, hP2, hS2⟩
set_option maxHeartbeats 4000000 in
set_option maxRecDepth 100000 in
theorem lw_c14 {p : Program} {l : Launch} {e : Env} {s : State} {m : MethodId} {below : List Frame} {meth : Method} {c : Code} {b L : Nat} {xs : Nat → Int32} {D : va_G} {cA : Nat → ClassId} {tT : Nat} {ad1 ad2 : Nat → Nat} {Q : State → Prop} (C : lw_C p s m c b L xs D cA tT ad1 ad2) (hL : L < 2 ^ 31) {H : Heap} {locs : List Loc} {sf : Nat → Bool × Nat × Int} {x y : Nat} {tx : Nat → Int32} {wa wb wc we : RWt} {rg : Nat → RWt} {tx2 : Nat → Int32} {T : List Nat} (I : lw_I s D cA ad1 ad2 H locs sf x y tx wa wb wc we rg tx2 T) {ls : Array Slot} {i : Nat} (hl : lv_has ls 4 [(3, .int (nI i)), (0, .ref b), (1, .ref (ad1 0)), (2, .ref (ad2 0))]) (hi : i + 6 ≤ L)
    (kk : ∀ (H : Heap) (locs : List Loc) (sf : Nat → Bool × Nat × Int) (x y : Nat) (tx : Nat → Int32) (wa wb wc we : RWt) (rg : Nat → RWt) (tx2 : Nat → Int32) (T : List Nat), lw_I s D cA ad1 ad2 H locs sf x y tx wa wb wc we rg tx2 T → W p l e room_1 s m #[Value.ref b] below meth c H locs 54 9350 Q (F0 m 868 ls [])) : W p l e room_1 s m #[Value.ref b] below meth c H locs 54 9350 Q (F0 m 798 ls []) := by
  obtain ⟨hx, hb, hml, hown, hts, hX, hbl, hK, hT, hD1, hD2, hap⟩ := C
  obtain ⟨hc, hm, ht1, ht2, hT9, hP1, hP2, hS⟩ := I
  have hbA : ¬ (fun q : Nat => s.heap.size ≤ q) b := Nat.not_le.mpr hbl
  have hA : ∀ q : Nat, s.heap.size ≤ q → (fun q : Nat => s.heap.size ≤ q) q := fun _ h => h
  refine lv_aload_n hx hb dL_law_798 rfl (lv_at hl 2 rfl) ?_
  refine la_arg (A := (fun q : Nat => s.heap.size ≤ q)) 1 hx hb hX hbl hbA hS hl rfl rfl dL_law_799 dL_law_800 dL_law_801 dL_law_802 dL_law_803 (by decide) (by omega) hL ?_
  have hF1 := lw_sub (wm_D (g' := cg cA ad1 sf x y tx T.length) hD1) hS hA
  refine va_calll (va_runV (b := ad1 0) (As := [.int (iZ (xs (i + 1)).toInt)]) (rest := []) ⟨hx, hb, hml, hown, hts⟩ (c_X2_whole l D cA tT (va_A (wm_W 31 ad1 (cg cA ad1 sf x y tx T.length)) H.size) ad1 H.size hc (xb1 (xs (i + 1))) (xb2 (xs (i + 1)))) (cwV 1 hts gL_law_X2_whole rfl rfl rfl (by decide +kernel) ⟨(Nat.le_of_ble_eq_true rfl), (Nat.le_of_ble_eq_true rfl)⟩) (lw_preV (k := 0) hP1 hK (wm_D hD1) hT hS hA (by decide) rfl rfl) rfl rfl hl.1 rfl (lv_room (Nat.le_of_ble_eq_true rfl)) dL_law_804 ⟨(Nat.le_of_ble_eq_true rfl), (Nat.le_of_ble_eq_true rfl)⟩) hS (fun q _ h => hF1 q h) hF1 (fun r1 u t H1 locs1 ht hvm hw hB hz1 hk1 hS1 => ?_)
  obtain ⟨e1, sf1, x1, y1, hc1, es1, rfl⟩ := hw
  obtain ⟨hP1, -⟩ := wd_back ht hB
  have hP2 := lw_kept hP2 hk1 hap
  clear hF1 hB hvm ht hz1 hk1 hS
  have hS := hS1
  refine lv_aload_n hx hb dL_law_807 rfl (lv_at hl 3 rfl) ?_
  refine la_arg (A := (fun q : Nat => s.heap.size ≤ q)) 1 hx hb hX hbl hbA hS hl rfl rfl dL_law_808 dL_law_809 dL_law_810 dL_law_811 dL_law_812 (by decide) (by omega) hL ?_
  have hF2 := lw_sub (wm_D (g' := mg cA ad2 wa wb wc we rg tx2 T.length) hD2) hS hA
  refine va_calll (va_runV (b := ad2 0) (As := [.int (iZ (xs (i + 1)).toInt)]) (rest := [.long r1]) ⟨hx, hb, hml, hown, hts⟩ (c_X4_whole l D cA tT (va_A (wm_W 23 ad2 (mg cA ad2 wa wb wc we rg tx2 T.length)) H1.size) ad2 H1.size hm hc.2.2.2.2 (xb1 (xs (i + 1))) (xb2 (xs (i + 1)))) (cwV 1 hts gL_law_X4_whole rfl rfl rfl (by decide +kernel) ⟨(Nat.le_of_ble_eq_true rfl), (Nat.le_of_ble_eq_true rfl)⟩) (lw_preV (k := 0) hP2 hK (wm_D hD2) hT hS hA (by decide) rfl rfl) rfl rfl hl.1 rfl (lv_room (Nat.le_of_ble_eq_true rfl)) dL_law_813 ⟨(Nat.le_of_ble_eq_true rfl), (Nat.le_of_ble_eq_true rfl)⟩) hS (fun q _ h => hF2 q h) hF2 (fun r2 u2 t2 H2 locs2 ht hvm hw hB hz1 hk1 hS2 => ?_)
  obtain ⟨e2, rfl⟩ := hw
  obtain ⟨hP2, -⟩ := wd_back ht hB
  have hP1 := lw_kept hP1 hk1 (fun i j hi hj h => hap j i hj hi h.symm)
  refine W.lcmp hx hb dL_law_816 ?_
  refine lv_if_eq (tgt := 868) hx hb dL_law_817 (by decide) (fun _ => ?_) (fun q => absurd (by rw [e1, e2]; exact lgc _) q)
  exact kk _ _ sf1 x1 y1 tx wa wb wc we rg tx2 T ⟨hc1, by rw [es1]; exact hm, ht1, ht2, hT9, hP1, hP2, hS2⟩
set_option maxHeartbeats 4000000 in
set_option maxRecDepth 100000 in
theorem lw_c15 {p : Program} {l : Launch} {e : Env} {s : State} {m : MethodId} {below : List Frame} {meth : Method} {c : Code} {b L : Nat} {xs : Nat → Int32} {D : va_G} {cA : Nat → ClassId} {tT : Nat} {ad1 ad2 : Nat → Nat} {Q : State → Prop} (C : lw_C p s m c b L xs D cA tT ad1 ad2) (hL : L < 2 ^ 31) {H : Heap} {locs : List Loc} {sf : Nat → Bool × Nat × Int} {x y : Nat} {tx : Nat → Int32} {wa wb wc we : RWt} {rg : Nat → RWt} {tx2 : Nat → Int32} {T : List Nat} (I : lw_I s D cA ad1 ad2 H locs sf x y tx wa wb wc we rg tx2 T) {ls : Array Slot} {i : Nat} (hl : lv_has ls 4 [(3, .int (nI i)), (0, .ref b), (1, .ref (ad1 0)), (2, .ref (ad2 0))]) (hi : i + 6 ≤ L)
    (kk : ∀ (H : Heap) (locs : List Loc) (sf : Nat → Bool × Nat × Int) (x y : Nat) (tx : Nat → Int32) (wa wb wc we : RWt) (rg : Nat → RWt) (tx2 : Nat → Int32) (T : List Nat), lw_I s D cA ad1 ad2 H locs sf x y tx wa wb wc we rg tx2 T → W p l e room_1 s m #[Value.ref b] below meth c H locs 54 9350 Q (F0 m 868 ls [])) : W p l e room_1 s m #[Value.ref b] below meth c H locs 54 9350 Q (F0 m 822 ls []) := by
  obtain ⟨hx, hb, hml, hown, hts, hX, hbl, hK, hT, hD1, hD2, hap⟩ := C
  obtain ⟨hc, hm, ht1, ht2, hT9, hP1, hP2, hS⟩ := I
  have hbA : ¬ (fun q : Nat => s.heap.size ≤ q) b := Nat.not_le.mpr hbl
  have hA : ∀ q : Nat, s.heap.size ≤ q → (fun q : Nat => s.heap.size ≤ q) q := fun _ h => h
  refine lv_aload_n hx hb dL_law_822 rfl (lv_at hl 2 rfl) ?_
  refine la_arg (A := (fun q : Nat => s.heap.size ≤ q)) 1 hx hb hX hbl hbA hS hl rfl rfl dL_law_823 dL_law_824 dL_law_825 dL_law_826 dL_law_827 (by decide) (by omega) hL ?_
  have hF1 := lw_sub (wm_D (g' := cg cA ad1 sf x y tx T.length) hD1) hS hA
  refine va_calli (va_runV (b := ad1 0) (As := [.int (iZ (xs (i + 1)).toInt)]) (rest := []) ⟨hx, hb, hml, hown, hts⟩ (c_X2_write l D cA tT (va_A (wm_W 31 ad1 (cg cA ad1 sf x y tx T.length)) H.size) ad1 H.size hc ht1 hT9 (xb1 (xs (i + 1))) (xb2 (xs (i + 1)))) (cwV 1 hts gL_law_X2_write rfl rfl rfl (by decide +kernel) ⟨(Nat.le_of_ble_eq_true rfl), (Nat.le_of_ble_eq_true rfl)⟩) (lw_preV (k := 0) hP1 hK (wm_D hD1) hT hS hA (by decide) rfl rfl) rfl rfl hl.1 rfl (lv_room (Nat.le_of_ble_eq_true rfl)) dL_law_828 ⟨(Nat.le_of_ble_eq_true rfl), (Nat.le_of_ble_eq_true rfl)⟩) hS (fun q _ h => hF1 q h) hF1 (fun r1 u t H1 locs1 ht hvm hw hB hz1 hk1 hS1 => ?_)
  obtain ⟨e1, tx1, ht3, hT8, rfl⟩ := hw
  obtain ⟨hP1, -⟩ := wd_back ht hB
  have hP2 := lw_kept hP2 hk1 hap
  clear hF1 hB hvm ht hz1 hk1 hS
  have hS := hS1
  refine lv_aload_n hx hb dL_law_831 rfl (lv_at hl 3 rfl) ?_
  refine la_arg (A := (fun q : Nat => s.heap.size ≤ q)) 1 hx hb hX hbl hbA hS hl rfl rfl dL_law_832 dL_law_833 dL_law_834 dL_law_835 dL_law_836 (by decide) (by omega) hL ?_
  have hF2 := lw_sub (wm_D (g' := mg cA ad2 wa wb wc we rg tx2 T.length) hD2) hS hA
  refine va_calli (va_runV (b := ad2 0) (As := [.int (iZ (xs (i + 1)).toInt)]) (rest := [.int r1]) ⟨hx, hb, hml, hown, hts⟩ (c_X4_write l D cA tT (va_A (wm_W 23 ad2 (mg cA ad2 wa wb wc we rg tx2 T.length)) H1.size) ad2 H1.size hm hc.2.2.2.2 ht2 hT9 (xb1 (xs (i + 1))) (xb2 (xs (i + 1)))) (cwV 1 hts gL_law_X4_write rfl rfl rfl (by decide +kernel) ⟨(Nat.le_of_ble_eq_true rfl), (Nat.le_of_ble_eq_true rfl)⟩) (lw_preV (k := 0) hP2 hK (wm_D hD2) hT hS hA (by decide) rfl rfl) rfl rfl hl.1 rfl (lv_room (Nat.le_of_ble_eq_true rfl)) dL_law_837 ⟨(Nat.le_of_ble_eq_true rfl), (Nat.le_of_ble_eq_true rfl)⟩) hS (fun q _ h => hF2 q h) hF2 (fun r2 u2 t2 H2 locs2 ht hvm hw hB hz1 hk1 hS2 => ?_)
  obtain ⟨e2, tx3, ht4, hT7, rfl⟩ := hw
  obtain ⟨hP2, -⟩ := wd_back ht hB
  have hP1 := lw_kept hP1 hk1 (fun i j hi hj h => hap j i hj hi h.symm)
  refine lv_icmp_eq (tgt := 868) hx hb dL_law_840 (by decide) (fun _ => ?_) (fun q => absurd (e1.trans e2.symm) q)
  exact kk _ _ sf x y tx1 wa wb wc we rg tx3 (sp_write (fun i => sf (2 + i)) T (xs (i + 1)).toInt).2 ⟨hc, hm, ht3, ht4, hT8, hP1, hP2, hS2⟩
set_option maxHeartbeats 4000000 in
set_option maxRecDepth 100000 in
theorem lw_c16 {p : Program} {l : Launch} {e : Env} {s : State} {m : MethodId} {below : List Frame} {meth : Method} {c : Code} {b L : Nat} {xs : Nat → Int32} {D : va_G} {cA : Nat → ClassId} {tT : Nat} {ad1 ad2 : Nat → Nat} {Q : State → Prop} (C : lw_C p s m c b L xs D cA tT ad1 ad2) (hL : L < 2 ^ 31) {H : Heap} {locs : List Loc} {sf : Nat → Bool × Nat × Int} {x y : Nat} {tx : Nat → Int32} {wa wb wc we : RWt} {rg : Nat → RWt} {tx2 : Nat → Int32} {T : List Nat} (I : lw_I s D cA ad1 ad2 H locs sf x y tx wa wb wc we rg tx2 T) {ls : Array Slot} {i : Nat} (hl : lv_has ls 4 [(3, .int (nI i)), (0, .ref b), (1, .ref (ad1 0)), (2, .ref (ad2 0))]) (hi : i + 6 ≤ L)
    (kk : ∀ (H : Heap) (locs : List Loc) (sf : Nat → Bool × Nat × Int) (x y : Nat) (tx : Nat → Int32) (wa wb wc we : RWt) (rg : Nat → RWt) (tx2 : Nat → Int32) (T : List Nat), lw_I s D cA ad1 ad2 H locs sf x y tx wa wb wc we rg tx2 T → W p l e room_1 s m #[Value.ref b] below meth c H locs 54 9350 Q (F0 m 868 ls [])) : W p l e room_1 s m #[Value.ref b] below meth c H locs 54 9350 Q (F0 m 845 ls []) := by
  obtain ⟨hx, hb, hml, hown, hts, hX, hbl, hK, hT, hD1, hD2, hap⟩ := C
  obtain ⟨hc, hm, ht1, ht2, hT9, hP1, hP2, hS⟩ := I
  have hbA : ¬ (fun q : Nat => s.heap.size ≤ q) b := Nat.not_le.mpr hbl
  have hA : ∀ q : Nat, s.heap.size ≤ q → (fun q : Nat => s.heap.size ≤ q) q := fun _ h => h
  refine lv_aload_n hx hb dL_law_845 rfl (lv_at hl 2 rfl) ?_
  refine la_arg (A := (fun q : Nat => s.heap.size ≤ q)) 1 hx hb hX hbl hbA hS hl rfl rfl dL_law_846 dL_law_847 dL_law_848 dL_law_849 dL_law_850 (by decide) (by omega) hL ?_
  have hF1 := lw_sub (wm_D (g' := cg cA ad1 sf x y tx T.length) hD1) hS hA
  refine va_calli (va_runV (b := ad1 0) (As := [.int (iZ (xs (i + 1)).toInt)]) (rest := []) ⟨hx, hb, hml, hown, hts⟩ (c_X2_octet l D cA tT (va_A (wm_W 31 ad1 (cg cA ad1 sf x y tx T.length)) H.size) ad1 H.size ht1 hT9 (xb1 (xs (i + 1))) (xb2 (xs (i + 1)))) (cwV 1 hts gL_law_X2_octet rfl rfl rfl (by decide +kernel) ⟨(Nat.le_of_ble_eq_true rfl), (Nat.le_of_ble_eq_true rfl)⟩) (lw_preV (k := 0) hP1 hK (wm_D hD1) hT hS hA (by decide) rfl rfl) rfl rfl hl.1 rfl (lv_room (Nat.le_of_ble_eq_true rfl)) dL_law_851 ⟨(Nat.le_of_ble_eq_true rfl), (Nat.le_of_ble_eq_true rfl)⟩) hS (fun q _ h => hF1 q h) hF1 (fun r1 u t H1 locs1 ht hvm hw hB hz1 hk1 hS1 => ?_)
  obtain ⟨e1, rfl⟩ := hw
  obtain ⟨hP1, -⟩ := wd_back ht hB
  have hP2 := lw_kept hP2 hk1 hap
  clear hF1 hB hvm ht hz1 hk1 hS
  have hS := hS1
  refine lv_aload_n hx hb dL_law_854 rfl (lv_at hl 3 rfl) ?_
  refine la_arg (A := (fun q : Nat => s.heap.size ≤ q)) 1 hx hb hX hbl hbA hS hl rfl rfl dL_law_855 dL_law_856 dL_law_857 dL_law_858 dL_law_859 (by decide) (by omega) hL ?_
  have hF2 := lw_sub (wm_D (g' := mg cA ad2 wa wb wc we rg tx2 T.length) hD2) hS hA
  refine va_calli (va_runV (b := ad2 0) (As := [.int (iZ (xs (i + 1)).toInt)]) (rest := [.int r1]) ⟨hx, hb, hml, hown, hts⟩ (c_X4_octet l D cA tT (va_A (wm_W 23 ad2 (mg cA ad2 wa wb wc we rg tx2 T.length)) H1.size) ad2 H1.size ht2 hT9 (xb1 (xs (i + 1))) (xb2 (xs (i + 1)))) (cwV 1 hts gL_law_X4_octet rfl rfl rfl (by decide +kernel) ⟨(Nat.le_of_ble_eq_true rfl), (Nat.le_of_ble_eq_true rfl)⟩) (lw_preV (k := 0) hP2 hK (wm_D hD2) hT hS hA (by decide) rfl rfl) rfl rfl hl.1 rfl (lv_room (Nat.le_of_ble_eq_true rfl)) dL_law_860 ⟨(Nat.le_of_ble_eq_true rfl), (Nat.le_of_ble_eq_true rfl)⟩) hS (fun q _ h => hF2 q h) hF2 (fun r2 u2 t2 H2 locs2 ht hvm hw hB hz1 hk1 hS2 => ?_)
  obtain ⟨e2, rfl⟩ := hw
  obtain ⟨hP2, -⟩ := wd_back ht hB
  have hP1 := lw_kept hP1 hk1 (fun i j hi hj h => hap j i hj hi h.symm)
  refine lv_icmp_eq (tgt := 868) hx hb dL_law_863 (by decide) (fun _ => ?_) (fun q => absurd (e1.trans e2.symm) q)
  exact kk _ _ sf x y tx wa wb wc we rg tx2 T ⟨hc, hm, ht1, ht2, hT9, hP1, hP2, hS2⟩
