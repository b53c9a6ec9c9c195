/-- the order of two numbers, as an int -/
def od (x y : Nat) : Int32 := if x < y then iZ (-1) else if x = y then nI 0 else nI 1
theorem od_lt {x y : Nat} (h : x < y) : iZ (-1) = od x y := by rw [od, if_pos h]
theorem od_gt {x y : Nat} (h : y < x) : nI 1 = od x y := by rw [od, if_neg (by omega), if_neg (by omega)]
theorem od_eq {x y : Nat} (h : x = y) : nI 0 = od x y := by rw [od, if_neg (by omega), if_pos h]
theorem nd_sl {x y : Nat} (h : nd_s x < nd_s y) : x < y := Nat.lt_of_lt_of_le (nd_s_lt x) (nd_s_gt.mp h)
theorem nd_ql {x y k : Nat} (h : x / 1000000 ^ k < y / 1000000 ^ k) : x < y := by
  rcases Nat.lt_or_ge x y with q | q
  · exact q
  · exact absurd (Nat.div_le_div_right (c := 1000000 ^ k) q) (by omega)
theorem mx_n {a b : Nat} (ha : a < 2 ^ 31) (hb : b < 2 ^ 31) : (if nI a < nI b then nI b else nI a) = nI (max a b) := by
  by_cases q : a < b
  · rw [if_pos (nI_lt q hb), Nat.max_eq_right (by omega)]
  · rw [if_neg (nI_nlt (by omega) ha), Nat.max_eq_left (by omega)]
/-- the size of a sum -/
theorem nd_sadd {x y : Nat} (h : (x + y) / 1000000 ^ max (nd_s x) (nd_s y) = 0) : nd_s (x + y) = max (nd_s x) (nd_s y) := by
  have h1 : nd_s (x + y) ≤ max (nd_s x) (nd_s y) := nd_s_iff.mpr (by
    rcases Nat.lt_or_ge (x + y) (1000000 ^ max (nd_s x) (nd_s y)) with q | q
    · exact q
    · have := Nat.div_pos q (Nat.pow_pos (by decide)); omega)
  have h2 : nd_s x ≤ nd_s (x + y) := nd_s_iff.mpr (Nat.lt_of_le_of_lt (Nat.le_add_right x y) (nd_s_lt _))
  have h3 : nd_s y ≤ nd_s (x + y) := nd_s_iff.mpr (Nat.lt_of_le_of_lt (Nat.le_add_left y x) (nd_s_lt _))
  omega
set_option maxHeartbeats 4000000 in
set_option maxRecDepth 100000 in
theorem lp_X1_order {p : Program} {l : Launch} {e : Env} {R : Room} {s : State} {m : MethodId} {args : Array Value} {below : List Frame} {meth : Method} {c : Code} {Q : State → Prop} {D : va_G} {cA : Nat → ClassId} {tT : Nat} {A : Nat → Prop} {N : Nat} {ad : Nat → Nat} {g : Nat → va_E} {a o x y : Nat} (S : CallFix p m c cX1_order 3 s args wsX1_order RX1) (hK : va_K D vwCl (ty_s cA) s) (hT : st_T tT A s s.heap) (ha1 : a + 1 < N) (ho1 : o + 1 < N) (ha : is_N cA ad g a x) (ho : is_N cA ad g o y) (kk : ∀ (r : Int32) (H : Heap) (locs : List Loc) (ls : Array Slot), r = od x y → va_P D vwCl (wm_W N ad (g)) H → va_D A (wm_W N ad (g)) → va_S A s.heap H locs → W p l e R s m args below meth c H locs 0 0 Q (F0 m 76 ls [.int r])) (k0 : ∀ (H : Heap) (locs : List Loc) (ls : Array Slot), x = y → va_P D vwCl (wm_W N ad (g)) H → va_D A (wm_W N ad (g)) → va_S A s.heap H locs → W p l e R s m args below meth c H locs 0 0 Q (F0 m 83 ls [])) :
    ∀ (k : Nat) (H : Heap) (locs : List Loc) (ls : Array Slot), k ≤ 64 → x / 1000000 ^ k = y / 1000000 ^ k → va_P D vwCl (wm_W N ad (g)) H → va_D A (wm_W N ad (g)) → va_S A s.heap H locs → lv_has ls 3 [(2, .int (dn k)), (0, .ref (ad a)), (1, .ref (ad o))] → W p l e R s m args below meth c H locs 0 0 Q (F0 m 35 ls []) := by
  obtain ⟨hx, hb, hml, hown, hts⟩ := S
  have in1 : ∀ w ∈ wsX10, w ∈ wsX1_order := by decide +kernel
  intro k
  induction k with
  | zero =>
    intro H locs ls hk he hP hD hS hl
    refine lv_iload_n hx hb dX1_order_35 rfl (lv_at hl 0 rfl) ?_
    refine by_lt (tgt := 83) hx hb dX1_order_36 (by decide) (by omega) (by omega) (fun q => ?_) (fun q => ?_)
    · exact k0 H locs ls (by simp only [nd_q0] at he; exact he) hP hD hS
    · exact absurd (by decide) q
  | succ k ih =>
    intro H locs ls hk he hP hD hS hl
    have hd1 := nd_lt x k
    have hd2 := nd_lt y k
    simp only [nd_q] at he
    refine lv_iload_n hx hb dX1_order_35 rfl (lv_at hl 0 rfl) ?_
    refine bz_lt (tgt := 83) hx hb dX1_order_36 (by decide) (by omega) (fun q => ?_) (fun q => ?_)
    · exact absurd q (Nat.not_lt_zero _)
    · refine lv_aload_n hx hb dX1_order_39 rfl (lv_at hl 1 rfl) ?_
      refine rg_1_limbs hx hb hts in1 hown hK hP a (by omega) ha.1 (hts _ (by decide +kernel)) dX1_order_40 ?_
      refine lv_iload_n hx hb dX1_order_43 rfl (lv_at hl 0 rfl) ?_
      refine rn_l hx hb hK hP (a + 1) (by omega) ha.2 (by omega) (by decide) dX1_order_44 ?_
      refine tp_l (y := lN (nd_d x k)) rfl ?_
      refine lv_aload_n hx hb dX1_order_45 rfl (lv_at hl 2 rfl) ?_
      refine rg_1_limbs hx hb hts in1 hown hK hP o (by omega) ho.1 (hts _ (by decide +kernel)) dX1_order_46 ?_
      refine lv_iload_n hx hb dX1_order_49 rfl (lv_at hl 0 rfl) ?_
      refine rn_l hx hb hK hP (o + 1) (by omega) ho.2 (by omega) (by decide) dX1_order_50 ?_
      refine tp_l (y := lN (nd_d y k)) rfl ?_
      refine bl_eq (tgt := 77) hx hb dX1_order_51 dX1_order_52 (by decide) (by omega) (by omega) (fun q2 => ?_) (fun q2 => ?_)
      · refine lv_iinc (v := dn k) (lv' := [(2, .int (dn k)), (0, .ref (ad a)), (1, .ref (ad o))]) hx hb dX1_order_77 hl (k := 0) rfl (dn_dec k) (by decide) rfl (fun ls hl => ?_)
        refine lv_goto (tgt := 35) hx hb dX1_order_80 (by decide) ?_
        exact ih H locs ls (by omega) (by simp only [nd_d] at q2; omega) hP hD hS hl
      · refine lv_aload_n hx hb dX1_order_55 rfl (lv_at hl 1 rfl) ?_
        refine rg_1_limbs hx hb hts in1 hown hK hP a (by omega) ha.1 (hts _ (by decide +kernel)) dX1_order_56 ?_
        refine lv_iload_n hx hb dX1_order_59 rfl (lv_at hl 0 rfl) ?_
        refine rn_l hx hb hK hP (a + 1) (by omega) ha.2 (by omega) (by decide) dX1_order_60 ?_
        refine tp_l (y := lN (nd_d x k)) rfl ?_
        refine lv_aload_n hx hb dX1_order_61 rfl (lv_at hl 2 rfl) ?_
        refine rg_1_limbs hx hb hts in1 hown hK hP o (by omega) ho.1 (hts _ (by decide +kernel)) dX1_order_62 ?_
        refine lv_iload_n hx hb dX1_order_65 rfl (lv_at hl 0 rfl) ?_
        refine rn_l hx hb hK hP (o + 1) (by omega) ho.2 (by omega) (by decide) dX1_order_66 ?_
        refine tp_l (y := lN (nd_d y k)) rfl ?_
        refine bl_ge (tgt := 75) hx hb dX1_order_67 dX1_order_68 (by decide) (by omega) (by omega) (fun q3 => ?_) (fun q3 => ?_)
        · refine lv_iconst (v := nI (1)) hx hb dX1_order_75 (by decide) ?_
          exact kk _ H locs ls (od_gt (nd_ql (k := k) (by simp only [nd_d] at q2 q3; omega))) hP hD hS
        · refine lv_iconst (v := iZ (-1)) hx hb dX1_order_71 (by decide) ?_
          refine lv_goto (tgt := 76) hx hb dX1_order_72 (by decide) ?_
          exact kk _ H locs ls (od_lt (nd_ql (k := k) (by simp only [nd_d] at q2 q3; omega))) hP hD hS
set_option maxHeartbeats 4000000 in
set_option maxRecDepth 100000 in
/-- order of two numbers -/
theorem c_X1_order (l : Launch) (D : va_G) (cA : Nat → ClassId) (tT : Nat) (A : Nat → Prop) (N : Nat) (ad : Nat → Nat) (sz : Nat) (g : Nat → va_E) {a o x y : Nat} (ha1 : a + 1 < N) (ho1 : o + 1 < N) (ha : is_N cA ad g a x) (ho : is_N cA ad g o y) (hx64 : x < 1000000 ^ 64) (hy64 : y < 1000000 ^ 64) : Met l yX1_order wsX1_order ({ frames := 0, cells := 0, slots := 0, locals := 0 }) (va_Pc [.ref (ad a), .ref (ad o)] (wd_B D cA tT A N ad sz g)) (va_Qi (fun (r : Int32) (u : Nat → va_E) => r = od x y ∧ u = g) (wd_E D cA A N ad) A) 0 0 A := by
  refine Met.ofW (cc := cX1_order) (maxL := 3) (ret := (some .int)) (by decide) rfl ?_
  intro p e s m args below meth c s₁ B hml hv
  obtain ⟨rfl, hsz, hP, hK, hD, hT⟩ := hv
  have hx := B.exec
  have hb := B.bytes
  have hr := B.returns
  have hts := atoms_spec (ws := wsX1_order) B.pre
  have hown : s.vm.findClass RX1 = some m.cls := findClass_of_methodNamed B.named
  have hlocks := B.notSynchronized
  subst hsz
  have hS : va_S A s.heap s.heap [] := va_S.rf
  have in1 : ∀ w ∈ wsX10, w ∈ wsX1_order := by decide +kernel
  have hl := lv_entry ([.ref (ad a), .ref (ad o)]) (n := 3) (Nat.le_of_ble_eq_true rfl)
  rw [lg_entry_eq]
  generalize (lg_sl ([.ref (ad a), .ref (ad o)]) ++ List.replicate (3 - (lg_sl ([.ref (ad a), .ref (ad o)])).length) Slot.unset).toArray = ls at hl ⊢
  have hl : lv_has ls 3 [(0, .ref (ad a)), (1, .ref (ad o))] := hl
  have hs64 := nd_s64 hx64
  have ht64 := nd_s64 hy64
  refine lv_aload_n hx hb dX1_order_0 rfl (lv_at hl 0 rfl) ?_
  refine rg_1_size hx hb hts in1 hown hK hP a (by omega) ha.1 (hts _ (by decide +kernel)) dX1_order_1 ?_
  refine lv_aload_n hx hb dX1_order_4 rfl (lv_at hl 1 rfl) ?_
  refine rg_1_size hx hb hts in1 hown hK hP o (by omega) ho.1 (hts _ (by decide +kernel)) dX1_order_5 ?_
  refine bi_eq (tgt := 28) hx hb dX1_order_8 (by decide) (by omega) (by omega) (fun q => ?_) (fun q => ?_)
  · refine lv_aload_n hx hb dX1_order_28 rfl (lv_at hl 0 rfl) ?_
    refine rg_1_size hx hb hts in1 hown hK hP a (by omega) ha.1 (hts _ (by decide +kernel)) dX1_order_29 ?_
    refine lv_iconst (v := nI (1)) hx hb dX1_order_32 (by decide) ?_
    refine lv_isub hx hb dX1_order_33 ?_
    refine tp_i (y := dn (nd_s x)) (dn_sub _) ?_
    refine lv_istore_n (lv' := [(2, .int (dn (nd_s x))), (0, .ref (ad a)), (1, .ref (ad o))]) hx hb dX1_order_34 rfl hl (by decide) rfl (fun ls hl => ?_)
    refine lp_X1_order ⟨hx, hb, hml, hown, hts⟩ hK hT ha1 ho1 ha ho (fun r H locs ls hr2 hP hD hS => ?_) (fun H locs ls hr2 hP hD hS => ?_) (nd_s x) _ _ ls hs64 (by rw [nd_qz (nd_s_lt x) (Nat.le_refl _), nd_qz (nd_s_lt y) (by omega)]) hP hD hS hl
    · exact W.iret (v := r) hx hb hr (fun t ht hW => ⟨⟨r, g, rfl, ⟨hr2, rfl⟩, wd_end hP hK hD ht hW⟩, hS.F ht⟩) hS.2.2 dX1_order_76
    · refine lv_iconst (v := nI (0)) hx hb dX1_order_83 (by decide) ?_
      exact W.iret (v := nI (0)) hx hb hr (fun t ht hW => ⟨⟨nI (0), g, rfl, ⟨od_eq hr2, rfl⟩, wd_end hP hK hD ht hW⟩, hS.F ht⟩) hS.2.2 dX1_order_84
  · refine lv_aload_n hx hb dX1_order_11 rfl (lv_at hl 0 rfl) ?_
    refine rg_1_size hx hb hts in1 hown hK hP a (by omega) ha.1 (hts _ (by decide +kernel)) dX1_order_12 ?_
    refine lv_aload_n hx hb dX1_order_15 rfl (lv_at hl 1 rfl) ?_
    refine rg_1_size hx hb hts in1 hown hK hP o (by omega) ho.1 (hts _ (by decide +kernel)) dX1_order_16 ?_
    refine bi_ge (tgt := 26) hx hb dX1_order_19 (by decide) (by omega) (by omega) (fun q2 => ?_) (fun q2 => ?_)
    · refine lv_iconst (v := nI (1)) hx hb dX1_order_26 (by decide) ?_
      exact W.iret (v := nI (1)) hx hb hr (fun t ht hW => ⟨⟨nI (1), g, rfl, ⟨od_gt (nd_sl (by omega)), rfl⟩, wd_end hP hK hD ht hW⟩, hS.F ht⟩) hS.2.2 dX1_order_27
    · refine lv_iconst (v := iZ (-1)) hx hb dX1_order_22 (by decide) ?_
      refine lv_goto (tgt := 27) hx hb dX1_order_23 (by decide) ?_
      exact W.iret (v := iZ (-1)) hx hb hr (fun t ht hW => ⟨⟨iZ (-1), g, rfl, ⟨od_lt (nd_sl (by omega)), rfl⟩, wd_end hP hK hD ht hW⟩, hS.F ht⟩) hS.2.2 dX1_order_27
set_option maxHeartbeats 4000000 in
set_option maxRecDepth 100000 in
theorem lp_X1_add {p : Program} {l : Launch} {e : Env} {R : Room} {s : State} {m : MethodId} {args : Array Value} {below : List Frame} {meth : Method} {c : Code} {Q : State → Prop} {D : va_G} {cA : Nat → ClassId} {tT : Nat} {A : Nat → Prop} {N : Nat} {ad : Nat → Nat} {g : Nat → va_E} {a o x y : Nat} {K : Nat} (S : CallFix p m c cX1_add 8 s args wsX1_add RX1) (hK : va_K D vwCl (ty_s cA) s) (hT : st_T tT A s s.heap) (ha1 : a + 1 < N) (ho1 : o + 1 < N) (ho : is_N cA ad g o y) (n1 : a ≠ o) (n2 : a ≠ o + 1) (n3 : a + 1 ≠ o) (hK9 : K ≤ 64) (kk : ∀ (cv : Nat) (f : Nat → Int64) (H : Heap) (locs : List Loc) (ls : Array Slot), (x + y) / 1000000 ^ K = x / 1000000 ^ K + y / 1000000 ^ K + cv → cv ≤ 1 → (∀ j, j < K → f j = nd_A (x + y) j) → (∀ j, K ≤ j → f j = nd_A x j) → va_P D vwCl (wm_W N ad (nw_ cA ad g a f (nI (nd_s x)))) H → va_D A (wm_W N ad (nw_ cA ad g a f (nI (nd_s x)))) → va_S A s.heap H locs → lv_has ls 8 [(3, .long (lN cv)), (2, .int (nI K)), (0, .ref (ad a))] → W p l e R s m args below meth c H locs 0 0 Q (F0 m 68 ls [])) :
    ∀ (n i cv : Nat) (f : Nat → Int64) (H : Heap) (locs : List Loc) (ls : Array Slot), i + n = K → (x + y) / 1000000 ^ i = x / 1000000 ^ i + y / 1000000 ^ i + cv → cv ≤ 1 → (∀ j, j < i → f j = nd_A (x + y) j) → (∀ j, i ≤ j → f j = nd_A x j) → va_P D vwCl (wm_W N ad (nw_ cA ad g a f (nI (nd_s x)))) H → va_D A (wm_W N ad (nw_ cA ad g a f (nI (nd_s x)))) → va_S A s.heap H locs → lv_has ls 8 [(5, .int (nI (i))), (3, .long (lN (cv))), (2, .int (nI (K))), (0, .ref (ad a)), (1, .ref (ad o))] → W p l e R s m args below meth c H locs 0 0 Q (F0 m 17 ls []) := by
  obtain ⟨hx, hb, hml, hown, hts⟩ := S
  have in1 : ∀ w ∈ wsX10, w ∈ wsX1_add := by decide +kernel
  intro n
  induction n with
  | zero =>
    intro i cv f H locs ls hn hi hc h1 h2 hP hD hS hl
    refine lv_iload hx hb dX1_add_17 (lv_at hl 0 rfl) ?_
    refine lv_iload_n hx hb dX1_add_19 rfl (lv_at hl 2 rfl) ?_
    refine bi_ge (tgt := 68) hx hb dX1_add_20 (by decide) (by omega) (by omega) (fun q => ?_) (fun q => ?_)
    · obtain rfl : i = K := by omega
      exact kk cv f H locs ls hi hc h1 h2 hP hD hS (lv_sub hl [1, 2, 3] rfl)
    · exact absurd hn (by omega)
  | succ n ih =>
    intro i cv f H locs ls hn hi hc h1 h2 hP hD hS hl
    refine lv_iload hx hb dX1_add_17 (lv_at hl 0 rfl) ?_
    refine lv_iload_n hx hb dX1_add_19 rfl (lv_at hl 2 rfl) ?_
    refine bi_ge (tgt := 68) hx hb dX1_add_20 (by decide) (by omega) (by omega) (fun q => ?_) (fun q => ?_)
    · exact absurd hn (by omega)
    · have hd1 := nd_lt x i
      have hd2 := nd_lt y i
      refine lv_aload_n hx hb dX1_add_23 rfl (lv_at hl 3 rfl) ?_
      refine rg_1_limbs hx hb hts in1 hown hK hP a (by omega) nw_o (hts _ (by decide +kernel)) dX1_add_24 ?_
      refine lv_iload hx hb dX1_add_27 (lv_at hl 0 rfl) ?_
      refine rn_l hx hb hK hP (a + 1) (by omega) nw_l (by omega) (by decide) dX1_add_29 ?_
      refine tp_l (y := lN (nd_d x i)) (h2 i (Nat.le_refl i)) ?_
      refine lv_aload_n hx hb dX1_add_30 rfl (lv_at hl 4 rfl) ?_
      refine rg_1_limbs hx hb hts in1 hown hK hP o (by omega) ((nw_ne (by omega) (by omega)).trans ho.1) (hts _ (by decide +kernel)) dX1_add_31 ?_
      refine lv_iload hx hb dX1_add_34 (lv_at hl 0 rfl) ?_
      refine rn_l hx hb hK hP (o + 1) (by omega) ((nw_ne (by omega) (by omega)).trans ho.2) (by omega) (by decide) dX1_add_36 ?_
      refine tp_l (y := lN (nd_d y i)) rfl ?_
      refine lv_ladd hx hb dX1_add_37 ?_
      refine tp_l (y := lN ((nd_d x i) + (nd_d y i))) (lN_add _ _) ?_
      refine lv_lload_n hx hb dX1_add_38 rfl (lv_at hl 1 rfl) ?_
      refine lv_ladd hx hb dX1_add_39 ?_
      refine tp_l (y := lN (((nd_d x i) + (nd_d y i)) + cv)) (lN_add _ _) ?_
      refine lv_lstore (lv' := [(6, .long (lN (((nd_d x i) + (nd_d y i)) + cv))), (5, .int (nI (i))), (3, .long (lN (cv))), (2, .int (nI (K))), (0, .ref (ad a)), (1, .ref (ad o))]) hx hb dX1_add_40 hl (by decide) rfl (fun ls hl => ?_)
      refine lv_aload_n hx hb dX1_add_42 rfl (lv_at hl 4 rfl) ?_
      refine rg_1_limbs hx hb hts in1 hown hK hP a (by omega) nw_o (hts _ (by decide +kernel)) dX1_add_43 ?_
      refine lv_iload hx hb dX1_add_46 (lv_at hl 1 rfl) ?_
      refine lv_lload hx hb dX1_add_48 (lv_at hl 0 rfl) ?_
      refine lv_ldc2 (v := lN (1000000)) hx hb hown (hts _ (by decide +kernel)) dX1_add_50 ?_
      refine lv_lrem hx hb dX1_add_53 (lN_ne0 (by omega) (by omega)) ?_
      refine tp_l (y := lN ((((nd_d x i) + (nd_d y i)) + cv) % 1000000)) (pk_lRem (by omega) (by omega) (by omega)) ?_
      refine rt_l hx hb hK hP hD hS (a + 1) (by omega) nw_l (by omega) (by decide) dX1_add_54 (fun H locs hP hD hS => ?_)
      rw [nw_sl] at hP hD
      refine lv_lload hx hb dX1_add_55 (lv_at hl 0 rfl) ?_
      refine lv_ldc2 (v := lN (1000000)) hx hb hown (hts _ (by decide +kernel)) dX1_add_57 ?_
      refine lv_ldiv hx hb dX1_add_60 (lN_ne0 (by omega) (by omega)) ?_
      refine tp_l (y := lN ((((nd_d x i) + (nd_d y i)) + cv) / 1000000)) (pk_lDiv (by omega) (by omega) (by omega)) ?_
      refine lv_lstore_n (lv' := [(3, .long (lN ((((nd_d x i) + (nd_d y i)) + cv) / 1000000))), (6, .long (lN (((nd_d x i) + (nd_d y i)) + cv))), (5, .int (nI (i))), (2, .int (nI (K))), (0, .ref (ad a)), (1, .ref (ad o))]) hx hb dX1_add_61 rfl hl (by decide) rfl (fun ls hl => ?_)
      refine lv_iinc (v := nI (i + 1)) (lv' := [(5, .int (nI (i + 1))), (3, .long (lN ((((nd_d x i) + (nd_d y i)) + cv) / 1000000))), (6, .long (lN (((nd_d x i) + (nd_d y i)) + cv))), (2, .int (nI (K))), (0, .ref (ad a)), (1, .ref (ad o))]) hx hb dX1_add_62 hl (k := 2) rfl (nI_inc i 1) (by decide) rfl (fun ls hl => ?_)
      refine lv_goto (tgt := 17) hx hb dX1_add_65 (by decide) ?_
      refine ih (i + 1) _ _ H locs ls (by omega) (by simp only [nd_q, nd_d]; omega) (by omega) (fun j hj => ?_) (fun j hj => ?_) hP hD hS (lv_sub hl [0, 1, 3, 4, 5] rfl)
      · rcases Nat.lt_or_ge j i with r | r
        · rw [pk_uLn (by omega)]; exact h1 j r
        · obtain rfl : j = i := by omega
          rw [pk_uLs, nd_A]; congr 1
          simp only [nd_d]; omega
      · rw [pk_uLn (by omega)]; exact h2 j (by omega)
set_option maxHeartbeats 4000000 in
set_option maxRecDepth 100000 in
/-- add -/
theorem c_X1_add (l : Launch) (D : va_G) (cA : Nat → ClassId) (tT : Nat) (A : Nat → Prop) (N : Nat) (ad : Nat → Nat) (sz : Nat) (g : Nat → va_E) {a o x y : Nat} (ha1 : a + 1 < N) (ha : is_N cA ad g a x) (ho1 : o + 1 < N) (ho : is_N cA ad g o y) (n1 : a ≠ o) (n2 : a ≠ o + 1) (n3 : a + 1 ≠ o) (hx64 : x < 1000000 ^ 64) (hy64 : y < 1000000 ^ 64) (hs : x + y < 1000000 ^ 64) : Met l yX1_add wsX1_add ({ frames := 1, cells := 0, slots := 0, locals := 23 }) (va_Pc [.ref (ad a), .ref (ad o)] (wd_B D cA tT A N ad sz g)) (va_Qv (fun (u : Nat → va_E) => u = nN cA ad g a (x + y)) (wd_E D cA A N ad) A) 0 0 A := by
  refine Met.ofW (cc := cX1_add) (maxL := 8) (ret := none) (by decide) rfl ?_
  intro p e s m args below meth c s₁ B hml hv
  obtain ⟨rfl, hsz, hP, hK, hD, hT⟩ := hv
  have hx := B.exec
  have hb := B.bytes
  have hr := B.returns
  have hts := atoms_spec (ws := wsX1_add) B.pre
  have hown : s.vm.findClass RX1 = some m.cls := findClass_of_methodNamed B.named
  have hlocks := B.notSynchronized
  subst hsz
  have hS : va_S A s.heap s.heap [] := va_S.rf
  have in1 : ∀ w ∈ wsX10, w ∈ wsX1_add := by decide +kernel
  have hl := lv_entry ([.ref (ad a), .ref (ad o)]) (n := 8) (Nat.le_of_ble_eq_true rfl)
  rw [lg_entry_eq]
  generalize (lg_sl ([.ref (ad a), .ref (ad o)]) ++ List.replicate (8 - (lg_sl ([.ref (ad a), .ref (ad o)])).length) Slot.unset).toArray = ls at hl ⊢
  have hl : lv_has ls 8 [(0, .ref (ad a)), (1, .ref (ad o))] := hl
  have hs64 := nd_s64 hx64
  have ht64 := nd_s64 hy64
  have hm1 : max (nd_s x) (nd_s y) ≤ 64 := by omega
  rw [← nw_self ha] at hP hD
  refine lv_aload_n hx hb dX1_add_0 rfl (lv_at hl 0 rfl) ?_
  refine rg_1_size hx hb hts in1 hown hK hP a (by omega) nw_o (hts _ (by decide +kernel)) dX1_add_1 ?_
  refine lv_aload_n hx hb dX1_add_4 rfl (lv_at hl 1 rfl) ?_
  refine rg_1_size hx hb hts in1 hown hK hP o (by omega) ((nw_ne (by omega) (by omega)).trans ho.1) (hts _ (by decide +kernel)) dX1_add_5 ?_
  refine va_mmax hx hb (by rw [hml]; exact hl.1.symm) hown (hts _ (by decide +kernel)) (hts _ (by decide +kernel)) (hts _ (by decide +kernel)) (hts _ (by decide +kernel)) (Nat.le_of_ble_eq_true rfl) (Nat.le_of_ble_eq_true rfl) (Nat.zero_le _) (Nat.zero_le _) dX1_add_8 ?_
  refine tp_i (y := nI (max (nd_s x) (nd_s y))) (mx_n (by omega) (by omega)) ?_
  refine lv_istore_n (lv' := [(2, .int (nI (max (nd_s x) (nd_s y)))), (0, .ref (ad a)), (1, .ref (ad o))]) hx hb dX1_add_11 rfl hl (by decide) rfl (fun ls hl => ?_)
  refine lv_lconst (v := lN (0)) hx hb dX1_add_12 rfl ?_
  refine lv_lstore_n (lv' := [(3, .long (lN (0))), (2, .int (nI (max (nd_s x) (nd_s y)))), (0, .ref (ad a)), (1, .ref (ad o))]) hx hb dX1_add_13 rfl hl (by decide) rfl (fun ls hl => ?_)
  refine lv_iconst (v := nI (0)) hx hb dX1_add_14 (by decide) ?_
  refine lv_istore (lv' := [(5, .int (nI (0))), (3, .long (lN (0))), (2, .int (nI (max (nd_s x) (nd_s y)))), (0, .ref (ad a)), (1, .ref (ad o))]) hx hb dX1_add_15 hl (by decide) rfl (fun ls hl => ?_)
  refine lp_X1_add (K := max (nd_s x) (nd_s y)) ⟨hx, hb, hml, hown, hts⟩ hK hT ha1 ho1 ho n1 n2 n3 hm1 (fun cv f H locs ls hi hc h1 h2 hP hD hS hl => ?_) (max (nd_s x) (nd_s y)) 0 0 _ _ _ ls (by omega) (by simp only [nd_q0]; omega) (Nat.zero_le _) (fun j hj => absurd hj (Nat.not_lt_zero _)) (fun j _ => rfl) hP hD hS (lv_sub hl [0,1,2,3,4] rfl)
  rw [nd_qz (nd_s_lt x) (by omega), nd_qz (nd_s_lt y) (by omega)] at hi
  refine lv_aload_n hx hb dX1_add_68 rfl (lv_at hl 2 rfl) ?_
  refine lv_iload_n hx hb dX1_add_69 rfl (lv_at hl 1 rfl) ?_
  refine lv_lload_n hx hb dX1_add_70 rfl (lv_at hl 0 rfl) ?_
  refine va_callv (va_runV (As := [.int (nI (max (nd_s x) (nd_s y))), .long (lN (cv))]) (rest := []) ⟨hx, hb, hml, hown, hts⟩ (c_X1_close l D cA tT A N ad _ g (a := a) (V := x + y) (k := max (nd_s x) (nd_s y)) (cv := cv) (f := f) (sv := nI (nd_s x)) ha1 hm1 hs (by omega) (by omega) (fun h0 => nd_sadd (by omega)) h1 (fun j hj => by rw [h2 j hj, nd_A, nd_dz (nd_s_lt x) (by omega)])) (cwV 2 hts gX1_add_X1_close rfl rfl rfl (by decide +kernel) ⟨Nat.le_of_ble_eq_true rfl, Nat.le_of_ble_eq_true rfl⟩) (wd_preV (k := a) hP hK hD hT hS (by omega) nw_o rfl) rfl rfl hl.1 rfl (lv_room (Nat.le_of_ble_eq_true rfl)) dX1_add_71 ⟨Nat.zero_le _, Nat.zero_le _⟩) hS id_2 id_1 (fun u t H locs ht hvm hw hB hz1 hk1 hS => ?_)
  obtain ⟨hP, hD⟩ := wd_back ht hB
  clear ht hvm hB hz1 hk1
  rw [hw] at hP hD
  clear hw
  exact W.vret hx hb hr (fun t ht hW => ⟨⟨_, rfl, rfl, wd_end hP hK hD ht hW⟩, hS.F ht⟩) hS.2.2 dX1_add_74
set_option maxHeartbeats 4000000 in
set_option maxRecDepth 100000 in
theorem lp_X1_addSelf {p : Program} {l : Launch} {e : Env} {R : Room} {s : State} {m : MethodId} {args : Array Value} {below : List Frame} {meth : Method} {c : Code} {Q : State → Prop} {D : va_G} {cA : Nat → ClassId} {tT : Nat} {A : Nat → Prop} {N : Nat} {ad : Nat → Nat} {g : Nat → va_E} {a x : Nat} {K : Nat} (S : CallFix p m c cX1_add 8 s args wsX1_add RX1) (hK : va_K D vwCl (ty_s cA) s) (hT : st_T tT A s s.heap) (ha1 : a + 1 < N)  (hK9 : K ≤ 64) (kk : ∀ (cv : Nat) (f : Nat → Int64) (H : Heap) (locs : List Loc) (ls : Array Slot), (x + x) / 1000000 ^ K = x / 1000000 ^ K + x / 1000000 ^ K + cv → cv ≤ 1 → (∀ j, j < K → f j = nd_A (x + x) j) → (∀ j, K ≤ j → f j = nd_A x j) → va_P D vwCl (wm_W N ad (nw_ cA ad g a f (nI (nd_s x)))) H → va_D A (wm_W N ad (nw_ cA ad g a f (nI (nd_s x)))) → va_S A s.heap H locs → lv_has ls 8 [(3, .long (lN cv)), (2, .int (nI K)), (0, .ref (ad a))] → W p l e R s m args below meth c H locs 0 0 Q (F0 m 68 ls [])) :
    ∀ (n i cv : Nat) (f : Nat → Int64) (H : Heap) (locs : List Loc) (ls : Array Slot), i + n = K → (x + x) / 1000000 ^ i = x / 1000000 ^ i + x / 1000000 ^ i + cv → cv ≤ 1 → (∀ j, j < i → f j = nd_A (x + x) j) → (∀ j, i ≤ j → f j = nd_A x j) → va_P D vwCl (wm_W N ad (nw_ cA ad g a f (nI (nd_s x)))) H → va_D A (wm_W N ad (nw_ cA ad g a f (nI (nd_s x)))) → va_S A s.heap H locs → lv_has ls 8 [(5, .int (nI (i))), (3, .long (lN (cv))), (2, .int (nI (K))), (0, .ref (ad a)), (1, .ref (ad a))] → W p l e R s m args below meth c H locs 0 0 Q (F0 m 17 ls []) := by
  obtain ⟨hx, hb, hml, hown, hts⟩ := S
  have in1 : ∀ w ∈ wsX10, w ∈ wsX1_add := by decide +kernel
  intro n
  induction n with
  | zero =>
    intro i cv f H locs ls hn hi hc h1 h2 hP hD hS hl
    refine lv_iload hx hb dX1_add_17 (lv_at hl 0 rfl) ?_
    refine lv_iload_n hx hb dX1_add_19 rfl (lv_at hl 2 rfl) ?_
    refine bi_ge (tgt := 68) hx hb dX1_add_20 (by decide) (by omega) (by omega) (fun q => ?_) (fun q => ?_)
    · obtain rfl : i = K := by omega
      exact kk cv f H locs ls hi hc h1 h2 hP hD hS (lv_sub hl [1, 2, 3] rfl)
    · exact absurd hn (by omega)
  | succ n ih =>
    intro i cv f H locs ls hn hi hc h1 h2 hP hD hS hl
    refine lv_iload hx hb dX1_add_17 (lv_at hl 0 rfl) ?_
    refine lv_iload_n hx hb dX1_add_19 rfl (lv_at hl 2 rfl) ?_
    refine bi_ge (tgt := 68) hx hb dX1_add_20 (by decide) (by omega) (by omega) (fun q => ?_) (fun q => ?_)
    · exact absurd hn (by omega)
    · have hd1 := nd_lt x i
      have hd2 := nd_lt x i
      refine lv_aload_n hx hb dX1_add_23 rfl (lv_at hl 3 rfl) ?_
      refine rg_1_limbs hx hb hts in1 hown hK hP a (by omega) nw_o (hts _ (by decide +kernel)) dX1_add_24 ?_
      refine lv_iload hx hb dX1_add_27 (lv_at hl 0 rfl) ?_
      refine rn_l hx hb hK hP (a + 1) (by omega) nw_l (by omega) (by decide) dX1_add_29 ?_
      refine tp_l (y := lN (nd_d x i)) (h2 i (Nat.le_refl i)) ?_
      refine lv_aload_n hx hb dX1_add_30 rfl (lv_at hl 4 rfl) ?_
      refine rg_1_limbs hx hb hts in1 hown hK hP a (by omega) nw_o (hts _ (by decide +kernel)) dX1_add_31 ?_
      refine lv_iload hx hb dX1_add_34 (lv_at hl 0 rfl) ?_
      refine rn_l hx hb hK hP (a + 1) (by omega) nw_l (by omega) (by decide) dX1_add_36 ?_
      refine tp_l (y := lN (nd_d x i)) (h2 i (Nat.le_refl i)) ?_
      refine lv_ladd hx hb dX1_add_37 ?_
      refine tp_l (y := lN ((nd_d x i) + (nd_d x i))) (lN_add _ _) ?_
      refine lv_lload_n hx hb dX1_add_38 rfl (lv_at hl 1 rfl) ?_
      refine lv_ladd hx hb dX1_add_39 ?_
      refine tp_l (y := lN (((nd_d x i) + (nd_d x i)) + cv)) (lN_add _ _) ?_
      refine lv_lstore (lv' := [(6, .long (lN (((nd_d x i) + (nd_d x i)) + cv))), (5, .int (nI (i))), (3, .long (lN (cv))), (2, .int (nI (K))), (0, .ref (ad a)), (1, .ref (ad a))]) hx hb dX1_add_40 hl (by decide) rfl (fun ls hl => ?_)
      refine lv_aload_n hx hb dX1_add_42 rfl (lv_at hl 4 rfl) ?_
      refine rg_1_limbs hx hb hts in1 hown hK hP a (by omega) nw_o (hts _ (by decide +kernel)) dX1_add_43 ?_
      refine lv_iload hx hb dX1_add_46 (lv_at hl 1 rfl) ?_
      refine lv_lload hx hb dX1_add_48 (lv_at hl 0 rfl) ?_
      refine lv_ldc2 (v := lN (1000000)) hx hb hown (hts _ (by decide +kernel)) dX1_add_50 ?_
      refine lv_lrem hx hb dX1_add_53 (lN_ne0 (by omega) (by omega)) ?_
      refine tp_l (y := lN ((((nd_d x i) + (nd_d x i)) + cv) % 1000000)) (pk_lRem (by omega) (by omega) (by omega)) ?_
      refine rt_l hx hb hK hP hD hS (a + 1) (by omega) nw_l (by omega) (by decide) dX1_add_54 (fun H locs hP hD hS => ?_)
      rw [nw_sl] at hP hD
      refine lv_lload hx hb dX1_add_55 (lv_at hl 0 rfl) ?_
      refine lv_ldc2 (v := lN (1000000)) hx hb hown (hts _ (by decide +kernel)) dX1_add_57 ?_
      refine lv_ldiv hx hb dX1_add_60 (lN_ne0 (by omega) (by omega)) ?_
      refine tp_l (y := lN ((((nd_d x i) + (nd_d x i)) + cv) / 1000000)) (pk_lDiv (by omega) (by omega) (by omega)) ?_
      refine lv_lstore_n (lv' := [(3, .long (lN ((((nd_d x i) + (nd_d x i)) + cv) / 1000000))), (6, .long (lN (((nd_d x i) + (nd_d x i)) + cv))), (5, .int (nI (i))), (2, .int (nI (K))), (0, .ref (ad a)), (1, .ref (ad a))]) hx hb dX1_add_61 rfl hl (by decide) rfl (fun ls hl => ?_)
      refine lv_iinc (v := nI (i + 1)) (lv' := [(5, .int (nI (i + 1))), (3, .long (lN ((((nd_d x i) + (nd_d x i)) + cv) / 1000000))), (6, .long (lN (((nd_d x i) + (nd_d x i)) + cv))), (2, .int (nI (K))), (0, .ref (ad a)), (1, .ref (ad a))]) hx hb dX1_add_62 hl (k := 2) rfl (nI_inc i 1) (by decide) rfl (fun ls hl => ?_)
      refine lv_goto (tgt := 17) hx hb dX1_add_65 (by decide) ?_
      refine ih (i + 1) _ _ H locs ls (by omega) (by simp only [nd_q, nd_d]; omega) (by omega) (fun j hj => ?_) (fun j hj => ?_) hP hD hS (lv_sub hl [0, 1, 3, 4, 5] rfl)
      · rcases Nat.lt_or_ge j i with r | r
        · rw [pk_uLn (by omega)]; exact h1 j r
        · obtain rfl : j = i := by omega
          rw [pk_uLs, nd_A]; congr 1
          simp only [nd_d]; omega
      · rw [pk_uLn (by omega)]; exact h2 j (by omega)
set_option maxHeartbeats 4000000 in
set_option maxRecDepth 100000 in
/-- add -/
theorem c_X1_addSelf (l : Launch) (D : va_G) (cA : Nat → ClassId) (tT : Nat) (A : Nat → Prop) (N : Nat) (ad : Nat → Nat) (sz : Nat) (g : Nat → va_E) {a x : Nat} (ha1 : a + 1 < N) (ha : is_N cA ad g a x)  (hx64 : x < 1000000 ^ 64)  (hs : x + x < 1000000 ^ 64) : Met l yX1_add wsX1_add ({ frames := 1, cells := 0, slots := 0, locals := 23 }) (va_Pc [.ref (ad a), .ref (ad a)] (wd_B D cA tT A N ad sz g)) (va_Qv (fun (u : Nat → va_E) => u = nN cA ad g a (x + x)) (wd_E D cA A N ad) A) 0 0 A := by
  refine Met.ofW (cc := cX1_add) (maxL := 8) (ret := none) (by decide) rfl ?_
  intro p e s m args below meth c s₁ B hml hv
  obtain ⟨rfl, hsz, hP, hK, hD, hT⟩ := hv
  have hx := B.exec
  have hb := B.bytes
  have hr := B.returns
  have hts := atoms_spec (ws := wsX1_add) B.pre
  have hown : s.vm.findClass RX1 = some m.cls := findClass_of_methodNamed B.named
  have hlocks := B.notSynchronized
  subst hsz
  have hS : va_S A s.heap s.heap [] := va_S.rf
  have in1 : ∀ w ∈ wsX10, w ∈ wsX1_add := by decide +kernel
  have hl := lv_entry ([.ref (ad a), .ref (ad a)]) (n := 8) (Nat.le_of_ble_eq_true rfl)
  rw [lg_entry_eq]
  generalize (lg_sl ([.ref (ad a), .ref (ad a)]) ++ List.replicate (8 - (lg_sl ([.ref (ad a), .ref (ad a)])).length) Slot.unset).toArray = ls at hl ⊢
  have hl : lv_has ls 8 [(0, .ref (ad a)), (1, .ref (ad a))] := hl
  have hs64 := nd_s64 hx64
  have ht64 := hs64
  have hm1 : max (nd_s x) (nd_s x) ≤ 64 := by omega
  rw [← nw_self ha] at hP hD
  refine lv_aload_n hx hb dX1_add_0 rfl (lv_at hl 0 rfl) ?_
  refine rg_1_size hx hb hts in1 hown hK hP a (by omega) nw_o (hts _ (by decide +kernel)) dX1_add_1 ?_
  refine lv_aload_n hx hb dX1_add_4 rfl (lv_at hl 1 rfl) ?_
  refine rg_1_size hx hb hts in1 hown hK hP a (by omega) nw_o (hts _ (by decide +kernel)) dX1_add_5 ?_
  refine va_mmax hx hb (by rw [hml]; exact hl.1.symm) hown (hts _ (by decide +kernel)) (hts _ (by decide +kernel)) (hts _ (by decide +kernel)) (hts _ (by decide +kernel)) (Nat.le_of_ble_eq_true rfl) (Nat.le_of_ble_eq_true rfl) (Nat.zero_le _) (Nat.zero_le _) dX1_add_8 ?_
  refine tp_i (y := nI (max (nd_s x) (nd_s x))) (mx_n (by omega) (by omega)) ?_
  refine lv_istore_n (lv' := [(2, .int (nI (max (nd_s x) (nd_s x)))), (0, .ref (ad a)), (1, .ref (ad a))]) hx hb dX1_add_11 rfl hl (by decide) rfl (fun ls hl => ?_)
  refine lv_lconst (v := lN (0)) hx hb dX1_add_12 rfl ?_
  refine lv_lstore_n (lv' := [(3, .long (lN (0))), (2, .int (nI (max (nd_s x) (nd_s x)))), (0, .ref (ad a)), (1, .ref (ad a))]) hx hb dX1_add_13 rfl hl (by decide) rfl (fun ls hl => ?_)
  refine lv_iconst (v := nI (0)) hx hb dX1_add_14 (by decide) ?_
  refine lv_istore (lv' := [(5, .int (nI (0))), (3, .long (lN (0))), (2, .int (nI (max (nd_s x) (nd_s x)))), (0, .ref (ad a)), (1, .ref (ad a))]) hx hb dX1_add_15 hl (by decide) rfl (fun ls hl => ?_)
  refine lp_X1_addSelf (K := max (nd_s x) (nd_s x)) ⟨hx, hb, hml, hown, hts⟩ hK hT ha1  hm1 (fun cv f H locs ls hi hc h1 h2 hP hD hS hl => ?_) (max (nd_s x) (nd_s x)) 0 0 _ _ _ ls (by omega) (by simp only [nd_q0]; omega) (Nat.zero_le _) (fun j hj => absurd hj (Nat.not_lt_zero _)) (fun j _ => rfl) hP hD hS (lv_sub hl [0,1,2,3,4] rfl)
  rw [nd_qz (nd_s_lt x) (by omega)] at hi
  refine lv_aload_n hx hb dX1_add_68 rfl (lv_at hl 2 rfl) ?_
  refine lv_iload_n hx hb dX1_add_69 rfl (lv_at hl 1 rfl) ?_
  refine lv_lload_n hx hb dX1_add_70 rfl (lv_at hl 0 rfl) ?_
  refine va_callv (va_runV (As := [.int (nI (max (nd_s x) (nd_s x))), .long (lN (cv))]) (rest := []) ⟨hx, hb, hml, hown, hts⟩ (c_X1_close l D cA tT A N ad _ g (a := a) (V := x + x) (k := max (nd_s x) (nd_s x)) (cv := cv) (f := f) (sv := nI (nd_s x)) ha1 hm1 hs (by omega) (by omega) (fun h0 => nd_sadd (by omega)) h1 (fun j hj => by rw [h2 j hj, nd_A, nd_dz (nd_s_lt x) (by omega)])) (cwV 2 hts gX1_add_X1_close rfl rfl rfl (by decide +kernel) ⟨Nat.le_of_ble_eq_true rfl, Nat.le_of_ble_eq_true rfl⟩) (wd_preV (k := a) hP hK hD hT hS (by omega) nw_o rfl) rfl rfl hl.1 rfl (lv_room (Nat.le_of_ble_eq_true rfl)) dX1_add_71 ⟨Nat.zero_le _, Nat.zero_le _⟩) hS id_2 id_1 (fun u t H locs ht hvm hw hB hz1 hk1 hS => ?_)
  obtain ⟨hP, hD⟩ := wd_back ht hB
  clear ht hvm hB hz1 hk1
  rw [hw] at hP hD
  clear hw
  exact W.vret hx hb hr (fun t ht hW => ⟨⟨_, rfl, rfl, wd_end hP hK hD ht hW⟩, hS.F ht⟩) hS.2.2 dX1_add_74
