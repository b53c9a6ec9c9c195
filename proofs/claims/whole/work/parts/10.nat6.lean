/-- limbs of numbers: a function of numbers as limbs -/
def nf (F : Nat → Nat) : Nat → Int64 := fun j => lN (F j)
theorem nf_up (F : Nat → Nat) (k v : Nat) : vp_updL (nf F) k (lN v) = nf (va_up F k v) := by
  funext j
  simp only [vp_updL, nf, va_up]
  by_cases h : j = k <;> simp [h]
theorem nd_v_up {F : Nat → Nat} {k v : Nat} : ∀ {K : Nat}, k < K → nd_v (va_up F k v) K + F k * 1000000 ^ k = nd_v F K + v * 1000000 ^ k := by
  intro K
  induction K with
  | zero => intro h; omega
  | succ K ih =>
    intro h
    rcases Nat.lt_or_ge k K with r | r
    · rw [nd_v, nd_v, va_up_ne _ _ (by omega)]
      have := ih r
      omega
    · obtain rfl : k = K := by omega
      rw [nd_v, nd_v, va_up_self, nd_v_congr (g := F) (fun j hj => va_up_ne _ _ (by omega))]
      omega
theorem pd_step {VF VF' Av sv p dx dy cv Rv Bi Bm ym yM : Nat} (h1 : VF' + Av * p = VF + sv % 1000000 * p) (h2 : VF + cv * p = Rv + dx * Bi * ym) (hs : sv = Av + dx * dy + cv) (hp : p = Bi * Bm) (hy : yM = ym + Bm * dy) : VF' + sv / 1000000 * (p * 1000000) = Rv + dx * Bi * yM := by
  have e1 : sv / 1000000 * (p * 1000000) + sv % 1000000 * p = sv * p := by
    rw [Nat.mul_comm p 1000000, ← Nat.mul_assoc, ← Nat.add_mul]
    congr 1; omega
  have e2 : sv * p = Av * p + dx * dy * p + cv * p := by rw [hs, Nat.add_mul, Nat.add_mul]
  have e3 : dx * Bi * yM = dx * Bi * ym + dx * dy * p := by
    rw [hy, Nat.mul_add, hp]; congr 1; simp only [Nat.mul_comm, Nat.mul_left_comm]
  omega
theorem pd_b {A dx dy cv : Nat} (hA : A < 1000000) (hx : dx < 1000000) (hy : dy < 1000000) (hc : cv < 1000000) : A + dx * dy + cv < 1000000000000 ∧ (A + dx * dy + cv) / 1000000 < 1000000 ∧ dx * dy < 1000000000000 := by
  have h1 : dx * dy ≤ 999999 * 999999 := Nat.mul_le_mul (by omega) (by omega)
  omega
theorem nd_ms (y m : Nat) : y % 1000000 ^ (m + 1) = y % 1000000 ^ m + 1000000 ^ m * nd_d y m := by
  rw [nd_d, Nat.pow_succ, Nat.mod_mul]
theorem pd_out {VF VF' cv p Bi Bs dx xm xM y : Nat} (h1 : VF' + 0 * (Bi * Bs) = VF + cv * (Bi * Bs)) (h2 : VF + cv * (Bi * Bs) = xm * y + dx * Bi * y) (hx : xM = xm + Bi * dx) : VF' = xM * y := by
  rw [hx, Nat.add_mul, Nat.mul_comm Bi dx]; omega
theorem pd_fin {F : Nat → Nat} {V : Nat} (hF : ∀ j, F j < 1000000) (hz : ∀ j, 64 ≤ j → F j = 0) (hv : nd_v F 64 = V) : nf F = nd_A V := by
  have hV : V < 1000000 ^ 64 := by rw [← hv]; exact nd_v_lt (fun j _ => hF j)
  funext j
  rw [nf, nd_A]
  rcases Nat.lt_or_ge j 64 with r | r
  · rw [← hv, nd_v_d (fun j _ => hF j) j r]
  · rw [hz j r, nd_dz hV r]
set_option maxHeartbeats 4000000 in
set_option maxRecDepth 100000 in
theorem lp_X1_product1 {p : Program} {l : Launch} {e : Env} {R : Room} {s : State} {m : MethodId} {args : Array Value} {below : List Frame} {meth : Method} {c : Code} {Q : State → Prop} {D : va_G} {cA : Nat → ClassId} {tT : Nat} {A : Nat → Prop} {N : Nat} {ad : Nat → Nat} {g : Nat → va_E} {a j1 j2 x y i : Nat} (S : CallFix p m c cX1_becomeProduct 9 s args wsX1_becomeProduct RX1) (hK : va_K D vwCl (ty_s cA) s) (hT : st_T tT A s s.heap) (ha1 : a + 1 < N) (hj11 : j1 + 1 < N) (hj21 : j2 + 1 < N) (hj1 : is_N cA ad g j1 x) (hj2 : is_N cA ad g j2 y) (n1 : a ≠ j1) (n2 : a ≠ j1 + 1) (n3 : a + 1 ≠ j1) (m1 : a ≠ j2) (m2 : a ≠ j2 + 1) (m3 : a + 1 ≠ j2) (hxy : nd_s x + nd_s y ≤ 64) (hi : i < nd_s x) (kk : ∀ (cv : Nat) (F : Nat → Nat) (H : Heap) (locs : List Loc) (ls : Array Slot), (∀ j, F j < 1000000) → (∀ j, i + nd_s y ≤ j → F j = 0) → nd_v F 64 + cv * 1000000 ^ (i + nd_s y) = x % 1000000 ^ i * y + nd_d x i * 1000000 ^ i * (y % 1000000 ^ nd_s y) → cv < 1000000 → va_P D vwCl (wm_W N ad (nw_ cA ad g a (nf F) (nI 0))) H → va_D A (wm_W N ad (nw_ cA ad g a (nf F) (nI 0))) → va_S A s.heap H locs → lv_has ls 9 [(4, .long (lN cv)), (3, .int (nI i)), (0, .ref (ad a)), (1, .ref (ad j1)), (2, .ref (ad j2))] → W p l e R s m args below meth c H locs 0 0 Q (F0 m 102 ls [])) :
    ∀ (n k cv : Nat) (F : Nat → Nat) (H : Heap) (locs : List Loc) (ls : Array Slot), k + n = nd_s y → (∀ j, F j < 1000000) → (∀ j, i + nd_s y ≤ j → F j = 0) → nd_v F 64 + cv * 1000000 ^ (i + k) = x % 1000000 ^ i * y + nd_d x i * 1000000 ^ i * (y % 1000000 ^ k) → cv < 1000000 → va_P D vwCl (wm_W N ad (nw_ cA ad g a (nf F) (nI 0))) H → va_D A (wm_W N ad (nw_ cA ad g a (nf F) (nI 0))) → va_S A s.heap H locs → lv_has ls 9 [(6, .int (nI (k))), (4, .long (lN (cv))), (3, .int (nI (i))), (0, .ref (ad a)), (1, .ref (ad j1)), (2, .ref (ad j2))] → W p l e R s m args below meth c H locs 0 0 Q (F0 m 35 ls []) := by
  obtain ⟨hx, hb, hml, hown, hts⟩ := S
  have in1 : ∀ w ∈ wsX10, w ∈ wsX1_becomeProduct := by decide +kernel
  intro n
  induction n with
  | zero =>
    intro k cv F H locs ls hn h1 h2 h3 h4 hP hD hS hl
    refine lv_iload hx hb dX1_becomeProduct_35 (lv_at hl 0 rfl) ?_
    refine lv_aload_n hx hb dX1_becomeProduct_37 rfl (lv_at hl 5 rfl) ?_
    refine rg_1_size hx hb hts in1 hown hK hP j2 (by omega) ((nw_ne (by omega) (by omega)).trans hj2.1) (hts _ (by decide +kernel)) dX1_becomeProduct_38 ?_
    refine bi_ge (tgt := 102) hx hb dX1_becomeProduct_41 (by decide) (by omega) (by omega) (fun q => ?_) (fun q => ?_)
    · obtain rfl : k = nd_s y := by omega
      exact kk cv F H locs ls h1 h2 h3 h4 hP hD hS (lv_sub hl [1, 2, 3, 4, 5] rfl)
    · exact absurd hn (by omega)
  | succ n ih =>
    intro k cv F H locs ls hn h1 h2 h3 h4 hP hD hS hl
    refine lv_iload hx hb dX1_becomeProduct_35 (lv_at hl 0 rfl) ?_
    refine lv_aload_n hx hb dX1_becomeProduct_37 rfl (lv_at hl 5 rfl) ?_
    refine rg_1_size hx hb hts in1 hown hK hP j2 (by omega) ((nw_ne (by omega) (by omega)).trans hj2.1) (hts _ (by decide +kernel)) dX1_becomeProduct_38 ?_
    refine bi_ge (tgt := 102) hx hb dX1_becomeProduct_41 (by decide) (by omega) (by omega) (fun q => ?_) (fun q => ?_)
    · exact absurd hn (by omega)
    · have hpb := pd_b (h1 (i + k)) (nd_lt x i) (nd_lt y k) h4
      refine lv_aload_n hx hb dX1_becomeProduct_44 rfl (lv_at hl 3 rfl) ?_
      refine rg_1_limbs hx hb hts in1 hown hK hP a (by omega) nw_o (hts _ (by decide +kernel)) dX1_becomeProduct_45 ?_
      refine lv_iload_n hx hb dX1_becomeProduct_48 rfl (lv_at hl 2 rfl) ?_
      refine lv_iload hx hb dX1_becomeProduct_49 (lv_at hl 0 rfl) ?_
      refine lv_iadd hx hb dX1_becomeProduct_51 ?_
      refine tp_i (y := nI (i + k)) (nI_add _ _) ?_
      refine rn_l hx hb hK hP (a + 1) (by omega) nw_l (by omega) (by decide) dX1_becomeProduct_52 ?_
      refine tp_l (y := lN (F (i + k))) (rfl) ?_
      refine lv_aload_n hx hb dX1_becomeProduct_53 rfl (lv_at hl 4 rfl) ?_
      refine rg_1_limbs hx hb hts in1 hown hK hP j1 (by omega) ((nw_ne (by omega) (by omega)).trans hj1.1) (hts _ (by decide +kernel)) dX1_becomeProduct_54 ?_
      refine lv_iload_n hx hb dX1_becomeProduct_57 rfl (lv_at hl 2 rfl) ?_
      refine rn_l hx hb hK hP (j1 + 1) (by omega) ((nw_ne (by omega) (by omega)).trans hj1.2) (by omega) (by decide) dX1_becomeProduct_58 ?_
      refine tp_l (y := lN (nd_d x i)) rfl ?_
      refine lv_aload_n hx hb dX1_becomeProduct_59 rfl (lv_at hl 5 rfl) ?_
      refine rg_1_limbs hx hb hts in1 hown hK hP j2 (by omega) ((nw_ne (by omega) (by omega)).trans hj2.1) (hts _ (by decide +kernel)) dX1_becomeProduct_60 ?_
      refine lv_iload hx hb dX1_becomeProduct_63 (lv_at hl 0 rfl) ?_
      refine rn_l hx hb hK hP (j2 + 1) (by omega) ((nw_ne (by omega) (by omega)).trans hj2.2) (by omega) (by decide) dX1_becomeProduct_65 ?_
      refine tp_l (y := lN (nd_d y k)) rfl ?_
      refine lv_lmul hx hb dX1_becomeProduct_66 ?_
      refine tp_l (y := lN ((nd_d x i) * (nd_d y k))) (lN_mul _ _) ?_
      refine lv_ladd hx hb dX1_becomeProduct_67 ?_
      refine tp_l (y := lN ((F (i + k)) + ((nd_d x i) * (nd_d y k)))) (lN_add _ _) ?_
      refine lv_lload hx hb dX1_becomeProduct_68 (lv_at hl 1 rfl) ?_
      refine lv_ladd hx hb dX1_becomeProduct_70 ?_
      refine tp_l (y := lN (((F (i + k)) + ((nd_d x i) * (nd_d y k))) + cv)) (lN_add _ _) ?_
      refine lv_lstore (lv' := [(7, .long (lN (((F (i + k)) + ((nd_d x i) * (nd_d y k))) + cv))), (6, .int (nI (k))), (4, .long (lN (cv))), (3, .int (nI (i))), (0, .ref (ad a)), (1, .ref (ad j1)), (2, .ref (ad j2))]) hx hb dX1_becomeProduct_71 hl (by decide) rfl (fun ls hl => ?_)
      refine lv_aload_n hx hb dX1_becomeProduct_73 rfl (lv_at hl 4 rfl) ?_
      refine rg_1_limbs hx hb hts in1 hown hK hP a (by omega) nw_o (hts _ (by decide +kernel)) dX1_becomeProduct_74 ?_
      refine lv_iload_n hx hb dX1_becomeProduct_77 rfl (lv_at hl 3 rfl) ?_
      refine lv_iload hx hb dX1_becomeProduct_78 (lv_at hl 1 rfl) ?_
      refine lv_iadd hx hb dX1_becomeProduct_80 ?_
      refine tp_i (y := nI (i + k)) (nI_add _ _) ?_
      refine lv_lload hx hb dX1_becomeProduct_81 (lv_at hl 0 rfl) ?_
      refine lv_ldc2 (v := lN (1000000)) hx hb hown (hts _ (by decide +kernel)) dX1_becomeProduct_83 ?_
      refine lv_lrem hx hb dX1_becomeProduct_86 (lN_ne0 (by omega) (by omega)) ?_
      refine tp_l (y := lN ((((F (i + k)) + ((nd_d x i) * (nd_d y k))) + cv) % 1000000)) (pk_lRem (by omega) (by omega) (by omega)) ?_
      refine rt_l hx hb hK hP hD hS (a + 1) (by omega) nw_l (by omega) (by decide) dX1_becomeProduct_87 (fun H locs hP hD hS => ?_)
      rw [nw_sl] at hP hD
      refine lv_lload hx hb dX1_becomeProduct_88 (lv_at hl 0 rfl) ?_
      refine lv_ldc2 (v := lN (1000000)) hx hb hown (hts _ (by decide +kernel)) dX1_becomeProduct_90 ?_
      refine lv_ldiv hx hb dX1_becomeProduct_93 (lN_ne0 (by omega) (by omega)) ?_
      refine tp_l (y := lN ((((F (i + k)) + ((nd_d x i) * (nd_d y k))) + cv) / 1000000)) (pk_lDiv (by omega) (by omega) (by omega)) ?_
      refine lv_lstore (lv' := [(4, .long (lN ((((F (i + k)) + ((nd_d x i) * (nd_d y k))) + cv) / 1000000))), (7, .long (lN (((F (i + k)) + ((nd_d x i) * (nd_d y k))) + cv))), (6, .int (nI (k))), (3, .int (nI (i))), (0, .ref (ad a)), (1, .ref (ad j1)), (2, .ref (ad j2))]) hx hb dX1_becomeProduct_94 hl (by decide) rfl (fun ls hl => ?_)
      refine lv_iinc (v := nI (k + 1)) (lv' := [(6, .int (nI (k + 1))), (4, .long (lN ((((F (i + k)) + ((nd_d x i) * (nd_d y k))) + cv) / 1000000))), (7, .long (lN (((F (i + k)) + ((nd_d x i) * (nd_d y k))) + cv))), (3, .int (nI (i))), (0, .ref (ad a)), (1, .ref (ad j1)), (2, .ref (ad j2))]) hx hb dX1_becomeProduct_96 hl (k := 2) rfl (nI_inc k 1) (by decide) rfl (fun ls hl => ?_)
      refine lv_goto (tgt := 35) hx hb dX1_becomeProduct_99 (by decide) ?_
      rw [nf_up] at hP hD
      refine ih (k + 1) _ _ H locs ls (by omega) (fun j => ?_) (fun j hj => ?_) ?_ hpb.2.1 hP hD hS (lv_sub hl [0, 1, 3, 4, 5, 6] rfl)
      · by_cases r : j = i + k
        · subst r; rw [va_up_self]; exact Nat.mod_lt _ (by decide)
        · rw [va_up_ne _ _ r]; exact h1 j
      · rw [va_up_ne _ _ (by omega)]; exact h2 j hj
      · have e := nd_v_up (F := F) (k := i + k) (v := (F (i + k) + nd_d x i * nd_d y k + cv) % 1000000) (K := 64) (by omega)
        have := pd_step e h3 rfl (Nat.pow_add 1000000 i k) (nd_ms y k)
        rw [show i + (k + 1) = i + k + 1 by omega, Nat.pow_succ]; exact this
set_option maxHeartbeats 4000000 in
set_option maxRecDepth 100000 in
theorem lp_X1_product2 {p : Program} {l : Launch} {e : Env} {R : Room} {s : State} {m : MethodId} {args : Array Value} {below : List Frame} {meth : Method} {c : Code} {Q : State → Prop} {D : va_G} {cA : Nat → ClassId} {tT : Nat} {A : Nat → Prop} {N : Nat} {ad : Nat → Nat} {g : Nat → va_E} {a j1 j2 x y : Nat} (S : CallFix p m c cX1_becomeProduct 9 s args wsX1_becomeProduct RX1) (hK : va_K D vwCl (ty_s cA) s) (hT : st_T tT A s s.heap) (ha1 : a + 1 < N) (hj11 : j1 + 1 < N) (hj21 : j2 + 1 < N) (hj1 : is_N cA ad g j1 x) (hj2 : is_N cA ad g j2 y) (n1 : a ≠ j1) (n2 : a ≠ j1 + 1) (n3 : a + 1 ≠ j1) (m1 : a ≠ j2) (m2 : a ≠ j2 + 1) (m3 : a + 1 ≠ j2) (hxy : nd_s x + nd_s y ≤ 64) (kk : ∀ (H : Heap) (locs : List Loc) (ls : Array Slot), va_P D vwCl (wm_W N ad (nw_ cA ad g a (nd_A (x * y)) (nI 0))) H → va_D A (wm_W N ad (nw_ cA ad g a (nd_A (x * y)) (nI 0))) → va_S A s.heap H locs → lv_has ls 9 [(0, .ref (ad a)), (1, .ref (ad j1)), (2, .ref (ad j2))] → W p l e R s m args below meth c H locs 0 0 Q (F0 m 121 ls [])) :
    ∀ (n i : Nat) (F : Nat → Nat) (H : Heap) (locs : List Loc) (ls : Array Slot), i + n = nd_s x → (∀ j, F j < 1000000) → (∀ j, i + nd_s y ≤ j → F j = 0) → nd_v F 64 = x % 1000000 ^ i * y → va_P D vwCl (wm_W N ad (nw_ cA ad g a (nf F) (nI 0))) H → va_D A (wm_W N ad (nw_ cA ad g a (nf F) (nI 0))) → va_S A s.heap H locs → lv_has ls 9 [(3, .int (nI (i))), (0, .ref (ad a)), (1, .ref (ad j1)), (2, .ref (ad j2))] → W p l e R s m args below meth c H locs 0 0 Q (F0 m 21 ls []) := by
  have S9 := S
  obtain ⟨hx, hb, hml, hown, hts⟩ := S
  have in1 : ∀ w ∈ wsX10, w ∈ wsX1_becomeProduct := by decide +kernel
  intro n
  induction n with
  | zero =>
    intro i F H locs ls hn h1 h2 h3 hP hD hS hl
    refine lv_iload_n hx hb dX1_becomeProduct_21 rfl (lv_at hl 0 rfl) ?_
    refine lv_aload_n hx hb dX1_becomeProduct_22 rfl (lv_at hl 2 rfl) ?_
    refine rg_1_size hx hb hts in1 hown hK hP j1 (by omega) ((nw_ne (by omega) (by omega)).trans hj1.1) (hts _ (by decide +kernel)) dX1_becomeProduct_23 ?_
    refine bi_ge (tgt := 121) hx hb dX1_becomeProduct_26 (by decide) (by omega) (by omega) (fun q => ?_) (fun q => ?_)
    · obtain rfl : i = nd_s x := by omega
      rw [Nat.mod_eq_of_lt (nd_s_lt x)] at h3
      rw [pd_fin h1 (fun j hj => h2 j (by omega)) h3] at hP hD
      exact kk H locs ls hP hD hS (lv_sub hl [1, 2, 3] rfl)
    · exact absurd hn (by omega)
  | succ n ih =>
    intro i F H locs ls hn h1 h2 h3 hP hD hS hl
    refine lv_iload_n hx hb dX1_becomeProduct_21 rfl (lv_at hl 0 rfl) ?_
    refine lv_aload_n hx hb dX1_becomeProduct_22 rfl (lv_at hl 2 rfl) ?_
    refine rg_1_size hx hb hts in1 hown hK hP j1 (by omega) ((nw_ne (by omega) (by omega)).trans hj1.1) (hts _ (by decide +kernel)) dX1_becomeProduct_23 ?_
    refine bi_ge (tgt := 121) hx hb dX1_becomeProduct_26 (by decide) (by omega) (by omega) (fun q => ?_) (fun q => ?_)
    · exact absurd hn (by omega)
    · refine lv_lconst (v := lN (0)) hx hb dX1_becomeProduct_29 rfl ?_
      refine lv_lstore (lv' := [(4, .long (lN (0))), (3, .int (nI (i))), (0, .ref (ad a)), (1, .ref (ad j1)), (2, .ref (ad j2))]) hx hb dX1_becomeProduct_30 hl (by decide) rfl (fun ls hl => ?_)
      refine lv_iconst (v := nI (0)) hx hb dX1_becomeProduct_32 (by decide) ?_
      refine lv_istore (lv' := [(6, .int (nI (0))), (4, .long (lN (0))), (3, .int (nI (i))), (0, .ref (ad a)), (1, .ref (ad j1)), (2, .ref (ad j2))]) hx hb dX1_becomeProduct_33 hl (by decide) rfl (fun ls hl => ?_)
      refine lp_X1_product1 (i := i) S9 hK hT ha1 hj11 hj21 hj1 hj2 n1 n2 n3 m1 m2 m3 hxy (by omega) (fun cv F H locs ls h1 h2 h3 h4 hP hD hS hl => ?_) (nd_s y) 0 0 F _ _ ls (by omega) h1 h2 (by rw [h3, Nat.pow_zero, Nat.mod_one]; omega) (by decide) hP hD hS (lv_sub hl [0, 1, 2, 3, 4, 5] rfl)
      refine lv_aload_n hx hb dX1_becomeProduct_102 rfl (lv_at hl 2 rfl) ?_
      refine rg_1_limbs hx hb hts in1 hown hK hP a (by omega) nw_o (hts _ (by decide +kernel)) dX1_becomeProduct_103 ?_
      refine lv_iload_n hx hb dX1_becomeProduct_106 rfl (lv_at hl 1 rfl) ?_
      refine lv_aload_n hx hb dX1_becomeProduct_107 rfl (lv_at hl 4 rfl) ?_
      refine rg_1_size hx hb hts in1 hown hK hP j2 (by omega) ((nw_ne (by omega) (by omega)).trans hj2.1) (hts _ (by decide +kernel)) dX1_becomeProduct_108 ?_
      refine lv_iadd hx hb dX1_becomeProduct_111 ?_
      refine tp_i (y := nI (i + (nd_s y))) (nI_add _ _) ?_
      refine lv_lload hx hb dX1_becomeProduct_112 (lv_at hl 0 rfl) ?_
      refine rt_l hx hb hK hP hD hS (a + 1) (by omega) nw_l (by omega) (by decide) dX1_becomeProduct_114 (fun H locs hP hD hS => ?_)
      rw [nw_sl] at hP hD
      refine lv_iinc (v := nI (i + 1)) (lv' := [(3, .int (nI (i + 1))), (4, .long (lN (cv))), (0, .ref (ad a)), (1, .ref (ad j1)), (2, .ref (ad j2))]) hx hb dX1_becomeProduct_115 hl (k := 1) rfl (nI_inc i 1) (by decide) rfl (fun ls hl => ?_)
      refine lv_goto (tgt := 21) hx hb dX1_becomeProduct_118 (by decide) ?_
      rw [nf_up] at hP hD
      refine ih (i + 1) _ H locs ls (by omega) (fun j => ?_) (fun j hj => ?_) ?_ hP hD hS (lv_sub hl [0, 2, 3, 4] rfl)
      · by_cases r : j = i + nd_s y
        · subst r; rw [va_up_self]; exact h4
        · rw [va_up_ne _ _ r]; exact h1 j
      · rw [va_up_ne _ _ (by omega)]; exact h2 j (by omega)
      · have e := nd_v_up (F := F) (k := i + nd_s y) (v := cv) (K := 64) (by omega)
        rw [h2 (i + nd_s y) (Nat.le_refl _), Nat.pow_add] at e
        rw [Nat.pow_add, Nat.mod_eq_of_lt (nd_s_lt y)] at h3
        exact pd_out (p := 0) e h3 (nd_ms x i)
theorem nd_xy {x y : Nat} : x * y < 1000000 ^ (nd_s x + nd_s y) := by
  rw [Nat.pow_add]; exact Nat.mul_lt_mul'' (nd_s_lt x) (nd_s_lt y)
theorem nf_0 : nd_A 0 = nf (fun _ => 0) := by funext j; rw [nd_A, nd_d0]; rfl
theorem nd_v0 (K : Nat) : nd_v (fun _ => 0) K = 0 := by
  induction K with
  | zero => rfl
  | succ K ih => rw [nd_v, ih]; simp
set_option maxHeartbeats 4000000 in
set_option maxRecDepth 100000 in
/-- becomeProduct -/
theorem c_X1_becomeProduct (l : Launch) (D : va_G) (cA : Nat → ClassId) (tT : Nat) (A : Nat → Prop) (N : Nat) (ad : Nat → Nat) (sz : Nat) (g : Nat → va_E) {a j1 j2 x y z : Nat} (ha1 : a + 1 < N) (hj11 : j1 + 1 < N) (hj21 : j2 + 1 < N) (hj1 : is_N cA ad g j1 x) (hj2 : is_N cA ad g j2 y) (n1 : a ≠ j1) (n2 : a ≠ j1 + 1) (n3 : a + 1 ≠ j1) (m1 : a ≠ j2) (m2 : a ≠ j2 + 1) (m3 : a + 1 ≠ j2) (hxy : nd_s x + nd_s y ≤ 64) (ha : is_N cA ad g a z) (hz64 : z < 1000000 ^ 64) : Met l yX1_becomeProduct wsX1_becomeProduct ({ frames := 1, cells := 0, slots := 0, locals := 21 }) (va_Pc [.ref (ad a), .ref (ad j1), .ref (ad j2)] (wd_B D cA tT A N ad sz g)) (va_Qv (fun (u : Nat → va_E) => u = nN cA ad g a (x * y)) (wd_E D cA A N ad) A) 0 0 A := by
  refine Met.ofW (cc := cX1_becomeProduct) (maxL := 9) (ret := none) (by decide) rfl ?_
  intro p e s m args below meth c s₁ B hml hv
  obtain ⟨rfl, hsz, hP, hK, hD, hT⟩ := hv
  have hx := B.exec
  have hb := B.bytes
  have hr := B.returns
  have hts := atoms_spec (ws := wsX1_becomeProduct) B.pre
  have hown : s.vm.findClass RX1 = some m.cls := findClass_of_methodNamed B.named
  have hlocks := B.notSynchronized
  subst hsz
  have hS : va_S A s.heap s.heap [] := va_S.rf
  have in1 : ∀ w ∈ wsX10, w ∈ wsX1_becomeProduct := by decide +kernel
  have hl := lv_entry ([.ref (ad a), .ref (ad j1), .ref (ad j2)]) (n := 9) (Nat.le_of_ble_eq_true rfl)
  rw [lg_entry_eq]
  generalize (lg_sl ([.ref (ad a), .ref (ad j1), .ref (ad j2)]) ++ List.replicate (9 - (lg_sl ([.ref (ad a), .ref (ad j1), .ref (ad j2)])).length) Slot.unset).toArray = ls at hl ⊢
  have hl : lv_has ls 9 [(0, .ref (ad a)), (1, .ref (ad j1)), (2, .ref (ad j2))] := hl
  refine lv_aload_n hx hb dX1_becomeProduct_0 rfl (lv_at hl 0 rfl) ?_
  refine va_callv (va_runV (As := []) (rest := []) ⟨hx, hb, hml, hown, hts⟩ (c_X1_clear l D cA tT A N ad _ _ (a := a) (x := z) ha1 ha hz64) (cwV 0 hts gX1_becomeProduct_X1_clear rfl rfl rfl (by decide +kernel) ⟨Nat.le_of_ble_eq_true rfl, Nat.le_of_ble_eq_true rfl⟩) (wd_preV (k := a) hP hK hD hT hS (by omega) ha.1 rfl) rfl rfl hl.1 rfl (lv_room (Nat.le_of_ble_eq_true rfl)) dX1_becomeProduct_1 ⟨Nat.zero_le _, Nat.zero_le _⟩) hS id_2 id_1 (fun u t H locs ht hvm hw hB hz1 hk1 hS => ?_)
  obtain ⟨hP, hD⟩ := wd_back ht hB
  clear ht hvm hB hz1 hk1
  rw [hw] at hP hD
  clear hw
  rw [nN, nf_0, nd_s0] at hP hD
  refine lv_aload_n hx hb dX1_becomeProduct_4 rfl (lv_at hl 1 rfl) ?_
  refine rg_1_size hx hb hts in1 hown hK hP j1 (by omega) ((nw_ne (by omega) (by omega)).trans hj1.1) (hts _ (by decide +kernel)) dX1_becomeProduct_5 ?_
  refine lv_aload_n hx hb dX1_becomeProduct_8 rfl (lv_at hl 2 rfl) ?_
  refine rg_1_size hx hb hts in1 hown hK hP j2 (by omega) ((nw_ne (by omega) (by omega)).trans hj2.1) (hts _ (by decide +kernel)) dX1_becomeProduct_9 ?_
  refine lv_iadd hx hb dX1_becomeProduct_12 ?_
  refine tp_i (y := nI ((nd_s x) + (nd_s y))) (nI_add _ _) ?_
  refine lv_bipush (v := nI (64)) hx hb dX1_becomeProduct_13 (by decide) ?_
  refine bi_le (tgt := 19) hx hb dX1_becomeProduct_15 (by decide) (by omega) (by omega) (fun q => ?_) (fun q => ?_)
  · refine lv_iconst (v := nI (0)) hx hb dX1_becomeProduct_19 (by decide) ?_
    refine lv_istore_n (lv' := [(3, .int (nI (0))), (0, .ref (ad a)), (1, .ref (ad j1)), (2, .ref (ad j2))]) hx hb dX1_becomeProduct_20 rfl hl (by decide) rfl (fun ls hl => ?_)
    refine lp_X1_product2 ⟨hx, hb, hml, hown, hts⟩ hK hT ha1 hj11 hj21 hj1 hj2 n1 n2 n3 m1 m2 m3 hxy (fun H locs ls hP hD hS hl => ?_) (nd_s x) 0 (fun _ => 0) _ _ ls (by omega) (fun _ => by decide) (fun _ _ => rfl) (by rw [nd_v0, Nat.pow_zero, Nat.mod_one, Nat.zero_mul]) hP hD hS (lv_sub hl [0, 1, 2, 3] rfl)
    refine lv_aload_n hx hb dX1_becomeProduct_121 rfl (lv_at hl 0 rfl) ?_
    refine lv_aload_n hx hb dX1_becomeProduct_122 rfl (lv_at hl 1 rfl) ?_
    refine rg_1_size hx hb hts in1 hown hK hP j1 (by omega) ((nw_ne (by omega) (by omega)).trans hj1.1) (hts _ (by decide +kernel)) dX1_becomeProduct_123 ?_
    refine lv_aload_n hx hb dX1_becomeProduct_126 rfl (lv_at hl 2 rfl) ?_
    refine rg_1_size hx hb hts in1 hown hK hP j2 (by omega) ((nw_ne (by omega) (by omega)).trans hj2.1) (hts _ (by decide +kernel)) dX1_becomeProduct_127 ?_
    refine lv_iadd hx hb dX1_becomeProduct_130 ?_
    refine tp_i (y := nI ((nd_s x) + (nd_s y))) (nI_add _ _) ?_
    refine rp_1_size hx hb hts in1 hown hK hP hD hS a (by omega) nw_o (hts _ (by decide +kernel)) rfl rfl dX1_becomeProduct_131 (fun H locs hP hD hS => ?_)
    rw [nw_so] at hP hD
    refine lv_aload_n hx hb dX1_becomeProduct_134 rfl (lv_at hl 0 rfl) ?_
    refine va_callv (va_runV (As := []) (rest := []) ⟨hx, hb, hml, hown, hts⟩ (c_X1_shrink l D cA tT A N ad _ g (a := a) (V := x * y) (k := nd_s x + nd_s y) ha1 hxy nd_xy) (cwV 0 hts gX1_becomeProduct_X1_shrink rfl rfl rfl (by decide +kernel) ⟨Nat.le_of_ble_eq_true rfl, Nat.le_of_ble_eq_true rfl⟩) (wd_preV (k := a) hP hK hD hT hS (by omega) nw_o rfl) rfl rfl hl.1 rfl (lv_room (Nat.le_of_ble_eq_true rfl)) dX1_becomeProduct_135 ⟨Nat.zero_le _, Nat.zero_le _⟩) hS id_2 id_1 (fun u t H locs ht hvm hw hB hz1 hk1 hS => ?_)
    obtain ⟨hP, hD⟩ := wd_back ht hB
    clear ht hvm hB hz1 hk1
    rw [hw] at hP hD
    clear hw
    exact W.vret hx hb hr (fun t ht hW => ⟨⟨_, rfl, rfl, wd_end hP hK hD ht hW⟩, hS.F ht⟩) hS.2.2 dX1_becomeProduct_138
  · exact absurd hxy q
