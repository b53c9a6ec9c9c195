theorem nd_kq {x k c i : Nat} (h : x * k / 1000000 ^ i = x / 1000000 ^ i * k + c) : x * k / 1000000 ^ (i + 1) = x / 1000000 ^ (i + 1) * k + (nd_d x i * k + c) / 1000000 := by
  rw [nd_q, nd_q, h, nd_d]
  generalize x / 1000000 ^ i = X
  have e : X = 1000000 * (X / 1000000) + X % 1000000 := by omega
  have e2 : X * k = 1000000 * (X / 1000000 * k) + X % 1000000 * k := by
    calc X * k = (1000000 * (X / 1000000) + X % 1000000) * k := by rw [← e]
      _ = _ := by rw [Nat.add_mul, Nat.mul_assoc]
  rw [e2]
  generalize X / 1000000 * k = A
  generalize X % 1000000 * k = C
  omega
theorem nd_kd {x k c i : Nat} (h : x * k / 1000000 ^ i = x / 1000000 ^ i * k + c) : nd_d (x * k) i = (nd_d x i * k + c) % 1000000 := by
  rw [nd_d, h, nd_d]
  generalize x / 1000000 ^ i = X
  have e : X = 1000000 * (X / 1000000) + X % 1000000 := by omega
  have e2 : X * k = 1000000 * (X / 1000000 * k) + X % 1000000 * k := by
    calc X * k = (1000000 * (X / 1000000) + X % 1000000) * k := by rw [← e]
      _ = _ := by rw [Nat.add_mul, Nat.mul_assoc]
  rw [e2]
  generalize X / 1000000 * k = A
  generalize X % 1000000 * k = C
  omega
theorem nd_kb {d k c : Nat} (hd : d < 1000000) (hk : k < 1000000) (hc : c < 1000000) : d * k + c < 1000000000000 ∧ (d * k + c) / 1000000 < 1000000 := by
  have h1 : d * k ≤ 999999 * 999999 := Nat.mul_le_mul (by omega) (by omega)
  omega
theorem nd_ks {x k : Nat} (hk : 1 ≤ k) (h : x * k / 1000000 ^ nd_s x = 0) : nd_s (x * k) = nd_s x := by
  have h1 : nd_s (x * k) ≤ nd_s x := nd_s_iff.mpr (by
    rcases Nat.lt_or_ge (x * k) (1000000 ^ nd_s x) with q | q
    · exact q
    · have := Nat.div_pos q (Nat.pow_pos (by decide)); omega)
  have h2 : nd_s x ≤ nd_s (x * k) := nd_s_iff.mpr (Nat.lt_of_le_of_lt (Nat.le_mul_of_pos_right x hk) (nd_s_lt _))
  omega
theorem nd_kS {x k : Nat} (hk : k < 1000000) : nd_s (x * k) ≤ nd_s x + 1 := nd_s_iff.mpr (by
  rw [Nat.pow_succ]
  rcases Nat.eq_zero_or_pos k with q | q
  · subst q; rw [Nat.mul_zero]; exact Nat.mul_pos (Nat.pow_pos (by decide)) (by decide)
  · exact Nat.lt_of_lt_of_le ((Nat.mul_lt_mul_right q).mpr (nd_s_lt x)) (Nat.mul_le_mul_left _ (by omega)))
theorem nd_k10 (x P : Nat) : x * 10 ^ (P % 6) * 1000000 ^ (P / 6) = x * 10 ^ P := by
  rw [nd_e6, Nat.mul_assoc, ← Nat.pow_add, show P % 6 + 6 * (P / 6) = P by omega]
set_option maxHeartbeats 4000000 in
set_option maxRecDepth 100000 in
theorem lp_X1_raise {p : Program} {l : Launch} {e : Env} {R : Room} {s : State} {m : MethodId} {args : Array Value} {below : List Frame} {meth : Method} {c : Code} {Q : State → Prop} {D : va_G} {cA : Nat → ClassId} {tT : Nat} {A : Nat → Prop} {N : Nat} {ad : Nat → Nat} {g : Nat → va_E} {a x k F : Nat} (S : CallFix p m c cX1_raise 10 s args wsX1_raise RX1) (hK : va_K D vwCl (ty_s cA) s) (hT : st_T tT A s s.heap) (ha1 : a + 1 < N) (hs64 : nd_s x ≤ 64) (hk : k < 1000000) (kk : ∀ (cv : Nat) (f : Nat → Int64) (H : Heap) (locs : List Loc) (ls : Array Slot), x * k / 1000000 ^ nd_s x = x / 1000000 ^ nd_s x * k + cv → cv < 1000000 → (∀ j, j < nd_s x → f j = nd_A (x * k) j) → (∀ j, nd_s x ≤ j → f j = nd_A x j) → va_P D vwCl (wm_W N ad (nw_ cA ad g a f (nI (nd_s x)))) H → va_D A (wm_W N ad (nw_ cA ad g a f (nI (nd_s x)))) → va_S A s.heap H locs → lv_has ls 10 [(5, .long (lN cv)), (0, .ref (ad a)), (2, .int (nI F))] → W p l e R s m args below meth c H locs 0 0 Q (F0 m 93 ls [])) :
    ∀ (n i cv : Nat) (f : Nat → Int64) (H : Heap) (locs : List Loc) (ls : Array Slot), i + n = nd_s x → x * k / 1000000 ^ i = x / 1000000 ^ i * k + cv → cv < 1000000 → (∀ j, j < i → f j = nd_A (x * k) j) → (∀ j, i ≤ j → f j = nd_A x j) → va_P D vwCl (wm_W N ad (nw_ cA ad g a f (nI (nd_s x)))) H → va_D A (wm_W N ad (nw_ cA ad g a f (nI (nd_s x)))) → va_S A s.heap H locs → lv_has ls 10 [(7, .int (nI (i))), (5, .long (lN (cv))), (3, .long (lN (k))), (0, .ref (ad a)), (2, .int (nI (F)))] → W p l e R s m args below meth c H locs 0 0 Q (F0 m 43 ls []) := by
  obtain ⟨hx, hb, hml, hown, hts⟩ := S
  have in1 : ∀ w ∈ wsX10, w ∈ wsX1_raise := by decide +kernel
  intro n
  induction n with
  | zero =>
    intro i cv f H locs ls hn hi hc h1 h2 hP hD hS hl
    refine lv_iload hx hb dX1_raise_43 (lv_at hl 0 rfl) ?_
    refine lv_aload_n hx hb dX1_raise_45 rfl (lv_at hl 3 rfl) ?_
    refine rg_1_size hx hb hts in1 hown hK hP a (by omega) nw_o (hts _ (by decide +kernel)) dX1_raise_46 ?_
    refine bi_ge (tgt := 93) hx hb dX1_raise_49 (by decide) (by omega) (by omega) (fun q => ?_) (fun q => ?_)
    · obtain rfl : i = nd_s x := by omega
      exact kk cv f H locs ls hi hc h1 h2 hP hD hS (lv_sub hl [1, 3, 4] rfl)
    · exact absurd hn (by omega)
  | succ n ih =>
    intro i cv f H locs ls hn hi hc h1 h2 hP hD hS hl
    refine lv_iload hx hb dX1_raise_43 (lv_at hl 0 rfl) ?_
    refine lv_aload_n hx hb dX1_raise_45 rfl (lv_at hl 3 rfl) ?_
    refine rg_1_size hx hb hts in1 hown hK hP a (by omega) nw_o (hts _ (by decide +kernel)) dX1_raise_46 ?_
    refine bi_ge (tgt := 93) hx hb dX1_raise_49 (by decide) (by omega) (by omega) (fun q => ?_) (fun q => ?_)
    · exact absurd hn (by omega)
    · have hkb := nd_kb (nd_lt x i) hk hc
      refine lv_aload_n hx hb dX1_raise_52 rfl (lv_at hl 3 rfl) ?_
      refine rg_1_limbs hx hb hts in1 hown hK hP a (by omega) nw_o (hts _ (by decide +kernel)) dX1_raise_53 ?_
      refine lv_iload hx hb dX1_raise_56 (lv_at hl 0 rfl) ?_
      refine rn_l hx hb hK hP (a + 1) (by omega) nw_l (by omega) (by decide) dX1_raise_58 ?_
      refine tp_l (y := lN (nd_d x i)) (h2 i (Nat.le_refl i)) ?_
      refine lv_lload_n hx hb dX1_raise_59 rfl (lv_at hl 2 rfl) ?_
      refine lv_lmul hx hb dX1_raise_60 ?_
      refine tp_l (y := lN ((nd_d x i) * k)) (lN_mul _ _) ?_
      refine lv_lload hx hb dX1_raise_61 (lv_at hl 1 rfl) ?_
      refine lv_ladd hx hb dX1_raise_63 ?_
      refine tp_l (y := lN (((nd_d x i) * k) + cv)) (lN_add _ _) ?_
      refine lv_lstore (lv' := [(8, .long (lN (((nd_d x i) * k) + cv))), (7, .int (nI (i))), (5, .long (lN (cv))), (3, .long (lN (k))), (0, .ref (ad a)), (2, .int (nI (F)))]) hx hb dX1_raise_64 hl (by decide) rfl (fun ls hl => ?_)
      refine lv_aload_n hx hb dX1_raise_66 rfl (lv_at hl 4 rfl) ?_
      refine rg_1_limbs hx hb hts in1 hown hK hP a (by omega) nw_o (hts _ (by decide +kernel)) dX1_raise_67 ?_
      refine lv_iload hx hb dX1_raise_70 (lv_at hl 1 rfl) ?_
      refine lv_lload hx hb dX1_raise_72 (lv_at hl 0 rfl) ?_
      refine lv_ldc2 (v := lN (1000000)) hx hb hown (hts _ (by decide +kernel)) dX1_raise_74 ?_
      refine lv_lrem hx hb dX1_raise_77 (lN_ne0 (by omega) (by omega)) ?_
      refine tp_l (y := lN ((((nd_d x i) * k) + cv) % 1000000)) (pk_lRem (by omega) (by omega) (by omega)) ?_
      refine rt_l hx hb hK hP hD hS (a + 1) (by omega) nw_l (by omega) (by decide) dX1_raise_78 (fun H locs hP hD hS => ?_)
      rw [nw_sl] at hP hD
      refine lv_lload hx hb dX1_raise_79 (lv_at hl 0 rfl) ?_
      refine lv_ldc2 (v := lN (1000000)) hx hb hown (hts _ (by decide +kernel)) dX1_raise_81 ?_
      refine lv_ldiv hx hb dX1_raise_84 (lN_ne0 (by omega) (by omega)) ?_
      refine tp_l (y := lN ((((nd_d x i) * k) + cv) / 1000000)) (pk_lDiv (by omega) (by omega) (by omega)) ?_
      refine lv_lstore (lv' := [(5, .long (lN ((((nd_d x i) * k) + cv) / 1000000))), (8, .long (lN (((nd_d x i) * k) + cv))), (7, .int (nI (i))), (3, .long (lN (k))), (0, .ref (ad a)), (2, .int (nI (F)))]) hx hb dX1_raise_85 hl (by decide) rfl (fun ls hl => ?_)
      refine lv_iinc (v := nI (i + 1)) (lv' := [(7, .int (nI (i + 1))), (5, .long (lN ((((nd_d x i) * k) + cv) / 1000000))), (8, .long (lN (((nd_d x i) * k) + cv))), (3, .long (lN (k))), (0, .ref (ad a)), (2, .int (nI (F)))]) hx hb dX1_raise_87 hl (k := 2) rfl (nI_inc i 1) (by decide) rfl (fun ls hl => ?_)
      refine lv_goto (tgt := 43) hx hb dX1_raise_90 (by decide) ?_
      refine ih (i + 1) _ _ H locs ls (by omega) (nd_kq hi) hkb.2 (fun j hj => ?_) (fun j hj => ?_) hP hD hS (lv_sub hl [0, 1, 3, 4, 5] rfl)
      · rcases Nat.lt_or_ge j i with r | r
        · rw [pk_uLn (by omega)]; exact h1 j r
        · obtain rfl : j = i := by omega
          rw [pk_uLs, nd_A, nd_kd hi]
      · rw [pk_uLn (by omega)]; exact h2 j (by omega)
set_option maxHeartbeats 4000000 in
set_option maxRecDepth 100000 in
/-- raise: times a power of ten -/
theorem c_X1_raise (l : Launch) (D : va_G) (cA : Nat → ClassId) (tT : Nat) (A : Nat → Prop) (N : Nat) (ad : Nat → Nat) (sz : Nat) (g : Nat → va_E) {a x P : Nat} (ha1 : a + 1 < N) (ha : is_N cA ad g a x) (hP9 : P < 1000) (hF : nd_s x + P / 6 < 64) : Met l yX1_raise wsX1_raise ({ frames := 1, cells := 0, slots := 0, locals := 23 }) (va_Pc [.ref (ad a), .int (nI (P))] (wd_B D cA tT A N ad sz g)) (va_Qv (fun (u : Nat → va_E) => u = nN cA ad g a (x * 10 ^ P)) (wd_E D cA A N ad) A) 0 0 A := by
  refine Met.ofW (cc := cX1_raise) (maxL := 10) (ret := none) (by decide) rfl ?_
  intro p e s m args below meth c s₁ B hml hv
  obtain ⟨rfl, hsz, hP, hK, hD, hT⟩ := hv
  have hx := B.exec
  have hb := B.bytes
  have hr := B.returns
  have hts := atoms_spec (ws := wsX1_raise) B.pre
  have hown : s.vm.findClass RX1 = some m.cls := findClass_of_methodNamed B.named
  have hlocks := B.notSynchronized
  subst hsz
  have hS : va_S A s.heap s.heap [] := va_S.rf
  have in1 : ∀ w ∈ wsX10, w ∈ wsX1_raise := by decide +kernel
  have hl := lv_entry ([.ref (ad a), .int (nI (P))]) (n := 10) (Nat.le_of_ble_eq_true rfl)
  rw [lg_entry_eq]
  generalize (lg_sl ([.ref (ad a), .int (nI (P))]) ++ List.replicate (10 - (lg_sl ([.ref (ad a), .int (nI (P))])).length) Slot.unset).toArray = ls at hl ⊢
  have hl : lv_has ls 10 [(0, .ref (ad a)), (1, .int (nI (P)))] := hl
  have ht6 := nd_t6 P
  rw [← nw_self ha] at hP hD
  refine lv_iload_n hx hb dX1_raise_0 rfl (lv_at hl 1 rfl) ?_
  refine lv_bipush (v := nI (6)) hx hb dX1_raise_1 (by decide) ?_
  refine lv_idiv hx hb dX1_raise_3 (nI_ne0 (by omega) (by omega)) ?_
  refine tp_i (y := nI (P / 6)) (pk_div (by omega) (by omega) (by omega)) ?_
  refine lv_istore_n (lv' := [(2, .int (nI (P / 6))), (0, .ref (ad a)), (1, .int (nI (P)))]) hx hb dX1_raise_4 rfl hl (by decide) rfl (fun ls hl => ?_)
  refine lv_aload_n hx hb dX1_raise_5 rfl (lv_at hl 1 rfl) ?_
  refine rg_1_size hx hb hts in1 hown hK hP a (by omega) nw_o (hts _ (by decide +kernel)) dX1_raise_6 ?_
  refine bz_eq (tgt := 27) hx hb dX1_raise_9 (by decide) (by omega) (fun q => ?_) (fun q => ?_)
  · exact W.vret hx hb hr (fun t ht hW => ⟨⟨_, rfl, by rw [nd_s_z.mp q, Nat.zero_mul], wd_end hP hK hD ht hW⟩, hS.F ht⟩) hS.2.2 dX1_raise_27
  · refine lv_iload_n hx hb dX1_raise_12 rfl (lv_at hl 2 rfl) ?_
    refine bz_le (tgt := 27) hx hb dX1_raise_13 (by decide) (by omega) (fun q2 => ?_) (fun q2 => ?_)
    · exact W.vret hx hb hr (fun t ht hW => ⟨⟨_, rfl, by rw [show P = 0 by omega, Nat.pow_zero, Nat.mul_one], wd_end hP hK hD ht hW⟩, hS.F ht⟩) hS.2.2 dX1_raise_27
    · refine lv_aload_n hx hb dX1_raise_16 rfl (lv_at hl 1 rfl) ?_
      refine rg_1_size hx hb hts in1 hown hK hP a (by omega) nw_o (hts _ (by decide +kernel)) dX1_raise_17 ?_
      refine lv_iload_n hx hb dX1_raise_20 rfl (lv_at hl 0 rfl) ?_
      refine lv_iadd hx hb dX1_raise_21 ?_
      refine tp_i (y := nI ((nd_s x) + (P / 6))) (nI_add _ _) ?_
      refine lv_bipush (v := nI (64)) hx hb dX1_raise_22 (by decide) ?_
      refine bi_lt (tgt := 28) hx hb dX1_raise_24 (by decide) (by omega) (by omega) (fun q3 => ?_) (fun q3 => ?_)
      · refine va_gets hx hb hT.1 hS hown (hts _ (by decide +kernel)) (fun _ h => h) dX1_raise_28 ?_
        refine lv_iload_n hx hb dX1_raise_31 rfl (lv_at hl 2 rfl) ?_
        refine lv_bipush (v := nI (6)) hx hb dX1_raise_32 (by decide) ?_
        refine lv_irem hx hb dX1_raise_34 (nI_ne0 (by omega) (by omega)) ?_
        refine tp_i (y := nI (P % 6)) (pk_rem (by omega) (by omega) (by omega)) ?_
        refine va_tl hx hb hT.2 hS (vp_in_nI (n := P % 6) (by omega) (by decide)) (v := .long (lN (10 ^ (P % 6)))) (by rw [nI_clamp (by omega)]) dX1_raise_35 ?_
        refine lv_lstore_n (lv' := [(3, .long (lN (10 ^ (P % 6)))), (2, .int (nI (P / 6))), (0, .ref (ad a)), (1, .int (nI (P)))]) hx hb dX1_raise_36 rfl hl (by decide) rfl (fun ls hl => ?_)
        refine lv_lconst (v := lN (0)) hx hb dX1_raise_37 rfl ?_
        refine lv_lstore (lv' := [(5, .long (lN (0))), (3, .long (lN (10 ^ (P % 6)))), (2, .int (nI (P / 6))), (0, .ref (ad a)), (1, .int (nI (P)))]) hx hb dX1_raise_38 hl (by decide) rfl (fun ls hl => ?_)
        refine lv_iconst (v := nI (0)) hx hb dX1_raise_40 (by decide) ?_
        refine lv_istore (lv' := [(7, .int (nI (0))), (5, .long (lN (0))), (3, .long (lN (10 ^ (P % 6)))), (2, .int (nI (P / 6))), (0, .ref (ad a)), (1, .int (nI (P)))]) hx hb dX1_raise_41 hl (by decide) rfl (fun ls hl => ?_)
        refine lp_X1_raise (k := 10 ^ (P % 6)) (F := P / 6) ⟨hx, hb, hml, hown, hts⟩ hK hT ha1 (by omega) ht6.2 (fun cv f H locs ls hi hc h1 h2 hP hD hS hl => ?_) (nd_s x) 0 0 _ _ _ ls (by omega) (by simp only [nd_q0]; omega) (by decide) (fun j hj => absurd hj (Nat.not_lt_zero _)) (fun j _ => rfl) hP hD hS (lv_sub hl [0, 1, 2, 4, 3] rfl)
        have hx0 : x ≠ 0 := fun z => q (nd_s_z.mpr z)
        rw [nd_qz (nd_s_lt x) (Nat.le_refl _), Nat.zero_mul, Nat.zero_add] at hi
        have hkS := nd_kS (x := x) ht6.2
        refine lv_aload_n hx hb dX1_raise_93 rfl (lv_at hl 1 rfl) ?_
        refine lv_aload_n hx hb dX1_raise_94 rfl (lv_at hl 1 rfl) ?_
        refine rg_1_size hx hb hts in1 hown hK hP a (by omega) nw_o (hts _ (by decide +kernel)) dX1_raise_95 ?_
        refine lv_lload hx hb dX1_raise_98 (lv_at hl 0 rfl) ?_
        refine va_callv (va_runV (As := [.int (nI (nd_s x)), .long (lN (cv))]) (rest := []) ⟨hx, hb, hml, hown, hts⟩ (c_X1_close l D cA tT A N ad _ g (a := a) (V := x * 10 ^ (P % 6)) (k := nd_s x) (cv := cv) (f := f) (sv := nI (nd_s x)) ha1 (by omega) (nd_s_iff.mp (by omega)) hi.symm hc (fun h0 => nd_ks ht6.1 (by omega)) h1 (fun j hj => by rw [h2 j hj, nd_A, nd_dz (nd_s_lt x) hj])) (cwV 2 hts gX1_raise_X1_close rfl rfl rfl (by decide +kernel) ⟨Nat.le_of_ble_eq_true rfl, Nat.le_of_ble_eq_true rfl⟩) (wd_preV (k := a) hP hK hD hT hS (by omega) nw_o rfl) rfl rfl hl.1 rfl (lv_room (Nat.le_of_ble_eq_true rfl)) dX1_raise_100 ⟨Nat.zero_le _, Nat.zero_le _⟩) hS id_2 id_1 (fun u t H locs ht hvm hw hB hz1 hk1 hS => ?_)
        obtain ⟨hP, hD⟩ := wd_back ht hB
        clear ht hvm hB hz1 hk1
        rw [hw] at hP hD
        clear hw
        refine lv_aload_n hx hb dX1_raise_103 rfl (lv_at hl 1 rfl) ?_
        refine lv_iload_n hx hb dX1_raise_104 rfl (lv_at hl 2 rfl) ?_
        refine va_callv (va_runV (As := [.int (nI (P / 6))]) (rest := []) ⟨hx, hb, hml, hown, hts⟩ (c_X1_shift l D cA tT A N ad _ _ (a := a) (V := x * 10 ^ (P % 6)) (F := P / 6) ha1 nN_is (Nat.mul_ne_zero hx0 (by omega)) (by omega)) (cwV 1 hts gX1_raise_X1_shift rfl rfl rfl (by decide +kernel) ⟨Nat.le_of_ble_eq_true rfl, Nat.le_of_ble_eq_true rfl⟩) (wd_preV (k := a) hP hK hD hT hS (by omega) nw_o rfl) rfl rfl hl.1 rfl (lv_room (Nat.le_of_ble_eq_true rfl)) dX1_raise_105 ⟨Nat.zero_le _, Nat.zero_le _⟩) hS id_2 id_1 (fun u t H locs ht hvm hw hB hz1 hk1 hS => ?_)
        obtain ⟨hP, hD⟩ := wd_back ht hB
        clear ht hvm hB hz1 hk1
        rw [hw] at hP hD
        clear hw
        rw [nN, nw_nw, nd_k10] at hP hD
        exact W.vret hx hb hr (fun t ht hW => ⟨⟨_, rfl, rfl, wd_end hP hK hD ht hW⟩, hS.F ht⟩) hS.2.2 dX1_raise_108
      · exact absurd hF (by omega)
theorem sz_4 {M : Nat} (h : M ≤ 9223372036854775808) : nd_s M ≤ 4 := nd_s_iff.mpr (by omega)
theorem vl_abs (v : Int64) : v.toInt.natAbs ≤ 9223372036854775808 := by
  have h1 := Int64.le_toInt v
  have h2 := Int64.toInt_lt v
  omega
theorem nd_ge0 {M i : Nat} (h : M / 1000000 ^ i ≠ 0) : i < nd_s M := nd_s_gt.mpr (by
  rcases Nat.lt_or_ge M (1000000 ^ i) with q | q
  · exact absurd (Nat.div_eq_of_lt q) h
  · exact q)
theorem nd_le0 {M i : Nat} (h : M / 1000000 ^ i = 0) : nd_s M ≤ i := nd_s_iff.mpr (by
  rcases Nat.lt_or_ge M (1000000 ^ i) with q | q
  · exact q
  · have := Nat.div_pos q (Nat.pow_pos (by decide)); omega)
set_option maxHeartbeats 4000000 in
set_option maxRecDepth 100000 in
theorem lp_X1_becomeSizeOf {p : Program} {l : Launch} {e : Env} {R : Room} {s : State} {m : MethodId} {args : Array Value} {below : List Frame} {meth : Method} {c : Code} {Q : State → Prop} {D : va_G} {cA : Nat → ClassId} {tT : Nat} {A : Nat → Prop} {N : Nat} {ad : Nat → Nat} {g : Nat → va_E} {a M : Nat} {b : Bool} (S : CallFix p m c cX1_becomeSizeOf 6 s args wsX1_becomeSizeOf RX1) (hK : va_K D vwCl (ty_s cA) s) (hT : st_T tT A s s.heap) (hRf : 1 ≤ R.frames) (hRl : 20 ≤ R.locals) (ha1 : a + 1 < N) (hM : M ≤ 9223372036854775808) (hb1 : -9223372036854775808 ≤ sg b M) (hb2 : sg b M < 9223372036854775808) (kk : ∀ (H : Heap) (locs : List Loc) (ls : Array Slot), va_P D vwCl (wm_W N ad (nN cA ad g a M)) H → va_D A (wm_W N ad (nN cA ad g a M)) → va_S A s.heap H locs → W p l e R s m args below meth c H locs 0 0 Q (F0 m 57 ls [])) :
    ∀ (n i : Nat) (f : Nat → Int64) (H : Heap) (locs : List Loc) (ls : Array Slot), nd_s M - i < n → i ≤ nd_s M → (∀ j, j < i → f j = nd_A M j) → (∀ j, i ≤ j → f j = lN 0) → va_P D vwCl (wm_W N ad (nw_ cA ad g a f (nI i))) H → va_D A (wm_W N ad (nw_ cA ad g a f (nI i))) → va_S A s.heap H locs → lv_has ls 6 [(5, .int (nI (i))), (3, .long (lZ (sg b (M / 1000000 ^ i)))), (0, .ref (ad a))] → W p l e R s m args below meth c H locs 0 0 Q (F0 m 9 ls []) := by
  obtain ⟨hx, hb, hml, hown, hts⟩ := S
  have in1 : ∀ w ∈ wsX10, w ∈ wsX1_becomeSizeOf := by decide +kernel
  have h4 := sz_4 hM
  intro n
  induction n with
  | zero => intro i f H locs ls hn; exact absurd hn (Nat.not_lt_zero _)
  | succ n ih =>
    intro i f H locs ls hn hi h1 h2 hP hD hS hl
    have hq9 := sg_le (Nat.div_le_self M (1000000 ^ i)) hb1 hb2
    have hr9 : M / 1000000 ^ i % 1000000 < 1000000 := Nat.mod_lt _ (by decide)
    refine lv_iload hx hb dX1_becomeSizeOf_9 (lv_at hl 0 rfl) ?_
    refine lv_bipush (v := nI (64)) hx hb dX1_becomeSizeOf_11 (by decide) ?_
    refine bi_ge (tgt := 57) hx hb dX1_becomeSizeOf_13 (by decide) (by omega) (by omega) (fun q => ?_) (fun q => ?_)
    · exact absurd q (by omega)
    · refine lv_lload_n hx hb dX1_becomeSizeOf_16 rfl (lv_at hl 1 rfl) ?_
      refine lv_lconst (v := lN (0)) hx hb dX1_becomeSizeOf_17 rfl ?_
      refine bL_eq (tgt := 57) hx hb dX1_becomeSizeOf_18 dX1_becomeSizeOf_19 (by decide) (fun q2 => ?_) (fun q2 => ?_)
      · have hz : M / 1000000 ^ i = 0 := by
          rw [lZ_nat 0, lZ_eq hq9.1 hq9.2 (by decide) (by decide)] at q2
          rw [← sg_abs b (M / 1000000 ^ i), q2]; rfl
        have hie : i = nd_s M := by have := nd_le0 hz; omega
        have hfe : f = nd_A M := by
          funext j
          rcases Nat.lt_or_ge j i with r | r
          · exact h1 j r
          · rw [h2 j r, nd_A, nd_dz (nd_s_lt M) (by omega)]
        rw [hfe, hie] at hP hD
        exact kk H locs ls hP hD hS
      · have hnz : M / 1000000 ^ i ≠ 0 := by
          intro hz
          rw [hz] at q2
          exact q2 (by cases b <;> decide)
        have hii := nd_ge0 hnz
        refine lv_aload_n hx hb dX1_becomeSizeOf_22 rfl (lv_at hl 2 rfl) ?_
        refine rg_1_limbs hx hb hts in1 hown hK hP a (by omega) nw_o (hts _ (by decide +kernel)) dX1_becomeSizeOf_23 ?_
        refine lv_iload hx hb dX1_becomeSizeOf_26 (lv_at hl 0 rfl) ?_
        refine lv_lload_n hx hb dX1_becomeSizeOf_28 rfl (lv_at hl 1 rfl) ?_
        refine lv_ldc2 (v := lN (1000000)) hx hb hown (hts _ (by decide +kernel)) dX1_becomeSizeOf_29 ?_
        refine lv_lrem hx hb dX1_becomeSizeOf_32 (lN_ne0 (by omega) (by omega)) ?_
        refine tp_l (y := lZ (sg b (M / 1000000 ^ i % 1000000))) (lZ_rem hq9.1 hq9.2 (by decide)) ?_
        refine va_mabs_long hx hb (by rw [hml]; exact hl.1.symm) hown (hts _ (by decide +kernel)) (hts _ (by decide +kernel)) (hts _ (by decide +kernel)) (hts _ (by decide +kernel)) hRf (Nat.le_trans (Nat.le_of_ble_eq_true rfl) hRl) (Nat.zero_le _) (Nat.zero_le _) dX1_becomeSizeOf_33 ?_
        refine tp_l (y := lN (M / 1000000 ^ i % 1000000)) (lZ_abs (by omega)) ?_
        refine rt_l hx hb hK hP hD hS (a + 1) (by omega) nw_l (by omega) (by decide) dX1_becomeSizeOf_36 (fun H locs hP hD hS => ?_)
        rw [nw_sl] at hP hD
        refine lv_lload_n hx hb dX1_becomeSizeOf_37 rfl (lv_at hl 1 rfl) ?_
        refine lv_ldc2 (v := lN (1000000)) hx hb hown (hts _ (by decide +kernel)) dX1_becomeSizeOf_38 ?_
        refine lv_ldiv hx hb dX1_becomeSizeOf_41 (lN_ne0 (by omega) (by omega)) ?_
        refine tp_l (y := lZ (sg b (M / 1000000 ^ (i + 1)))) ((lZ_div hq9.1 hq9.2 (by decide)).trans (by rw [nd_q])) ?_
        refine lv_lstore_n (lv' := [(3, .long (lZ (sg b (M / 1000000 ^ (i + 1))))), (5, .int (nI (i))), (0, .ref (ad a))]) hx hb dX1_becomeSizeOf_42 rfl hl (by decide) rfl (fun ls hl => ?_)
        refine lv_aload_n hx hb dX1_becomeSizeOf_43 rfl (lv_at hl 2 rfl) ?_
        refine lv_iload hx hb dX1_becomeSizeOf_44 (lv_at hl 1 rfl) ?_
        refine lv_iconst (v := nI (1)) hx hb dX1_becomeSizeOf_46 (by decide) ?_
        refine lv_iadd hx hb dX1_becomeSizeOf_47 ?_
        refine tp_i (y := nI (i + 1)) (nI_add _ _) ?_
        refine rp_1_size hx hb hts in1 hown hK hP hD hS a (by omega) nw_o (hts _ (by decide +kernel)) rfl rfl dX1_becomeSizeOf_48 (fun H locs hP hD hS => ?_)
        rw [nw_so] at hP hD
        refine lv_iinc (v := nI (i + 1)) (lv' := [(5, .int (nI (i + 1))), (3, .long (lZ (sg b (M / 1000000 ^ (i + 1))))), (0, .ref (ad a))]) hx hb dX1_becomeSizeOf_51 hl (k := 1) rfl (nI_inc i 1) (by decide) rfl (fun ls hl => ?_)
        refine lv_goto (tgt := 9) hx hb dX1_becomeSizeOf_54 (by decide) ?_
        refine ih (i + 1) _ H locs ls (by omega) (by omega) (fun j hj => ?_) (fun j hj => ?_) hP hD hS (lv_sub hl [0, 1, 2] rfl)
        · rcases Nat.lt_or_ge j i with r | r
          · rw [pk_uLn (by omega)]; exact h1 j r
          · obtain rfl : j = i := by omega
            rw [pk_uLs]; rfl
        · rw [pk_uLn (by omega)]; exact h2 j (by omega)
set_option maxHeartbeats 4000000 in
set_option maxRecDepth 100000 in
/-- becomeSizeOf: the size of a long -/
theorem c_X1_becomeSizeOf (l : Launch) (D : va_G) (cA : Nat → ClassId) (tT : Nat) (A : Nat → Prop) (N : Nat) (ad : Nat → Nat) (sz : Nat) (g : Nat → va_E) {a x : Nat} {v : Int64} (ha1 : a + 1 < N) (ha : is_N cA ad g a x) (hx64 : x < 1000000 ^ 64) : Met l yX1_becomeSizeOf wsX1_becomeSizeOf ({ frames := 1, cells := 0, slots := 0, locals := 21 }) (va_Pc [.ref (ad a), .long (v)] (wd_B D cA tT A N ad sz g)) (va_Qv (fun (u : Nat → va_E) => u = nN cA ad g a v.toInt.natAbs) (wd_E D cA A N ad) A) 0 0 A := by
  refine Met.ofW (cc := cX1_becomeSizeOf) (maxL := 6) (ret := none) (by decide) rfl ?_
  intro p e s m args below meth c s₁ B hml hv
  obtain ⟨rfl, hsz, hP, hK, hD, hT⟩ := hv
  have hx := B.exec
  have hb := B.bytes
  have hr := B.returns
  have hts := atoms_spec (ws := wsX1_becomeSizeOf) B.pre
  have hown : s.vm.findClass RX1 = some m.cls := findClass_of_methodNamed B.named
  have hlocks := B.notSynchronized
  subst hsz
  have hS : va_S A s.heap s.heap [] := va_S.rf
  have in1 : ∀ w ∈ wsX10, w ∈ wsX1_becomeSizeOf := by decide +kernel
  have hl := lv_entry ([.ref (ad a), .long (v)]) (n := 6) (Nat.le_of_ble_eq_true rfl)
  rw [lg_entry_eq]
  generalize (lg_sl ([.ref (ad a), .long (v)]) ++ List.replicate (6 - (lg_sl ([.ref (ad a), .long (v)])).length) Slot.unset).toArray = ls at hl ⊢
  have hl : lv_has ls 6 [(0, .ref (ad a)), (1, .long (v))] := hl
  refine lv_aload_n hx hb dX1_becomeSizeOf_0 rfl (lv_at hl 0 rfl) ?_
  refine va_callv (va_runV (As := []) (rest := []) ⟨hx, hb, hml, hown, hts⟩ (c_X1_clear l D cA tT A N ad _ _ (a := a) (x := x) ha1 ha hx64) (cwV 0 hts gX1_becomeSizeOf_X1_clear rfl rfl rfl (by decide +kernel) ⟨Nat.le_of_ble_eq_true rfl, Nat.le_of_ble_eq_true rfl⟩) (wd_preV (k := a) hP hK hD hT hS (by omega) ha.1 rfl) rfl rfl hl.1 rfl (lv_room (Nat.le_of_ble_eq_true rfl)) dX1_becomeSizeOf_1 ⟨Nat.zero_le _, Nat.zero_le _⟩) hS id_2 id_1 (fun u t H locs ht hvm hw hB hz1 hk1 hS => ?_)
  obtain ⟨hP, hD⟩ := wd_back ht hB
  clear ht hvm hB hz1 hk1
  rw [hw] at hP hD
  clear hw
  have hve : v = lZ (sg (decide (v.toInt < 0)) (v.toInt.natAbs / 1000000 ^ 0)) := by rw [nd_q0, sg_of, lZ_self]
  have hv1 := Int64.le_toInt v
  have hv2 := Int64.toInt_lt v
  refine lv_lload_n hx hb dX1_becomeSizeOf_4 rfl (lv_at hl 1 rfl) ?_
  refine lv_lstore_n (lv' := [(3, .long (v)), (0, .ref (ad a)), (1, .long (v))]) hx hb dX1_becomeSizeOf_5 rfl hl (by decide) rfl (fun ls hl => ?_)
  refine lv_iconst (v := nI (0)) hx hb dX1_becomeSizeOf_6 (by decide) ?_
  refine lv_istore (lv' := [(5, .int (nI (0))), (3, .long (v)), (0, .ref (ad a)), (1, .long (v))]) hx hb dX1_becomeSizeOf_7 hl (by decide) rfl (fun ls hl => ?_)
  refine lp_X1_becomeSizeOf (M := v.toInt.natAbs) (b := decide (v.toInt < 0)) ⟨hx, hb, hml, hown, hts⟩ hK hT (Nat.le_of_ble_eq_true rfl) (Nat.le_of_ble_eq_true rfl) ha1 (vl_abs v) (by rw [sg_of]; exact hv1) (by rw [sg_of]; exact hv2) (fun H locs ls hP hD hS => ?_) (nd_s v.toInt.natAbs + 1) 0 (nd_A 0) _ _ ls (by omega) (Nat.zero_le _) (fun j hj => absurd hj (Nat.not_lt_zero _)) (fun j _ => by rw [nd_A, nd_d0]) (by rw [nN, nd_s0] at hP; exact hP) (by rw [nN, nd_s0] at hD; exact hD) hS (by rw [← hve]; exact lv_sub hl [0, 1, 2] rfl)
  exact W.vret hx hb hr (fun t ht hW => ⟨⟨_, rfl, rfl, wd_end hP hK hD ht hW⟩, hS.F ht⟩) hS.2.2 dX1_becomeSizeOf_57
