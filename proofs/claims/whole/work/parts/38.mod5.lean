set_option maxHeartbeats 4000000 in
set_option maxRecDepth 100000 in
theorem lp_X4_whole1 {p : Program} {l : Launch} {e : Env} {R : Room} {s : State} {m : MethodId} {args : Array Value} {below : List Frame} {meth : Method} {c : Code} {Q : State → Prop} {D : va_G} {cA : Nat → ClassId} {tT : Nat} {A : Nat → Prop} {ad : Nat → Nat} {wa wb wc we : RWt} {rg : Nat → RWt} {tx : Nat → Int32} {tl : Nat} {rh : Nat → Bool × Nat × Int} {i_n lw : Nat} (S : CallFix p m c cX4_whole 7 s args wsX4_whole RX4) (hK : va_K D vwCl (ty_s cA) s) (hT : st_T tT A s s.heap) (hm : mr rg rh) (hr9 : rks rh) (h_i : i_n < 6) (hlw : lw ≤ 6) (kk : ∀ (H : Heap) (locs : List Loc) (ls : Array Slot), va_P D vwCl (wm_W 23 ad (mg cA ad wa wb wc we rg tx tl)) H → va_D A (wm_W 23 ad (mg cA ad wa wb wc we rg tx tl)) → va_S A s.heap H locs → lv_has ls 7 [(3, .long (lN ((rh i_n).2.1 / 10 ^ lw))), (2, .ref (ad (11 + 2 * i_n)))] → W p l e R s m args below meth c H locs 0 0 Q (F0 m 71 ls [])) :
    ∀ (k : Nat) (H : Heap) (locs : List Loc) (ls : Array Slot), k ≤ (rg i_n).2.1 → (lw ≤ k ∨ (rh i_n).2.1 < 10 ^ k) → va_P D vwCl (wm_W 23 ad (mg cA ad wa wb wc we rg tx tl)) H → va_D A (wm_W 23 ad (mg cA ad wa wb wc we rg tx tl)) → va_S A s.heap H locs → lv_has ls 7 [(6, .int (dn k)), (5, .int (nI (lw))), (3, .long (lN ((rh i_n).2.1 / 10 ^ k))), (2, .ref (ad (11 + 2 * i_n)))] → W p l e R s m args below meth c H locs 0 0 Q (F0 m 43 ls []) := by
  obtain ⟨hx, hb, hml, hown, hts⟩ := S
  have in3 : ∀ w ∈ wsX30, w ∈ wsX4_whole := by decide +kernel
  have m_i := hm i_n h_i
  have n_i : (rg i_n).2.1 = nd_p (rh i_n).2.1 := m_i.1.1
  have b_i : (rg i_n).2.2.1 = (rh i_n).1 := by rw [m_i.2]
  have z_i : (rg i_n).2.2.2 = (rh i_n).2.2 := by rw [m_i.2]
  have r_i := hr9 i_n h_i
  simp only [rk] at r_i
  have p_i := p190 r_i.1
  have t_i := tn_le (rh i_n).1
  intro k
  induction k with
  | zero =>
    intro H locs ls hk hkl hP hD hS hl
    refine lv_iload hx hb dX4_whole_43 (lv_at hl 0 rfl) ?_
    refine lv_iload hx hb dX4_whole_45 (lv_at hl 1 rfl) ?_
    refine tp_i (y := iZ ((lw : Nat) : Int)) (iZ_nat _) ?_
    refine bs_lt (tgt := 71) hx hb dX4_whole_47 (by decide) (by omega) (by omega) (by omega) (by omega) (fun q1 => ?_) (fun q1 => ?_)
    · exact kk H locs ls hP hD hS (by rw [show (rh i_n).2.1 / 10 ^ lw = (rh i_n).2.1 / 10 ^ 0 from (hkl.elim (fun h => by rw [show lw = 0 by omega]) (fun h => by rw [Nat.div_eq_of_lt h, Nat.div_eq_of_lt (Nat.lt_of_lt_of_le h (Nat.pow_le_pow_right (by decide) (by omega)))]))]; exact lv_sub hl [2, 3] rfl)
    · exact absurd q1 (by omega)
  | succ k ih =>
    intro H locs ls hk hkl hP hD hS hl
    have hd := dg_lt (rh i_n).2.1 k
    refine lv_iload hx hb dX4_whole_43 (lv_at hl 0 rfl) ?_
    refine lv_iload hx hb dX4_whole_45 (lv_at hl 1 rfl) ?_
    refine bi_lt (tgt := 71) hx hb dX4_whole_47 (by decide) (by omega) (by omega) (fun q1 => ?_) (fun q1 => ?_)
    · exact kk H locs ls hP hD hS (by rw [show (rh i_n).2.1 / 10 ^ lw = (rh i_n).2.1 / 10 ^ (k + 1) from (hkl.elim (fun h => by rw [show lw = (k + 1) by omega]) (fun h => by rw [Nat.div_eq_of_lt h, Nat.div_eq_of_lt (Nat.lt_of_lt_of_le h (Nat.pow_le_pow_right (by decide) (by omega)))]))]; exact lv_sub hl [2, 3] rfl)
    · refine lv_ldc2 (v := lN (10)) hx hb hown (hts _ (by decide +kernel)) dX4_whole_50 ?_
      refine lv_lload_n hx hb dX4_whole_53 rfl (lv_at hl 2 rfl) ?_
      refine lv_lmul hx hb dX4_whole_54 ?_
      refine tp_l (y := lN (10 * ((rh i_n).2.1 / 10 ^ (k + 1)))) (lN_mul _ _) ?_
      refine lv_aload_n hx hb dX4_whole_55 rfl (lv_at hl 3 rfl) ?_
      refine rg_3_d hx hb hts in3 hown hK hP (11 + 2 * i_n) (by omega) (mg_G i_n).1 (hts _ (by decide +kernel)) dX4_whole_56 ?_
      refine lv_iload hx hb dX4_whole_59 (lv_at hl 0 rfl) ?_
      refine rn_i hx hb hK hP (11 + 2 * i_n + 1) (by omega) (mg_G i_n).2 (by omega) (by decide) dX4_whole_61 ?_
      refine tp_i (y := nI ((rh i_n).2.1 / 10 ^ k % 10)) (m_i.1.2 k (by omega)) ?_
      refine lv_i2l (v := lN ((rh i_n).2.1 / 10 ^ k % 10)) hx hb dX4_whole_62 (nI_l (by omega)) ?_
      refine lv_ladd hx hb dX4_whole_63 ?_
      refine tp_l (y := lN ((rh i_n).2.1 / 10 ^ k)) ((lN_add _ _).trans (by rw [tp_q]; congr 1; omega)) ?_
      refine lv_lstore_n (lv' := [(3, .long (lN ((rh i_n).2.1 / 10 ^ k))), (6, .int (nI (k))), (5, .int (nI (lw))), (2, .ref (ad (11 + 2 * i_n)))]) hx hb dX4_whole_64 rfl hl (by decide) rfl (fun ls hl => ?_)
      refine lv_iinc (v := dn k) (lv' := [(6, .int (dn k)), (3, .long (lN ((rh i_n).2.1 / 10 ^ k))), (5, .int (nI (lw))), (2, .ref (ad (11 + 2 * i_n)))]) hx hb dX4_whole_65 hl (k := 1) rfl (dn_dec k) (by decide) rfl (fun ls hl => ?_)
      refine lv_goto (tgt := 43) hx hb dX4_whole_68 (by decide) ?_
      exact ih H locs ls (by omega) (Or.inl (by omega)) hP hD hS (lv_sub hl [0, 2, 1, 3] rfl)
set_option maxHeartbeats 4000000 in
set_option maxRecDepth 100000 in
theorem lp_X4_whole2 {p : Program} {l : Launch} {e : Env} {R : Room} {s : State} {m : MethodId} {args : Array Value} {below : List Frame} {meth : Method} {c : Code} {Q : State → Prop} {D : va_G} {cA : Nat → ClassId} {tT : Nat} {A : Nat → Prop} {ad : Nat → Nat} {wa wb wc we : RWt} {rg : Nat → RWt} {tx : Nat → Int32} {tl : Nat} {i_n X9 : Nat} (S : CallFix p m c cX4_whole 7 s args wsX4_whole RX4) (hK : va_K D vwCl (ty_s cA) s) (hT : st_T tT A s s.heap) (kk : ∀ (x9 : Nat) (H : Heap) (locs : List Loc) (ls : Array Slot), va_P D vwCl (wm_W 23 ad (mg cA ad wa wb wc we rg tx tl)) H → va_D A (wm_W 23 ad (mg cA ad wa wb wc we rg tx tl)) → va_S A s.heap H locs → lv_has ls 7 [(3, .long (lN x9)), (2, .ref (ad (11 + 2 * i_n)))] → x9 = X9 → W p l e R s m args below meth c H locs 0 0 Q (F0 m 94 ls [])) :
    ∀ (k x9 : Nat) (H : Heap) (locs : List Loc) (ls : Array Slot), k < 1000 → x9 * 10 ^ k = X9 → va_P D vwCl (wm_W 23 ad (mg cA ad wa wb wc we rg tx tl)) H → va_D A (wm_W 23 ad (mg cA ad wa wb wc we rg tx tl)) → va_S A s.heap H locs → lv_has ls 7 [(6, .int (iZ (-(k : Int)))), (3, .long (lN x9)), (2, .ref (ad (11 + 2 * i_n)))] → W p l e R s m args below meth c H locs 0 0 Q (F0 m 77 ls []) := by
  obtain ⟨hx, hb, hml, hown, hts⟩ := S
  intro k
  induction k with
  | zero =>
    intro x9 H locs ls hk hX hP hD hS hl
    refine lv_iload hx hb dX4_whole_77 (lv_at hl 0 rfl) ?_
    refine by_ge (tgt := 94) hx hb dX4_whole_79 (by decide) (by omega) (by omega) (fun q1 => ?_) (fun q1 => ?_)
    · exact kk x9 H locs ls hP hD hS (lv_sub hl [1, 2] rfl) (by rw [← hX, Nat.pow_zero, Nat.mul_one])
    · exact absurd (by decide) q1
  | succ k ih =>
    intro x9 H locs ls hk hX hP hD hS hl
    refine lv_iload hx hb dX4_whole_77 (lv_at hl 0 rfl) ?_
    refine by_ge (tgt := 94) hx hb dX4_whole_79 (by decide) (by omega) (by omega) (fun q1 => ?_) (fun q1 => ?_)
    · exact absurd q1 (by omega)
    · refine lv_ldc2 (v := lN (10)) hx hb hown (hts _ (by decide +kernel)) dX4_whole_82 ?_
      refine lv_lload_n hx hb dX4_whole_85 rfl (lv_at hl 1 rfl) ?_
      refine lv_lmul hx hb dX4_whole_86 ?_
      refine tp_l (y := lN (10 * x9)) (lN_mul _ _) ?_
      refine lv_lstore_n (lv' := [(3, .long (lN (10 * x9))), (6, .int (iZ (-((k + 1 : Nat) : Int)))), (2, .ref (ad (11 + 2 * i_n)))]) hx hb dX4_whole_87 rfl hl (by decide) rfl (fun ls hl => ?_)
      refine lv_iinc (v := iZ ((-((k + 1 : Nat) : Int)) + 1)) (lv' := [(6, .int (iZ ((-((k + 1 : Nat) : Int)) + 1))), (3, .long (lN (10 * x9))), (2, .ref (ad (11 + 2 * i_n)))]) hx hb dX4_whole_88 hl (k := 1) rfl (iZ_add (-((k + 1 : Nat) : Int)) (1)) (by decide) rfl (fun ls hl => ?_)
      refine lv_goto (tgt := 77) hx hb dX4_whole_91 (by decide) ?_
      rw [show -((k + 1 : Nat) : Int) + 1 = -(k : Int) by omega] at hl
      exact ih (10 * x9) H locs ls (by omega) (by rw [← hX, Nat.pow_succ, Nat.mul_comm 10 x9, Nat.mul_assoc, Nat.mul_comm 10 (10 ^ k)]) hP hD hS hl
set_option maxHeartbeats 4000000 in
set_option maxRecDepth 100000 in
/-- whole -/
theorem c_X4_whole (l : Launch) (D : va_G) (cA : Nat → ClassId) (tT : Nat) (A : Nat → Prop) (ad : Nat → Nat) (sz : Nat) {wa wb wc we : RWt} {rg : Nat → RWt} {tx : Nat → Int32} {tl : Nat} {rh : Nat → Bool × Nat × Int} (hm : mr rg rh) (hr9 : rks rh) {i : Int} (i_1 : -2147483648 ≤ i) (i_2 : i < 2147483648) : Met l yX4_whole wsX4_whole ({ frames := 1, cells := 0, slots := 0, locals := 20 }) (va_Pc [.ref (ad 0), .int (iZ (i))] (wd_B D cA tT A 23 ad sz (mg cA ad wa wb wc we rg tx tl))) (va_Ql (fun (r : Int64) (u : Nat → va_E) => r = sp_whole rh i ∧ u = mg cA ad wa wb wc we rg tx tl) (wd_E D cA A 23 ad) A) 0 0 A := by
  refine Met.ofW (cc := cX4_whole) (maxL := 7) (ret := (some .long)) (by decide) rfl ?_
  intro p e s m args below meth c s₁ B hml hv
  obtain ⟨rfl, hsz, hP, hK, hD, hT⟩ := hv
  have hx := B.exec
  have hb := B.bytes
  have hr := B.returns
  have hts := atoms_spec (ws := wsX4_whole) B.pre
  have hown : s.vm.findClass RX4 = some m.cls := findClass_of_methodNamed B.named
  have hlocks := B.notSynchronized
  subst hsz
  have hS : va_S A s.heap s.heap [] := va_S.rf
  have in3 : ∀ w ∈ wsX30, w ∈ wsX4_whole := by decide +kernel
  have in4 : ∀ w ∈ wsX40, w ∈ wsX4_whole := by decide +kernel
  have hl := lv_entry ([.ref (ad 0), .int (iZ (i))]) (n := 7) (Nat.le_of_ble_eq_true rfl)
  rw [lg_entry_eq]
  generalize (lg_sl ([.ref (ad 0), .int (iZ (i))]) ++ List.replicate (7 - (lg_sl ([.ref (ad 0), .int (iZ (i))])).length) Slot.unset).toArray = ls at hl ⊢
  have hl : lv_has ls 7 [(0, .ref (ad 0)), (1, .int (iZ (i)))] := hl
  refine lv_iload_n hx hb dX4_whole_0 rfl (lv_at hl 1 rfl) ?_
  refine va_calli (va_runS (As := [.int (iZ (i))]) (rest := []) ⟨hx, hb, hml, hown, hts⟩ (c_X4_is l D cA tT A 23 ad _ _ (k := i) (by omega) (by omega)) (va_cwS 1 hts gX4_whole_X4_is rfl rfl rfl (by decide +kernel) ⟨Nat.le_of_ble_eq_true rfl, Nat.le_of_ble_eq_true rfl⟩) (wd_preS hP hK hD hT hS) rfl rfl hl.1 rfl (lv_room (Nat.le_of_ble_eq_true rfl)) dX4_whole_1 ⟨Nat.zero_le _, Nat.zero_le _⟩) hS id_2 id_1 (fun r_ u t H locs ht hvm hw hB hz1 hk1 hS => ?_)
  refine c00 ?_
  obtain ⟨hP, hD⟩ := wd_back ht hB
  clear ht hvm hB hz1 hk1
  obtain ⟨hr_, hu_⟩ := hw
  subst hr_
  rw [hu_] at hP hD
  clear hu_
  refine bz_ne (tgt := 9) hx hb dX4_whole_4 (by decide) it_lt (fun q_i => ?_) (fun q_i => ?_)
  · have g_i := it_ne q_i
    obtain ⟨i_n, h_i, rfl⟩ : ∃ n : Nat, n < 6 ∧ i = (n : Int) := ⟨i.toNat, by omega, by omega⟩
    rw [← iZ_nat i_n] at hl
    have e_i : ((i_n : Nat) : Int).toNat = i_n := Int.toNat_natCast i_n
    have m_i := hm i_n h_i
    have n_i : (rg i_n).2.1 = nd_p (rh i_n).2.1 := m_i.1.1
    have b_i : (rg i_n).2.2.1 = (rh i_n).1 := by rw [m_i.2]
    have z_i : (rg i_n).2.2.2 = (rh i_n).2.2 := by rw [m_i.2]
    have r_i := hr9 i_n h_i
    simp only [rk] at r_i
    have p_i := p190 r_i.1
    have t_i := tn_le (rh i_n).1
    refine lv_aload_n hx hb dX4_whole_9 rfl (lv_at hl 0 rfl) ?_
    refine rg_4_registers hx hb hts in4 hown hK hP 0 (by decide) mg_0 (hts _ (by decide +kernel)) dX4_whole_10 ?_
    refine lv_iload_n hx hb dX4_whole_13 rfl (lv_at hl 1 rfl) ?_
    refine rn_q4 hx hb hK hP 1 (by decide) mg_1 (by omega) (by decide) dX4_whole_14 ?_
    refine tp_v (y := .ref (ad (11 + 2 * i_n))) rfl ?_
    refine lv_astore_n (lv' := [(2, .ref (ad (11 + 2 * i_n))), (0, .ref (ad 0)), (1, .int (nI (i_n)))]) hx hb dX4_whole_15 rfl hl (by decide) rfl (fun ls hl => ?_)
    refine lv_lconst (v := lN (0)) hx hb dX4_whole_16 rfl ?_
    refine lv_lstore_n (lv' := [(3, .long (lN (0))), (2, .ref (ad (11 + 2 * i_n))), (0, .ref (ad 0)), (1, .int (nI (i_n)))]) hx hb dX4_whole_17 rfl hl (by decide) rfl (fun ls hl => ?_)
    refine lv_aload_n hx hb dX4_whole_18 rfl (lv_at hl 1 rfl) ?_
    refine rg_3_scale hx hb hts in3 hown hK hP (11 + 2 * i_n) (by omega) (mg_G i_n).1 (hts _ (by decide +kernel)) dX4_whole_19 ?_
    refine tp_i (y := iZ ((rg i_n).2.2.2)) rfl ?_
    refine tp_i (y := iZ ((rh i_n).2.2)) (by rw [z_i]) ?_
    refine by_le (tgt := 32) hx hb dX4_whole_22 (by decide) (by omega) (by omega) (fun q1 => ?_) (fun q1 => ?_)
    · refine lv_iconst (v := nI (0)) hx hb dX4_whole_32 (by decide) ?_
      refine lv_istore (lv' := [(5, .int (nI (0))), (3, .long (lN (0))), (2, .ref (ad (11 + 2 * i_n))), (0, .ref (ad 0)), (1, .int (nI (i_n)))]) hx hb dX4_whole_33 hl (by decide) rfl (fun ls hl => ?_)
      refine lv_aload_n hx hb dX4_whole_35 rfl (lv_at hl 2 rfl) ?_
      refine rg_3_n hx hb hts in3 hown hK hP (11 + 2 * i_n) (by omega) (mg_G i_n).1 (hts _ (by decide +kernel)) dX4_whole_36 ?_
      refine tp_i (y := nI ((rg i_n).2.1)) rfl ?_
      refine lv_iconst (v := nI (1)) hx hb dX4_whole_39 (by decide) ?_
      refine lv_isub hx hb dX4_whole_40 ?_
      refine tp_i (y := dn (rg i_n).2.1) (dn_sub _) ?_
      refine lv_istore (lv' := [(6, .int (dn (rg i_n).2.1)), (5, .int (nI (0))), (3, .long (lN (0))), (2, .ref (ad (11 + 2 * i_n))), (0, .ref (ad 0)), (1, .int (nI (i_n)))]) hx hb dX4_whole_41 hl (by decide) rfl (fun ls hl => ?_)
      have e0 : (rh i_n).2.1 / 10 ^ (rg i_n).2.1 = 0 := Nat.div_eq_of_lt (rv_dv m_i.1).1
      refine lp_X4_whole1 (rh := rh) (i_n := i_n) (lw := 0) ⟨hx, hb, hml, hown, hts⟩ hK hT hm hr9 h_i (by omega) (fun H locs ls hP hD hS hl => ?_) (rg i_n).2.1 _ _ ls (Nat.le_refl _) (Or.inr (rv_dv m_i.1).1) hP hD hS (by rw [e0]; exact lv_sub hl [0, 1, 2, 3] rfl)
      refine lv_aload_n hx hb dX4_whole_71 rfl (lv_at hl 1 rfl) ?_
      refine rg_3_scale hx hb hts in3 hown hK hP (11 + 2 * i_n) (by omega) (mg_G i_n).1 (hts _ (by decide +kernel)) dX4_whole_72 ?_
      refine tp_i (y := iZ ((rg i_n).2.2.2)) rfl ?_
      refine tp_i (y := iZ ((rh i_n).2.2)) (by rw [z_i]) ?_
      refine lv_istore (lv' := [(6, .int (iZ ((rh i_n).2.2))), (3, .long (lN ((rh i_n).2.1 / 10 ^ 0))), (2, .ref (ad (11 + 2 * i_n)))]) hx hb dX4_whole_75 hl (by decide) rfl (fun ls hl => ?_)
      rw [show (rh i_n).2.2 = -(((-(rh i_n).2.2).toNat : Nat) : Int) by omega, Nat.pow_zero, Nat.div_one] at hl
      refine lp_X4_whole2 (i_n := i_n) (X9 := wh (rh i_n)) ⟨hx, hb, hml, hown, hts⟩ hK hT (fun x9 H locs ls hP hD hS hl hx9 => ?_) (-(rh i_n).2.2).toNat (rh i_n).2.1 _ _ ls (by omega) (by rw [wh, show (rh i_n).2.2.toNat = 0 by omega, Nat.pow_zero, Nat.div_one]) hP hD hS (lv_sub hl [0, 1, 2] rfl)
      refine lv_aload_n hx hb dX4_whole_94 rfl (lv_at hl 1 rfl) ?_
      refine rg_3_minus hx hb hts in3 hown hK hP (11 + 2 * i_n) (by omega) (mg_G i_n).1 (hts _ (by decide +kernel)) dX4_whole_95 ?_
      refine tp_i (y := nI (((rg i_n).2.2.1).toNat)) rfl ?_
      refine tp_i (y := nI ((rh i_n).1.toNat)) (by rw [b_i]) ?_
      refine bz_eq (tgt := 106) hx hb dX4_whole_98 (by decide) (by omega) (fun q2 => ?_) (fun q2 => ?_)
      · refine lv_lload_n hx hb dX4_whole_106 rfl (lv_at hl 0 rfl) ?_
        exact W.lret (v := lN (x9)) hx hb hr (fun t ht hW => ⟨⟨lN (x9), _, rfl, ⟨by rw [sp_whole, if_pos (by omega), e_i, tn_z q2, hx9]; rfl, rfl⟩, wd_end hP hK hD ht hW⟩, hS.F ht⟩) hS.2.2 dX4_whole_107
      · refine lv_lload_n hx hb dX4_whole_101 rfl (lv_at hl 0 rfl) ?_
        refine lv_lneg hx hb dX4_whole_102 ?_
        refine lv_goto (tgt := 107) hx hb dX4_whole_103 (by decide) ?_
        exact W.lret (v := -(lN (x9))) hx hb hr (fun t ht hW => ⟨⟨-(lN (x9)), _, rfl, ⟨by rw [sp_whole, if_pos (by omega), e_i, tn_nz q2, hx9]; rfl, rfl⟩, wd_end hP hK hD ht hW⟩, hS.F ht⟩) hS.2.2 dX4_whole_107
    · refine lv_aload_n hx hb dX4_whole_25 rfl (lv_at hl 1 rfl) ?_
      refine rg_3_scale hx hb hts in3 hown hK hP (11 + 2 * i_n) (by omega) (mg_G i_n).1 (hts _ (by decide +kernel)) dX4_whole_26 ?_
      refine tp_i (y := iZ ((rg i_n).2.2.2)) rfl ?_
      refine lv_goto (tgt := 33) hx hb dX4_whole_29 (by decide) ?_
      refine tp_i (y := nI (rh i_n).2.2.toNat) (by rw [z_i, iZ_tn (by omega)]) ?_
      refine lv_istore (lv' := [(5, .int (nI ((rh i_n).2.2.toNat))), (3, .long (lN (0))), (2, .ref (ad (11 + 2 * i_n))), (0, .ref (ad 0)), (1, .int (nI (i_n)))]) hx hb dX4_whole_33 hl (by decide) rfl (fun ls hl => ?_)
      refine lv_aload_n hx hb dX4_whole_35 rfl (lv_at hl 2 rfl) ?_
      refine rg_3_n hx hb hts in3 hown hK hP (11 + 2 * i_n) (by omega) (mg_G i_n).1 (hts _ (by decide +kernel)) dX4_whole_36 ?_
      refine tp_i (y := nI ((rg i_n).2.1)) rfl ?_
      refine lv_iconst (v := nI (1)) hx hb dX4_whole_39 (by decide) ?_
      refine lv_isub hx hb dX4_whole_40 ?_
      refine tp_i (y := dn (rg i_n).2.1) (dn_sub _) ?_
      refine lv_istore (lv' := [(6, .int (dn (rg i_n).2.1)), (5, .int (nI ((rh i_n).2.2.toNat))), (3, .long (lN (0))), (2, .ref (ad (11 + 2 * i_n))), (0, .ref (ad 0)), (1, .int (nI (i_n)))]) hx hb dX4_whole_41 hl (by decide) rfl (fun ls hl => ?_)
      have e0 : (rh i_n).2.1 / 10 ^ (rg i_n).2.1 = 0 := Nat.div_eq_of_lt (rv_dv m_i.1).1
      refine lp_X4_whole1 (rh := rh) (i_n := i_n) (lw := (rh i_n).2.2.toNat) ⟨hx, hb, hml, hown, hts⟩ hK hT hm hr9 h_i (by omega) (fun H locs ls hP hD hS hl => ?_) (rg i_n).2.1 _ _ ls (Nat.le_refl _) (Or.inr (rv_dv m_i.1).1) hP hD hS (by rw [e0]; exact lv_sub hl [0, 1, 2, 3] rfl)
      refine lv_aload_n hx hb dX4_whole_71 rfl (lv_at hl 1 rfl) ?_
      refine rg_3_scale hx hb hts in3 hown hK hP (11 + 2 * i_n) (by omega) (mg_G i_n).1 (hts _ (by decide +kernel)) dX4_whole_72 ?_
      refine tp_i (y := iZ ((rg i_n).2.2.2)) rfl ?_
      refine tp_i (y := iZ ((rh i_n).2.2)) (by rw [z_i]) ?_
      refine lv_istore (lv' := [(6, .int (iZ ((rh i_n).2.2))), (3, .long (lN ((rh i_n).2.1 / 10 ^ (rh i_n).2.2.toNat))), (2, .ref (ad (11 + 2 * i_n)))]) hx hb dX4_whole_75 hl (by decide) rfl (fun ls hl => ?_)
      refine lv_iload hx hb dX4_whole_77 (lv_at hl 0 rfl) ?_
      refine by_ge (tgt := 94) hx hb dX4_whole_79 (by decide) (by omega) (by omega) (fun q5 => ?_) (fun q5 => ?_)
      · have hx9 : (rh i_n).2.1 / 10 ^ (rh i_n).2.2.toNat = wh (rh i_n) := by rw [wh, show (-(rh i_n).2.2).toNat = 0 by omega, Nat.pow_zero, Nat.mul_one]
        refine lv_aload_n hx hb dX4_whole_94 rfl (lv_at hl 2 rfl) ?_
        refine rg_3_minus hx hb hts in3 hown hK hP (11 + 2 * i_n) (by omega) (mg_G i_n).1 (hts _ (by decide +kernel)) dX4_whole_95 ?_
        refine tp_i (y := nI (((rg i_n).2.2.1).toNat)) rfl ?_
        refine tp_i (y := nI ((rh i_n).1.toNat)) (by rw [b_i]) ?_
        refine bz_eq (tgt := 106) hx hb dX4_whole_98 (by decide) (by omega) (fun q2 => ?_) (fun q2 => ?_)
        · refine lv_lload_n hx hb dX4_whole_106 rfl (lv_at hl 1 rfl) ?_
          exact W.lret (v := lN ((rh i_n).2.1 / 10 ^ (rh i_n).2.2.toNat)) hx hb hr (fun t ht hW => ⟨⟨lN ((rh i_n).2.1 / 10 ^ (rh i_n).2.2.toNat), _, rfl, ⟨by rw [sp_whole, if_pos (by omega), e_i, tn_z q2, hx9]; rfl, rfl⟩, wd_end hP hK hD ht hW⟩, hS.F ht⟩) hS.2.2 dX4_whole_107
        · refine lv_lload_n hx hb dX4_whole_101 rfl (lv_at hl 1 rfl) ?_
          refine lv_lneg hx hb dX4_whole_102 ?_
          refine lv_goto (tgt := 107) hx hb dX4_whole_103 (by decide) ?_
          exact W.lret (v := -(lN ((rh i_n).2.1 / 10 ^ (rh i_n).2.2.toNat))) hx hb hr (fun t ht hW => ⟨⟨-(lN ((rh i_n).2.1 / 10 ^ (rh i_n).2.2.toNat)), _, rfl, ⟨by rw [sp_whole, if_pos (by omega), e_i, tn_nz q2, hx9]; rfl, rfl⟩, wd_end hP hK hD ht hW⟩, hS.F ht⟩) hS.2.2 dX4_whole_107
      · exact absurd q5 (by omega)
  · have g_i := it_eq q_i
    refine lv_lconst (v := lN (0)) hx hb dX4_whole_7 rfl ?_
    exact W.lret (v := lN (0)) hx hb hr (fun t ht hW => ⟨⟨lN (0), _, rfl, ⟨by rw [sp_whole, if_neg (by omega)], rfl⟩, wd_end hP hK hD ht hW⟩, hS.F ht⟩) hS.2.2 dX4_whole_8
