set_option maxHeartbeats 4000000 in
set_option maxRecDepth 100000 in
theorem lp_X4_div159 {p : Program} {l : Launch} {e : Env} {R : Room} {s : State} {m : MethodId} {args : Array Value} {below : List Frame} {meth : Method} {c : Code} {Q : State → Prop} {D : va_G} {cA : Nat → ClassId} {tT : Nat} {A : Nat → Prop} {ad : Nat → Nat} {we : RWt} {rg : Nat → RWt} {tx : Nat → Int32} {tl : Nat} {fa fb fc : Nat → Int32} {na nb nc k_n X Y : Nat} {ba bb bc mn : Bool} {za zb zc sc way : Int} (S : CallFix p m c cX4_divide 11 s args wsX4_divide RX4) (hK : va_K D vwCl (ty_s cA) s) (hT : st_T tT A s s.heap) (hRf : 2 ≤ R.frames) (hRl : 47 ≤ R.locals) (w1 : 0 ≤ way) (w2 : way ≤ 7) (hva : rv fa na X) (hna : na ≤ 500) (hvb : rv fb nb Y) (hnb : nb ≤ 500) (hY : Y ≠ 0) (k1 : ∀ (we : RWt) (fa fc : Nat → Int32) (na nc : Nat) (H : Heap) (locs : List Loc) (ls : Array Slot), X % Y ≠ 0 → way = 7 → va_P D vwCl (wm_W 23 ad (mg cA ad (fa, na, ba, za) (fb, nb, bb, zb) (fc, nc, bc, zc) we rg tx tl)) H → va_D A (wm_W 23 ad (mg cA ad (fa, na, ba, za) (fb, nb, bb, zb) (fc, nc, bc, zc) we rg tx tl)) → va_S A s.heap H locs → W p l e R s m args below meth c H locs 0 0 Q (F0 m 193 ls [])) (k2 : ∀ (we : RWt) (fa fc : Nat → Int32) (na nc v9 : Nat) (H : Heap) (locs : List Loc) (ls : Array Slot), rdn mn X Y way = (1, v9) → rv fc nc v9 → nc ≤ 700 → va_P D vwCl (wm_W 23 ad (mg cA ad (fa, na, ba, za) (fb, nb, bb, zb) (fc, nc, bc, zc) we rg tx tl)) H → va_D A (wm_W 23 ad (mg cA ad (fa, na, ba, za) (fb, nb, bb, zb) (fc, nc, bc, zc) we rg tx tl)) → va_S A s.heap H locs → lv_has ls 11 [(0, .ref (ad 0)), (1, .int (nI (k_n))), (4, .int (iZ (sc))), (5, .int (iZ (way))), (6, .int (nI (mn.toNat)))] → W p l e R s m args below meth c H locs 0 0 Q (F0 m 342 ls [])) (H : Heap) (locs : List Loc) (ls : Array Slot) (hP : va_P D vwCl (wm_W 23 ad (mg cA ad (fa, na, ba, za) (fb, nb, bb, zb) (fc, nc, bc, zc) we rg tx tl)) H) (hD : va_D A (wm_W 23 ad (mg cA ad (fa, na, ba, za) (fb, nb, bb, zb) (fc, nc, bc, zc) we rg tx tl))) (hS : va_S A s.heap H locs) (hl : lv_has ls 11 [(0, .ref (ad 0)), (1, .int (nI (k_n))), (4, .int (iZ (sc))), (5, .int (iZ (way))), (6, .int (nI (mn.toNat)))]) : W p l e R s m args below meth c H locs 0 0 Q (F0 m 159 ls []) := by
  have S9 := S
  obtain ⟨hx, hb, hml, hown, hts⟩ := S
  have in3 : ∀ w ∈ wsX30, w ∈ wsX4_divide := by decide +kernel
  have in4 : ∀ w ∈ wsX40, w ∈ wsX4_divide := by decide +kernel
  have pb : 1 ≤ nb := by rw [hvb.1]; exact nd_p_pos _
  have pa : 1 ≤ na := by rw [hva.1]; exact nd_p_pos _
  have hpr : nd_p (X % Y) ≤ 500 := Nat.le_trans ((nd_p_le pb).mpr (Nat.lt_trans (Nat.mod_lt _ (Nat.pos_of_ne_zero hY)) (rv_dv hvb).1)) hnb
  have hpq : nd_p (X / Y) ≤ 500 := Nat.le_trans ((nd_p_le pa).mpr (Nat.lt_of_le_of_lt (Nat.div_le_self _ _) (rv_dv hva).1)) hna
  refine lv_aload_n hx hb dX4_divide_159 rfl (lv_at hl 0 rfl) ?_
  refine va_callv (va_runV (As := []) (rest := []) ⟨hx, hb, hml, hown, hts⟩ (c_X4_over l D cA tT A ad _ (fa := fa) (fb := fb) (na := na) (nb := nb) (X := X) (Y := Y) (ba := ba) (bb := bb) (za := za) (zb := zb) (wc := (fc, nc, bc, zc)) (we := we) (rg := rg) (tx := tx) (tl := tl) (by omega) (by omega) hva hvb hY) (cwV 0 hts gX4_divide_X4_over rfl rfl rfl (by decide +kernel) ⟨Nat.le_trans (Nat.le_of_ble_eq_true rfl) hRf, Nat.le_trans (Nat.le_of_ble_eq_true rfl) hRl⟩) (wd_preV (k := 0) hP hK hD hT hS (by decide) mg_0 rfl) rfl rfl hl.1 rfl (lv_room (Nat.le_of_ble_eq_true rfl)) dX4_divide_160 ⟨Nat.zero_le _, Nat.zero_le _⟩) hS id_2 id_1 (fun u t H locs ht hvm hw hB hz1 hk1 hS => ?_)
  refine c00 ?_
  obtain ⟨hP, hD⟩ := wd_back ht hB
  clear ht hvm hB hz1 hk1
  obtain ⟨fr_, fq_, we9, vr_, vq_, hu_⟩ := hw
  rw [hu_] at hP hD
  clear hu_
  have hr0 := rv_0 vr_
  have hd0 := dg_lt (X % Y) 0
  refine lv_aload_n hx hb dX4_divide_163 rfl (lv_at hl 0 rfl) ?_
  refine rg_4_a hx hb hts in4 hown hK hP 0 (by decide) mg_0 (hts _ (by decide +kernel)) dX4_divide_164 ?_
  refine rg_3_n hx hb hts in3 hown hK hP 3 (by omega) mg_A.1 (hts _ (by decide +kernel)) dX4_divide_167 ?_
  refine tp_i (y := nI (nd_p (X % Y))) rfl ?_
  refine lv_iconst (v := nI (1)) hx hb dX4_divide_170 (by decide) ?_
  refine bi_ne (tgt := 186) hx hb dX4_divide_171 (by decide) (by omega) (by omega) (fun q1 => ?_) (fun q1 => ?_)
  · exact lp_X4_div186 S9 hK hT hRf hRl w1 w2 (fun h => q1 (hr0.mp h).1) hvb (by omega) vq_ (by omega) (k1 we9) (k2 we9) fr_ _ _ ls vr_ (by omega) hP hD hS hl
  · refine lv_aload_n hx hb dX4_divide_174 rfl (lv_at hl 0 rfl) ?_
    refine rg_4_a hx hb hts in4 hown hK hP 0 (by decide) mg_0 (hts _ (by decide +kernel)) dX4_divide_175 ?_
    refine rg_3_d hx hb hts in3 hown hK hP 3 (by omega) mg_A.1 (hts _ (by decide +kernel)) dX4_divide_178 ?_
    refine lv_iconst (v := nI (0)) hx hb dX4_divide_181 (by decide) ?_
    refine rn_i hx hb hK hP (3 + 1) (by omega) mg_A.2 (by omega) (by decide) dX4_divide_182 ?_
    refine tp_i (y := nI (X % Y / 10 ^ 0 % 10)) (vr_.2 0 (by omega)) ?_
    refine bz_eq (tgt := 342) hx hb dX4_divide_183 (by decide) (by omega) (fun q2 => ?_) (fun q2 => ?_)
    · have hz := hr0.mpr ⟨q1, q2⟩
      exact k2 we9 _ fq_ _ _ _ H locs ls (by rw [rdn, if_pos hz]) vq_ (by omega) hP hD hS hl
    · exact lp_X4_div186 S9 hK hT hRf hRl w1 w2 (fun h => q2 (hr0.mp h).2) hvb (by omega) vq_ (by omega) (k1 we9) (k2 we9) fr_ _ _ ls vr_ (by omega) hP hD hS hl
set_option maxHeartbeats 4000000 in
set_option maxRecDepth 100000 in
/-- divide -/
theorem c_X4_divide (l : Launch) (D : va_G) (cA : Nat → ClassId) (tT : Nat) (A : Nat → Prop) (ad : Nat → Nat) (sz : Nat) {wa wb wc we : RWt} {rg : Nat → RWt} {tx : Nat → Int32} {tl : Nat} {rh : Nat → Bool × Nat × Int} (hm : mr rg rh) (hr9 : rks rh) {k i j sc way : Int} (k_1 : -2147483648 ≤ k) (k_2 : k < 2147483648) (i_1 : -2147483648 ≤ i) (i_2 : i < 2147483648) (j_1 : -2147483648 ≤ j) (j_2 : j < 2147483648) (sc_1 : -2147483648 ≤ sc) (sc_2 : sc < 2147483648) (way_1 : -2147483648 ≤ way) (way_2 : way < 2147483648) : Met l yX4_divide wsX4_divide ({ frames := 2, cells := 0, slots := 0, locals := 47 }) (va_Pc [.ref (ad 0), .int (iZ (k)), .int (iZ (i)), .int (iZ (j)), .int (iZ (sc)), .int (iZ (way))] (wd_B D cA tT A 23 ad sz (mg cA ad wa wb wc we rg tx tl))) (va_Qi (fun (r : Int32) (u : Nat → va_E) => r = (sp_divide rh k i j sc way).1 ∧ ∃ wa1 wb1 wc1 we1 rg1, mr rg1 (sp_divide rh k i j sc way).2 ∧ u = mg cA ad wa1 wb1 wc1 we1 rg1 tx tl) (wd_E D cA A 23 ad) A) 0 0 A := by
  refine Met.ofW (cc := cX4_divide) (maxL := 11) (ret := (some .int)) (by decide) rfl ?_
  intro p e s m args below meth c s₁ B hml hv
  obtain ⟨rfl, hsz, hP, hK, hD, hT⟩ := hv
  have hx := B.exec
  have hb := B.bytes
  have hr := B.returns
  have hts := atoms_spec (ws := wsX4_divide) B.pre
  have hown : s.vm.findClass RX4 = some m.cls := findClass_of_methodNamed B.named
  have hlocks := B.notSynchronized
  subst hsz
  have hS : va_S A s.heap s.heap [] := va_S.rf
  have in3 : ∀ w ∈ wsX30, w ∈ wsX4_divide := by decide +kernel
  have in4 : ∀ w ∈ wsX40, w ∈ wsX4_divide := by decide +kernel
  have hl := lv_entry ([.ref (ad 0), .int (iZ (k)), .int (iZ (i)), .int (iZ (j)), .int (iZ (sc)), .int (iZ (way))]) (n := 11) (Nat.le_of_ble_eq_true rfl)
  rw [lg_entry_eq]
  generalize (lg_sl ([.ref (ad 0), .int (iZ (k)), .int (iZ (i)), .int (iZ (j)), .int (iZ (sc)), .int (iZ (way))]) ++ List.replicate (11 - (lg_sl ([.ref (ad 0), .int (iZ (k)), .int (iZ (i)), .int (iZ (j)), .int (iZ (sc)), .int (iZ (way))])).length) Slot.unset).toArray = ls at hl ⊢
  have hl : lv_has ls 11 [(0, .ref (ad 0)), (1, .int (iZ (k))), (2, .int (iZ (i))), (3, .int (iZ (j))), (4, .int (iZ (sc))), (5, .int (iZ (way)))] := hl
  refine lv_iload_n hx hb dX4_divide_0 rfl (lv_at hl 1 rfl) ?_
  refine va_calli (va_runS (As := [.int (iZ (k))]) (rest := []) ⟨hx, hb, hml, hown, hts⟩ (c_X4_is l D cA tT A 23 ad _ _ (k := k) (by omega) (by omega)) (va_cwS 1 hts gX4_divide_X4_is rfl rfl rfl (by decide +kernel) ⟨Nat.le_of_ble_eq_true rfl, Nat.le_of_ble_eq_true rfl⟩) (wd_preS hP hK hD hT hS) rfl rfl hl.1 rfl (lv_room (Nat.le_of_ble_eq_true rfl)) dX4_divide_1 ⟨Nat.zero_le _, Nat.zero_le _⟩) hS id_2 id_1 (fun r_ u t H locs ht hvm hw hB hz1 hk1 hS => ?_)
  refine c00 ?_
  obtain ⟨hP, hD⟩ := wd_back ht hB
  clear ht hvm hB hz1 hk1
  obtain ⟨hr_, hu_⟩ := hw
  subst hr_
  rw [hu_] at hP hD
  clear hu_
  refine bz_eq (tgt := 33) hx hb dX4_divide_4 (by decide) it_lt (fun q_k => ?_) (fun q_k => ?_)
  · have g_k := it_eq q_k
    refine lv_iconst (v := iZ (-1)) hx hb dX4_divide_33 (by decide) ?_
    exact W.iret (v := iZ (-1)) hx hb hr (fun t ht hW => ⟨⟨iZ (-1), _, rfl, ⟨by rw [sp_divide, if_neg (by omega)], _, _, _, _, rg, by rw [sp_divide, if_neg (by omega)]; exact hm, rfl⟩, wd_end hP hK hD ht hW⟩, hS.F ht⟩) hS.2.2 dX4_divide_34
  · have g_k := it_ne q_k
    refine lv_iload_n hx hb dX4_divide_7 rfl (lv_at hl 2 rfl) ?_
    refine va_calli (va_runS (As := [.int (iZ (i))]) (rest := []) ⟨hx, hb, hml, hown, hts⟩ (c_X4_is l D cA tT A 23 ad _ _ (k := i) (by omega) (by omega)) (va_cwS 1 hts gX4_divide_X4_is rfl rfl rfl (by decide +kernel) ⟨Nat.le_of_ble_eq_true rfl, Nat.le_of_ble_eq_true rfl⟩) (wd_preS hP hK hD hT hS) rfl rfl hl.1 rfl (lv_room (Nat.le_of_ble_eq_true rfl)) dX4_divide_8 ⟨Nat.zero_le _, Nat.zero_le _⟩) hS id_2 id_1 (fun r_ u t H locs ht hvm hw hB hz1 hk1 hS => ?_)
    refine c00 ?_
    obtain ⟨hP, hD⟩ := wd_back ht hB
    clear ht hvm hB hz1 hk1
    obtain ⟨hr_, hu_⟩ := hw
    subst hr_
    rw [hu_] at hP hD
    clear hu_
    refine bz_eq (tgt := 33) hx hb dX4_divide_11 (by decide) it_lt (fun q_i => ?_) (fun q_i => ?_)
    · have g_i := it_eq q_i
      refine lv_iconst (v := iZ (-1)) hx hb dX4_divide_33 (by decide) ?_
      exact W.iret (v := iZ (-1)) hx hb hr (fun t ht hW => ⟨⟨iZ (-1), _, rfl, ⟨by rw [sp_divide, if_neg (by omega)], _, _, _, _, rg, by rw [sp_divide, if_neg (by omega)]; exact hm, rfl⟩, wd_end hP hK hD ht hW⟩, hS.F ht⟩) hS.2.2 dX4_divide_34
    · have g_i := it_ne q_i
      refine lv_iload_n hx hb dX4_divide_14 rfl (lv_at hl 3 rfl) ?_
      refine va_calli (va_runS (As := [.int (iZ (j))]) (rest := []) ⟨hx, hb, hml, hown, hts⟩ (c_X4_is l D cA tT A 23 ad _ _ (k := j) (by omega) (by omega)) (va_cwS 1 hts gX4_divide_X4_is rfl rfl rfl (by decide +kernel) ⟨Nat.le_of_ble_eq_true rfl, Nat.le_of_ble_eq_true rfl⟩) (wd_preS hP hK hD hT hS) rfl rfl hl.1 rfl (lv_room (Nat.le_of_ble_eq_true rfl)) dX4_divide_15 ⟨Nat.zero_le _, Nat.zero_le _⟩) hS id_2 id_1 (fun r_ u t H locs ht hvm hw hB hz1 hk1 hS => ?_)
      refine c00 ?_
      obtain ⟨hP, hD⟩ := wd_back ht hB
      clear ht hvm hB hz1 hk1
      obtain ⟨hr_, hu_⟩ := hw
      subst hr_
      rw [hu_] at hP hD
      clear hu_
      refine bz_eq (tgt := 33) hx hb dX4_divide_18 (by decide) it_lt (fun q_j => ?_) (fun q_j => ?_)
      · have g_j := it_eq q_j
        refine lv_iconst (v := iZ (-1)) hx hb dX4_divide_33 (by decide) ?_
        exact W.iret (v := iZ (-1)) hx hb hr (fun t ht hW => ⟨⟨iZ (-1), _, rfl, ⟨by rw [sp_divide, if_neg (by omega)], _, _, _, _, rg, by rw [sp_divide, if_neg (by omega)]; exact hm, rfl⟩, wd_end hP hK hD ht hW⟩, hS.F ht⟩) hS.2.2 dX4_divide_34
      · have g_j := it_ne q_j
        refine lv_iload hx hb dX4_divide_21 (lv_at hl 5 rfl) ?_
        refine by_lt (tgt := 33) hx hb dX4_divide_23 (by decide) (by omega) (by omega) (fun p1 => ?_) (fun p1 => ?_)
        · refine lv_iconst (v := iZ (-1)) hx hb dX4_divide_33 (by decide) ?_
          exact W.iret (v := iZ (-1)) hx hb hr (fun t ht hW => ⟨⟨iZ (-1), _, rfl, ⟨by rw [sp_divide, if_neg (by omega)], _, _, _, _, rg, by rw [sp_divide, if_neg (by omega)]; exact hm, rfl⟩, wd_end hP hK hD ht hW⟩, hS.F ht⟩) hS.2.2 dX4_divide_34
        · refine lv_iload hx hb dX4_divide_26 (lv_at hl 5 rfl) ?_
          refine lv_bipush (v := nI (7)) hx hb dX4_divide_28 (by decide) ?_
          refine tp_i (y := iZ ((7 : Nat) : Int)) (iZ_nat _) ?_
          refine bs_le (tgt := 35) hx hb dX4_divide_30 (by decide) (by omega) (by omega) (by omega) (by omega) (fun p2 => ?_) (fun p2 => ?_)
          · obtain ⟨k_n, h_k, rfl⟩ : ∃ n : Nat, n < 6 ∧ k = (n : Int) := ⟨k.toNat, by omega, by omega⟩
            rw [← iZ_nat k_n] at hl
            have e_k : ((k_n : Nat) : Int).toNat = k_n := Int.toNat_natCast k_n
            obtain ⟨i_n, h_i, rfl⟩ : ∃ n : Nat, n < 6 ∧ i = (n : Int) := ⟨i.toNat, by omega, by omega⟩
            rw [← iZ_nat i_n] at hl
            have e_i : ((i_n : Nat) : Int).toNat = i_n := Int.toNat_natCast i_n
            obtain ⟨j_n, h_j, rfl⟩ : ∃ n : Nat, n < 6 ∧ j = (n : Int) := ⟨j.toNat, by omega, by omega⟩
            rw [← iZ_nat j_n] at hl
            have e_j : ((j_n : Nat) : Int).toNat = j_n := Int.toNat_natCast j_n
            have m_k := hm k_n h_k
            have n_k : (rg k_n).2.1 = nd_p (rh k_n).2.1 := m_k.1.1
            have b_k : (rg k_n).2.2.1 = (rh k_n).1 := by rw [m_k.2]
            have z_k : (rg k_n).2.2.2 = (rh k_n).2.2 := by rw [m_k.2]
            have r_k := hr9 k_n h_k
            simp only [rk] at r_k
            have p_k := p190 r_k.1
            have t_k := tn_le (rh k_n).1
            have m_i := hm i_n h_i
            have n_i : (rg i_n).2.1 = nd_p (rh i_n).2.1 := m_i.1.1
            have b_i : (rg i_n).2.2.1 = (rh i_n).1 := by rw [m_i.2]
            have z_i : (rg i_n).2.2.2 = (rh i_n).2.2 := by rw [m_i.2]
            have r_i := hr9 i_n h_i
            simp only [rk] at r_i
            have p_i := p190 r_i.1
            have t_i := tn_le (rh i_n).1
            have m_j := hm j_n h_j
            have n_j : (rg j_n).2.1 = nd_p (rh j_n).2.1 := m_j.1.1
            have b_j : (rg j_n).2.2.1 = (rh j_n).1 := by rw [m_j.2]
            have z_j : (rg j_n).2.2.2 = (rh j_n).2.2 := by rw [m_j.2]
            have r_j := hr9 j_n h_j
            simp only [rk] at r_j
            have p_j := p190 r_j.1
            have t_j := tn_le (rh j_n).1
            refine lv_aload_n hx hb dX4_divide_35 rfl (lv_at hl 0 rfl) ?_
            refine rg_4_registers hx hb hts in4 hown hK hP 0 (by decide) mg_0 (hts _ (by decide +kernel)) dX4_divide_36 ?_
            refine lv_iload_n hx hb dX4_divide_39 rfl (lv_at hl 3 rfl) ?_
            refine rn_q4 hx hb hK hP 1 (by decide) mg_1 (by omega) (by decide) dX4_divide_40 ?_
            refine tp_v (y := .ref (ad (11 + 2 * j_n))) rfl ?_
            refine va_calli (va_runV (As := []) (rest := []) ⟨hx, hb, hml, hown, hts⟩ (c_X3_isZero l D cA tT A 23 ad _ _ (a := 11 + 2 * j_n) (f := (rg j_n).1) (n := (rg j_n).2.1) (b := (rg j_n).2.2.1) (z := (rg j_n).2.2.2) (v := (rh j_n).2.1) (by omega) (mg_G _) m_j.1 (by omega)) (cwV 0 hts gX4_divide_X3_isZero rfl rfl rfl (by decide +kernel) ⟨Nat.le_of_ble_eq_true rfl, Nat.le_of_ble_eq_true rfl⟩) (wd_preV (k := 11 + 2 * j_n) hP hK hD hT hS (by omega) (mg_G _).1 rfl) rfl rfl hl.1 rfl (lv_room (Nat.le_of_ble_eq_true rfl)) dX4_divide_41 ⟨Nat.zero_le _, Nat.zero_le _⟩) hS id_2 id_1 (fun r_ u t H locs ht hvm hw hB hz1 hk1 hS => ?_)
            refine c00 ?_
            obtain ⟨hP, hD⟩ := wd_back ht hB
            clear ht hvm hB hz1 hk1
            obtain ⟨hr_, hu_⟩ := hw
            subst hr_
            rw [hu_] at hP hD
            clear hu_
            refine bz_eq (tgt := 50) hx hb dX4_divide_44 (by decide) it_lt (fun p3 => ?_) (fun p3 => ?_)
            · have p4 := it_eq p3
              refine lv_iload hx hb dX4_divide_50 (lv_at hl 4 rfl) ?_
              refine lv_i2l (v := lZ (sc)) hx hb dX4_divide_52 (iZ_l (by omega) (by omega)) ?_
              refine va_calli (va_runS (As := [.long (lZ (sc))]) (rest := []) ⟨hx, hb, hml, hown, hts⟩ (c_X4_isScale l D cA tT A 23 ad _ _ (k := sc) (by omega) (by omega)) (va_cwS 1 hts gX4_divide_X4_isScale rfl rfl rfl (by decide +kernel) ⟨Nat.le_of_ble_eq_true rfl, Nat.le_of_ble_eq_true rfl⟩) (wd_preS hP hK hD hT hS) rfl rfl hl.1 rfl (lv_room (Nat.le_of_ble_eq_true rfl)) dX4_divide_53 ⟨Nat.zero_le _, Nat.zero_le _⟩) hS id_2 id_1 (fun r_ u t H locs ht hvm hw hB hz1 hk1 hS => ?_)
              refine c00 ?_
              obtain ⟨hP, hD⟩ := wd_back ht hB
              clear ht hvm hB hz1 hk1
              obtain ⟨hr_, hu_⟩ := hw
              subst hr_
              rw [hu_] at hP hD
              clear hu_
              refine bz_ne (tgt := 62) hx hb dX4_divide_56 (by decide) it_lt (fun p5 => ?_) (fun p5 => ?_)
              · have p6 := it_ne p5
                have hY9 : qY (rh i_n) (rh j_n) sc ≠ 0 := mz_ p4
                refine lv_aload_n hx hb dX4_divide_62 rfl (lv_at hl 0 rfl) ?_
                refine rg_4_a hx hb hts in4 hown hK hP 0 (by decide) mg_0 (hts _ (by decide +kernel)) dX4_divide_63 ?_
                refine lv_aload_n hx hb dX4_divide_66 rfl (lv_at hl 0 rfl) ?_
                refine rg_4_registers hx hb hts in4 hown hK hP 0 (by decide) mg_0 (hts _ (by decide +kernel)) dX4_divide_67 ?_
                refine lv_iload_n hx hb dX4_divide_70 rfl (lv_at hl 2 rfl) ?_
                refine rn_q4 hx hb hK hP 1 (by decide) mg_1 (by omega) (by decide) dX4_divide_71 ?_
                refine tp_v (y := .ref (ad (11 + 2 * i_n))) rfl ?_
                refine va_callv (va_runV (As := [.ref (ad (11 + 2 * i_n))]) (rest := []) ⟨hx, hb, hml, hown, hts⟩ (c_X3_take l D cA tT A 23 ad _ _ (a := 3) (f := wa.1) (n := wa.2.1) (b := wa.2.2.1) (z := wa.2.2.2) (o := 11 + 2 * i_n) (f1 := (rg i_n).1) (n1 := (rg i_n).2.1) (b1 := (rg i_n).2.2.1) (z1 := (rg i_n).2.2.2) (by decide) mg_A (by omega) (mg_G _) (by omega) (by omega) (by omega) (by omega)) (cwV 1 hts gX4_divide_X3_take rfl rfl rfl (by decide +kernel) ⟨Nat.le_of_ble_eq_true rfl, Nat.le_of_ble_eq_true rfl⟩) (wd_preV (k := 3) hP hK hD hT hS (by decide) mg_A.1 rfl) rfl rfl hl.1 rfl (lv_room (Nat.le_of_ble_eq_true rfl)) dX4_divide_72 ⟨Nat.zero_le _, Nat.zero_le _⟩) hS id_2 id_1 (fun u t H locs ht hvm hw hB hz1 hk1 hS => ?_)
                refine c00 ?_
                obtain ⟨hP, hD⟩ := wd_back ht hB
                clear ht hvm hB hz1 hk1
                rw [hw] at hP hD
                clear hw
                obtain ⟨f1, hf1⟩ : ∃ f9 : Nat → Int32, f9 = tk (rg i_n).1 wa.1 (rg i_n).2.1 := ⟨_, rfl⟩
                rw [← hf1, b_i, z_i] at hP hD
                have vf1 : rv f1 (rg i_n).2.1 (rh i_n).2.1 := ⟨n_i, fun j hj => by rw [hf1, tk_lt hj]; exact m_i.1.2 j hj⟩
                rw [show rw_ cA ad (mg cA ad wa wb wc we rg tx tl) 3 f1 ((rg i_n).2.1) ((rh i_n).1) ((rh i_n).2.2) = mg cA ad (f1, (rg i_n).2.1, (rh i_n).1, (rh i_n).2.2) wb wc we rg tx tl from mg_ua (w' := (f1, (rg i_n).2.1, (rh i_n).1, (rh i_n).2.2))] at hP hD
                refine lv_aload_n hx hb dX4_divide_75 rfl (lv_at hl 0 rfl) ?_
                refine rg_4_b hx hb hts in4 hown hK hP 0 (by decide) mg_0 (hts _ (by decide +kernel)) dX4_divide_76 ?_
                refine lv_aload_n hx hb dX4_divide_79 rfl (lv_at hl 0 rfl) ?_
                refine rg_4_registers hx hb hts in4 hown hK hP 0 (by decide) mg_0 (hts _ (by decide +kernel)) dX4_divide_80 ?_
                refine lv_iload_n hx hb dX4_divide_83 rfl (lv_at hl 3 rfl) ?_
                refine rn_q4 hx hb hK hP 1 (by decide) mg_1 (by omega) (by decide) dX4_divide_84 ?_
                refine tp_v (y := .ref (ad (11 + 2 * j_n))) rfl ?_
                refine va_callv (va_runV (As := [.ref (ad (11 + 2 * j_n))]) (rest := []) ⟨hx, hb, hml, hown, hts⟩ (c_X3_take l D cA tT A 23 ad _ _ (a := 5) (f := wb.1) (n := wb.2.1) (b := wb.2.2.1) (z := wb.2.2.2) (o := 11 + 2 * j_n) (f1 := (rg j_n).1) (n1 := (rg j_n).2.1) (b1 := (rg j_n).2.2.1) (z1 := (rg j_n).2.2.2) (by decide) mg_B (by omega) (mg_G _) (by omega) (by omega) (by omega) (by omega)) (cwV 1 hts gX4_divide_X3_take rfl rfl rfl (by decide +kernel) ⟨Nat.le_of_ble_eq_true rfl, Nat.le_of_ble_eq_true rfl⟩) (wd_preV (k := 5) hP hK hD hT hS (by decide) mg_B.1 rfl) rfl rfl hl.1 rfl (lv_room (Nat.le_of_ble_eq_true rfl)) dX4_divide_85 ⟨Nat.zero_le _, Nat.zero_le _⟩) hS id_2 id_1 (fun u t H locs ht hvm hw hB hz1 hk1 hS => ?_)
                refine c00 ?_
                obtain ⟨hP, hD⟩ := wd_back ht hB
                clear ht hvm hB hz1 hk1
                rw [hw] at hP hD
                clear hw
                obtain ⟨f2, hf2⟩ : ∃ f9 : Nat → Int32, f9 = tk (rg j_n).1 wb.1 (rg j_n).2.1 := ⟨_, rfl⟩
                rw [← hf2, b_j, z_j] at hP hD
                have vf2 : rv f2 (rg j_n).2.1 (rh j_n).2.1 := ⟨n_j, fun j hj => by rw [hf2, tk_lt hj]; exact m_j.1.2 j hj⟩
                rw [show rw_ cA ad (mg cA ad (f1, (rg i_n).2.1, (rh i_n).1, (rh i_n).2.2) wb wc we rg tx tl) 5 f2 ((rg j_n).2.1) ((rh j_n).1) ((rh j_n).2.2) = mg cA ad (f1, (rg i_n).2.1, (rh i_n).1, (rh i_n).2.2) (f2, (rg j_n).2.1, (rh j_n).1, (rh j_n).2.2) wc we rg tx tl from mg_ub (w' := (f2, (rg j_n).2.1, (rh j_n).1, (rh j_n).2.2))] at hP hD
                refine lv_aload_n hx hb dX4_divide_88 rfl (lv_at hl 0 rfl) ?_
                refine rg_4_a hx hb hts in4 hown hK hP 0 (by decide) mg_0 (hts _ (by decide +kernel)) dX4_divide_89 ?_
                refine rg_3_minus hx hb hts in3 hown hK hP 3 (by omega) mg_A.1 (hts _ (by decide +kernel)) dX4_divide_92 ?_
                refine tp_i (y := nI (((rh i_n).1).toNat)) rfl ?_
                refine lv_aload_n hx hb dX4_divide_95 rfl (lv_at hl 0 rfl) ?_
                refine rg_4_b hx hb hts in4 hown hK hP 0 (by decide) mg_0 (hts _ (by decide +kernel)) dX4_divide_96 ?_
                refine rg_3_minus hx hb hts in3 hown hK hP 5 (by omega) mg_B.1 (hts _ (by decide +kernel)) dX4_divide_99 ?_
                refine tp_i (y := nI (((rh j_n).1).toNat)) rfl ?_
                refine bi_eq (tgt := 109) hx hb dX4_divide_102 (by decide) (by omega) (by omega) (fun p7 => ?_) (fun p7 => ?_)
                · have hbb : ((rh i_n).1 != (rh j_n).1) = false := bn_f (tn_eq.mp p7)
                  refine lv_iconst (v := nI (0)) hx hb dX4_divide_109 (by decide) ?_
                  refine lv_istore (lv' := [(6, .int (nI (0))), (0, .ref (ad 0)), (1, .int (nI (k_n))), (2, .int (nI (i_n))), (3, .int (nI (j_n))), (4, .int (iZ (sc))), (5, .int (iZ (way)))]) hx hb dX4_divide_110 hl (by decide) rfl (fun ls hl => ?_)
                  refine lv_iload hx hb dX4_divide_112 (lv_at hl 5 rfl) ?_
                  refine lv_aload_n hx hb dX4_divide_114 rfl (lv_at hl 1 rfl) ?_
                  refine rg_4_a hx hb hts in4 hown hK hP 0 (by decide) mg_0 (hts _ (by decide +kernel)) dX4_divide_115 ?_
                  refine rg_3_scale hx hb hts in3 hown hK hP 3 (by omega) mg_A.1 (hts _ (by decide +kernel)) dX4_divide_118 ?_
                  refine tp_i (y := iZ ((rh i_n).2.2)) rfl ?_
                  refine lv_isub hx hb dX4_divide_121 ?_
                  refine tp_i (y := iZ (sc - ((rh i_n).2.2))) (iZ_sub _ _) ?_
                  refine lv_aload_n hx hb dX4_divide_122 rfl (lv_at hl 1 rfl) ?_
                  refine rg_4_b hx hb hts in4 hown hK hP 0 (by decide) mg_0 (hts _ (by decide +kernel)) dX4_divide_123 ?_
                  refine rg_3_scale hx hb hts in3 hown hK hP 5 (by omega) mg_B.1 (hts _ (by decide +kernel)) dX4_divide_126 ?_
                  refine tp_i (y := iZ ((rh j_n).2.2)) rfl ?_
                  refine lv_iadd hx hb dX4_divide_129 ?_
                  refine tp_i (y := iZ ((sc - ((rh i_n).2.2)) + ((rh j_n).2.2))) (iZ_add _ _) ?_
                  refine lv_istore (lv' := [(7, .int (iZ ((sc - ((rh i_n).2.2)) + ((rh j_n).2.2)))), (6, .int (nI (0))), (0, .ref (ad 0)), (1, .int (nI (k_n))), (2, .int (nI (i_n))), (3, .int (nI (j_n))), (4, .int (iZ (sc))), (5, .int (iZ (way)))]) hx hb dX4_divide_130 hl (by decide) rfl (fun ls hl => ?_)
                  refine lv_iload hx hb dX4_divide_132 (lv_at hl 0 rfl) ?_
                  refine by_le (tgt := 149) hx hb dX4_divide_134 (by decide) (by omega) (by omega) (fun p8 => ?_) (fun p8 => ?_)
                  · refine lv_aload_n hx hb dX4_divide_149 rfl (lv_at hl 2 rfl) ?_
                    refine rg_4_b hx hb hts in4 hown hK hP 0 (by decide) mg_0 (hts _ (by decide +kernel)) dX4_divide_150 ?_
                    refine lv_iload hx hb dX4_divide_153 (lv_at hl 0 rfl) ?_
                    refine lv_ineg hx hb dX4_divide_155 ?_
                    refine tp_i (y := iZ (-((sc - ((rh i_n).2.2)) + ((rh j_n).2.2)))) (iZ_neg _) ?_
                    refine tp_i (y := nI ((-(sc - (rh i_n).2.2 + (rh j_n).2.2)).toNat)) (iZ_tn (by omega)) ?_
                    refine va_callv (va_runV (As := [.int (nI ((-(sc - (rh i_n).2.2 + (rh j_n).2.2)).toNat))]) (rest := []) ⟨hx, hb, hml, hown, hts⟩ (c_X3_up l D cA tT A 23 ad _ _ (a := 5) (f := f2) (n := (rg j_n).2.1) (b := (rh j_n).1) (z := (rh j_n).2.2) (v := (rh j_n).2.1) (F := (-(sc - (rh i_n).2.2 + (rh j_n).2.2)).toNat) (by decide) mg_B vf2 (by omega)) (cwV 1 hts gX4_divide_X3_up rfl rfl rfl (by decide +kernel) ⟨Nat.le_of_ble_eq_true rfl, Nat.le_of_ble_eq_true rfl⟩) (wd_preV (k := 5) hP hK hD hT hS (by decide) mg_B.1 rfl) rfl rfl hl.1 rfl (lv_room (Nat.le_of_ble_eq_true rfl)) dX4_divide_156 ⟨Nat.zero_le _, Nat.zero_le _⟩) hS id_2 id_1 (fun u t H locs ht hvm hw hB hz1 hk1 hS => ?_)
                    refine c00 ?_
                    obtain ⟨hP, hD⟩ := wd_back ht hB
                    clear ht hvm hB hz1 hk1
                    obtain ⟨f3, nf3, vf3, lf3, hu_⟩ := hw
                    rw [hu_] at hP hD
                    clear hu_
                    rw [show rw_ cA ad (mg cA ad (f1, (rg i_n).2.1, (rh i_n).1, (rh i_n).2.2) (f2, (rg j_n).2.1, (rh j_n).1, (rh j_n).2.2) wc we rg tx tl) 5 f3 nf3 ((rh j_n).1) ((rh j_n).2.2) = mg cA ad (f1, (rg i_n).2.1, (rh i_n).1, (rh i_n).2.2) (f3, nf3, (rh j_n).1, (rh j_n).2.2) wc we rg tx tl from mg_ub (w' := (f3, nf3, (rh j_n).1, (rh j_n).2.2))] at hP hD
                    have hv1 : rv f1 (rg i_n).2.1 (qX (rh i_n) (rh j_n) sc) := by rw [qX, show (sc + (rh j_n).2.2 - (rh i_n).2.2).toNat = 0 by omega, Nat.pow_zero, Nat.mul_one]; exact vf1
                    have hv2 : rv f3 nf3 (qY (rh i_n) (rh j_n) sc) := by rw [qY, show -(sc + (rh j_n).2.2 - (rh i_n).2.2) = -(sc - (rh i_n).2.2 + (rh j_n).2.2) by omega]; exact vf3
                    refine lp_X4_div159 (k_n := k_n) (X := qX (rh i_n) (rh j_n) sc) (Y := qY (rh i_n) (rh j_n) sc) (mn := false) (sc := sc) (way := way) ⟨hx, hb, hml, hown, hts⟩ hK hT (Nat.le_of_ble_eq_true rfl) (Nat.le_of_ble_eq_true rfl) (by omega) (by omega) hv1 (by omega) hv2 (by omega) hY9 (fun we fa fc na nc H locs ls hR h7 hP hD hS => ?_) (fun we fa fc na nc v9 H locs ls hrd hvc hnc hP hD hS hl => ?_) _ _ ls hP hD hS (lv_sub hl [2, 3, 6, 7, 1] rfl)
                    · have hkq : sp_divide rh (k_n : Int) (i_n : Int) (j_n : Int) sc way = (iZ (-4), rh) := by rw [sp_divide, if_pos (by omega), e_k, e_i, e_j, if_neg p4, kqr, if_pos p6, hbb, if_pos (by rw [rdn, if_neg hR, if_pos h7])]
                      refine lv_bipush (v := iZ (-4)) hx hb dX4_divide_193 (by decide) ?_
                      exact W.iret (v := iZ (-4)) hx hb hr (fun t ht hW => ⟨⟨iZ (-4), _, rfl, ⟨by rw [hkq], _, _, _, _, rg, by rw [hkq]; exact hm, rfl⟩, wd_end hP hK hD ht hW⟩, hS.F ht⟩) hS.2.2 dX4_divide_195
                    · have hpv : 1 ≤ nc := by rw [hvc.1]; exact nd_p_pos _
                      have hnc9 := hvc.1
                      refine lv_aload_n hx hb dX4_divide_342 rfl (lv_at hl 0 rfl) ?_
                      refine rg_4_c hx hb hts in4 hown hK hP 0 (by decide) mg_0 (hts _ (by decide +kernel)) dX4_divide_343 ?_
                      refine lv_iload hx hb dX4_divide_346 (lv_at hl 4 rfl) ?_
                      refine rp_3_minus hx hb hts in3 hown hK hP hD hS 7 (by omega) mg_C.1 (hts _ (by decide +kernel)) rfl rfl dX4_divide_348 (fun H locs hP hD hS => ?_)
                      rw [mg_pc nc false wc.2.2.2 (v := nI (false.toNat)) rfl] at hP hD
                      refine lv_aload_n hx hb dX4_divide_351 rfl (lv_at hl 0 rfl) ?_
                      refine rg_4_c hx hb hts in4 hown hK hP 0 (by decide) mg_0 (hts _ (by decide +kernel)) dX4_divide_352 ?_
                      refine lv_iload hx hb dX4_divide_355 (lv_at hl 2 rfl) ?_
                      refine rp_3_scale hx hb hts in3 hown hK hP hD hS 7 (by omega) mg_C.1 (hts _ (by decide +kernel)) rfl rfl dX4_divide_357 (fun H locs hP hD hS => ?_)
                      rw [mg_pc nc false sc (v := nI (false.toNat)) rfl] at hP hD
                      refine lv_aload_n hx hb dX4_divide_360 rfl (lv_at hl 0 rfl) ?_
                      refine rg_4_c hx hb hts in4 hown hK hP 0 (by decide) mg_0 (hts _ (by decide +kernel)) dX4_divide_361 ?_
                      refine va_callv (va_runV (As := []) (rest := []) ⟨hx, hb, hml, hown, hts⟩ (c_X3_trim l D cA tT A 23 ad _ _ (a := 7) (f := fc) (n := nc) (b := false) (z := sc) (v := v9) (by decide) mg_C (by omega) (by omega) (rv_dv hvc)) (cwV 0 hts gX4_divide_X3_trim rfl rfl rfl (by decide +kernel) ⟨Nat.le_of_ble_eq_true rfl, Nat.le_of_ble_eq_true rfl⟩) (wd_preV (k := 7) hP hK hD hT hS (by decide) mg_C.1 rfl) rfl rfl hl.1 rfl (lv_room (Nat.le_of_ble_eq_true rfl)) dX4_divide_364 ⟨Nat.zero_le _, Nat.zero_le _⟩) hS id_2 id_1 (fun u t H locs ht hvm hw hB hz1 hk1 hS => ?_)
                      refine c00 ?_
                      obtain ⟨hP, hD⟩ := wd_back ht hB
                      clear ht hvm hB hz1 hk1
                      obtain ⟨hv9, hu_⟩ := hw
                      rw [hu_] at hP hD
                      clear hu_
                      rw [show rw_ cA ad (mg cA ad (fa, na, (rh i_n).1, (rh i_n).2.2) (f3, nf3, (rh j_n).1, (rh j_n).2.2) (fc, nc, false, sc) we rg tx tl) 7 fc (nd_p v9) (sn false v9) sc = mg cA ad (fa, na, (rh i_n).1, (rh i_n).2.2) (f3, nf3, (rh j_n).1, (rh j_n).2.2) (fc, nd_p v9, sn false v9, sc) we rg tx tl from mg_uc (w' := (fc, nd_p v9, sn false v9, sc))] at hP hD
                      refine lv_aload_n hx hb dX4_divide_367 rfl (lv_at hl 0 rfl) ?_
                      refine lv_iload_n hx hb dX4_divide_368 rfl (lv_at hl 1 rfl) ?_
                      refine lv_aload_n hx hb dX4_divide_369 rfl (lv_at hl 0 rfl) ?_
                      refine rg_4_c hx hb hts in4 hown hK hP 0 (by decide) mg_0 (hts _ (by decide +kernel)) dX4_divide_370 ?_
                      have hk8 : nd_p v9 ≤ 800 := (by omega)
                      have hkz1 : -2147483648 ≤ sc := (by omega)
                      have hkz2 : sc < 2147483648 := (by omega)
                      have hkb : (sn false v9) = true → v9 ≠ 0 := fun h => sn_ok h
                      refine va_calli (va_runV (As := [.int (nI (k_n)), .ref (ad 7)]) (rest := []) ⟨hx, hb, hml, hown, hts⟩ (c_X4_keep_c l D cA tT A ad _ (wa := (fa, na, (rh i_n).1, (rh i_n).2.2)) (wb := (f3, nf3, (rh j_n).1, (rh j_n).2.2)) (wc := (fc, nd_p v9, sn false v9, sc)) (we := we) (rg := rg) (tx := tx) (tl := tl) (rh := rh) (k := k_n) (v := v9) hm h_k hv9 hk8 hkb hkz1 hkz2) (cwV 2 hts gX4_divide_X4_keep rfl rfl rfl (by decide +kernel) ⟨Nat.le_of_ble_eq_true rfl, Nat.le_of_ble_eq_true rfl⟩) (wd_preV (k := 0) hP hK hD hT hS (by decide) mg_0 rfl) rfl rfl hl.1 rfl (lv_room (Nat.le_of_ble_eq_true rfl)) dX4_divide_373 ⟨Nat.zero_le _, Nat.zero_le _⟩) hS id_2 id_1 (fun r_ u t H locs ht hvm hw hB hz1 hk1 hS => ?_)
                      refine c00 ?_
                      obtain ⟨hP, hD⟩ := wd_back ht hB
                      clear ht hvm hB hz1 hk1
                      obtain ⟨hr_, rg1, hmr, hu_⟩ := hw
                      rw [hu_] at hP hD
                      have hsp : sp_divide rh (k_n : Int) (i_n : Int) (j_n : Int) sc way = kpr rh k_n (sn false v9, v9, sc) := by rw [sp_divide, if_pos (by omega), e_k, e_i, e_j, if_neg p4, kqr, if_pos p6, hbb, hrd, if_neg (show ¬ (1 : Nat) = 0 by decide), kpr_sn]
                      exact W.iret hx hb hr (fun t ht hW => ⟨⟨_, _, rfl, ⟨by rw [hsp]; exact hr_, _, _, _, _, rg1, by rw [hsp]; exact hmr, rfl⟩, wd_end hP hK hD ht hW⟩, hS.F ht⟩) hS.2.2 dX4_divide_376
                  · refine lv_aload_n hx hb dX4_divide_137 rfl (lv_at hl 2 rfl) ?_
                    refine rg_4_a hx hb hts in4 hown hK hP 0 (by decide) mg_0 (hts _ (by decide +kernel)) dX4_divide_138 ?_
                    refine lv_iload hx hb dX4_divide_141 (lv_at hl 0 rfl) ?_
                    refine tp_i (y := nI ((sc - (rh i_n).2.2 + (rh j_n).2.2).toNat)) (iZ_tn (by omega)) ?_
                    refine va_callv (va_runV (As := [.int (nI ((sc - (rh i_n).2.2 + (rh j_n).2.2).toNat))]) (rest := []) ⟨hx, hb, hml, hown, hts⟩ (c_X3_up l D cA tT A 23 ad _ _ (a := 3) (f := f1) (n := (rg i_n).2.1) (b := (rh i_n).1) (z := (rh i_n).2.2) (v := (rh i_n).2.1) (F := (sc - (rh i_n).2.2 + (rh j_n).2.2).toNat) (by decide) mg_A vf1 (by omega)) (cwV 1 hts gX4_divide_X3_up rfl rfl rfl (by decide +kernel) ⟨Nat.le_of_ble_eq_true rfl, Nat.le_of_ble_eq_true rfl⟩) (wd_preV (k := 3) hP hK hD hT hS (by decide) mg_A.1 rfl) rfl rfl hl.1 rfl (lv_room (Nat.le_of_ble_eq_true rfl)) dX4_divide_143 ⟨Nat.zero_le _, Nat.zero_le _⟩) hS id_2 id_1 (fun u t H locs ht hvm hw hB hz1 hk1 hS => ?_)
                    refine c00 ?_
                    obtain ⟨hP, hD⟩ := wd_back ht hB
                    clear ht hvm hB hz1 hk1
                    obtain ⟨f3, nf3, vf3, lf3, hu_⟩ := hw
                    rw [hu_] at hP hD
                    clear hu_
                    rw [show rw_ cA ad (mg cA ad (f1, (rg i_n).2.1, (rh i_n).1, (rh i_n).2.2) (f2, (rg j_n).2.1, (rh j_n).1, (rh j_n).2.2) wc we rg tx tl) 3 f3 nf3 ((rh i_n).1) ((rh i_n).2.2) = mg cA ad (f3, nf3, (rh i_n).1, (rh i_n).2.2) (f2, (rg j_n).2.1, (rh j_n).1, (rh j_n).2.2) wc we rg tx tl from mg_ua (w' := (f3, nf3, (rh i_n).1, (rh i_n).2.2))] at hP hD
                    have hv1 : rv f3 nf3 (qX (rh i_n) (rh j_n) sc) := by rw [qX, show sc + (rh j_n).2.2 - (rh i_n).2.2 = sc - (rh i_n).2.2 + (rh j_n).2.2 by omega]; exact vf3
                    have hv2 : rv f2 (rg j_n).2.1 (qY (rh i_n) (rh j_n) sc) := by rw [qY, show (-(sc + (rh j_n).2.2 - (rh i_n).2.2)).toNat = 0 by omega, Nat.pow_zero, Nat.mul_one]; exact vf2
                    refine lv_goto (tgt := 159) hx hb dX4_divide_146 (by decide) ?_
                    refine lp_X4_div159 (k_n := k_n) (X := qX (rh i_n) (rh j_n) sc) (Y := qY (rh i_n) (rh j_n) sc) (mn := false) (sc := sc) (way := way) ⟨hx, hb, hml, hown, hts⟩ hK hT (Nat.le_of_ble_eq_true rfl) (Nat.le_of_ble_eq_true rfl) (by omega) (by omega) hv1 (by omega) hv2 (by omega) hY9 (fun we fa fc na nc H locs ls hR h7 hP hD hS => ?_) (fun we fa fc na nc v9 H locs ls hrd hvc hnc hP hD hS hl => ?_) _ _ ls hP hD hS (lv_sub hl [2, 3, 6, 7, 1] rfl)
                    · have hkq : sp_divide rh (k_n : Int) (i_n : Int) (j_n : Int) sc way = (iZ (-4), rh) := by rw [sp_divide, if_pos (by omega), e_k, e_i, e_j, if_neg p4, kqr, if_pos p6, hbb, if_pos (by rw [rdn, if_neg hR, if_pos h7])]
                      refine lv_bipush (v := iZ (-4)) hx hb dX4_divide_193 (by decide) ?_
                      exact W.iret (v := iZ (-4)) hx hb hr (fun t ht hW => ⟨⟨iZ (-4), _, rfl, ⟨by rw [hkq], _, _, _, _, rg, by rw [hkq]; exact hm, rfl⟩, wd_end hP hK hD ht hW⟩, hS.F ht⟩) hS.2.2 dX4_divide_195
                    · have hpv : 1 ≤ nc := by rw [hvc.1]; exact nd_p_pos _
                      have hnc9 := hvc.1
                      refine lv_aload_n hx hb dX4_divide_342 rfl (lv_at hl 0 rfl) ?_
                      refine rg_4_c hx hb hts in4 hown hK hP 0 (by decide) mg_0 (hts _ (by decide +kernel)) dX4_divide_343 ?_
                      refine lv_iload hx hb dX4_divide_346 (lv_at hl 4 rfl) ?_
                      refine rp_3_minus hx hb hts in3 hown hK hP hD hS 7 (by omega) mg_C.1 (hts _ (by decide +kernel)) rfl rfl dX4_divide_348 (fun H locs hP hD hS => ?_)
                      rw [mg_pc nc false wc.2.2.2 (v := nI (false.toNat)) rfl] at hP hD
                      refine lv_aload_n hx hb dX4_divide_351 rfl (lv_at hl 0 rfl) ?_
                      refine rg_4_c hx hb hts in4 hown hK hP 0 (by decide) mg_0 (hts _ (by decide +kernel)) dX4_divide_352 ?_
                      refine lv_iload hx hb dX4_divide_355 (lv_at hl 2 rfl) ?_
                      refine rp_3_scale hx hb hts in3 hown hK hP hD hS 7 (by omega) mg_C.1 (hts _ (by decide +kernel)) rfl rfl dX4_divide_357 (fun H locs hP hD hS => ?_)
                      rw [mg_pc nc false sc (v := nI (false.toNat)) rfl] at hP hD
                      refine lv_aload_n hx hb dX4_divide_360 rfl (lv_at hl 0 rfl) ?_
                      refine rg_4_c hx hb hts in4 hown hK hP 0 (by decide) mg_0 (hts _ (by decide +kernel)) dX4_divide_361 ?_
                      refine va_callv (va_runV (As := []) (rest := []) ⟨hx, hb, hml, hown, hts⟩ (c_X3_trim l D cA tT A 23 ad _ _ (a := 7) (f := fc) (n := nc) (b := false) (z := sc) (v := v9) (by decide) mg_C (by omega) (by omega) (rv_dv hvc)) (cwV 0 hts gX4_divide_X3_trim rfl rfl rfl (by decide +kernel) ⟨Nat.le_of_ble_eq_true rfl, Nat.le_of_ble_eq_true rfl⟩) (wd_preV (k := 7) hP hK hD hT hS (by decide) mg_C.1 rfl) rfl rfl hl.1 rfl (lv_room (Nat.le_of_ble_eq_true rfl)) dX4_divide_364 ⟨Nat.zero_le _, Nat.zero_le _⟩) hS id_2 id_1 (fun u t H locs ht hvm hw hB hz1 hk1 hS => ?_)
                      refine c00 ?_
                      obtain ⟨hP, hD⟩ := wd_back ht hB
                      clear ht hvm hB hz1 hk1
                      obtain ⟨hv9, hu_⟩ := hw
                      rw [hu_] at hP hD
                      clear hu_
                      rw [show rw_ cA ad (mg cA ad (fa, na, (rh i_n).1, (rh i_n).2.2) (f2, (rg j_n).2.1, (rh j_n).1, (rh j_n).2.2) (fc, nc, false, sc) we rg tx tl) 7 fc (nd_p v9) (sn false v9) sc = mg cA ad (fa, na, (rh i_n).1, (rh i_n).2.2) (f2, (rg j_n).2.1, (rh j_n).1, (rh j_n).2.2) (fc, nd_p v9, sn false v9, sc) we rg tx tl from mg_uc (w' := (fc, nd_p v9, sn false v9, sc))] at hP hD
                      refine lv_aload_n hx hb dX4_divide_367 rfl (lv_at hl 0 rfl) ?_
                      refine lv_iload_n hx hb dX4_divide_368 rfl (lv_at hl 1 rfl) ?_
                      refine lv_aload_n hx hb dX4_divide_369 rfl (lv_at hl 0 rfl) ?_
                      refine rg_4_c hx hb hts in4 hown hK hP 0 (by decide) mg_0 (hts _ (by decide +kernel)) dX4_divide_370 ?_
                      have hk8 : nd_p v9 ≤ 800 := (by omega)
                      have hkz1 : -2147483648 ≤ sc := (by omega)
                      have hkz2 : sc < 2147483648 := (by omega)
                      have hkb : (sn false v9) = true → v9 ≠ 0 := fun h => sn_ok h
                      refine va_calli (va_runV (As := [.int (nI (k_n)), .ref (ad 7)]) (rest := []) ⟨hx, hb, hml, hown, hts⟩ (c_X4_keep_c l D cA tT A ad _ (wa := (fa, na, (rh i_n).1, (rh i_n).2.2)) (wb := (f2, (rg j_n).2.1, (rh j_n).1, (rh j_n).2.2)) (wc := (fc, nd_p v9, sn false v9, sc)) (we := we) (rg := rg) (tx := tx) (tl := tl) (rh := rh) (k := k_n) (v := v9) hm h_k hv9 hk8 hkb hkz1 hkz2) (cwV 2 hts gX4_divide_X4_keep rfl rfl rfl (by decide +kernel) ⟨Nat.le_of_ble_eq_true rfl, Nat.le_of_ble_eq_true rfl⟩) (wd_preV (k := 0) hP hK hD hT hS (by decide) mg_0 rfl) rfl rfl hl.1 rfl (lv_room (Nat.le_of_ble_eq_true rfl)) dX4_divide_373 ⟨Nat.zero_le _, Nat.zero_le _⟩) hS id_2 id_1 (fun r_ u t H locs ht hvm hw hB hz1 hk1 hS => ?_)
                      refine c00 ?_
                      obtain ⟨hP, hD⟩ := wd_back ht hB
                      clear ht hvm hB hz1 hk1
                      obtain ⟨hr_, rg1, hmr, hu_⟩ := hw
                      rw [hu_] at hP hD
                      have hsp : sp_divide rh (k_n : Int) (i_n : Int) (j_n : Int) sc way = kpr rh k_n (sn false v9, v9, sc) := by rw [sp_divide, if_pos (by omega), e_k, e_i, e_j, if_neg p4, kqr, if_pos p6, hbb, hrd, if_neg (show ¬ (1 : Nat) = 0 by decide), kpr_sn]
                      exact W.iret hx hb hr (fun t ht hW => ⟨⟨_, _, rfl, ⟨by rw [hsp]; exact hr_, _, _, _, _, rg1, by rw [hsp]; exact hmr, rfl⟩, wd_end hP hK hD ht hW⟩, hS.F ht⟩) hS.2.2 dX4_divide_376
                · have hbb : ((rh i_n).1 != (rh j_n).1) = true := bn_t (fun h => p7 (tn_eq.mpr h))
                  refine lv_iconst (v := nI (1)) hx hb dX4_divide_105 (by decide) ?_
                  refine lv_goto (tgt := 110) hx hb dX4_divide_106 (by decide) ?_
                  refine lv_istore (lv' := [(6, .int (nI (1))), (0, .ref (ad 0)), (1, .int (nI (k_n))), (2, .int (nI (i_n))), (3, .int (nI (j_n))), (4, .int (iZ (sc))), (5, .int (iZ (way)))]) hx hb dX4_divide_110 hl (by decide) rfl (fun ls hl => ?_)
                  refine lv_iload hx hb dX4_divide_112 (lv_at hl 5 rfl) ?_
                  refine lv_aload_n hx hb dX4_divide_114 rfl (lv_at hl 1 rfl) ?_
                  refine rg_4_a hx hb hts in4 hown hK hP 0 (by decide) mg_0 (hts _ (by decide +kernel)) dX4_divide_115 ?_
                  refine rg_3_scale hx hb hts in3 hown hK hP 3 (by omega) mg_A.1 (hts _ (by decide +kernel)) dX4_divide_118 ?_
                  refine tp_i (y := iZ ((rh i_n).2.2)) rfl ?_
                  refine lv_isub hx hb dX4_divide_121 ?_
                  refine tp_i (y := iZ (sc - ((rh i_n).2.2))) (iZ_sub _ _) ?_
                  refine lv_aload_n hx hb dX4_divide_122 rfl (lv_at hl 1 rfl) ?_
                  refine rg_4_b hx hb hts in4 hown hK hP 0 (by decide) mg_0 (hts _ (by decide +kernel)) dX4_divide_123 ?_
                  refine rg_3_scale hx hb hts in3 hown hK hP 5 (by omega) mg_B.1 (hts _ (by decide +kernel)) dX4_divide_126 ?_
                  refine tp_i (y := iZ ((rh j_n).2.2)) rfl ?_
                  refine lv_iadd hx hb dX4_divide_129 ?_
                  refine tp_i (y := iZ ((sc - ((rh i_n).2.2)) + ((rh j_n).2.2))) (iZ_add _ _) ?_
                  refine lv_istore (lv' := [(7, .int (iZ ((sc - ((rh i_n).2.2)) + ((rh j_n).2.2)))), (6, .int (nI (1))), (0, .ref (ad 0)), (1, .int (nI (k_n))), (2, .int (nI (i_n))), (3, .int (nI (j_n))), (4, .int (iZ (sc))), (5, .int (iZ (way)))]) hx hb dX4_divide_130 hl (by decide) rfl (fun ls hl => ?_)
                  refine lv_iload hx hb dX4_divide_132 (lv_at hl 0 rfl) ?_
                  refine by_le (tgt := 149) hx hb dX4_divide_134 (by decide) (by omega) (by omega) (fun p8 => ?_) (fun p8 => ?_)
                  · refine lv_aload_n hx hb dX4_divide_149 rfl (lv_at hl 2 rfl) ?_
                    refine rg_4_b hx hb hts in4 hown hK hP 0 (by decide) mg_0 (hts _ (by decide +kernel)) dX4_divide_150 ?_
                    refine lv_iload hx hb dX4_divide_153 (lv_at hl 0 rfl) ?_
                    refine lv_ineg hx hb dX4_divide_155 ?_
                    refine tp_i (y := iZ (-((sc - ((rh i_n).2.2)) + ((rh j_n).2.2)))) (iZ_neg _) ?_
                    refine tp_i (y := nI ((-(sc - (rh i_n).2.2 + (rh j_n).2.2)).toNat)) (iZ_tn (by omega)) ?_
                    refine va_callv (va_runV (As := [.int (nI ((-(sc - (rh i_n).2.2 + (rh j_n).2.2)).toNat))]) (rest := []) ⟨hx, hb, hml, hown, hts⟩ (c_X3_up l D cA tT A 23 ad _ _ (a := 5) (f := f2) (n := (rg j_n).2.1) (b := (rh j_n).1) (z := (rh j_n).2.2) (v := (rh j_n).2.1) (F := (-(sc - (rh i_n).2.2 + (rh j_n).2.2)).toNat) (by decide) mg_B vf2 (by omega)) (cwV 1 hts gX4_divide_X3_up rfl rfl rfl (by decide +kernel) ⟨Nat.le_of_ble_eq_true rfl, Nat.le_of_ble_eq_true rfl⟩) (wd_preV (k := 5) hP hK hD hT hS (by decide) mg_B.1 rfl) rfl rfl hl.1 rfl (lv_room (Nat.le_of_ble_eq_true rfl)) dX4_divide_156 ⟨Nat.zero_le _, Nat.zero_le _⟩) hS id_2 id_1 (fun u t H locs ht hvm hw hB hz1 hk1 hS => ?_)
                    refine c00 ?_
                    obtain ⟨hP, hD⟩ := wd_back ht hB
                    clear ht hvm hB hz1 hk1
                    obtain ⟨f3, nf3, vf3, lf3, hu_⟩ := hw
                    rw [hu_] at hP hD
                    clear hu_
                    rw [show rw_ cA ad (mg cA ad (f1, (rg i_n).2.1, (rh i_n).1, (rh i_n).2.2) (f2, (rg j_n).2.1, (rh j_n).1, (rh j_n).2.2) wc we rg tx tl) 5 f3 nf3 ((rh j_n).1) ((rh j_n).2.2) = mg cA ad (f1, (rg i_n).2.1, (rh i_n).1, (rh i_n).2.2) (f3, nf3, (rh j_n).1, (rh j_n).2.2) wc we rg tx tl from mg_ub (w' := (f3, nf3, (rh j_n).1, (rh j_n).2.2))] at hP hD
                    have hv1 : rv f1 (rg i_n).2.1 (qX (rh i_n) (rh j_n) sc) := by rw [qX, show (sc + (rh j_n).2.2 - (rh i_n).2.2).toNat = 0 by omega, Nat.pow_zero, Nat.mul_one]; exact vf1
                    have hv2 : rv f3 nf3 (qY (rh i_n) (rh j_n) sc) := by rw [qY, show -(sc + (rh j_n).2.2 - (rh i_n).2.2) = -(sc - (rh i_n).2.2 + (rh j_n).2.2) by omega]; exact vf3
                    refine lp_X4_div159 (k_n := k_n) (X := qX (rh i_n) (rh j_n) sc) (Y := qY (rh i_n) (rh j_n) sc) (mn := true) (sc := sc) (way := way) ⟨hx, hb, hml, hown, hts⟩ hK hT (Nat.le_of_ble_eq_true rfl) (Nat.le_of_ble_eq_true rfl) (by omega) (by omega) hv1 (by omega) hv2 (by omega) hY9 (fun we fa fc na nc H locs ls hR h7 hP hD hS => ?_) (fun we fa fc na nc v9 H locs ls hrd hvc hnc hP hD hS hl => ?_) _ _ ls hP hD hS (lv_sub hl [2, 3, 6, 7, 1] rfl)
                    · have hkq : sp_divide rh (k_n : Int) (i_n : Int) (j_n : Int) sc way = (iZ (-4), rh) := by rw [sp_divide, if_pos (by omega), e_k, e_i, e_j, if_neg p4, kqr, if_pos p6, hbb, if_pos (by rw [rdn, if_neg hR, if_pos h7])]
                      refine lv_bipush (v := iZ (-4)) hx hb dX4_divide_193 (by decide) ?_
                      exact W.iret (v := iZ (-4)) hx hb hr (fun t ht hW => ⟨⟨iZ (-4), _, rfl, ⟨by rw [hkq], _, _, _, _, rg, by rw [hkq]; exact hm, rfl⟩, wd_end hP hK hD ht hW⟩, hS.F ht⟩) hS.2.2 dX4_divide_195
                    · have hpv : 1 ≤ nc := by rw [hvc.1]; exact nd_p_pos _
                      have hnc9 := hvc.1
                      refine lv_aload_n hx hb dX4_divide_342 rfl (lv_at hl 0 rfl) ?_
                      refine rg_4_c hx hb hts in4 hown hK hP 0 (by decide) mg_0 (hts _ (by decide +kernel)) dX4_divide_343 ?_
                      refine lv_iload hx hb dX4_divide_346 (lv_at hl 4 rfl) ?_
                      refine rp_3_minus hx hb hts in3 hown hK hP hD hS 7 (by omega) mg_C.1 (hts _ (by decide +kernel)) rfl rfl dX4_divide_348 (fun H locs hP hD hS => ?_)
                      rw [mg_pc nc true wc.2.2.2 (v := nI (true.toNat)) rfl] at hP hD
                      refine lv_aload_n hx hb dX4_divide_351 rfl (lv_at hl 0 rfl) ?_
                      refine rg_4_c hx hb hts in4 hown hK hP 0 (by decide) mg_0 (hts _ (by decide +kernel)) dX4_divide_352 ?_
                      refine lv_iload hx hb dX4_divide_355 (lv_at hl 2 rfl) ?_
                      refine rp_3_scale hx hb hts in3 hown hK hP hD hS 7 (by omega) mg_C.1 (hts _ (by decide +kernel)) rfl rfl dX4_divide_357 (fun H locs hP hD hS => ?_)
                      rw [mg_pc nc true sc (v := nI (true.toNat)) rfl] at hP hD
                      refine lv_aload_n hx hb dX4_divide_360 rfl (lv_at hl 0 rfl) ?_
                      refine rg_4_c hx hb hts in4 hown hK hP 0 (by decide) mg_0 (hts _ (by decide +kernel)) dX4_divide_361 ?_
                      refine va_callv (va_runV (As := []) (rest := []) ⟨hx, hb, hml, hown, hts⟩ (c_X3_trim l D cA tT A 23 ad _ _ (a := 7) (f := fc) (n := nc) (b := true) (z := sc) (v := v9) (by decide) mg_C (by omega) (by omega) (rv_dv hvc)) (cwV 0 hts gX4_divide_X3_trim rfl rfl rfl (by decide +kernel) ⟨Nat.le_of_ble_eq_true rfl, Nat.le_of_ble_eq_true rfl⟩) (wd_preV (k := 7) hP hK hD hT hS (by decide) mg_C.1 rfl) rfl rfl hl.1 rfl (lv_room (Nat.le_of_ble_eq_true rfl)) dX4_divide_364 ⟨Nat.zero_le _, Nat.zero_le _⟩) hS id_2 id_1 (fun u t H locs ht hvm hw hB hz1 hk1 hS => ?_)
                      refine c00 ?_
                      obtain ⟨hP, hD⟩ := wd_back ht hB
                      clear ht hvm hB hz1 hk1
                      obtain ⟨hv9, hu_⟩ := hw
                      rw [hu_] at hP hD
                      clear hu_
                      rw [show rw_ cA ad (mg cA ad (fa, na, (rh i_n).1, (rh i_n).2.2) (f3, nf3, (rh j_n).1, (rh j_n).2.2) (fc, nc, true, sc) we rg tx tl) 7 fc (nd_p v9) (sn true v9) sc = mg cA ad (fa, na, (rh i_n).1, (rh i_n).2.2) (f3, nf3, (rh j_n).1, (rh j_n).2.2) (fc, nd_p v9, sn true v9, sc) we rg tx tl from mg_uc (w' := (fc, nd_p v9, sn true v9, sc))] at hP hD
                      refine lv_aload_n hx hb dX4_divide_367 rfl (lv_at hl 0 rfl) ?_
                      refine lv_iload_n hx hb dX4_divide_368 rfl (lv_at hl 1 rfl) ?_
                      refine lv_aload_n hx hb dX4_divide_369 rfl (lv_at hl 0 rfl) ?_
                      refine rg_4_c hx hb hts in4 hown hK hP 0 (by decide) mg_0 (hts _ (by decide +kernel)) dX4_divide_370 ?_
                      have hk8 : nd_p v9 ≤ 800 := (by omega)
                      have hkz1 : -2147483648 ≤ sc := (by omega)
                      have hkz2 : sc < 2147483648 := (by omega)
                      have hkb : (sn true v9) = true → v9 ≠ 0 := fun h => sn_ok h
                      refine va_calli (va_runV (As := [.int (nI (k_n)), .ref (ad 7)]) (rest := []) ⟨hx, hb, hml, hown, hts⟩ (c_X4_keep_c l D cA tT A ad _ (wa := (fa, na, (rh i_n).1, (rh i_n).2.2)) (wb := (f3, nf3, (rh j_n).1, (rh j_n).2.2)) (wc := (fc, nd_p v9, sn true v9, sc)) (we := we) (rg := rg) (tx := tx) (tl := tl) (rh := rh) (k := k_n) (v := v9) hm h_k hv9 hk8 hkb hkz1 hkz2) (cwV 2 hts gX4_divide_X4_keep rfl rfl rfl (by decide +kernel) ⟨Nat.le_of_ble_eq_true rfl, Nat.le_of_ble_eq_true rfl⟩) (wd_preV (k := 0) hP hK hD hT hS (by decide) mg_0 rfl) rfl rfl hl.1 rfl (lv_room (Nat.le_of_ble_eq_true rfl)) dX4_divide_373 ⟨Nat.zero_le _, Nat.zero_le _⟩) hS id_2 id_1 (fun r_ u t H locs ht hvm hw hB hz1 hk1 hS => ?_)
                      refine c00 ?_
                      obtain ⟨hP, hD⟩ := wd_back ht hB
                      clear ht hvm hB hz1 hk1
                      obtain ⟨hr_, rg1, hmr, hu_⟩ := hw
                      rw [hu_] at hP hD
                      have hsp : sp_divide rh (k_n : Int) (i_n : Int) (j_n : Int) sc way = kpr rh k_n (sn true v9, v9, sc) := by rw [sp_divide, if_pos (by omega), e_k, e_i, e_j, if_neg p4, kqr, if_pos p6, hbb, hrd, if_neg (show ¬ (1 : Nat) = 0 by decide), kpr_sn]
                      exact W.iret hx hb hr (fun t ht hW => ⟨⟨_, _, rfl, ⟨by rw [hsp]; exact hr_, _, _, _, _, rg1, by rw [hsp]; exact hmr, rfl⟩, wd_end hP hK hD ht hW⟩, hS.F ht⟩) hS.2.2 dX4_divide_376
                  · refine lv_aload_n hx hb dX4_divide_137 rfl (lv_at hl 2 rfl) ?_
                    refine rg_4_a hx hb hts in4 hown hK hP 0 (by decide) mg_0 (hts _ (by decide +kernel)) dX4_divide_138 ?_
                    refine lv_iload hx hb dX4_divide_141 (lv_at hl 0 rfl) ?_
                    refine tp_i (y := nI ((sc - (rh i_n).2.2 + (rh j_n).2.2).toNat)) (iZ_tn (by omega)) ?_
                    refine va_callv (va_runV (As := [.int (nI ((sc - (rh i_n).2.2 + (rh j_n).2.2).toNat))]) (rest := []) ⟨hx, hb, hml, hown, hts⟩ (c_X3_up l D cA tT A 23 ad _ _ (a := 3) (f := f1) (n := (rg i_n).2.1) (b := (rh i_n).1) (z := (rh i_n).2.2) (v := (rh i_n).2.1) (F := (sc - (rh i_n).2.2 + (rh j_n).2.2).toNat) (by decide) mg_A vf1 (by omega)) (cwV 1 hts gX4_divide_X3_up rfl rfl rfl (by decide +kernel) ⟨Nat.le_of_ble_eq_true rfl, Nat.le_of_ble_eq_true rfl⟩) (wd_preV (k := 3) hP hK hD hT hS (by decide) mg_A.1 rfl) rfl rfl hl.1 rfl (lv_room (Nat.le_of_ble_eq_true rfl)) dX4_divide_143 ⟨Nat.zero_le _, Nat.zero_le _⟩) hS id_2 id_1 (fun u t H locs ht hvm hw hB hz1 hk1 hS => ?_)
                    refine c00 ?_
                    obtain ⟨hP, hD⟩ := wd_back ht hB
                    clear ht hvm hB hz1 hk1
                    obtain ⟨f3, nf3, vf3, lf3, hu_⟩ := hw
                    rw [hu_] at hP hD
                    clear hu_
                    rw [show rw_ cA ad (mg cA ad (f1, (rg i_n).2.1, (rh i_n).1, (rh i_n).2.2) (f2, (rg j_n).2.1, (rh j_n).1, (rh j_n).2.2) wc we rg tx tl) 3 f3 nf3 ((rh i_n).1) ((rh i_n).2.2) = mg cA ad (f3, nf3, (rh i_n).1, (rh i_n).2.2) (f2, (rg j_n).2.1, (rh j_n).1, (rh j_n).2.2) wc we rg tx tl from mg_ua (w' := (f3, nf3, (rh i_n).1, (rh i_n).2.2))] at hP hD
                    have hv1 : rv f3 nf3 (qX (rh i_n) (rh j_n) sc) := by rw [qX, show sc + (rh j_n).2.2 - (rh i_n).2.2 = sc - (rh i_n).2.2 + (rh j_n).2.2 by omega]; exact vf3
                    have hv2 : rv f2 (rg j_n).2.1 (qY (rh i_n) (rh j_n) sc) := by rw [qY, show (-(sc + (rh j_n).2.2 - (rh i_n).2.2)).toNat = 0 by omega, Nat.pow_zero, Nat.mul_one]; exact vf2
                    refine lv_goto (tgt := 159) hx hb dX4_divide_146 (by decide) ?_
                    refine lp_X4_div159 (k_n := k_n) (X := qX (rh i_n) (rh j_n) sc) (Y := qY (rh i_n) (rh j_n) sc) (mn := true) (sc := sc) (way := way) ⟨hx, hb, hml, hown, hts⟩ hK hT (Nat.le_of_ble_eq_true rfl) (Nat.le_of_ble_eq_true rfl) (by omega) (by omega) hv1 (by omega) hv2 (by omega) hY9 (fun we fa fc na nc H locs ls hR h7 hP hD hS => ?_) (fun we fa fc na nc v9 H locs ls hrd hvc hnc hP hD hS hl => ?_) _ _ ls hP hD hS (lv_sub hl [2, 3, 6, 7, 1] rfl)
                    · have hkq : sp_divide rh (k_n : Int) (i_n : Int) (j_n : Int) sc way = (iZ (-4), rh) := by rw [sp_divide, if_pos (by omega), e_k, e_i, e_j, if_neg p4, kqr, if_pos p6, hbb, if_pos (by rw [rdn, if_neg hR, if_pos h7])]
                      refine lv_bipush (v := iZ (-4)) hx hb dX4_divide_193 (by decide) ?_
                      exact W.iret (v := iZ (-4)) hx hb hr (fun t ht hW => ⟨⟨iZ (-4), _, rfl, ⟨by rw [hkq], _, _, _, _, rg, by rw [hkq]; exact hm, rfl⟩, wd_end hP hK hD ht hW⟩, hS.F ht⟩) hS.2.2 dX4_divide_195
                    · have hpv : 1 ≤ nc := by rw [hvc.1]; exact nd_p_pos _
                      have hnc9 := hvc.1
                      refine lv_aload_n hx hb dX4_divide_342 rfl (lv_at hl 0 rfl) ?_
                      refine rg_4_c hx hb hts in4 hown hK hP 0 (by decide) mg_0 (hts _ (by decide +kernel)) dX4_divide_343 ?_
                      refine lv_iload hx hb dX4_divide_346 (lv_at hl 4 rfl) ?_
                      refine rp_3_minus hx hb hts in3 hown hK hP hD hS 7 (by omega) mg_C.1 (hts _ (by decide +kernel)) rfl rfl dX4_divide_348 (fun H locs hP hD hS => ?_)
                      rw [mg_pc nc true wc.2.2.2 (v := nI (true.toNat)) rfl] at hP hD
                      refine lv_aload_n hx hb dX4_divide_351 rfl (lv_at hl 0 rfl) ?_
                      refine rg_4_c hx hb hts in4 hown hK hP 0 (by decide) mg_0 (hts _ (by decide +kernel)) dX4_divide_352 ?_
                      refine lv_iload hx hb dX4_divide_355 (lv_at hl 2 rfl) ?_
                      refine rp_3_scale hx hb hts in3 hown hK hP hD hS 7 (by omega) mg_C.1 (hts _ (by decide +kernel)) rfl rfl dX4_divide_357 (fun H locs hP hD hS => ?_)
                      rw [mg_pc nc true sc (v := nI (true.toNat)) rfl] at hP hD
                      refine lv_aload_n hx hb dX4_divide_360 rfl (lv_at hl 0 rfl) ?_
                      refine rg_4_c hx hb hts in4 hown hK hP 0 (by decide) mg_0 (hts _ (by decide +kernel)) dX4_divide_361 ?_
                      refine va_callv (va_runV (As := []) (rest := []) ⟨hx, hb, hml, hown, hts⟩ (c_X3_trim l D cA tT A 23 ad _ _ (a := 7) (f := fc) (n := nc) (b := true) (z := sc) (v := v9) (by decide) mg_C (by omega) (by omega) (rv_dv hvc)) (cwV 0 hts gX4_divide_X3_trim rfl rfl rfl (by decide +kernel) ⟨Nat.le_of_ble_eq_true rfl, Nat.le_of_ble_eq_true rfl⟩) (wd_preV (k := 7) hP hK hD hT hS (by decide) mg_C.1 rfl) rfl rfl hl.1 rfl (lv_room (Nat.le_of_ble_eq_true rfl)) dX4_divide_364 ⟨Nat.zero_le _, Nat.zero_le _⟩) hS id_2 id_1 (fun u t H locs ht hvm hw hB hz1 hk1 hS => ?_)
                      refine c00 ?_
                      obtain ⟨hP, hD⟩ := wd_back ht hB
                      clear ht hvm hB hz1 hk1
                      obtain ⟨hv9, hu_⟩ := hw
                      rw [hu_] at hP hD
                      clear hu_
                      rw [show rw_ cA ad (mg cA ad (fa, na, (rh i_n).1, (rh i_n).2.2) (f2, (rg j_n).2.1, (rh j_n).1, (rh j_n).2.2) (fc, nc, true, sc) we rg tx tl) 7 fc (nd_p v9) (sn true v9) sc = mg cA ad (fa, na, (rh i_n).1, (rh i_n).2.2) (f2, (rg j_n).2.1, (rh j_n).1, (rh j_n).2.2) (fc, nd_p v9, sn true v9, sc) we rg tx tl from mg_uc (w' := (fc, nd_p v9, sn true v9, sc))] at hP hD
                      refine lv_aload_n hx hb dX4_divide_367 rfl (lv_at hl 0 rfl) ?_
                      refine lv_iload_n hx hb dX4_divide_368 rfl (lv_at hl 1 rfl) ?_
                      refine lv_aload_n hx hb dX4_divide_369 rfl (lv_at hl 0 rfl) ?_
                      refine rg_4_c hx hb hts in4 hown hK hP 0 (by decide) mg_0 (hts _ (by decide +kernel)) dX4_divide_370 ?_
                      have hk8 : nd_p v9 ≤ 800 := (by omega)
                      have hkz1 : -2147483648 ≤ sc := (by omega)
                      have hkz2 : sc < 2147483648 := (by omega)
                      have hkb : (sn true v9) = true → v9 ≠ 0 := fun h => sn_ok h
                      refine va_calli (va_runV (As := [.int (nI (k_n)), .ref (ad 7)]) (rest := []) ⟨hx, hb, hml, hown, hts⟩ (c_X4_keep_c l D cA tT A ad _ (wa := (fa, na, (rh i_n).1, (rh i_n).2.2)) (wb := (f2, (rg j_n).2.1, (rh j_n).1, (rh j_n).2.2)) (wc := (fc, nd_p v9, sn true v9, sc)) (we := we) (rg := rg) (tx := tx) (tl := tl) (rh := rh) (k := k_n) (v := v9) hm h_k hv9 hk8 hkb hkz1 hkz2) (cwV 2 hts gX4_divide_X4_keep rfl rfl rfl (by decide +kernel) ⟨Nat.le_of_ble_eq_true rfl, Nat.le_of_ble_eq_true rfl⟩) (wd_preV (k := 0) hP hK hD hT hS (by decide) mg_0 rfl) rfl rfl hl.1 rfl (lv_room (Nat.le_of_ble_eq_true rfl)) dX4_divide_373 ⟨Nat.zero_le _, Nat.zero_le _⟩) hS id_2 id_1 (fun r_ u t H locs ht hvm hw hB hz1 hk1 hS => ?_)
                      refine c00 ?_
                      obtain ⟨hP, hD⟩ := wd_back ht hB
                      clear ht hvm hB hz1 hk1
                      obtain ⟨hr_, rg1, hmr, hu_⟩ := hw
                      rw [hu_] at hP hD
                      have hsp : sp_divide rh (k_n : Int) (i_n : Int) (j_n : Int) sc way = kpr rh k_n (sn true v9, v9, sc) := by rw [sp_divide, if_pos (by omega), e_k, e_i, e_j, if_neg p4, kqr, if_pos p6, hbb, hrd, if_neg (show ¬ (1 : Nat) = 0 by decide), kpr_sn]
                      exact W.iret hx hb hr (fun t ht hW => ⟨⟨_, _, rfl, ⟨by rw [hsp]; exact hr_, _, _, _, _, rg1, by rw [hsp]; exact hmr, rfl⟩, wd_end hP hK hD ht hW⟩, hS.F ht⟩) hS.2.2 dX4_divide_376
              · have p6 := it_eq p5
                refine lv_bipush (v := iZ (-3)) hx hb dX4_divide_59 (by decide) ?_
                exact W.iret (v := iZ (-3)) hx hb hr (fun t ht hW => ⟨⟨iZ (-3), _, rfl, ⟨by rw [sp_divide, if_pos (by omega), e_k, e_i, e_j, if_neg p4, kqr, if_neg p6], _, _, _, _, rg, by rw [sp_divide, if_pos (by omega), e_k, e_i, e_j, if_neg p4, kqr, if_neg p6]; exact hm, rfl⟩, wd_end hP hK hD ht hW⟩, hS.F ht⟩) hS.2.2 dX4_divide_61
            · have p4 := it_ne p3
              refine lv_bipush (v := iZ (-2)) hx hb dX4_divide_47 (by decide) ?_
              exact W.iret (v := iZ (-2)) hx hb hr (fun t ht hW => ⟨⟨iZ (-2), _, rfl, ⟨by rw [sp_divide, if_pos (by omega), e_k, e_i, e_j, if_pos p4], _, _, _, _, rg, by rw [sp_divide, if_pos (by omega), e_k, e_i, e_j, if_pos p4]; exact hm, rfl⟩, wd_end hP hK hD ht hW⟩, hS.F ht⟩) hS.2.2 dX4_divide_49
          · refine lv_iconst (v := iZ (-1)) hx hb dX4_divide_33 (by decide) ?_
            exact W.iret (v := iZ (-1)) hx hb hr (fun t ht hW => ⟨⟨iZ (-1), _, rfl, ⟨by rw [sp_divide, if_neg (by omega)], _, _, _, _, rg, by rw [sp_divide, if_neg (by omega)]; exact hm, rfl⟩, wd_end hP hK hD ht hW⟩, hS.F ht⟩) hS.2.2 dX4_divide_34
