set_option maxHeartbeats 4000000 in
set_option maxRecDepth 100000 in
/-- reckon -/
theorem c_X4_reckon (l : Launch) (D : va_G) (cA : Nat → ClassId) (tT : Nat) (A : Nat → Prop) (ad : Nat → Nat) (sz : Nat) {wa wb wc we : RWt} {rg : Nat → RWt} {tx : Nat → Int32} {tl : Nat} {rh : Nat → Bool × Nat × Int} (hm : mr rg rh) (hr9 : rks rh) {op k i j : Int} (op_1 : -2147483648 ≤ op) (op_2 : op < 2147483648) (k_1 : -2147483648 ≤ k) (k_2 : k < 2147483648) (i_1 : -2147483648 ≤ i) (i_2 : i < 2147483648) (j_1 : -2147483648 ≤ j) (j_2 : j < 2147483648) : Met l yX4_reckon wsX4_reckon ({ frames := 4, cells := 0, slots := 0, locals := 88 }) (va_Pc [.ref (ad 0), .int (iZ (op)), .int (iZ (k)), .int (iZ (i)), .int (iZ (j))] (wd_B D cA tT A 23 ad sz (mg cA ad wa wb wc we rg tx tl))) (va_Qi (fun (r : Int32) (u : Nat → va_E) => r = (sp_reckon rh op k i j).1 ∧ ∃ wa1 wb1 wc1 we1 rg1, mr rg1 (sp_reckon rh op k i j).2 ∧ u = mg cA ad wa1 wb1 wc1 we1 rg1 tx tl) (wd_E D cA A 23 ad) A) 0 0 A := by
  refine Met.ofW (cc := cX4_reckon) (maxL := 7) (ret := (some .int)) (by decide) rfl ?_
  intro p e s m args below meth c s₁ B hml hv
  obtain ⟨rfl, hsz, hP, hK, hD, hT⟩ := hv
  have hx := B.exec
  have hb := B.bytes
  have hr := B.returns
  have hts := atoms_spec (ws := wsX4_reckon) B.pre
  have hown : s.vm.findClass RX4 = some m.cls := findClass_of_methodNamed B.named
  have hlocks := B.notSynchronized
  subst hsz
  have hS : va_S A s.heap s.heap [] := va_S.rf
  have in3 : ∀ w ∈ wsX30, w ∈ wsX4_reckon := by decide +kernel
  have in4 : ∀ w ∈ wsX40, w ∈ wsX4_reckon := by decide +kernel
  have hl := lv_entry ([.ref (ad 0), .int (iZ (op)), .int (iZ (k)), .int (iZ (i)), .int (iZ (j))]) (n := 7) (Nat.le_of_ble_eq_true rfl)
  rw [lg_entry_eq]
  generalize (lg_sl ([.ref (ad 0), .int (iZ (op)), .int (iZ (k)), .int (iZ (i)), .int (iZ (j))]) ++ List.replicate (7 - (lg_sl ([.ref (ad 0), .int (iZ (op)), .int (iZ (k)), .int (iZ (i)), .int (iZ (j))])).length) Slot.unset).toArray = ls at hl ⊢
  have hl : lv_has ls 7 [(0, .ref (ad 0)), (1, .int (iZ (op))), (2, .int (iZ (k))), (3, .int (iZ (i))), (4, .int (iZ (j)))] := hl
  refine lv_iload_n hx hb dX4_reckon_0 rfl (lv_at hl 2 rfl) ?_
  refine va_calli (va_runS (As := [.int (iZ (k))]) (rest := []) ⟨hx, hb, hml, hown, hts⟩ (c_X4_is l D cA tT A 23 ad _ _ (k := k) (by omega) (by omega)) (va_cwS 1 hts gX4_reckon_X4_is rfl rfl rfl (by decide +kernel) ⟨Nat.le_of_ble_eq_true rfl, Nat.le_of_ble_eq_true rfl⟩) (wd_preS hP hK hD hT hS) rfl rfl hl.1 rfl (lv_room (Nat.le_of_ble_eq_true rfl)) dX4_reckon_1 ⟨Nat.zero_le _, Nat.zero_le _⟩) hS id_2 id_1 (fun r_ u t H locs ht hvm hw hB hz1 hk1 hS => ?_)
  refine c00 ?_
  obtain ⟨hP, hD⟩ := wd_back ht hB
  clear ht hvm hB hz1 hk1
  obtain ⟨hr_, hu_⟩ := hw
  subst hr_
  rw [hu_] at hP hD
  clear hu_
  refine bz_eq (tgt := 31) hx hb dX4_reckon_4 (by decide) it_lt (fun q_k => ?_) (fun q_k => ?_)
  · have g_k := it_eq q_k
    refine lv_iconst (v := iZ (-1)) hx hb dX4_reckon_31 (by decide) ?_
    exact W.iret (v := iZ (-1)) hx hb hr (fun t ht hW => ⟨⟨iZ (-1), _, rfl, ⟨by rw [sp_reckon, if_neg (by omega)], _, _, _, _, rg, by rw [sp_reckon, if_neg (by omega)]; exact hm, rfl⟩, wd_end hP hK hD ht hW⟩, hS.F ht⟩) hS.2.2 dX4_reckon_32
  · have g_k := it_ne q_k
    refine lv_iload_n hx hb dX4_reckon_7 rfl (lv_at hl 3 rfl) ?_
    refine va_calli (va_runS (As := [.int (iZ (i))]) (rest := []) ⟨hx, hb, hml, hown, hts⟩ (c_X4_is l D cA tT A 23 ad _ _ (k := i) (by omega) (by omega)) (va_cwS 1 hts gX4_reckon_X4_is rfl rfl rfl (by decide +kernel) ⟨Nat.le_of_ble_eq_true rfl, Nat.le_of_ble_eq_true rfl⟩) (wd_preS hP hK hD hT hS) rfl rfl hl.1 rfl (lv_room (Nat.le_of_ble_eq_true rfl)) dX4_reckon_8 ⟨Nat.zero_le _, Nat.zero_le _⟩) hS id_2 id_1 (fun r_ u t H locs ht hvm hw hB hz1 hk1 hS => ?_)
    refine c00 ?_
    obtain ⟨hP, hD⟩ := wd_back ht hB
    clear ht hvm hB hz1 hk1
    obtain ⟨hr_, hu_⟩ := hw
    subst hr_
    rw [hu_] at hP hD
    clear hu_
    refine bz_eq (tgt := 31) hx hb dX4_reckon_11 (by decide) it_lt (fun q_i => ?_) (fun q_i => ?_)
    · have g_i := it_eq q_i
      refine lv_iconst (v := iZ (-1)) hx hb dX4_reckon_31 (by decide) ?_
      exact W.iret (v := iZ (-1)) hx hb hr (fun t ht hW => ⟨⟨iZ (-1), _, rfl, ⟨by rw [sp_reckon, if_neg (by omega)], _, _, _, _, rg, by rw [sp_reckon, if_neg (by omega)]; exact hm, rfl⟩, wd_end hP hK hD ht hW⟩, hS.F ht⟩) hS.2.2 dX4_reckon_32
    · have g_i := it_ne q_i
      refine lv_iload hx hb dX4_reckon_14 (lv_at hl 4 rfl) ?_
      refine va_calli (va_runS (As := [.int (iZ (j))]) (rest := []) ⟨hx, hb, hml, hown, hts⟩ (c_X4_is l D cA tT A 23 ad _ _ (k := j) (by omega) (by omega)) (va_cwS 1 hts gX4_reckon_X4_is rfl rfl rfl (by decide +kernel) ⟨Nat.le_of_ble_eq_true rfl, Nat.le_of_ble_eq_true rfl⟩) (wd_preS hP hK hD hT hS) rfl rfl hl.1 rfl (lv_room (Nat.le_of_ble_eq_true rfl)) dX4_reckon_16 ⟨Nat.zero_le _, Nat.zero_le _⟩) hS id_2 id_1 (fun r_ u t H locs ht hvm hw hB hz1 hk1 hS => ?_)
      refine c00 ?_
      obtain ⟨hP, hD⟩ := wd_back ht hB
      clear ht hvm hB hz1 hk1
      obtain ⟨hr_, hu_⟩ := hw
      subst hr_
      rw [hu_] at hP hD
      clear hu_
      refine bz_eq (tgt := 31) hx hb dX4_reckon_19 (by decide) it_lt (fun q_j => ?_) (fun q_j => ?_)
      · have g_j := it_eq q_j
        refine lv_iconst (v := iZ (-1)) hx hb dX4_reckon_31 (by decide) ?_
        exact W.iret (v := iZ (-1)) hx hb hr (fun t ht hW => ⟨⟨iZ (-1), _, rfl, ⟨by rw [sp_reckon, if_neg (by omega)], _, _, _, _, rg, by rw [sp_reckon, if_neg (by omega)]; exact hm, rfl⟩, wd_end hP hK hD ht hW⟩, hS.F ht⟩) hS.2.2 dX4_reckon_32
      · have g_j := it_ne q_j
        refine lv_iload_n hx hb dX4_reckon_22 rfl (lv_at hl 1 rfl) ?_
        refine by_lt (tgt := 31) hx hb dX4_reckon_23 (by decide) (by omega) (by omega) (fun p1 => ?_) (fun p1 => ?_)
        · refine lv_iconst (v := iZ (-1)) hx hb dX4_reckon_31 (by decide) ?_
          exact W.iret (v := iZ (-1)) hx hb hr (fun t ht hW => ⟨⟨iZ (-1), _, rfl, ⟨by rw [sp_reckon, if_neg (by omega)], _, _, _, _, rg, by rw [sp_reckon, if_neg (by omega)]; exact hm, rfl⟩, wd_end hP hK hD ht hW⟩, hS.F ht⟩) hS.2.2 dX4_reckon_32
        · refine lv_iload_n hx hb dX4_reckon_26 rfl (lv_at hl 1 rfl) ?_
          refine lv_iconst (v := nI (4)) hx hb dX4_reckon_27 (by decide) ?_
          refine tp_i (y := iZ ((4 : Nat) : Int)) (iZ_nat _) ?_
          refine bs_le (tgt := 33) hx hb dX4_reckon_28 (by decide) (by omega) (by omega) (by omega) (by omega) (fun p2 => ?_) (fun p2 => ?_)
          · obtain ⟨k_n, h_k, rfl⟩ : ∃ n : Nat, n < 6 ∧ k = (n : Int) := ⟨k.toNat, by omega, by omega⟩
            rw [← iZ_nat k_n] at hl
            have e_k : ((k_n : Nat) : Int).toNat = k_n := Int.toNat_natCast k_n
            obtain ⟨i_n, h_i, rfl⟩ : ∃ n : Nat, n < 6 ∧ i = (n : Int) := ⟨i.toNat, by omega, by omega⟩
            rw [← iZ_nat i_n] at hl
            have e_i : ((i_n : Nat) : Int).toNat = i_n := Int.toNat_natCast i_n
            obtain ⟨j_n, h_j, rfl⟩ : ∃ n : Nat, n < 6 ∧ j = (n : Int) := ⟨j.toNat, by omega, by omega⟩
            rw [← iZ_nat j_n] at hl
            have e_j : ((j_n : Nat) : Int).toNat = j_n := Int.toNat_natCast j_n
            have m_k := hm k_n h_k
            have n_k : (rg k_n).2.1 = nd_p (rh k_n).2.1 := m_k.1.1
            have b_k : (rg k_n).2.2.1 = (rh k_n).1 := by rw [m_k.2]
            have z_k : (rg k_n).2.2.2 = (rh k_n).2.2 := by rw [m_k.2]
            have r_k := hr9 k_n h_k
            simp only [rk] at r_k
            have p_k := p190 r_k.1
            have t_k := tn_le (rh k_n).1
            have m_i := hm i_n h_i
            have n_i : (rg i_n).2.1 = nd_p (rh i_n).2.1 := m_i.1.1
            have b_i : (rg i_n).2.2.1 = (rh i_n).1 := by rw [m_i.2]
            have z_i : (rg i_n).2.2.2 = (rh i_n).2.2 := by rw [m_i.2]
            have r_i := hr9 i_n h_i
            simp only [rk] at r_i
            have p_i := p190 r_i.1
            have t_i := tn_le (rh i_n).1
            have m_j := hm j_n h_j
            have n_j : (rg j_n).2.1 = nd_p (rh j_n).2.1 := m_j.1.1
            have b_j : (rg j_n).2.2.1 = (rh j_n).1 := by rw [m_j.2]
            have z_j : (rg j_n).2.2.2 = (rh j_n).2.2 := by rw [m_j.2]
            have r_j := hr9 j_n h_j
            simp only [rk] at r_j
            have p_j := p190 r_j.1
            have t_j := tn_le (rh j_n).1
            refine lv_iload_n hx hb dX4_reckon_33 rfl (lv_at hl 1 rfl) ?_
            refine lv_iconst (v := nI (2)) hx hb dX4_reckon_34 (by decide) ?_
            refine tp_i (y := iZ ((2 : Nat) : Int)) (iZ_nat _) ?_
            refine bs_le (tgt := 110) hx hb dX4_reckon_35 (by decide) (by omega) (by omega) (by omega) (by omega) (fun p3 => ?_) (fun p3 => ?_)
            · refine lv_iload_n hx hb dX4_reckon_110 rfl (lv_at hl 1 rfl) ?_
              refine lv_iconst (v := nI (2)) hx hb dX4_reckon_111 (by decide) ?_
              refine tp_i (y := iZ ((2 : Nat) : Int)) (iZ_nat _) ?_
              refine bs_ne (tgt := 138) hx hb dX4_reckon_112 (by decide) (by omega) (by omega) (by omega) (by omega) (fun p6 => ?_) (fun p6 => ?_)
              · refine lv_aload_n hx hb dX4_reckon_138 rfl (lv_at hl 0 rfl) ?_
                refine lv_iload_n hx hb dX4_reckon_139 rfl (lv_at hl 3 rfl) ?_
                refine lv_iload hx hb dX4_reckon_140 (lv_at hl 4 rfl) ?_
                refine va_callv (va_runV (As := [.int (nI (i_n)), .int (nI (j_n))]) (rest := []) ⟨hx, hb, hml, hown, hts⟩ (c_X4_align l D cA tT A ad _ (wa := wa) (wb := wb) (wc := wc) (we := we) (rg := rg) (tx := tx) (tl := tl) (rh := rh) (i_n := i_n) (j_n := j_n) hm hr9 h_i h_j) (cwV 2 hts gX4_reckon_X4_align rfl rfl rfl (by decide +kernel) ⟨Nat.le_of_ble_eq_true rfl, Nat.le_of_ble_eq_true rfl⟩) (wd_preV (k := 0) hP hK hD hT hS (by decide) mg_0 rfl) rfl rfl hl.1 rfl (lv_room (Nat.le_of_ble_eq_true rfl)) dX4_reckon_142 ⟨Nat.zero_le _, Nat.zero_le _⟩) hS id_2 id_1 (fun u t H locs ht hvm hw hB hz1 hk1 hS => ?_)
                refine c00 ?_
                obtain ⟨hP, hD⟩ := wd_back ht hB
                clear ht hvm hB hz1 hk1
                obtain ⟨fa, na, fb, nb, va, la, vb, lb, hu_⟩ := hw
                rw [hu_] at hP hD
                clear hu_
                refine lv_aload_n hx hb dX4_reckon_145 rfl (lv_at hl 0 rfl) ?_
                refine lv_iload_n hx hb dX4_reckon_146 rfl (lv_at hl 1 rfl) ?_
                refine lv_iconst (v := nI (1)) hx hb dX4_reckon_147 (by decide) ?_
                refine tp_i (y := iZ ((1 : Nat) : Int)) (iZ_nat _) ?_
                refine bs_ne (tgt := 155) hx hb dX4_reckon_148 (by decide) (by omega) (by omega) (by omega) (by omega) (fun p7 => ?_) (fun p7 => ?_)
                · refine lv_iconst (v := nI (0)) hx hb dX4_reckon_155 (by decide) ?_
                  have hz9 : -2147483648 ≤ max (rh i_n).2.2 (rh j_n).2.2 ∧ max (rh i_n).2.2 (rh j_n).2.2 < 2147483648 := by omega
                  refine va_callv (va_runV (As := [.int (nI (0))]) (rest := []) ⟨hx, hb, hml, hown, hts⟩ (c_X4_sum l D cA tT A ad _ (fa := fa) (fb := fb) (na := na) (nb := nb) (X := aX (rh i_n) (rh j_n)) (Y := aX (rh j_n) (rh i_n)) (ba := (rh i_n).1) (bb := (rh j_n).1) (za := max (rh i_n).2.2 (rh j_n).2.2) (zb := max (rh i_n).2.2 (rh j_n).2.2) (wc := wc) (we := we) (rg := rg) (tx := tx) (tl := tl) (tb := false) va vb (by omega) (by omega) hz9.1 hz9.2) (cwV 1 hts gX4_reckon_X4_sum rfl rfl rfl (by decide +kernel) ⟨Nat.le_of_ble_eq_true rfl, Nat.le_of_ble_eq_true rfl⟩) (wd_preV (k := 0) hP hK hD hT hS (by decide) mg_0 rfl) rfl rfl hl.1 rfl (lv_room (Nat.le_of_ble_eq_true rfl)) dX4_reckon_156 ⟨Nat.zero_le _, Nat.zero_le _⟩) hS id_2 id_1 (fun u t H locs ht hvm hw hB hz1 hk1 hS => ?_)
                  refine c00 ?_
                  obtain ⟨hP, hD⟩ := wd_back ht hB
                  clear ht hvm hB hz1 hk1
                  obtain ⟨fa1, fb1, fc, r9, hr99, hv9, hn9, hu_⟩ := hw
                  rw [hu_] at hP hD
                  clear hu_
                  have hsm := sm_SM (tb := false) r_i.2.2.2 r_j.2.2.2 hr99
                  rw [show ((rh j_n).1 != false) = (rh j_n).1 by cases (rh j_n).1 <;> rfl] at hsm
                  refine lv_aload_n hx hb dX4_reckon_159 rfl (lv_at hl 0 rfl) ?_
                  refine lv_iload_n hx hb dX4_reckon_160 rfl (lv_at hl 2 rfl) ?_
                  refine lv_aload_n hx hb dX4_reckon_161 rfl (lv_at hl 0 rfl) ?_
                  refine rg_4_c hx hb hts in4 hown hK hP 0 (by decide) mg_0 (hts _ (by decide +kernel)) dX4_reckon_162 ?_
                  have hk8 : nd_p r9.2 ≤ 800 := (by omega)
                  have hkz1 : -2147483648 ≤ (max (rh i_n).2.2 (rh j_n).2.2) := (by omega)
                  have hkz2 : (max (rh i_n).2.2 (rh j_n).2.2) < 2147483648 := (by omega)
                  have hkb : (sn r9.1 r9.2) = true → r9.2 ≠ 0 := fun h => sn_ok h
                  refine va_calli (va_runV (As := [.int (nI (k_n)), .ref (ad 7)]) (rest := []) ⟨hx, hb, hml, hown, hts⟩ (c_X4_keep_c l D cA tT A ad _ (wa := (fa1, na, (rh i_n).1, max (rh i_n).2.2 (rh j_n).2.2)) (wb := (fb1, nb, (rh j_n).1, max (rh i_n).2.2 (rh j_n).2.2)) (wc := (fc, nd_p r9.2, sn r9.1 r9.2, max (rh i_n).2.2 (rh j_n).2.2)) (we := we) (rg := rg) (tx := tx) (tl := tl) (rh := rh) (k := k_n) (v := r9.2) hm h_k hv9 hk8 hkb hkz1 hkz2) (cwV 2 hts gX4_reckon_X4_keep rfl rfl rfl (by decide +kernel) ⟨Nat.le_of_ble_eq_true rfl, Nat.le_of_ble_eq_true rfl⟩) (wd_preV (k := 0) hP hK hD hT hS (by decide) mg_0 rfl) rfl rfl hl.1 rfl (lv_room (Nat.le_of_ble_eq_true rfl)) dX4_reckon_165 ⟨Nat.zero_le _, Nat.zero_le _⟩) hS id_2 id_1 (fun r_ u t H locs ht hvm hw hB hz1 hk1 hS => ?_)
                  refine c00 ?_
                  obtain ⟨hP, hD⟩ := wd_back ht hB
                  clear ht hvm hB hz1 hk1
                  obtain ⟨hr_, rg1, hmr, hu_⟩ := hw
                  rw [hu_] at hP hD
                  have hsp : sp_reckon rh op (k_n : Int) (i_n : Int) (j_n : Int) = kpr rh k_n (sn r9.1 r9.2, r9.2, max (rh i_n).2.2 (rh j_n).2.2) := by rw [sp_reckon, if_pos (by omega), e_k, e_i, e_j, if_pos (by omega), hsm]
                  exact W.iret hx hb hr (fun t ht hW => ⟨⟨_, _, rfl, ⟨by rw [hsp]; exact hr_, _, _, _, _, rg1, by rw [hsp]; exact hmr, rfl⟩, wd_end hP hK hD ht hW⟩, hS.F ht⟩) hS.2.2 dX4_reckon_168
                · refine lv_iconst (v := nI (1)) hx hb dX4_reckon_151 (by decide) ?_
                  refine lv_goto (tgt := 156) hx hb dX4_reckon_152 (by decide) ?_
                  have hz9 : -2147483648 ≤ max (rh i_n).2.2 (rh j_n).2.2 ∧ max (rh i_n).2.2 (rh j_n).2.2 < 2147483648 := by omega
                  refine va_callv (va_runV (As := [.int (nI (1))]) (rest := []) ⟨hx, hb, hml, hown, hts⟩ (c_X4_sum l D cA tT A ad _ (fa := fa) (fb := fb) (na := na) (nb := nb) (X := aX (rh i_n) (rh j_n)) (Y := aX (rh j_n) (rh i_n)) (ba := (rh i_n).1) (bb := (rh j_n).1) (za := max (rh i_n).2.2 (rh j_n).2.2) (zb := max (rh i_n).2.2 (rh j_n).2.2) (wc := wc) (we := we) (rg := rg) (tx := tx) (tl := tl) (tb := true) va vb (by omega) (by omega) hz9.1 hz9.2) (cwV 1 hts gX4_reckon_X4_sum rfl rfl rfl (by decide +kernel) ⟨Nat.le_of_ble_eq_true rfl, Nat.le_of_ble_eq_true rfl⟩) (wd_preV (k := 0) hP hK hD hT hS (by decide) mg_0 rfl) rfl rfl hl.1 rfl (lv_room (Nat.le_of_ble_eq_true rfl)) dX4_reckon_156 ⟨Nat.zero_le _, Nat.zero_le _⟩) hS id_2 id_1 (fun u t H locs ht hvm hw hB hz1 hk1 hS => ?_)
                  refine c00 ?_
                  obtain ⟨hP, hD⟩ := wd_back ht hB
                  clear ht hvm hB hz1 hk1
                  obtain ⟨fa1, fb1, fc, r9, hr99, hv9, hn9, hu_⟩ := hw
                  rw [hu_] at hP hD
                  clear hu_
                  have hsm := sm_SM (tb := true) r_i.2.2.2 r_j.2.2.2 hr99
                  rw [show ((rh j_n).1 != true) = (!(rh j_n).1) by cases (rh j_n).1 <;> rfl] at hsm
                  refine lv_aload_n hx hb dX4_reckon_159 rfl (lv_at hl 0 rfl) ?_
                  refine lv_iload_n hx hb dX4_reckon_160 rfl (lv_at hl 2 rfl) ?_
                  refine lv_aload_n hx hb dX4_reckon_161 rfl (lv_at hl 0 rfl) ?_
                  refine rg_4_c hx hb hts in4 hown hK hP 0 (by decide) mg_0 (hts _ (by decide +kernel)) dX4_reckon_162 ?_
                  have hk8 : nd_p r9.2 ≤ 800 := (by omega)
                  have hkz1 : -2147483648 ≤ (max (rh i_n).2.2 (rh j_n).2.2) := (by omega)
                  have hkz2 : (max (rh i_n).2.2 (rh j_n).2.2) < 2147483648 := (by omega)
                  have hkb : (sn r9.1 r9.2) = true → r9.2 ≠ 0 := fun h => sn_ok h
                  refine va_calli (va_runV (As := [.int (nI (k_n)), .ref (ad 7)]) (rest := []) ⟨hx, hb, hml, hown, hts⟩ (c_X4_keep_c l D cA tT A ad _ (wa := (fa1, na, (rh i_n).1, max (rh i_n).2.2 (rh j_n).2.2)) (wb := (fb1, nb, (rh j_n).1, max (rh i_n).2.2 (rh j_n).2.2)) (wc := (fc, nd_p r9.2, sn r9.1 r9.2, max (rh i_n).2.2 (rh j_n).2.2)) (we := we) (rg := rg) (tx := tx) (tl := tl) (rh := rh) (k := k_n) (v := r9.2) hm h_k hv9 hk8 hkb hkz1 hkz2) (cwV 2 hts gX4_reckon_X4_keep rfl rfl rfl (by decide +kernel) ⟨Nat.le_of_ble_eq_true rfl, Nat.le_of_ble_eq_true rfl⟩) (wd_preV (k := 0) hP hK hD hT hS (by decide) mg_0 rfl) rfl rfl hl.1 rfl (lv_room (Nat.le_of_ble_eq_true rfl)) dX4_reckon_165 ⟨Nat.zero_le _, Nat.zero_le _⟩) hS id_2 id_1 (fun r_ u t H locs ht hvm hw hB hz1 hk1 hS => ?_)
                  refine c00 ?_
                  obtain ⟨hP, hD⟩ := wd_back ht hB
                  clear ht hvm hB hz1 hk1
                  obtain ⟨hr_, rg1, hmr, hu_⟩ := hw
                  rw [hu_] at hP hD
                  have hsp : sp_reckon rh op (k_n : Int) (i_n : Int) (j_n : Int) = kpr rh k_n (sn r9.1 r9.2, r9.2, max (rh i_n).2.2 (rh j_n).2.2) := by rw [sp_reckon, if_pos (by omega), e_k, e_i, e_j, if_neg (by omega), if_pos (by omega), hsm]
                  exact W.iret hx hb hr (fun t ht hW => ⟨⟨_, _, rfl, ⟨by rw [hsp]; exact hr_, _, _, _, _, rg1, by rw [hsp]; exact hmr, rfl⟩, wd_end hP hK hD ht hW⟩, hS.F ht⟩) hS.2.2 dX4_reckon_168
              · refine lv_aload_n hx hb dX4_reckon_115 rfl (lv_at hl 0 rfl) ?_
                refine rg_4_registers hx hb hts in4 hown hK hP 0 (by decide) mg_0 (hts _ (by decide +kernel)) dX4_reckon_116 ?_
                refine lv_iload_n hx hb dX4_reckon_119 rfl (lv_at hl 3 rfl) ?_
                refine rn_q4 hx hb hK hP 1 (by decide) mg_1 (by omega) (by decide) dX4_reckon_120 ?_
                refine tp_v (y := .ref (ad (11 + 2 * i_n))) rfl ?_
                refine lv_aload_n hx hb dX4_reckon_121 rfl (lv_at hl 0 rfl) ?_
                refine rg_4_registers hx hb hts in4 hown hK hP 0 (by decide) mg_0 (hts _ (by decide +kernel)) dX4_reckon_122 ?_
                refine lv_iload hx hb dX4_reckon_125 (lv_at hl 4 rfl) ?_
                refine rn_q4 hx hb hK hP 1 (by decide) mg_1 (by omega) (by decide) dX4_reckon_127 ?_
                refine tp_v (y := .ref (ad (11 + 2 * j_n))) rfl ?_
                refine lv_aload_n hx hb dX4_reckon_128 rfl (lv_at hl 0 rfl) ?_
                refine rg_4_c hx hb hts in4 hown hK hP 0 (by decide) mg_0 (hts _ (by decide +kernel)) dX4_reckon_129 ?_
                refine va_callv (va_runS (As := [.ref (ad (11 + 2 * i_n)), .ref (ad (11 + 2 * j_n)), .ref (ad 7)]) (rest := []) ⟨hx, hb, hml, hown, hts⟩ (c_X4_product l D cA tT A 23 ad _ _ (a := 11 + 2 * i_n) (o := 11 + 2 * j_n) (t := 7) (n1 := (rg i_n).2.1) (n2 := (rg j_n).2.1) (n := wc.2.1) (x := (rh i_n).2.1) (y := (rh j_n).2.1) (f1 := (rg i_n).1) (f2 := (rg j_n).1) (f := wc.1) (b1 := (rg i_n).2.2.1) (b2 := (rg j_n).2.2.1) (b := wc.2.2.1) (z1 := (rg i_n).2.2.2) (z2 := (rg j_n).2.2.2) (z := wc.2.2.2) (by decide) (by omega) (by omega) (mg_G _) (mg_G _) (by omega) (by omega) (by omega) (by omega) (by omega) (by omega) m_i.1 m_j.1 (by omega) mg_C) (va_cwS 3 hts gX4_reckon_X4_product rfl rfl rfl (by decide +kernel) ⟨Nat.le_of_ble_eq_true rfl, Nat.le_of_ble_eq_true rfl⟩) (wd_preS hP hK hD hT hS) rfl rfl hl.1 rfl (lv_room (Nat.le_of_ble_eq_true rfl)) dX4_reckon_132 ⟨Nat.zero_le _, Nat.zero_le _⟩) hS id_2 id_1 (fun u t H locs ht hvm hw hB hz1 hk1 hS => ?_)
                refine c00 ?_
                obtain ⟨hP, hD⟩ := wd_back ht hB
                clear ht hvm hB hz1 hk1
                obtain ⟨fc, hv9, hn9, hu_⟩ := hw
                rw [hu_, b_i, b_j, z_i, z_j] at hP hD
                clear hu_
                rw [show rw_ cA ad (mg cA ad wa wb wc we rg tx tl) 7 fc (nd_p ((rh i_n).2.1 * (rh j_n).2.1)) (sn ((rh i_n).1 != (rh j_n).1) ((rh i_n).2.1 * (rh j_n).2.1)) ((rh i_n).2.2 + (rh j_n).2.2) = mg cA ad wa wb (fc, nd_p ((rh i_n).2.1 * (rh j_n).2.1), sn ((rh i_n).1 != (rh j_n).1) ((rh i_n).2.1 * (rh j_n).2.1), (rh i_n).2.2 + (rh j_n).2.2) we rg tx tl from mg_uc (w' := (fc, nd_p ((rh i_n).2.1 * (rh j_n).2.1), sn ((rh i_n).1 != (rh j_n).1) ((rh i_n).2.1 * (rh j_n).2.1), (rh i_n).2.2 + (rh j_n).2.2))] at hP hD
                refine lv_goto (tgt := 159) hx hb dX4_reckon_135 (by decide) ?_
                refine lv_aload_n hx hb dX4_reckon_159 rfl (lv_at hl 0 rfl) ?_
                refine lv_iload_n hx hb dX4_reckon_160 rfl (lv_at hl 2 rfl) ?_
                refine lv_aload_n hx hb dX4_reckon_161 rfl (lv_at hl 0 rfl) ?_
                refine rg_4_c hx hb hts in4 hown hK hP 0 (by decide) mg_0 (hts _ (by decide +kernel)) dX4_reckon_162 ?_
                have hk8 : nd_p ((rh i_n).2.1 * (rh j_n).2.1) ≤ 800 := (by omega)
                have hkz1 : -2147483648 ≤ ((rh i_n).2.2 + (rh j_n).2.2) := (by omega)
                have hkz2 : ((rh i_n).2.2 + (rh j_n).2.2) < 2147483648 := (by omega)
                have hkb : (sn ((rh i_n).1 != (rh j_n).1) ((rh i_n).2.1 * (rh j_n).2.1)) = true → ((rh i_n).2.1 * (rh j_n).2.1) ≠ 0 := fun h => sn_ok h
                refine va_calli (va_runV (As := [.int (nI (k_n)), .ref (ad 7)]) (rest := []) ⟨hx, hb, hml, hown, hts⟩ (c_X4_keep_c l D cA tT A ad _ (wa := wa) (wb := wb) (wc := (fc, nd_p ((rh i_n).2.1 * (rh j_n).2.1), sn ((rh i_n).1 != (rh j_n).1) ((rh i_n).2.1 * (rh j_n).2.1), (rh i_n).2.2 + (rh j_n).2.2)) (we := we) (rg := rg) (tx := tx) (tl := tl) (rh := rh) (k := k_n) (v := (rh i_n).2.1 * (rh j_n).2.1) hm h_k hv9 hk8 hkb hkz1 hkz2) (cwV 2 hts gX4_reckon_X4_keep rfl rfl rfl (by decide +kernel) ⟨Nat.le_of_ble_eq_true rfl, Nat.le_of_ble_eq_true rfl⟩) (wd_preV (k := 0) hP hK hD hT hS (by decide) mg_0 rfl) rfl rfl hl.1 rfl (lv_room (Nat.le_of_ble_eq_true rfl)) dX4_reckon_165 ⟨Nat.zero_le _, Nat.zero_le _⟩) hS id_2 id_1 (fun r_ u t H locs ht hvm hw hB hz1 hk1 hS => ?_)
                refine c00 ?_
                obtain ⟨hP, hD⟩ := wd_back ht hB
                clear ht hvm hB hz1 hk1
                obtain ⟨hr_, rg1, hmr, hu_⟩ := hw
                rw [hu_] at hP hD
                have hsp : sp_reckon rh op (k_n : Int) (i_n : Int) (j_n : Int) = kpr rh k_n (sn ((rh i_n).1 != (rh j_n).1) ((rh i_n).2.1 * (rh j_n).2.1), (rh i_n).2.1 * (rh j_n).2.1, (rh i_n).2.2 + (rh j_n).2.2) := by rw [sp_reckon, if_pos (by omega), e_k, e_i, e_j, if_neg (by omega), if_neg (by omega), if_pos (by omega)]
                exact W.iret hx hb hr (fun t ht hW => ⟨⟨_, _, rfl, ⟨by rw [hsp]; exact hr_, _, _, _, _, rg1, by rw [hsp]; exact hmr, rfl⟩, wd_end hP hK hD ht hW⟩, hS.F ht⟩) hS.2.2 dX4_reckon_168
            · have hcb : -2 < cmpD (rh i_n) (rh j_n) ∧ cmpD (rh i_n) (rh j_n) < 2 := cmpD_b _ _
              refine lv_aload_n hx hb dX4_reckon_38 rfl (lv_at hl 0 rfl) ?_
              refine lv_iload_n hx hb dX4_reckon_39 rfl (lv_at hl 3 rfl) ?_
              refine lv_iload hx hb dX4_reckon_40 (lv_at hl 4 rfl) ?_
              refine va_calli (va_runV (As := [.int (nI (i_n)), .int (nI (j_n))]) (rest := []) ⟨hx, hb, hml, hown, hts⟩ (c_X4_order l D cA tT A ad _ (wa := wa) (wb := wb) (wc := wc) (we := we) (rg := rg) (tx := tx) (tl := tl) (rh := rh) (i_n := i_n) (j_n := j_n) hm hr9 h_i h_j) (cwV 2 hts gX4_reckon_X4_order rfl rfl rfl (by decide +kernel) ⟨Nat.le_of_ble_eq_true rfl, Nat.le_of_ble_eq_true rfl⟩) (wd_preV (k := 0) hP hK hD hT hS (by decide) mg_0 rfl) rfl rfl hl.1 rfl (lv_room (Nat.le_of_ble_eq_true rfl)) dX4_reckon_42 ⟨Nat.zero_le _, Nat.zero_le _⟩) hS id_2 id_1 (fun r_ u t H locs ht hvm hw hB hz1 hk1 hS => ?_)
              refine c00 ?_
              obtain ⟨hP, hD⟩ := wd_back ht hB
              clear ht hvm hB hz1 hk1
              obtain ⟨rfl, wa1, wb1, hu_⟩ := hw
              rw [hu_] at hP hD
              clear hu_
              refine lv_istore (lv' := [(5, .int (iZ (cmpD (rh i_n) (rh j_n)))), (0, .ref (ad 0)), (1, .int (iZ (op))), (2, .int (nI (k_n))), (3, .int (nI (i_n))), (4, .int (nI (j_n)))]) hx hb dX4_reckon_45 hl (by decide) rfl (fun ls hl => ?_)
              refine lv_iload_n hx hb dX4_reckon_47 rfl (lv_at hl 2 rfl) ?_
              refine lv_iconst (v := nI (3)) hx hb dX4_reckon_48 (by decide) ?_
              refine tp_i (y := iZ ((3 : Nat) : Int)) (iZ_nat _) ?_
              refine bs_ne (tgt := 65) hx hb dX4_reckon_49 (by decide) (by omega) (by omega) (by omega) (by omega) (fun p4 => ?_) (fun p4 => ?_)
              · refine lv_iload hx hb dX4_reckon_65 (lv_at hl 0 rfl) ?_
                refine by_le (tgt := 74) hx hb dX4_reckon_67 (by decide) (by omega) (by omega) (fun p5 => ?_) (fun p5 => ?_)
                · refine lv_iconst (v := nI (0)) hx hb dX4_reckon_74 (by decide) ?_
                  refine lv_istore (lv' := [(6, .int (nI (0))), (5, .int (iZ (cmpD (rh i_n) (rh j_n)))), (0, .ref (ad 0)), (1, .int (iZ (op))), (2, .int (nI (k_n))), (3, .int (nI (i_n))), (4, .int (nI (j_n)))]) hx hb dX4_reckon_75 hl (by decide) rfl (fun ls hl => ?_)
                  refine lv_aload_n hx hb dX4_reckon_77 rfl (lv_at hl 2 rfl) ?_
                  refine rg_4_a hx hb hts in4 hown hK hP 0 (by decide) mg_0 (hts _ (by decide +kernel)) dX4_reckon_78 ?_
                  refine lv_aload_n hx hb dX4_reckon_81 rfl (lv_at hl 2 rfl) ?_
                  refine rg_4_registers hx hb hts in4 hown hK hP 0 (by decide) mg_0 (hts _ (by decide +kernel)) dX4_reckon_82 ?_
                  refine lv_iload hx hb dX4_reckon_85 (lv_at hl 0 rfl) ?_
                  refine bz_eq (tgt := 95) hx hb dX4_reckon_87 (by decide) (by omega) (fun p9 => ?_) (fun p9 => ?_)
                  · refine lv_iload_n hx hb dX4_reckon_95 rfl (lv_at hl 5 rfl) ?_
                    refine rn_q4 hx hb hK hP 1 (by decide) mg_1 (by omega) (by decide) dX4_reckon_96 ?_
                    refine tp_v (y := .ref (ad (11 + 2 * i_n))) rfl ?_
                    refine va_callv (va_runV (As := [.ref (ad (11 + 2 * i_n))]) (rest := []) ⟨hx, hb, hml, hown, hts⟩ (c_X3_take l D cA tT A 23 ad _ _ (a := 3) (f := wa1.1) (n := wa1.2.1) (b := wa1.2.2.1) (z := wa1.2.2.2) (o := 11 + 2 * i_n) (f1 := (rg i_n).1) (n1 := (rg i_n).2.1) (b1 := (rg i_n).2.2.1) (z1 := (rg i_n).2.2.2) (by decide) mg_A (by omega) (mg_G _) (by omega) (by omega) (by omega) (by omega)) (cwV 1 hts gX4_reckon_X3_take rfl rfl rfl (by decide +kernel) ⟨Nat.le_of_ble_eq_true rfl, Nat.le_of_ble_eq_true rfl⟩) (wd_preV (k := 3) hP hK hD hT hS (by decide) mg_A.1 rfl) rfl rfl hl.1 rfl (lv_room (Nat.le_of_ble_eq_true rfl)) dX4_reckon_97 ⟨Nat.zero_le _, Nat.zero_le _⟩) hS id_2 id_1 (fun u t H locs ht hvm hw hB hz1 hk1 hS => ?_)
                    refine c00 ?_
                    obtain ⟨hP, hD⟩ := wd_back ht hB
                    clear ht hvm hB hz1 hk1
                    rw [hw] at hP hD
                    clear hw
                    obtain ⟨f1, hf1⟩ : ∃ f9 : Nat → Int32, f9 = tk (rg i_n).1 wa1.1 (rg i_n).2.1 := ⟨_, rfl⟩
                    rw [← hf1, b_i, z_i] at hP hD
                    have vf1 : rv f1 (rg i_n).2.1 (rh i_n).2.1 := ⟨n_i, fun j hj => by rw [hf1, tk_lt hj]; exact m_i.1.2 j hj⟩
                    rw [show rw_ cA ad (mg cA ad wa1 wb1 wc we rg tx tl) 3 f1 ((rg i_n).2.1) ((rh i_n).1) ((rh i_n).2.2) = mg cA ad (f1, (rg i_n).2.1, (rh i_n).1, (rh i_n).2.2) wb1 wc we rg tx tl from mg_ua (w' := (f1, (rg i_n).2.1, (rh i_n).1, (rh i_n).2.2))] at hP hD
                    refine lv_aload_n hx hb dX4_reckon_100 rfl (lv_at hl 2 rfl) ?_
                    refine lv_iload_n hx hb dX4_reckon_101 rfl (lv_at hl 4 rfl) ?_
                    refine lv_aload_n hx hb dX4_reckon_102 rfl (lv_at hl 2 rfl) ?_
                    refine rg_4_a hx hb hts in4 hown hK hP 0 (by decide) mg_0 (hts _ (by decide +kernel)) dX4_reckon_103 ?_
                    have hk8 : (rg i_n).2.1 ≤ 800 := (by omega)
                    have hkz1 : -2147483648 ≤ ((rh i_n).2.2) := (by omega)
                    have hkz2 : ((rh i_n).2.2) < 2147483648 := (by omega)
                    have hkb : ((rh i_n).1) = true → ((rh i_n).2.1) ≠ 0 := r_i.2.2.2
                    refine va_calli (va_runV (As := [.int (nI (k_n)), .ref (ad 3)]) (rest := []) ⟨hx, hb, hml, hown, hts⟩ (c_X4_keep_a l D cA tT A ad _ (wa := (f1, (rg i_n).2.1, (rh i_n).1, (rh i_n).2.2)) (wb := wb1) (wc := wc) (we := we) (rg := rg) (tx := tx) (tl := tl) (rh := rh) (k := k_n) (v := (rh i_n).2.1) hm h_k vf1 hk8 hkb hkz1 hkz2) (cwV 2 hts gX4_reckon_X4_keep rfl rfl rfl (by decide +kernel) ⟨Nat.le_of_ble_eq_true rfl, Nat.le_of_ble_eq_true rfl⟩) (wd_preV (k := 0) hP hK hD hT hS (by decide) mg_0 rfl) rfl rfl hl.1 rfl (lv_room (Nat.le_of_ble_eq_true rfl)) dX4_reckon_106 ⟨Nat.zero_le _, Nat.zero_le _⟩) hS id_2 id_1 (fun r_ u t H locs ht hvm hw hB hz1 hk1 hS => ?_)
                    refine c00 ?_
                    obtain ⟨hP, hD⟩ := wd_back ht hB
                    clear ht hvm hB hz1 hk1
                    obtain ⟨hr_, rg1, hmr, hu_⟩ := hw
                    rw [hu_] at hP hD
                    have hsp : sp_reckon rh op (k_n : Int) (i_n : Int) (j_n : Int) = kpr rh k_n ((rh i_n).1, (rh i_n).2.1, (rh i_n).2.2) := by rw [sp_reckon, if_pos (by omega), e_k, e_i, e_j, if_neg (by omega), if_neg (by omega), if_neg (by omega), if_neg (by omega), if_pos (by omega)]
                    exact W.iret hx hb hr (fun t ht hW => ⟨⟨_, _, rfl, ⟨by rw [hsp]; exact hr_, _, _, _, _, rg1, by rw [hsp]; exact hmr, rfl⟩, wd_end hP hK hD ht hW⟩, hS.F ht⟩) hS.2.2 dX4_reckon_109
                  · exact absurd p9 (by decide)
                · refine lv_iconst (v := nI (1)) hx hb dX4_reckon_70 (by decide) ?_
                  refine lv_goto (tgt := 75) hx hb dX4_reckon_71 (by decide) ?_
                  refine lv_istore (lv' := [(6, .int (nI (1))), (5, .int (iZ (cmpD (rh i_n) (rh j_n)))), (0, .ref (ad 0)), (1, .int (iZ (op))), (2, .int (nI (k_n))), (3, .int (nI (i_n))), (4, .int (nI (j_n)))]) hx hb dX4_reckon_75 hl (by decide) rfl (fun ls hl => ?_)
                  refine lv_aload_n hx hb dX4_reckon_77 rfl (lv_at hl 2 rfl) ?_
                  refine rg_4_a hx hb hts in4 hown hK hP 0 (by decide) mg_0 (hts _ (by decide +kernel)) dX4_reckon_78 ?_
                  refine lv_aload_n hx hb dX4_reckon_81 rfl (lv_at hl 2 rfl) ?_
                  refine rg_4_registers hx hb hts in4 hown hK hP 0 (by decide) mg_0 (hts _ (by decide +kernel)) dX4_reckon_82 ?_
                  refine lv_iload hx hb dX4_reckon_85 (lv_at hl 0 rfl) ?_
                  refine bz_eq (tgt := 95) hx hb dX4_reckon_87 (by decide) (by omega) (fun p9 => ?_) (fun p9 => ?_)
                  · exact absurd p9 (by decide)
                  · refine lv_iload hx hb dX4_reckon_90 (lv_at hl 6 rfl) ?_
                    refine lv_goto (tgt := 96) hx hb dX4_reckon_92 (by decide) ?_
                    refine rn_q4 hx hb hK hP 1 (by decide) mg_1 (by omega) (by decide) dX4_reckon_96 ?_
                    refine tp_v (y := .ref (ad (11 + 2 * j_n))) rfl ?_
                    refine va_callv (va_runV (As := [.ref (ad (11 + 2 * j_n))]) (rest := []) ⟨hx, hb, hml, hown, hts⟩ (c_X3_take l D cA tT A 23 ad _ _ (a := 3) (f := wa1.1) (n := wa1.2.1) (b := wa1.2.2.1) (z := wa1.2.2.2) (o := 11 + 2 * j_n) (f1 := (rg j_n).1) (n1 := (rg j_n).2.1) (b1 := (rg j_n).2.2.1) (z1 := (rg j_n).2.2.2) (by decide) mg_A (by omega) (mg_G _) (by omega) (by omega) (by omega) (by omega)) (cwV 1 hts gX4_reckon_X3_take rfl rfl rfl (by decide +kernel) ⟨Nat.le_of_ble_eq_true rfl, Nat.le_of_ble_eq_true rfl⟩) (wd_preV (k := 3) hP hK hD hT hS (by decide) mg_A.1 rfl) rfl rfl hl.1 rfl (lv_room (Nat.le_of_ble_eq_true rfl)) dX4_reckon_97 ⟨Nat.zero_le _, Nat.zero_le _⟩) hS id_2 id_1 (fun u t H locs ht hvm hw hB hz1 hk1 hS => ?_)
                    refine c00 ?_
                    obtain ⟨hP, hD⟩ := wd_back ht hB
                    clear ht hvm hB hz1 hk1
                    rw [hw] at hP hD
                    clear hw
                    obtain ⟨f1, hf1⟩ : ∃ f9 : Nat → Int32, f9 = tk (rg j_n).1 wa1.1 (rg j_n).2.1 := ⟨_, rfl⟩
                    rw [← hf1, b_j, z_j] at hP hD
                    have vf1 : rv f1 (rg j_n).2.1 (rh j_n).2.1 := ⟨n_j, fun j hj => by rw [hf1, tk_lt hj]; exact m_j.1.2 j hj⟩
                    rw [show rw_ cA ad (mg cA ad wa1 wb1 wc we rg tx tl) 3 f1 ((rg j_n).2.1) ((rh j_n).1) ((rh j_n).2.2) = mg cA ad (f1, (rg j_n).2.1, (rh j_n).1, (rh j_n).2.2) wb1 wc we rg tx tl from mg_ua (w' := (f1, (rg j_n).2.1, (rh j_n).1, (rh j_n).2.2))] at hP hD
                    refine lv_aload_n hx hb dX4_reckon_100 rfl (lv_at hl 2 rfl) ?_
                    refine lv_iload_n hx hb dX4_reckon_101 rfl (lv_at hl 4 rfl) ?_
                    refine lv_aload_n hx hb dX4_reckon_102 rfl (lv_at hl 2 rfl) ?_
                    refine rg_4_a hx hb hts in4 hown hK hP 0 (by decide) mg_0 (hts _ (by decide +kernel)) dX4_reckon_103 ?_
                    have hk8 : (rg j_n).2.1 ≤ 800 := (by omega)
                    have hkz1 : -2147483648 ≤ ((rh j_n).2.2) := (by omega)
                    have hkz2 : ((rh j_n).2.2) < 2147483648 := (by omega)
                    have hkb : ((rh j_n).1) = true → ((rh j_n).2.1) ≠ 0 := r_j.2.2.2
                    refine va_calli (va_runV (As := [.int (nI (k_n)), .ref (ad 3)]) (rest := []) ⟨hx, hb, hml, hown, hts⟩ (c_X4_keep_a l D cA tT A ad _ (wa := (f1, (rg j_n).2.1, (rh j_n).1, (rh j_n).2.2)) (wb := wb1) (wc := wc) (we := we) (rg := rg) (tx := tx) (tl := tl) (rh := rh) (k := k_n) (v := (rh j_n).2.1) hm h_k vf1 hk8 hkb hkz1 hkz2) (cwV 2 hts gX4_reckon_X4_keep rfl rfl rfl (by decide +kernel) ⟨Nat.le_of_ble_eq_true rfl, Nat.le_of_ble_eq_true rfl⟩) (wd_preV (k := 0) hP hK hD hT hS (by decide) mg_0 rfl) rfl rfl hl.1 rfl (lv_room (Nat.le_of_ble_eq_true rfl)) dX4_reckon_106 ⟨Nat.zero_le _, Nat.zero_le _⟩) hS id_2 id_1 (fun r_ u t H locs ht hvm hw hB hz1 hk1 hS => ?_)
                    refine c00 ?_
                    obtain ⟨hP, hD⟩ := wd_back ht hB
                    clear ht hvm hB hz1 hk1
                    obtain ⟨hr_, rg1, hmr, hu_⟩ := hw
                    rw [hu_] at hP hD
                    have hsp : sp_reckon rh op (k_n : Int) (i_n : Int) (j_n : Int) = kpr rh k_n ((rh j_n).1, (rh j_n).2.1, (rh j_n).2.2) := by rw [sp_reckon, if_pos (by omega), e_k, e_i, e_j, if_neg (by omega), if_neg (by omega), if_neg (by omega), if_neg (by omega), if_neg (by omega)]
                    exact W.iret hx hb hr (fun t ht hW => ⟨⟨_, _, rfl, ⟨by rw [hsp]; exact hr_, _, _, _, _, rg1, by rw [hsp]; exact hmr, rfl⟩, wd_end hP hK hD ht hW⟩, hS.F ht⟩) hS.2.2 dX4_reckon_109
              · refine lv_iload hx hb dX4_reckon_52 (lv_at hl 0 rfl) ?_
                refine by_ge (tgt := 61) hx hb dX4_reckon_54 (by decide) (by omega) (by omega) (fun p5 => ?_) (fun p5 => ?_)
                · refine lv_iconst (v := nI (0)) hx hb dX4_reckon_61 (by decide) ?_
                  refine lv_goto (tgt := 75) hx hb dX4_reckon_62 (by decide) ?_
                  refine lv_istore (lv' := [(6, .int (nI (0))), (5, .int (iZ (cmpD (rh i_n) (rh j_n)))), (0, .ref (ad 0)), (1, .int (iZ (op))), (2, .int (nI (k_n))), (3, .int (nI (i_n))), (4, .int (nI (j_n)))]) hx hb dX4_reckon_75 hl (by decide) rfl (fun ls hl => ?_)
                  refine lv_aload_n hx hb dX4_reckon_77 rfl (lv_at hl 2 rfl) ?_
                  refine rg_4_a hx hb hts in4 hown hK hP 0 (by decide) mg_0 (hts _ (by decide +kernel)) dX4_reckon_78 ?_
                  refine lv_aload_n hx hb dX4_reckon_81 rfl (lv_at hl 2 rfl) ?_
                  refine rg_4_registers hx hb hts in4 hown hK hP 0 (by decide) mg_0 (hts _ (by decide +kernel)) dX4_reckon_82 ?_
                  refine lv_iload hx hb dX4_reckon_85 (lv_at hl 0 rfl) ?_
                  refine bz_eq (tgt := 95) hx hb dX4_reckon_87 (by decide) (by omega) (fun p9 => ?_) (fun p9 => ?_)
                  · refine lv_iload_n hx hb dX4_reckon_95 rfl (lv_at hl 5 rfl) ?_
                    refine rn_q4 hx hb hK hP 1 (by decide) mg_1 (by omega) (by decide) dX4_reckon_96 ?_
                    refine tp_v (y := .ref (ad (11 + 2 * i_n))) rfl ?_
                    refine va_callv (va_runV (As := [.ref (ad (11 + 2 * i_n))]) (rest := []) ⟨hx, hb, hml, hown, hts⟩ (c_X3_take l D cA tT A 23 ad _ _ (a := 3) (f := wa1.1) (n := wa1.2.1) (b := wa1.2.2.1) (z := wa1.2.2.2) (o := 11 + 2 * i_n) (f1 := (rg i_n).1) (n1 := (rg i_n).2.1) (b1 := (rg i_n).2.2.1) (z1 := (rg i_n).2.2.2) (by decide) mg_A (by omega) (mg_G _) (by omega) (by omega) (by omega) (by omega)) (cwV 1 hts gX4_reckon_X3_take rfl rfl rfl (by decide +kernel) ⟨Nat.le_of_ble_eq_true rfl, Nat.le_of_ble_eq_true rfl⟩) (wd_preV (k := 3) hP hK hD hT hS (by decide) mg_A.1 rfl) rfl rfl hl.1 rfl (lv_room (Nat.le_of_ble_eq_true rfl)) dX4_reckon_97 ⟨Nat.zero_le _, Nat.zero_le _⟩) hS id_2 id_1 (fun u t H locs ht hvm hw hB hz1 hk1 hS => ?_)
                    refine c00 ?_
                    obtain ⟨hP, hD⟩ := wd_back ht hB
                    clear ht hvm hB hz1 hk1
                    rw [hw] at hP hD
                    clear hw
                    obtain ⟨f1, hf1⟩ : ∃ f9 : Nat → Int32, f9 = tk (rg i_n).1 wa1.1 (rg i_n).2.1 := ⟨_, rfl⟩
                    rw [← hf1, b_i, z_i] at hP hD
                    have vf1 : rv f1 (rg i_n).2.1 (rh i_n).2.1 := ⟨n_i, fun j hj => by rw [hf1, tk_lt hj]; exact m_i.1.2 j hj⟩
                    rw [show rw_ cA ad (mg cA ad wa1 wb1 wc we rg tx tl) 3 f1 ((rg i_n).2.1) ((rh i_n).1) ((rh i_n).2.2) = mg cA ad (f1, (rg i_n).2.1, (rh i_n).1, (rh i_n).2.2) wb1 wc we rg tx tl from mg_ua (w' := (f1, (rg i_n).2.1, (rh i_n).1, (rh i_n).2.2))] at hP hD
                    refine lv_aload_n hx hb dX4_reckon_100 rfl (lv_at hl 2 rfl) ?_
                    refine lv_iload_n hx hb dX4_reckon_101 rfl (lv_at hl 4 rfl) ?_
                    refine lv_aload_n hx hb dX4_reckon_102 rfl (lv_at hl 2 rfl) ?_
                    refine rg_4_a hx hb hts in4 hown hK hP 0 (by decide) mg_0 (hts _ (by decide +kernel)) dX4_reckon_103 ?_
                    have hk8 : (rg i_n).2.1 ≤ 800 := (by omega)
                    have hkz1 : -2147483648 ≤ ((rh i_n).2.2) := (by omega)
                    have hkz2 : ((rh i_n).2.2) < 2147483648 := (by omega)
                    have hkb : ((rh i_n).1) = true → ((rh i_n).2.1) ≠ 0 := r_i.2.2.2
                    refine va_calli (va_runV (As := [.int (nI (k_n)), .ref (ad 3)]) (rest := []) ⟨hx, hb, hml, hown, hts⟩ (c_X4_keep_a l D cA tT A ad _ (wa := (f1, (rg i_n).2.1, (rh i_n).1, (rh i_n).2.2)) (wb := wb1) (wc := wc) (we := we) (rg := rg) (tx := tx) (tl := tl) (rh := rh) (k := k_n) (v := (rh i_n).2.1) hm h_k vf1 hk8 hkb hkz1 hkz2) (cwV 2 hts gX4_reckon_X4_keep rfl rfl rfl (by decide +kernel) ⟨Nat.le_of_ble_eq_true rfl, Nat.le_of_ble_eq_true rfl⟩) (wd_preV (k := 0) hP hK hD hT hS (by decide) mg_0 rfl) rfl rfl hl.1 rfl (lv_room (Nat.le_of_ble_eq_true rfl)) dX4_reckon_106 ⟨Nat.zero_le _, Nat.zero_le _⟩) hS id_2 id_1 (fun r_ u t H locs ht hvm hw hB hz1 hk1 hS => ?_)
                    refine c00 ?_
                    obtain ⟨hP, hD⟩ := wd_back ht hB
                    clear ht hvm hB hz1 hk1
                    obtain ⟨hr_, rg1, hmr, hu_⟩ := hw
                    rw [hu_] at hP hD
                    have hsp : sp_reckon rh op (k_n : Int) (i_n : Int) (j_n : Int) = kpr rh k_n ((rh i_n).1, (rh i_n).2.1, (rh i_n).2.2) := by rw [sp_reckon, if_pos (by omega), e_k, e_i, e_j, if_neg (by omega), if_neg (by omega), if_neg (by omega), if_pos (by omega), if_pos (by omega)]
                    exact W.iret hx hb hr (fun t ht hW => ⟨⟨_, _, rfl, ⟨by rw [hsp]; exact hr_, _, _, _, _, rg1, by rw [hsp]; exact hmr, rfl⟩, wd_end hP hK hD ht hW⟩, hS.F ht⟩) hS.2.2 dX4_reckon_109
                  · exact absurd p9 (by decide)
                · refine lv_iconst (v := nI (1)) hx hb dX4_reckon_57 (by decide) ?_
                  refine lv_goto (tgt := 75) hx hb dX4_reckon_58 (by decide) ?_
                  refine lv_istore (lv' := [(6, .int (nI (1))), (5, .int (iZ (cmpD (rh i_n) (rh j_n)))), (0, .ref (ad 0)), (1, .int (iZ (op))), (2, .int (nI (k_n))), (3, .int (nI (i_n))), (4, .int (nI (j_n)))]) hx hb dX4_reckon_75 hl (by decide) rfl (fun ls hl => ?_)
                  refine lv_aload_n hx hb dX4_reckon_77 rfl (lv_at hl 2 rfl) ?_
                  refine rg_4_a hx hb hts in4 hown hK hP 0 (by decide) mg_0 (hts _ (by decide +kernel)) dX4_reckon_78 ?_
                  refine lv_aload_n hx hb dX4_reckon_81 rfl (lv_at hl 2 rfl) ?_
                  refine rg_4_registers hx hb hts in4 hown hK hP 0 (by decide) mg_0 (hts _ (by decide +kernel)) dX4_reckon_82 ?_
                  refine lv_iload hx hb dX4_reckon_85 (lv_at hl 0 rfl) ?_
                  refine bz_eq (tgt := 95) hx hb dX4_reckon_87 (by decide) (by omega) (fun p9 => ?_) (fun p9 => ?_)
                  · exact absurd p9 (by decide)
                  · refine lv_iload hx hb dX4_reckon_90 (lv_at hl 6 rfl) ?_
                    refine lv_goto (tgt := 96) hx hb dX4_reckon_92 (by decide) ?_
                    refine rn_q4 hx hb hK hP 1 (by decide) mg_1 (by omega) (by decide) dX4_reckon_96 ?_
                    refine tp_v (y := .ref (ad (11 + 2 * j_n))) rfl ?_
                    refine va_callv (va_runV (As := [.ref (ad (11 + 2 * j_n))]) (rest := []) ⟨hx, hb, hml, hown, hts⟩ (c_X3_take l D cA tT A 23 ad _ _ (a := 3) (f := wa1.1) (n := wa1.2.1) (b := wa1.2.2.1) (z := wa1.2.2.2) (o := 11 + 2 * j_n) (f1 := (rg j_n).1) (n1 := (rg j_n).2.1) (b1 := (rg j_n).2.2.1) (z1 := (rg j_n).2.2.2) (by decide) mg_A (by omega) (mg_G _) (by omega) (by omega) (by omega) (by omega)) (cwV 1 hts gX4_reckon_X3_take rfl rfl rfl (by decide +kernel) ⟨Nat.le_of_ble_eq_true rfl, Nat.le_of_ble_eq_true rfl⟩) (wd_preV (k := 3) hP hK hD hT hS (by decide) mg_A.1 rfl) rfl rfl hl.1 rfl (lv_room (Nat.le_of_ble_eq_true rfl)) dX4_reckon_97 ⟨Nat.zero_le _, Nat.zero_le _⟩) hS id_2 id_1 (fun u t H locs ht hvm hw hB hz1 hk1 hS => ?_)
                    refine c00 ?_
                    obtain ⟨hP, hD⟩ := wd_back ht hB
                    clear ht hvm hB hz1 hk1
                    rw [hw] at hP hD
                    clear hw
                    obtain ⟨f1, hf1⟩ : ∃ f9 : Nat → Int32, f9 = tk (rg j_n).1 wa1.1 (rg j_n).2.1 := ⟨_, rfl⟩
                    rw [← hf1, b_j, z_j] at hP hD
                    have vf1 : rv f1 (rg j_n).2.1 (rh j_n).2.1 := ⟨n_j, fun j hj => by rw [hf1, tk_lt hj]; exact m_j.1.2 j hj⟩
                    rw [show rw_ cA ad (mg cA ad wa1 wb1 wc we rg tx tl) 3 f1 ((rg j_n).2.1) ((rh j_n).1) ((rh j_n).2.2) = mg cA ad (f1, (rg j_n).2.1, (rh j_n).1, (rh j_n).2.2) wb1 wc we rg tx tl from mg_ua (w' := (f1, (rg j_n).2.1, (rh j_n).1, (rh j_n).2.2))] at hP hD
                    refine lv_aload_n hx hb dX4_reckon_100 rfl (lv_at hl 2 rfl) ?_
                    refine lv_iload_n hx hb dX4_reckon_101 rfl (lv_at hl 4 rfl) ?_
                    refine lv_aload_n hx hb dX4_reckon_102 rfl (lv_at hl 2 rfl) ?_
                    refine rg_4_a hx hb hts in4 hown hK hP 0 (by decide) mg_0 (hts _ (by decide +kernel)) dX4_reckon_103 ?_
                    have hk8 : (rg j_n).2.1 ≤ 800 := (by omega)
                    have hkz1 : -2147483648 ≤ ((rh j_n).2.2) := (by omega)
                    have hkz2 : ((rh j_n).2.2) < 2147483648 := (by omega)
                    have hkb : ((rh j_n).1) = true → ((rh j_n).2.1) ≠ 0 := r_j.2.2.2
                    refine va_calli (va_runV (As := [.int (nI (k_n)), .ref (ad 3)]) (rest := []) ⟨hx, hb, hml, hown, hts⟩ (c_X4_keep_a l D cA tT A ad _ (wa := (f1, (rg j_n).2.1, (rh j_n).1, (rh j_n).2.2)) (wb := wb1) (wc := wc) (we := we) (rg := rg) (tx := tx) (tl := tl) (rh := rh) (k := k_n) (v := (rh j_n).2.1) hm h_k vf1 hk8 hkb hkz1 hkz2) (cwV 2 hts gX4_reckon_X4_keep rfl rfl rfl (by decide +kernel) ⟨Nat.le_of_ble_eq_true rfl, Nat.le_of_ble_eq_true rfl⟩) (wd_preV (k := 0) hP hK hD hT hS (by decide) mg_0 rfl) rfl rfl hl.1 rfl (lv_room (Nat.le_of_ble_eq_true rfl)) dX4_reckon_106 ⟨Nat.zero_le _, Nat.zero_le _⟩) hS id_2 id_1 (fun r_ u t H locs ht hvm hw hB hz1 hk1 hS => ?_)
                    refine c00 ?_
                    obtain ⟨hP, hD⟩ := wd_back ht hB
                    clear ht hvm hB hz1 hk1
                    obtain ⟨hr_, rg1, hmr, hu_⟩ := hw
                    rw [hu_] at hP hD
                    have hsp : sp_reckon rh op (k_n : Int) (i_n : Int) (j_n : Int) = kpr rh k_n ((rh j_n).1, (rh j_n).2.1, (rh j_n).2.2) := by rw [sp_reckon, if_pos (by omega), e_k, e_i, e_j, if_neg (by omega), if_neg (by omega), if_neg (by omega), if_pos (by omega), if_neg (by omega)]
                    exact W.iret hx hb hr (fun t ht hW => ⟨⟨_, _, rfl, ⟨by rw [hsp]; exact hr_, _, _, _, _, rg1, by rw [hsp]; exact hmr, rfl⟩, wd_end hP hK hD ht hW⟩, hS.F ht⟩) hS.2.2 dX4_reckon_109
          · refine lv_iconst (v := iZ (-1)) hx hb dX4_reckon_31 (by decide) ?_
            exact W.iret (v := iZ (-1)) hx hb hr (fun t ht hW => ⟨⟨iZ (-1), _, rfl, ⟨by rw [sp_reckon, if_neg (by omega)], _, _, _, _, rg, by rw [sp_reckon, if_neg (by omega)]; exact hm, rfl⟩, wd_end hP hK hD ht hW⟩, hS.F ht⟩) hS.2.2 dX4_reckon_32
