theorem mz_ {x F : Nat} (h : x ≠ 0) : x * 10 ^ F ≠ 0 := Nat.mul_ne_zero h (Nat.pos_iff_ne_zero.mp (Nat.pow_pos (by decide)))
set_option maxHeartbeats 4000000 in
set_option maxRecDepth 100000 in
/-- move -/
theorem c_X4_move (l : Launch) (D : va_G) (cA : Nat → ClassId) (tT : Nat) (A : Nat → Prop) (ad : Nat → Nat) (sz : Nat) {wa wb wc we : RWt} {rg : Nat → RWt} {tx : Nat → Int32} {tl : Nat} {rh : Nat → Bool × Nat × Int} (hm : mr rg rh) (hr9 : rks rh) {op k i n : Int} (op_1 : -2147483648 ≤ op) (op_2 : op < 2147483648) (k_1 : -2147483648 ≤ k) (k_2 : k < 2147483648) (i_1 : -2147483648 ≤ i) (i_2 : i < 2147483648) (n_1 : -2147483648 ≤ n) (n_2 : n < 2147483648) : Met l yX4_move wsX4_move ({ frames := 2, cells := 0, slots := 0, locals := 44 }) (va_Pc [.ref (ad 0), .int (iZ (op)), .int (iZ (k)), .int (iZ (i)), .int (iZ (n))] (wd_B D cA tT A 23 ad sz (mg cA ad wa wb wc we rg tx tl))) (va_Qi (fun (r : Int32) (u : Nat → va_E) => r = (sp_move rh op k i n).1 ∧ ∃ wa1 wb1 wc1 we1 rg1, mr rg1 (sp_move rh op k i n).2 ∧ u = mg cA ad wa1 wb1 wc1 we1 rg1 tx tl) (wd_E D cA A 23 ad) A) 0 0 A := by
  refine Met.ofW (cc := cX4_move) (maxL := 5) (ret := (some .int)) (by decide) rfl ?_
  intro p e s m args below meth c s₁ B hml hv
  obtain ⟨rfl, hsz, hP, hK, hD, hT⟩ := hv
  have hx := B.exec
  have hb := B.bytes
  have hr := B.returns
  have hts := atoms_spec (ws := wsX4_move) B.pre
  have hown : s.vm.findClass RX4 = some m.cls := findClass_of_methodNamed B.named
  have hlocks := B.notSynchronized
  subst hsz
  have hS : va_S A s.heap s.heap [] := va_S.rf
  have in3 : ∀ w ∈ wsX30, w ∈ wsX4_move := by decide +kernel
  have in4 : ∀ w ∈ wsX40, w ∈ wsX4_move := by decide +kernel
  have hl := lv_entry ([.ref (ad 0), .int (iZ (op)), .int (iZ (k)), .int (iZ (i)), .int (iZ (n))]) (n := 5) (Nat.le_of_ble_eq_true rfl)
  rw [lg_entry_eq]
  generalize (lg_sl ([.ref (ad 0), .int (iZ (op)), .int (iZ (k)), .int (iZ (i)), .int (iZ (n))]) ++ List.replicate (5 - (lg_sl ([.ref (ad 0), .int (iZ (op)), .int (iZ (k)), .int (iZ (i)), .int (iZ (n))])).length) Slot.unset).toArray = ls at hl ⊢
  have hl : lv_has ls 5 [(0, .ref (ad 0)), (1, .int (iZ (op))), (2, .int (iZ (k))), (3, .int (iZ (i))), (4, .int (iZ (n)))] := hl
  refine lv_iload_n hx hb dX4_move_0 rfl (lv_at hl 2 rfl) ?_
  refine va_calli (va_runS (As := [.int (iZ (k))]) (rest := []) ⟨hx, hb, hml, hown, hts⟩ (c_X4_is l D cA tT A 23 ad _ _ (k := k) (by omega) (by omega)) (va_cwS 1 hts gX4_move_X4_is rfl rfl rfl (by decide +kernel) ⟨Nat.le_of_ble_eq_true rfl, Nat.le_of_ble_eq_true rfl⟩) (wd_preS hP hK hD hT hS) rfl rfl hl.1 rfl (lv_room (Nat.le_of_ble_eq_true rfl)) dX4_move_1 ⟨Nat.zero_le _, Nat.zero_le _⟩) hS id_2 id_1 (fun r_ u t H locs ht hvm hw hB hz1 hk1 hS => ?_)
  refine c00 ?_
  obtain ⟨hP, hD⟩ := wd_back ht hB
  clear ht hvm hB hz1 hk1
  obtain ⟨hr_, hu_⟩ := hw
  subst hr_
  rw [hu_] at hP hD
  clear hu_
  refine bz_eq (tgt := 37) hx hb dX4_move_4 (by decide) it_lt (fun q_k => ?_) (fun q_k => ?_)
  · have g_k := it_eq q_k
    refine lv_iconst (v := iZ (-1)) hx hb dX4_move_37 (by decide) ?_
    exact W.iret (v := iZ (-1)) hx hb hr (fun t ht hW => ⟨⟨iZ (-1), _, rfl, ⟨by rw [sp_move, if_neg (by omega)], _, _, _, _, rg, by rw [sp_move, if_neg (by omega)]; exact hm, rfl⟩, wd_end hP hK hD ht hW⟩, hS.F ht⟩) hS.2.2 dX4_move_38
  · have g_k := it_ne q_k
    refine lv_iload_n hx hb dX4_move_7 rfl (lv_at hl 3 rfl) ?_
    refine va_calli (va_runS (As := [.int (iZ (i))]) (rest := []) ⟨hx, hb, hml, hown, hts⟩ (c_X4_is l D cA tT A 23 ad _ _ (k := i) (by omega) (by omega)) (va_cwS 1 hts gX4_move_X4_is rfl rfl rfl (by decide +kernel) ⟨Nat.le_of_ble_eq_true rfl, Nat.le_of_ble_eq_true rfl⟩) (wd_preS hP hK hD hT hS) rfl rfl hl.1 rfl (lv_room (Nat.le_of_ble_eq_true rfl)) dX4_move_8 ⟨Nat.zero_le _, Nat.zero_le _⟩) hS id_2 id_1 (fun r_ u t H locs ht hvm hw hB hz1 hk1 hS => ?_)
    refine c00 ?_
    obtain ⟨hP, hD⟩ := wd_back ht hB
    clear ht hvm hB hz1 hk1
    obtain ⟨hr_, hu_⟩ := hw
    subst hr_
    rw [hu_] at hP hD
    clear hu_
    refine bz_eq (tgt := 37) hx hb dX4_move_11 (by decide) it_lt (fun q_i => ?_) (fun q_i => ?_)
    · have g_i := it_eq q_i
      refine lv_iconst (v := iZ (-1)) hx hb dX4_move_37 (by decide) ?_
      exact W.iret (v := iZ (-1)) hx hb hr (fun t ht hW => ⟨⟨iZ (-1), _, rfl, ⟨by rw [sp_move, if_neg (by omega)], _, _, _, _, rg, by rw [sp_move, if_neg (by omega)]; exact hm, rfl⟩, wd_end hP hK hD ht hW⟩, hS.F ht⟩) hS.2.2 dX4_move_38
    · have g_i := it_ne q_i
      refine lv_iload_n hx hb dX4_move_14 rfl (lv_at hl 1 rfl) ?_
      refine by_lt (tgt := 37) hx hb dX4_move_15 (by decide) (by omega) (by omega) (fun p1 => ?_) (fun p1 => ?_)
      · refine lv_iconst (v := iZ (-1)) hx hb dX4_move_37 (by decide) ?_
        exact W.iret (v := iZ (-1)) hx hb hr (fun t ht hW => ⟨⟨iZ (-1), _, rfl, ⟨by rw [sp_move, if_neg (by omega)], _, _, _, _, rg, by rw [sp_move, if_neg (by omega)]; exact hm, rfl⟩, wd_end hP hK hD ht hW⟩, hS.F ht⟩) hS.2.2 dX4_move_38
      · refine lv_iload_n hx hb dX4_move_18 rfl (lv_at hl 1 rfl) ?_
        refine lv_iconst (v := nI (1)) hx hb dX4_move_19 (by decide) ?_
        refine tp_i (y := iZ ((1 : Nat) : Int)) (iZ_nat _) ?_
        refine bs_gt (tgt := 37) hx hb dX4_move_20 (by decide) (by omega) (by omega) (by omega) (by omega) (fun p2 => ?_) (fun p2 => ?_)
        · refine lv_iconst (v := iZ (-1)) hx hb dX4_move_37 (by decide) ?_
          exact W.iret (v := iZ (-1)) hx hb hr (fun t ht hW => ⟨⟨iZ (-1), _, rfl, ⟨by rw [sp_move, if_neg (by omega)], _, _, _, _, rg, by rw [sp_move, if_neg (by omega)]; exact hm, rfl⟩, wd_end hP hK hD ht hW⟩, hS.F ht⟩) hS.2.2 dX4_move_38
        · refine lv_iload hx hb dX4_move_23 (lv_at hl 4 rfl) ?_
          refine lv_bipush (v := iZ (-12)) hx hb dX4_move_25 (by decide) ?_
          refine bs_lt (tgt := 37) hx hb dX4_move_27 (by decide) (by omega) (by omega) (by omega) (by omega) (fun p3 => ?_) (fun p3 => ?_)
          · refine lv_iconst (v := iZ (-1)) hx hb dX4_move_37 (by decide) ?_
            exact W.iret (v := iZ (-1)) hx hb hr (fun t ht hW => ⟨⟨iZ (-1), _, rfl, ⟨by rw [sp_move, if_neg (by omega)], _, _, _, _, rg, by rw [sp_move, if_neg (by omega)]; exact hm, rfl⟩, wd_end hP hK hD ht hW⟩, hS.F ht⟩) hS.2.2 dX4_move_38
          · refine lv_iload hx hb dX4_move_30 (lv_at hl 4 rfl) ?_
            refine lv_bipush (v := nI (12)) hx hb dX4_move_32 (by decide) ?_
            refine tp_i (y := iZ ((12 : Nat) : Int)) (iZ_nat _) ?_
            refine bs_le (tgt := 39) hx hb dX4_move_34 (by decide) (by omega) (by omega) (by omega) (by omega) (fun p4 => ?_) (fun p4 => ?_)
            · obtain ⟨k_n, h_k, rfl⟩ : ∃ n : Nat, n < 6 ∧ k = (n : Int) := ⟨k.toNat, by omega, by omega⟩
              rw [← iZ_nat k_n] at hl
              have e_k : ((k_n : Nat) : Int).toNat = k_n := Int.toNat_natCast k_n
              obtain ⟨i_n, h_i, rfl⟩ : ∃ n : Nat, n < 6 ∧ i = (n : Int) := ⟨i.toNat, by omega, by omega⟩
              rw [← iZ_nat i_n] at hl
              have e_i : ((i_n : Nat) : Int).toNat = i_n := Int.toNat_natCast i_n
              have m_k := hm k_n h_k
              have n_k : (rg k_n).2.1 = nd_p (rh k_n).2.1 := m_k.1.1
              have b_k : (rg k_n).2.2.1 = (rh k_n).1 := by rw [m_k.2]
              have z_k : (rg k_n).2.2.2 = (rh k_n).2.2 := by rw [m_k.2]
              have r_k := hr9 k_n h_k
              simp only [rk] at r_k
              have p_k := p190 r_k.1
              have t_k := tn_le (rh k_n).1
              have m_i := hm i_n h_i
              have n_i : (rg i_n).2.1 = nd_p (rh i_n).2.1 := m_i.1.1
              have b_i : (rg i_n).2.2.1 = (rh i_n).1 := by rw [m_i.2]
              have z_i : (rg i_n).2.2.2 = (rh i_n).2.2 := by rw [m_i.2]
              have r_i := hr9 i_n h_i
              simp only [rk] at r_i
              have p_i := p190 r_i.1
              have t_i := tn_le (rh i_n).1
              refine lv_aload_n hx hb dX4_move_39 rfl (lv_at hl 0 rfl) ?_
              refine rg_4_a hx hb hts in4 hown hK hP 0 (by decide) mg_0 (hts _ (by decide +kernel)) dX4_move_40 ?_
              refine lv_aload_n hx hb dX4_move_43 rfl (lv_at hl 0 rfl) ?_
              refine rg_4_registers hx hb hts in4 hown hK hP 0 (by decide) mg_0 (hts _ (by decide +kernel)) dX4_move_44 ?_
              refine lv_iload_n hx hb dX4_move_47 rfl (lv_at hl 3 rfl) ?_
              refine rn_q4 hx hb hK hP 1 (by decide) mg_1 (by omega) (by decide) dX4_move_48 ?_
              refine tp_v (y := .ref (ad (11 + 2 * i_n))) rfl ?_
              refine va_callv (va_runV (As := [.ref (ad (11 + 2 * i_n))]) (rest := []) ⟨hx, hb, hml, hown, hts⟩ (c_X3_take l D cA tT A 23 ad _ _ (a := 3) (f := wa.1) (n := wa.2.1) (b := wa.2.2.1) (z := wa.2.2.2) (o := 11 + 2 * i_n) (f1 := (rg i_n).1) (n1 := (rg i_n).2.1) (b1 := (rg i_n).2.2.1) (z1 := (rg i_n).2.2.2) (by decide) mg_A (by omega) (mg_G _) (by omega) (by omega) (by omega) (by omega)) (cwV 1 hts gX4_move_X3_take rfl rfl rfl (by decide +kernel) ⟨Nat.le_of_ble_eq_true rfl, Nat.le_of_ble_eq_true rfl⟩) (wd_preV (k := 3) hP hK hD hT hS (by decide) mg_A.1 rfl) rfl rfl hl.1 rfl (lv_room (Nat.le_of_ble_eq_true rfl)) dX4_move_49 ⟨Nat.zero_le _, Nat.zero_le _⟩) hS id_2 id_1 (fun u t H locs ht hvm hw hB hz1 hk1 hS => ?_)
              refine c00 ?_
              obtain ⟨hP, hD⟩ := wd_back ht hB
              clear ht hvm hB hz1 hk1
              rw [hw] at hP hD
              clear hw
              obtain ⟨f1, hf1⟩ : ∃ f9 : Nat → Int32, f9 = tk (rg i_n).1 wa.1 (rg i_n).2.1 := ⟨_, rfl⟩
              rw [← hf1, b_i, z_i] at hP hD
              have vf1 : rv f1 (rg i_n).2.1 (rh i_n).2.1 := ⟨n_i, fun j hj => by rw [hf1, tk_lt hj]; exact m_i.1.2 j hj⟩
              rw [show rw_ cA ad (mg cA ad wa wb wc we rg tx tl) 3 f1 ((rg i_n).2.1) ((rh i_n).1) ((rh i_n).2.2) = mg cA ad (f1, (rg i_n).2.1, (rh i_n).1, (rh i_n).2.2) wb wc we rg tx tl from mg_ua (w' := (f1, (rg i_n).2.1, (rh i_n).1, (rh i_n).2.2))] at hP hD
              refine lv_aload_n hx hb dX4_move_52 rfl (lv_at hl 0 rfl) ?_
              refine rg_4_a hx hb hts in4 hown hK hP 0 (by decide) mg_0 (hts _ (by decide +kernel)) dX4_move_53 ?_
              refine lv_dup hx hb dX4_move_56 rfl ?_
              refine rg_3_scale hx hb hts in3 hown hK hP 3 (by omega) mg_A.1 (hts _ (by decide +kernel)) dX4_move_57 ?_
              refine tp_i (y := iZ ((rh i_n).2.2)) rfl ?_
              refine lv_iload hx hb dX4_move_60 (lv_at hl 4 rfl) ?_
              refine lv_isub hx hb dX4_move_62 ?_
              refine tp_i (y := iZ (((rh i_n).2.2) - n)) (iZ_sub _ _) ?_
              refine rp_3_scale hx hb hts in3 hown hK hP hD hS 3 (by omega) mg_A.1 (hts _ (by decide +kernel)) rfl rfl dX4_move_63 (fun H locs hP hD hS => ?_)
              rw [mg_pa ((rg i_n).2.1) ((rh i_n).1) (((rh i_n).2.2) - n) (v := nI (((rh i_n).1).toNat)) rfl] at hP hD
              refine lv_iload_n hx hb dX4_move_66 rfl (lv_at hl 1 rfl) ?_
              refine lv_iconst (v := nI (1)) hx hb dX4_move_67 (by decide) ?_
              refine tp_i (y := iZ ((1 : Nat) : Int)) (iZ_nat _) ?_
              refine bs_ne (tgt := 104) hx hb dX4_move_68 (by decide) (by omega) (by omega) (by omega) (by omega) (fun p5 => ?_) (fun p5 => ?_)
              · refine lv_aload_n hx hb dX4_move_104 rfl (lv_at hl 0 rfl) ?_
                refine lv_iload_n hx hb dX4_move_105 rfl (lv_at hl 2 rfl) ?_
                refine lv_aload_n hx hb dX4_move_106 rfl (lv_at hl 0 rfl) ?_
                refine rg_4_a hx hb hts in4 hown hK hP 0 (by decide) mg_0 (hts _ (by decide +kernel)) dX4_move_107 ?_
                have hk8 : (rg i_n).2.1 ≤ 800 := (by omega)
                have hkz1 : -2147483648 ≤ (((rh i_n).2.2) - n) := (by omega)
                have hkz2 : (((rh i_n).2.2) - n) < 2147483648 := (by omega)
                have hkb : ((rh i_n).1) = true → ((rh i_n).2.1) ≠ 0 := r_i.2.2.2
                refine va_calli (va_runV (As := [.int (nI (k_n)), .ref (ad 3)]) (rest := []) ⟨hx, hb, hml, hown, hts⟩ (c_X4_keep_a l D cA tT A ad _ (wa := (f1, (rg i_n).2.1, (rh i_n).1, ((rh i_n).2.2) - n)) (wb := wb) (wc := wc) (we := we) (rg := rg) (tx := tx) (tl := tl) (rh := rh) (k := k_n) (v := (rh i_n).2.1) hm h_k vf1 hk8 hkb hkz1 hkz2) (cwV 2 hts gX4_move_X4_keep rfl rfl rfl (by decide +kernel) ⟨Nat.le_of_ble_eq_true rfl, Nat.le_of_ble_eq_true rfl⟩) (wd_preV (k := 0) hP hK hD hT hS (by decide) mg_0 rfl) rfl rfl hl.1 rfl (lv_room (Nat.le_of_ble_eq_true rfl)) dX4_move_110 ⟨Nat.zero_le _, Nat.zero_le _⟩) hS id_2 id_1 (fun r_ u t H locs ht hvm hw hB hz1 hk1 hS => ?_)
                refine c00 ?_
                obtain ⟨hP, hD⟩ := wd_back ht hB
                clear ht hvm hB hz1 hk1
                obtain ⟨hr_, rg1, hmr, hu_⟩ := hw
                rw [hu_] at hP hD
                have hsp : sp_move rh op (k_n : Int) (i_n : Int) n = kpr rh k_n ((rh i_n).1, (rh i_n).2.1, ((rh i_n).2.2) - n) := by rw [sp_move, if_pos (by omega), e_k, e_i, if_neg (by omega)]
                exact W.iret hx hb hr (fun t ht hW => ⟨⟨_, _, rfl, ⟨by rw [hsp]; exact hr_, _, _, _, _, rg1, by rw [hsp]; exact hmr, rfl⟩, wd_end hP hK hD ht hW⟩, hS.F ht⟩) hS.2.2 dX4_move_113
              · refine lv_aload_n hx hb dX4_move_71 rfl (lv_at hl 0 rfl) ?_
                refine rg_4_a hx hb hts in4 hown hK hP 0 (by decide) mg_0 (hts _ (by decide +kernel)) dX4_move_72 ?_
                refine rg_3_scale hx hb hts in3 hown hK hP 3 (by omega) mg_A.1 (hts _ (by decide +kernel)) dX4_move_75 ?_
                refine tp_i (y := iZ (((rh i_n).2.2) - n)) rfl ?_
                refine by_ge (tgt := 104) hx hb dX4_move_78 (by decide) (by omega) (by omega) (fun p6 => ?_) (fun p6 => ?_)
                · refine lv_aload_n hx hb dX4_move_104 rfl (lv_at hl 0 rfl) ?_
                  refine lv_iload_n hx hb dX4_move_105 rfl (lv_at hl 2 rfl) ?_
                  refine lv_aload_n hx hb dX4_move_106 rfl (lv_at hl 0 rfl) ?_
                  refine rg_4_a hx hb hts in4 hown hK hP 0 (by decide) mg_0 (hts _ (by decide +kernel)) dX4_move_107 ?_
                  have hk8 : (rg i_n).2.1 ≤ 800 := (by omega)
                  have hkz1 : -2147483648 ≤ (((rh i_n).2.2) - n) := (by omega)
                  have hkz2 : (((rh i_n).2.2) - n) < 2147483648 := (by omega)
                  have hkb : ((rh i_n).1) = true → ((rh i_n).2.1) ≠ 0 := r_i.2.2.2
                  refine va_calli (va_runV (As := [.int (nI (k_n)), .ref (ad 3)]) (rest := []) ⟨hx, hb, hml, hown, hts⟩ (c_X4_keep_a l D cA tT A ad _ (wa := (f1, (rg i_n).2.1, (rh i_n).1, ((rh i_n).2.2) - n)) (wb := wb) (wc := wc) (we := we) (rg := rg) (tx := tx) (tl := tl) (rh := rh) (k := k_n) (v := (rh i_n).2.1) hm h_k vf1 hk8 hkb hkz1 hkz2) (cwV 2 hts gX4_move_X4_keep rfl rfl rfl (by decide +kernel) ⟨Nat.le_of_ble_eq_true rfl, Nat.le_of_ble_eq_true rfl⟩) (wd_preV (k := 0) hP hK hD hT hS (by decide) mg_0 rfl) rfl rfl hl.1 rfl (lv_room (Nat.le_of_ble_eq_true rfl)) dX4_move_110 ⟨Nat.zero_le _, Nat.zero_le _⟩) hS id_2 id_1 (fun r_ u t H locs ht hvm hw hB hz1 hk1 hS => ?_)
                  refine c00 ?_
                  obtain ⟨hP, hD⟩ := wd_back ht hB
                  clear ht hvm hB hz1 hk1
                  obtain ⟨hr_, rg1, hmr, hu_⟩ := hw
                  rw [hu_] at hP hD
                  have hsp : sp_move rh op (k_n : Int) (i_n : Int) n = kpr rh k_n ((rh i_n).1, (rh i_n).2.1, ((rh i_n).2.2) - n) := by rw [sp_move, if_pos (by omega), e_k, e_i, if_neg (by omega)]
                  exact W.iret hx hb hr (fun t ht hW => ⟨⟨_, _, rfl, ⟨by rw [hsp]; exact hr_, _, _, _, _, rg1, by rw [hsp]; exact hmr, rfl⟩, wd_end hP hK hD ht hW⟩, hS.F ht⟩) hS.2.2 dX4_move_113
                · refine lv_aload_n hx hb dX4_move_81 rfl (lv_at hl 0 rfl) ?_
                  refine rg_4_a hx hb hts in4 hown hK hP 0 (by decide) mg_0 (hts _ (by decide +kernel)) dX4_move_82 ?_
                  refine lv_aload_n hx hb dX4_move_85 rfl (lv_at hl 0 rfl) ?_
                  refine rg_4_a hx hb hts in4 hown hK hP 0 (by decide) mg_0 (hts _ (by decide +kernel)) dX4_move_86 ?_
                  refine rg_3_scale hx hb hts in3 hown hK hP 3 (by omega) mg_A.1 (hts _ (by decide +kernel)) dX4_move_89 ?_
                  refine tp_i (y := iZ (((rh i_n).2.2) - n)) rfl ?_
                  refine lv_ineg hx hb dX4_move_92 ?_
                  refine tp_i (y := iZ (-(((rh i_n).2.2) - n))) (iZ_neg _) ?_
                  refine tp_i (y := nI ((-((rh i_n).2.2 - n)).toNat)) (iZ_tn (by omega)) ?_
                  refine va_callv (va_runV (As := [.int (nI ((-((rh i_n).2.2 - n)).toNat))]) (rest := []) ⟨hx, hb, hml, hown, hts⟩ (c_X3_up l D cA tT A 23 ad _ _ (a := 3) (f := f1) (n := (rg i_n).2.1) (b := (rh i_n).1) (z := ((rh i_n).2.2) - n) (v := (rh i_n).2.1) (F := (-((rh i_n).2.2 - n)).toNat) (by decide) mg_A vf1 (by omega)) (cwV 1 hts gX4_move_X3_up rfl rfl rfl (by decide +kernel) ⟨Nat.le_of_ble_eq_true rfl, Nat.le_of_ble_eq_true rfl⟩) (wd_preV (k := 3) hP hK hD hT hS (by decide) mg_A.1 rfl) rfl rfl hl.1 rfl (lv_room (Nat.le_of_ble_eq_true rfl)) dX4_move_93 ⟨Nat.zero_le _, Nat.zero_le _⟩) hS id_2 id_1 (fun u t H locs ht hvm hw hB hz1 hk1 hS => ?_)
                  refine c00 ?_
                  obtain ⟨hP, hD⟩ := wd_back ht hB
                  clear ht hvm hB hz1 hk1
                  obtain ⟨f3, nf3, vf3, lf3, hu_⟩ := hw
                  rw [hu_] at hP hD
                  clear hu_
                  rw [show rw_ cA ad (mg cA ad (f1, (rg i_n).2.1, (rh i_n).1, ((rh i_n).2.2) - n) wb wc we rg tx tl) 3 f3 nf3 ((rh i_n).1) (((rh i_n).2.2) - n) = mg cA ad (f3, nf3, (rh i_n).1, ((rh i_n).2.2) - n) wb wc we rg tx tl from mg_ua (w' := (f3, nf3, (rh i_n).1, ((rh i_n).2.2) - n))] at hP hD
                  refine lv_aload_n hx hb dX4_move_96 rfl (lv_at hl 0 rfl) ?_
                  refine rg_4_a hx hb hts in4 hown hK hP 0 (by decide) mg_0 (hts _ (by decide +kernel)) dX4_move_97 ?_
                  refine lv_iconst (v := nI (0)) hx hb dX4_move_100 (by decide) ?_
                  refine tp_i (y := iZ ((0 : Nat) : Int)) (iZ_nat _) ?_
                  refine rp_3_scale hx hb hts in3 hown hK hP hD hS 3 (by omega) mg_A.1 (hts _ (by decide +kernel)) rfl rfl dX4_move_101 (fun H locs hP hD hS => ?_)
                  rw [mg_pa nf3 ((rh i_n).1) (((0 : Nat) : Int)) (v := nI (((rh i_n).1).toNat)) rfl] at hP hD
                  refine lv_aload_n hx hb dX4_move_104 rfl (lv_at hl 0 rfl) ?_
                  refine lv_iload_n hx hb dX4_move_105 rfl (lv_at hl 2 rfl) ?_
                  refine lv_aload_n hx hb dX4_move_106 rfl (lv_at hl 0 rfl) ?_
                  refine rg_4_a hx hb hts in4 hown hK hP 0 (by decide) mg_0 (hts _ (by decide +kernel)) dX4_move_107 ?_
                  have hk8 : nf3 ≤ 800 := (by omega)
                  have hkz1 : -2147483648 ≤ ((0 : Nat) : Int) := (by omega)
                  have hkz2 : ((0 : Nat) : Int) < 2147483648 := (by omega)
                  have hkb : ((rh i_n).1) = true → ((rh i_n).2.1 * 10 ^ (-((rh i_n).2.2 - n)).toNat) ≠ 0 := fun h => mz_ (r_i.2.2.2 h)
                  refine va_calli (va_runV (As := [.int (nI (k_n)), .ref (ad 3)]) (rest := []) ⟨hx, hb, hml, hown, hts⟩ (c_X4_keep_a l D cA tT A ad _ (wa := (f3, nf3, (rh i_n).1, ((0 : Nat) : Int))) (wb := wb) (wc := wc) (we := we) (rg := rg) (tx := tx) (tl := tl) (rh := rh) (k := k_n) (v := (rh i_n).2.1 * 10 ^ (-((rh i_n).2.2 - n)).toNat) hm h_k vf3 hk8 hkb hkz1 hkz2) (cwV 2 hts gX4_move_X4_keep rfl rfl rfl (by decide +kernel) ⟨Nat.le_of_ble_eq_true rfl, Nat.le_of_ble_eq_true rfl⟩) (wd_preV (k := 0) hP hK hD hT hS (by decide) mg_0 rfl) rfl rfl hl.1 rfl (lv_room (Nat.le_of_ble_eq_true rfl)) dX4_move_110 ⟨Nat.zero_le _, Nat.zero_le _⟩) hS id_2 id_1 (fun r_ u t H locs ht hvm hw hB hz1 hk1 hS => ?_)
                  refine c00 ?_
                  obtain ⟨hP, hD⟩ := wd_back ht hB
                  clear ht hvm hB hz1 hk1
                  obtain ⟨hr_, rg1, hmr, hu_⟩ := hw
                  rw [hu_] at hP hD
                  have hsp : sp_move rh op (k_n : Int) (i_n : Int) n = kpr rh k_n ((rh i_n).1, (rh i_n).2.1 * 10 ^ (-((rh i_n).2.2 - n)).toNat, ((0 : Nat) : Int)) := by rw [sp_move, if_pos (by omega), e_k, e_i, if_pos (by omega)]; rfl
                  exact W.iret hx hb hr (fun t ht hW => ⟨⟨_, _, rfl, ⟨by rw [hsp]; exact hr_, _, _, _, _, rg1, by rw [hsp]; exact hmr, rfl⟩, wd_end hP hK hD ht hW⟩, hS.F ht⟩) hS.2.2 dX4_move_113
            · refine lv_iconst (v := iZ (-1)) hx hb dX4_move_37 (by decide) ?_
              exact W.iret (v := iZ (-1)) hx hb hr (fun t ht hW => ⟨⟨iZ (-1), _, rfl, ⟨by rw [sp_move, if_neg (by omega)], _, _, _, _, rg, by rw [sp_move, if_neg (by omega)]; exact hm, rfl⟩, wd_end hP hK hD ht hW⟩, hS.F ht⟩) hS.2.2 dX4_move_38
