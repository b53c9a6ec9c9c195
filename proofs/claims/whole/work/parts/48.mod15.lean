theorem part_r {d1 d2 : Bool × Nat × Int} {X Y : Nat} (h : X = aX d1 d2 ∧ Y = aX d2 d1) (hY : Y ≠ 0) (h1 : d1.2.1 < 10 ^ 190) (h2 : d2.2.1 < 10 ^ 190) : nd_p (X % Y) ≤ 190 := by
  obtain ⟨rfl, rfl⟩ := h
  refine (nd_p_le (by decide)).mpr ?_
  have hm := Nat.mod_lt (aX d1 d2) (Nat.pos_of_ne_zero hY)
  rcases Int.le_total d2.2.2 d1.2.2 with r | r
  · have e : aX d1 d2 = d1.2.1 := by rw [aX, show (d2.2.2 - d1.2.2).toNat = 0 by omega, Nat.pow_zero, Nat.mul_one]
    refine Nat.lt_of_le_of_lt (Nat.mod_le _ _) ?_
    rw [e]; exact h1
  · have e : aX d2 d1 = d2.2.1 := by rw [aX, show (d1.2.2 - d2.2.2).toNat = 0 by omega, Nat.pow_zero, Nat.mul_one]
    refine Nat.lt_trans hm ?_
    rw [e]; exact h2
set_option maxHeartbeats 4000000 in
set_option maxRecDepth 100000 in
/-- part -/
theorem c_X4_part (l : Launch) (D : va_G) (cA : Nat → ClassId) (tT : Nat) (A : Nat → Prop) (ad : Nat → Nat) (sz : Nat) {wa wb wc we : RWt} {rg : Nat → RWt} {tx : Nat → Int32} {tl : Nat} {rh : Nat → Bool × Nat × Int} (hm : mr rg rh) (hr9 : rks rh) {q o i j : Int} (q_1 : -2147483648 ≤ q) (q_2 : q < 2147483648) (o_1 : -2147483648 ≤ o) (o_2 : o < 2147483648) (i_1 : -2147483648 ≤ i) (i_2 : i < 2147483648) (j_1 : -2147483648 ≤ j) (j_2 : j < 2147483648) : Met l yX4_part wsX4_part ({ frames := 3, cells := 0, slots := 0, locals := 65 }) (va_Pc [.ref (ad 0), .int (iZ (q)), .int (iZ (o)), .int (iZ (i)), .int (iZ (j))] (wd_B D cA tT A 23 ad sz (mg cA ad wa wb wc we rg tx tl))) (va_Qi (fun (r : Int32) (u : Nat → va_E) => r = (sp_part rh q o i j).1 ∧ ∃ wa1 wb1 wc1 we1 rg1, mr rg1 (sp_part rh q o i j).2 ∧ u = mg cA ad wa1 wb1 wc1 we1 rg1 tx tl) (wd_E D cA A 23 ad) A) 0 0 A := by
  refine Met.ofW (cc := cX4_part) (maxL := 7) (ret := (some .int)) (by decide) rfl ?_
  intro p e s m args below meth c s₁ B hml hv
  obtain ⟨rfl, hsz, hP, hK, hD, hT⟩ := hv
  have hx := B.exec
  have hb := B.bytes
  have hr := B.returns
  have hts := atoms_spec (ws := wsX4_part) B.pre
  have hown : s.vm.findClass RX4 = some m.cls := findClass_of_methodNamed B.named
  have hlocks := B.notSynchronized
  subst hsz
  have hS : va_S A s.heap s.heap [] := va_S.rf
  have in3 : ∀ w ∈ wsX30, w ∈ wsX4_part := by decide +kernel
  have in4 : ∀ w ∈ wsX40, w ∈ wsX4_part := by decide +kernel
  have hl := lv_entry ([.ref (ad 0), .int (iZ (q)), .int (iZ (o)), .int (iZ (i)), .int (iZ (j))]) (n := 7) (Nat.le_of_ble_eq_true rfl)
  rw [lg_entry_eq]
  generalize (lg_sl ([.ref (ad 0), .int (iZ (q)), .int (iZ (o)), .int (iZ (i)), .int (iZ (j))]) ++ List.replicate (7 - (lg_sl ([.ref (ad 0), .int (iZ (q)), .int (iZ (o)), .int (iZ (i)), .int (iZ (j))])).length) Slot.unset).toArray = ls at hl ⊢
  have hl : lv_has ls 7 [(0, .ref (ad 0)), (1, .int (iZ (q))), (2, .int (iZ (o))), (3, .int (iZ (i))), (4, .int (iZ (j)))] := hl
  refine lv_iload_n hx hb dX4_part_0 rfl (lv_at hl 1 rfl) ?_
  refine va_calli (va_runS (As := [.int (iZ (q))]) (rest := []) ⟨hx, hb, hml, hown, hts⟩ (c_X4_is l D cA tT A 23 ad _ _ (k := q) (by omega) (by omega)) (va_cwS 1 hts gX4_part_X4_is rfl rfl rfl (by decide +kernel) ⟨Nat.le_of_ble_eq_true rfl, Nat.le_of_ble_eq_true rfl⟩) (wd_preS hP hK hD hT hS) rfl rfl hl.1 rfl (lv_room (Nat.le_of_ble_eq_true rfl)) dX4_part_1 ⟨Nat.zero_le _, Nat.zero_le _⟩) hS id_2 id_1 (fun r_ u t H locs ht hvm hw hB hz1 hk1 hS => ?_)
  refine c00 ?_
  obtain ⟨hP, hD⟩ := wd_back ht hB
  clear ht hvm hB hz1 hk1
  obtain ⟨hr_, hu_⟩ := hw
  subst hr_
  rw [hu_] at hP hD
  clear hu_
  refine bz_eq (tgt := 34) hx hb dX4_part_4 (by decide) it_lt (fun q_q => ?_) (fun q_q => ?_)
  · have g_q := it_eq q_q
    refine lv_iconst (v := iZ (-1)) hx hb dX4_part_34 (by decide) ?_
    exact W.iret (v := iZ (-1)) hx hb hr (fun t ht hW => ⟨⟨iZ (-1), _, rfl, ⟨by rw [sp_part, if_neg (by omega)], _, _, _, _, rg, by rw [sp_part, if_neg (by omega)]; exact hm, rfl⟩, wd_end hP hK hD ht hW⟩, hS.F ht⟩) hS.2.2 dX4_part_35
  · have g_q := it_ne q_q
    refine lv_iload_n hx hb dX4_part_7 rfl (lv_at hl 2 rfl) ?_
    refine va_calli (va_runS (As := [.int (iZ (o))]) (rest := []) ⟨hx, hb, hml, hown, hts⟩ (c_X4_is l D cA tT A 23 ad _ _ (k := o) (by omega) (by omega)) (va_cwS 1 hts gX4_part_X4_is rfl rfl rfl (by decide +kernel) ⟨Nat.le_of_ble_eq_true rfl, Nat.le_of_ble_eq_true rfl⟩) (wd_preS hP hK hD hT hS) rfl rfl hl.1 rfl (lv_room (Nat.le_of_ble_eq_true rfl)) dX4_part_8 ⟨Nat.zero_le _, Nat.zero_le _⟩) hS id_2 id_1 (fun r_ u t H locs ht hvm hw hB hz1 hk1 hS => ?_)
    refine c00 ?_
    obtain ⟨hP, hD⟩ := wd_back ht hB
    clear ht hvm hB hz1 hk1
    obtain ⟨hr_, hu_⟩ := hw
    subst hr_
    rw [hu_] at hP hD
    clear hu_
    refine bz_eq (tgt := 34) hx hb dX4_part_11 (by decide) it_lt (fun q_o => ?_) (fun q_o => ?_)
    · have g_o := it_eq q_o
      refine lv_iconst (v := iZ (-1)) hx hb dX4_part_34 (by decide) ?_
      exact W.iret (v := iZ (-1)) hx hb hr (fun t ht hW => ⟨⟨iZ (-1), _, rfl, ⟨by rw [sp_part, if_neg (by omega)], _, _, _, _, rg, by rw [sp_part, if_neg (by omega)]; exact hm, rfl⟩, wd_end hP hK hD ht hW⟩, hS.F ht⟩) hS.2.2 dX4_part_35
    · have g_o := it_ne q_o
      refine lv_iload_n hx hb dX4_part_14 rfl (lv_at hl 3 rfl) ?_
      refine va_calli (va_runS (As := [.int (iZ (i))]) (rest := []) ⟨hx, hb, hml, hown, hts⟩ (c_X4_is l D cA tT A 23 ad _ _ (k := i) (by omega) (by omega)) (va_cwS 1 hts gX4_part_X4_is rfl rfl rfl (by decide +kernel) ⟨Nat.le_of_ble_eq_true rfl, Nat.le_of_ble_eq_true rfl⟩) (wd_preS hP hK hD hT hS) rfl rfl hl.1 rfl (lv_room (Nat.le_of_ble_eq_true rfl)) dX4_part_15 ⟨Nat.zero_le _, Nat.zero_le _⟩) hS id_2 id_1 (fun r_ u t H locs ht hvm hw hB hz1 hk1 hS => ?_)
      refine c00 ?_
      obtain ⟨hP, hD⟩ := wd_back ht hB
      clear ht hvm hB hz1 hk1
      obtain ⟨hr_, hu_⟩ := hw
      subst hr_
      rw [hu_] at hP hD
      clear hu_
      refine bz_eq (tgt := 34) hx hb dX4_part_18 (by decide) it_lt (fun q_i => ?_) (fun q_i => ?_)
      · have g_i := it_eq q_i
        refine lv_iconst (v := iZ (-1)) hx hb dX4_part_34 (by decide) ?_
        exact W.iret (v := iZ (-1)) hx hb hr (fun t ht hW => ⟨⟨iZ (-1), _, rfl, ⟨by rw [sp_part, if_neg (by omega)], _, _, _, _, rg, by rw [sp_part, if_neg (by omega)]; exact hm, rfl⟩, wd_end hP hK hD ht hW⟩, hS.F ht⟩) hS.2.2 dX4_part_35
      · have g_i := it_ne q_i
        refine lv_iload hx hb dX4_part_21 (lv_at hl 4 rfl) ?_
        refine va_calli (va_runS (As := [.int (iZ (j))]) (rest := []) ⟨hx, hb, hml, hown, hts⟩ (c_X4_is l D cA tT A 23 ad _ _ (k := j) (by omega) (by omega)) (va_cwS 1 hts gX4_part_X4_is rfl rfl rfl (by decide +kernel) ⟨Nat.le_of_ble_eq_true rfl, Nat.le_of_ble_eq_true rfl⟩) (wd_preS hP hK hD hT hS) rfl rfl hl.1 rfl (lv_room (Nat.le_of_ble_eq_true rfl)) dX4_part_23 ⟨Nat.zero_le _, Nat.zero_le _⟩) hS id_2 id_1 (fun r_ u t H locs ht hvm hw hB hz1 hk1 hS => ?_)
        refine c00 ?_
        obtain ⟨hP, hD⟩ := wd_back ht hB
        clear ht hvm hB hz1 hk1
        obtain ⟨hr_, hu_⟩ := hw
        subst hr_
        rw [hu_] at hP hD
        clear hu_
        refine bz_eq (tgt := 34) hx hb dX4_part_26 (by decide) it_lt (fun q_j => ?_) (fun q_j => ?_)
        · have g_j := it_eq q_j
          refine lv_iconst (v := iZ (-1)) hx hb dX4_part_34 (by decide) ?_
          exact W.iret (v := iZ (-1)) hx hb hr (fun t ht hW => ⟨⟨iZ (-1), _, rfl, ⟨by rw [sp_part, if_neg (by omega)], _, _, _, _, rg, by rw [sp_part, if_neg (by omega)]; exact hm, rfl⟩, wd_end hP hK hD ht hW⟩, hS.F ht⟩) hS.2.2 dX4_part_35
        · have g_j := it_ne q_j
          refine lv_iload_n hx hb dX4_part_29 rfl (lv_at hl 1 rfl) ?_
          refine lv_iload_n hx hb dX4_part_30 rfl (lv_at hl 2 rfl) ?_
          refine bs_ne (tgt := 36) hx hb dX4_part_31 (by decide) (by omega) (by omega) (by omega) (by omega) (fun p1 => ?_) (fun p1 => ?_)
          · obtain ⟨q_n, h_q, rfl⟩ : ∃ n : Nat, n < 6 ∧ q = (n : Int) := ⟨q.toNat, by omega, by omega⟩
            rw [← iZ_nat q_n] at hl
            have e_q : ((q_n : Nat) : Int).toNat = q_n := Int.toNat_natCast q_n
            obtain ⟨o_n, h_o, rfl⟩ : ∃ n : Nat, n < 6 ∧ o = (n : Int) := ⟨o.toNat, by omega, by omega⟩
            rw [← iZ_nat o_n] at hl
            have e_o : ((o_n : Nat) : Int).toNat = o_n := Int.toNat_natCast o_n
            obtain ⟨i_n, h_i, rfl⟩ : ∃ n : Nat, n < 6 ∧ i = (n : Int) := ⟨i.toNat, by omega, by omega⟩
            rw [← iZ_nat i_n] at hl
            have e_i : ((i_n : Nat) : Int).toNat = i_n := Int.toNat_natCast i_n
            obtain ⟨j_n, h_j, rfl⟩ : ∃ n : Nat, n < 6 ∧ j = (n : Int) := ⟨j.toNat, by omega, by omega⟩
            rw [← iZ_nat j_n] at hl
            have e_j : ((j_n : Nat) : Int).toNat = j_n := Int.toNat_natCast j_n
            have m_q := hm q_n h_q
            have n_q : (rg q_n).2.1 = nd_p (rh q_n).2.1 := m_q.1.1
            have b_q : (rg q_n).2.2.1 = (rh q_n).1 := by rw [m_q.2]
            have z_q : (rg q_n).2.2.2 = (rh q_n).2.2 := by rw [m_q.2]
            have r_q := hr9 q_n h_q
            simp only [rk] at r_q
            have p_q := p190 r_q.1
            have t_q := tn_le (rh q_n).1
            have m_o := hm o_n h_o
            have n_o : (rg o_n).2.1 = nd_p (rh o_n).2.1 := m_o.1.1
            have b_o : (rg o_n).2.2.1 = (rh o_n).1 := by rw [m_o.2]
            have z_o : (rg o_n).2.2.2 = (rh o_n).2.2 := by rw [m_o.2]
            have r_o := hr9 o_n h_o
            simp only [rk] at r_o
            have p_o := p190 r_o.1
            have t_o := tn_le (rh o_n).1
            have m_i := hm i_n h_i
            have n_i : (rg i_n).2.1 = nd_p (rh i_n).2.1 := m_i.1.1
            have b_i : (rg i_n).2.2.1 = (rh i_n).1 := by rw [m_i.2]
            have z_i : (rg i_n).2.2.2 = (rh i_n).2.2 := by rw [m_i.2]
            have r_i := hr9 i_n h_i
            simp only [rk] at r_i
            have p_i := p190 r_i.1
            have t_i := tn_le (rh i_n).1
            have m_j := hm j_n h_j
            have n_j : (rg j_n).2.1 = nd_p (rh j_n).2.1 := m_j.1.1
            have b_j : (rg j_n).2.2.1 = (rh j_n).1 := by rw [m_j.2]
            have z_j : (rg j_n).2.2.2 = (rh j_n).2.2 := by rw [m_j.2]
            have r_j := hr9 j_n h_j
            simp only [rk] at r_j
            have p_j := p190 r_j.1
            have t_j := tn_le (rh j_n).1
            refine lv_aload_n hx hb dX4_part_36 rfl (lv_at hl 0 rfl) ?_
            refine rg_4_registers hx hb hts in4 hown hK hP 0 (by decide) mg_0 (hts _ (by decide +kernel)) dX4_part_37 ?_
            refine lv_iload hx hb dX4_part_40 (lv_at hl 4 rfl) ?_
            refine rn_q4 hx hb hK hP 1 (by decide) mg_1 (by omega) (by decide) dX4_part_42 ?_
            refine tp_v (y := .ref (ad (11 + 2 * j_n))) rfl ?_
            refine va_calli (va_runV (As := []) (rest := []) ⟨hx, hb, hml, hown, hts⟩ (c_X3_isZero l D cA tT A 23 ad _ _ (a := 11 + 2 * j_n) (f := (rg j_n).1) (n := (rg j_n).2.1) (b := (rg j_n).2.2.1) (z := (rg j_n).2.2.2) (v := (rh j_n).2.1) (by omega) (mg_G _) m_j.1 (by omega)) (cwV 0 hts gX4_part_X3_isZero rfl rfl rfl (by decide +kernel) ⟨Nat.le_of_ble_eq_true rfl, Nat.le_of_ble_eq_true rfl⟩) (wd_preV (k := 11 + 2 * j_n) hP hK hD hT hS (by omega) (mg_G _).1 rfl) rfl rfl hl.1 rfl (lv_room (Nat.le_of_ble_eq_true rfl)) dX4_part_43 ⟨Nat.zero_le _, Nat.zero_le _⟩) hS id_2 id_1 (fun r_ u t H locs ht hvm hw hB hz1 hk1 hS => ?_)
            refine c00 ?_
            obtain ⟨hP, hD⟩ := wd_back ht hB
            clear ht hvm hB hz1 hk1
            obtain ⟨hr_, hu_⟩ := hw
            subst hr_
            rw [hu_] at hP hD
            clear hu_
            refine bz_eq (tgt := 52) hx hb dX4_part_46 (by decide) it_lt (fun p3 => ?_) (fun p3 => ?_)
            · have p4 := it_eq p3
              have hY9 : aX (rh j_n) (rh i_n) ≠ 0 := fun h => p4 (aX_0.mp h)
              refine lv_aload_n hx hb dX4_part_52 rfl (lv_at hl 0 rfl) ?_
              refine lv_iload_n hx hb dX4_part_53 rfl (lv_at hl 3 rfl) ?_
              refine lv_iload hx hb dX4_part_54 (lv_at hl 4 rfl) ?_
              refine va_callv (va_runV (As := [.int (nI (i_n)), .int (nI (j_n))]) (rest := []) ⟨hx, hb, hml, hown, hts⟩ (c_X4_align l D cA tT A ad _ (wa := wa) (wb := wb) (wc := wc) (we := we) (rg := rg) (tx := tx) (tl := tl) (rh := rh) (i_n := i_n) (j_n := j_n) hm hr9 h_i h_j) (cwV 2 hts gX4_part_X4_align rfl rfl rfl (by decide +kernel) ⟨Nat.le_of_ble_eq_true rfl, Nat.le_of_ble_eq_true rfl⟩) (wd_preV (k := 0) hP hK hD hT hS (by decide) mg_0 rfl) rfl rfl hl.1 rfl (lv_room (Nat.le_of_ble_eq_true rfl)) dX4_part_56 ⟨Nat.zero_le _, Nat.zero_le _⟩) hS id_2 id_1 (fun u t H locs ht hvm hw hB hz1 hk1 hS => ?_)
              refine c00 ?_
              obtain ⟨hP, hD⟩ := wd_back ht hB
              clear ht hvm hB hz1 hk1
              obtain ⟨fa, na, fb, nb, va, la, vb, lb, hu_⟩ := hw
              rw [hu_] at hP hD
              clear hu_
              refine lv_aload_n hx hb dX4_part_59 rfl (lv_at hl 0 rfl) ?_
              refine rg_4_a hx hb hts in4 hown hK hP 0 (by decide) mg_0 (hts _ (by decide +kernel)) dX4_part_60 ?_
              refine rg_3_minus hx hb hts in3 hown hK hP 3 (by omega) mg_A.1 (hts _ (by decide +kernel)) dX4_part_63 ?_
              refine tp_i (y := nI (((rh i_n).1).toNat)) rfl ?_
              refine lv_istore (lv' := [(5, .int (nI (((rh i_n).1).toNat))), (0, .ref (ad 0)), (1, .int (nI (q_n))), (2, .int (nI (o_n))), (3, .int (nI (i_n))), (4, .int (nI (j_n)))]) hx hb dX4_part_66 hl (by decide) rfl (fun ls hl => ?_)
              refine lv_aload_n hx hb dX4_part_68 rfl (lv_at hl 1 rfl) ?_
              refine rg_4_c hx hb hts in4 hown hK hP 0 (by decide) mg_0 (hts _ (by decide +kernel)) dX4_part_69 ?_
              refine lv_aload_n hx hb dX4_part_72 rfl (lv_at hl 1 rfl) ?_
              refine rg_4_a hx hb hts in4 hown hK hP 0 (by decide) mg_0 (hts _ (by decide +kernel)) dX4_part_73 ?_
              refine rg_3_minus hx hb hts in3 hown hK hP 3 (by omega) mg_A.1 (hts _ (by decide +kernel)) dX4_part_76 ?_
              refine tp_i (y := nI (((rh i_n).1).toNat)) rfl ?_
              refine lv_aload_n hx hb dX4_part_79 rfl (lv_at hl 1 rfl) ?_
              refine rg_4_b hx hb hts in4 hown hK hP 0 (by decide) mg_0 (hts _ (by decide +kernel)) dX4_part_80 ?_
              refine rg_3_minus hx hb hts in3 hown hK hP 5 (by omega) mg_B.1 (hts _ (by decide +kernel)) dX4_part_83 ?_
              refine tp_i (y := nI (((rh j_n).1).toNat)) rfl ?_
              refine bi_eq (tgt := 93) hx hb dX4_part_86 (by decide) (by omega) (by omega) (fun p7 => ?_) (fun p7 => ?_)
              · have hbb : ((rh i_n).1 != (rh j_n).1) = false := bn_f (tn_eq.mp p7)
                refine lv_iconst (v := nI (0)) hx hb dX4_part_93 (by decide) ?_
                refine rp_3_minus hx hb hts in3 hown hK hP hD hS 7 (by omega) mg_C.1 (hts _ (by decide +kernel)) rfl rfl dX4_part_94 (fun H locs hP hD hS => ?_)
                rw [mg_pc wc.2.1 false wc.2.2.2 (v := nI (0)) rfl] at hP hD
                refine lv_aload_n hx hb dX4_part_97 rfl (lv_at hl 1 rfl) ?_
                refine rg_4_a hx hb hts in4 hown hK hP 0 (by decide) mg_0 (hts _ (by decide +kernel)) dX4_part_98 ?_
                refine rg_3_scale hx hb hts in3 hown hK hP 3 (by omega) mg_A.1 (hts _ (by decide +kernel)) dX4_part_101 ?_
                refine tp_i (y := iZ (max (rh i_n).2.2 (rh j_n).2.2)) rfl ?_
                refine lv_istore (lv' := [(6, .int (iZ (max (rh i_n).2.2 (rh j_n).2.2))), (5, .int (nI (((rh i_n).1).toNat))), (0, .ref (ad 0)), (1, .int (nI (q_n))), (2, .int (nI (o_n))), (3, .int (nI (i_n))), (4, .int (nI (j_n)))]) hx hb dX4_part_104 hl (by decide) rfl (fun ls hl => ?_)
                refine lv_aload_n hx hb dX4_part_106 rfl (lv_at hl 2 rfl) ?_
                refine va_callv (va_runV (As := []) (rest := []) ⟨hx, hb, hml, hown, hts⟩ (c_X4_over l D cA tT A ad _ (fa := fa) (fb := fb) (na := na) (nb := nb) (X := (aX (rh i_n) (rh j_n))) (Y := (aX (rh j_n) (rh i_n))) (ba := (rh i_n).1) (bb := (rh j_n).1) (za := max (rh i_n).2.2 (rh j_n).2.2) (zb := max (rh i_n).2.2 (rh j_n).2.2) (wc := (wc.1, wc.2.1, false, wc.2.2.2)) (we := we) (rg := rg) (tx := tx) (tl := tl) (by omega) (by omega) va vb hY9) (cwV 0 hts gX4_part_X4_over rfl rfl rfl (by decide +kernel) ⟨Nat.le_of_ble_eq_true rfl, Nat.le_of_ble_eq_true rfl⟩) (wd_preV (k := 0) hP hK hD hT hS (by decide) mg_0 rfl) rfl rfl hl.1 rfl (lv_room (Nat.le_of_ble_eq_true rfl)) dX4_part_107 ⟨Nat.zero_le _, Nat.zero_le _⟩) hS id_2 id_1 (fun u t H locs ht hvm hw hB hz1 hk1 hS => ?_)
                refine c00 ?_
                obtain ⟨hP, hD⟩ := wd_back ht hB
                clear ht hvm hB hz1 hk1
                obtain ⟨fr_, fq_, we9, vr_, vq_, hu_⟩ := hw
                rw [hu_] at hP hD
                clear hu_
                have pb : 1 ≤ nb := by rw [vb.1]; exact nd_p_pos _
                have pa : 1 ≤ na := by rw [va.1]; exact nd_p_pos _
                obtain ⟨Q9, hQ9⟩ : ∃ Q9, Q9 = aX (rh i_n) (rh j_n) / aX (rh j_n) (rh i_n) := ⟨_, rfl⟩
                obtain ⟨R9, hR9⟩ : ∃ R9, R9 = aX (rh i_n) (rh j_n) % aX (rh j_n) (rh i_n) := ⟨_, rfl⟩
                rw [← hQ9] at vq_ hP hD
                rw [← hR9] at vr_ hP hD
                have hRl : nd_p R9 ≤ 190 := by
                  rw [hR9]
                  refine part_r ?_ hY9 r_i.1 r_j.1
                  exact ⟨rfl, rfl⟩
                have hQl : nd_p Q9 ≤ 210 := by rw [hQ9]; exact Nat.le_trans ((nd_p_le pa).mpr (Nat.lt_of_le_of_lt (Nat.div_le_self _ _) (rv_dv va).1)) la
                have pq := nd_p_pos Q9
                have pr := nd_p_pos R9
                refine lv_aload_n hx hb dX4_part_110 rfl (lv_at hl 2 rfl) ?_
                refine rg_4_a hx hb hts in4 hown hK hP 0 (by decide) mg_0 (hts _ (by decide +kernel)) dX4_part_111 ?_
                refine lv_iload hx hb dX4_part_114 (lv_at hl 1 rfl) ?_
                refine rp_3_minus hx hb hts in3 hown hK hP hD hS 3 (by omega) mg_A.1 (hts _ (by decide +kernel)) (bt_nar _) (bt_fit _) dX4_part_116 (fun H locs hP hD hS => ?_)
                rw [mg_pa (nd_p R9) (((rh i_n).1)) (max (rh i_n).2.2 (rh j_n).2.2) (v := nI (((rh i_n).1).toNat)) rfl] at hP hD
                refine lv_aload_n hx hb dX4_part_119 rfl (lv_at hl 2 rfl) ?_
                refine rg_4_a hx hb hts in4 hown hK hP 0 (by decide) mg_0 (hts _ (by decide +kernel)) dX4_part_120 ?_
                refine lv_iload hx hb dX4_part_123 (lv_at hl 0 rfl) ?_
                refine rp_3_scale hx hb hts in3 hown hK hP hD hS 3 (by omega) mg_A.1 (hts _ (by decide +kernel)) rfl rfl dX4_part_125 (fun H locs hP hD hS => ?_)
                rw [mg_pa (nd_p R9) (((rh i_n).1)) (max (rh i_n).2.2 (rh j_n).2.2) (v := nI ((((rh i_n).1)).toNat)) rfl] at hP hD
                refine lv_aload_n hx hb dX4_part_128 rfl (lv_at hl 2 rfl) ?_
                refine rg_4_a hx hb hts in4 hown hK hP 0 (by decide) mg_0 (hts _ (by decide +kernel)) dX4_part_129 ?_
                refine va_callv (va_runV (As := []) (rest := []) ⟨hx, hb, hml, hown, hts⟩ (c_X3_trim l D cA tT A 23 ad _ _ (a := 3) (f := fr_) (n := nd_p R9) (b := ((rh i_n).1)) (z := max (rh i_n).2.2 (rh j_n).2.2) (v := R9) (by decide) mg_A (by omega) (by omega) (rv_dv vr_)) (cwV 0 hts gX4_part_X3_trim rfl rfl rfl (by decide +kernel) ⟨Nat.le_of_ble_eq_true rfl, Nat.le_of_ble_eq_true rfl⟩) (wd_preV (k := 3) hP hK hD hT hS (by decide) mg_A.1 rfl) rfl rfl hl.1 rfl (lv_room (Nat.le_of_ble_eq_true rfl)) dX4_part_132 ⟨Nat.zero_le _, Nat.zero_le _⟩) hS id_2 id_1 (fun u t H locs ht hvm hw hB hz1 hk1 hS => ?_)
                refine c00 ?_
                obtain ⟨hP, hD⟩ := wd_back ht hB
                clear ht hvm hB hz1 hk1
                obtain ⟨hv1, hu_⟩ := hw
                rw [hu_] at hP hD
                clear hu_
                rw [show rw_ cA ad (mg cA ad (fr_, nd_p R9, ((rh i_n).1), max (rh i_n).2.2 (rh j_n).2.2) (fb, nb, (rh j_n).1, max (rh i_n).2.2 (rh j_n).2.2) (fq_, nd_p Q9, false, wc.2.2.2) we9 rg tx tl) 3 fr_ (nd_p R9) (sn (((rh i_n).1)) R9) (max (rh i_n).2.2 (rh j_n).2.2) = mg cA ad (fr_, nd_p R9, sn (((rh i_n).1)) R9, max (rh i_n).2.2 (rh j_n).2.2) (fb, nb, (rh j_n).1, max (rh i_n).2.2 (rh j_n).2.2) (fq_, nd_p Q9, false, wc.2.2.2) we9 rg tx tl from mg_ua (w' := (fr_, nd_p R9, sn (((rh i_n).1)) R9, max (rh i_n).2.2 (rh j_n).2.2))] at hP hD
                refine lv_aload_n hx hb dX4_part_135 rfl (lv_at hl 2 rfl) ?_
                refine rg_4_c hx hb hts in4 hown hK hP 0 (by decide) mg_0 (hts _ (by decide +kernel)) dX4_part_136 ?_
                refine lv_iconst (v := nI (0)) hx hb dX4_part_139 (by decide) ?_
                refine tp_i (y := iZ ((0 : Nat) : Int)) (iZ_nat _) ?_
                refine rp_3_scale hx hb hts in3 hown hK hP hD hS 7 (by omega) mg_C.1 (hts _ (by decide +kernel)) rfl rfl dX4_part_140 (fun H locs hP hD hS => ?_)
                rw [mg_pc (nd_p Q9) false (((0 : Nat) : Int)) (v := nI (false.toNat)) rfl] at hP hD
                refine lv_aload_n hx hb dX4_part_143 rfl (lv_at hl 2 rfl) ?_
                refine rg_4_c hx hb hts in4 hown hK hP 0 (by decide) mg_0 (hts _ (by decide +kernel)) dX4_part_144 ?_
                refine va_callv (va_runV (As := []) (rest := []) ⟨hx, hb, hml, hown, hts⟩ (c_X3_trim l D cA tT A 23 ad _ _ (a := 7) (f := fq_) (n := nd_p Q9) (b := false) (z := ((0 : Nat) : Int)) (v := Q9) (by decide) mg_C (by omega) (by omega) (rv_dv vq_)) (cwV 0 hts gX4_part_X3_trim rfl rfl rfl (by decide +kernel) ⟨Nat.le_of_ble_eq_true rfl, Nat.le_of_ble_eq_true rfl⟩) (wd_preV (k := 7) hP hK hD hT hS (by decide) mg_C.1 rfl) rfl rfl hl.1 rfl (lv_room (Nat.le_of_ble_eq_true rfl)) dX4_part_147 ⟨Nat.zero_le _, Nat.zero_le _⟩) hS id_2 id_1 (fun u t H locs ht hvm hw hB hz1 hk1 hS => ?_)
                refine c00 ?_
                obtain ⟨hP, hD⟩ := wd_back ht hB
                clear ht hvm hB hz1 hk1
                obtain ⟨hv2, hu_⟩ := hw
                rw [hu_] at hP hD
                clear hu_
                rw [show rw_ cA ad (mg cA ad (fr_, nd_p R9, sn (((rh i_n).1)) R9, max (rh i_n).2.2 (rh j_n).2.2) (fb, nb, (rh j_n).1, max (rh i_n).2.2 (rh j_n).2.2) (fq_, nd_p Q9, false, ((0 : Nat) : Int)) we9 rg tx tl) 7 fq_ (nd_p Q9) (sn false Q9) ((0 : Nat) : Int) = mg cA ad (fr_, nd_p R9, sn (((rh i_n).1)) R9, max (rh i_n).2.2 (rh j_n).2.2) (fb, nb, (rh j_n).1, max (rh i_n).2.2 (rh j_n).2.2) (fq_, nd_p Q9, sn false Q9, ((0 : Nat) : Int)) we9 rg tx tl from mg_uc (w' := (fq_, nd_p Q9, sn false Q9, ((0 : Nat) : Int)))] at hP hD
                refine lv_aload_n hx hb dX4_part_150 rfl (lv_at hl 2 rfl) ?_
                refine rg_4_c hx hb hts in4 hown hK hP 0 (by decide) mg_0 (hts _ (by decide +kernel)) dX4_part_151 ?_
                refine rg_3_n hx hb hts in3 hown hK hP 7 (by omega) mg_C.1 (hts _ (by decide +kernel)) dX4_part_154 ?_
                refine tp_i (y := nI (nd_p Q9)) rfl ?_
                refine lv_sipush (v := nI (190)) hx hb dX4_part_157 (by decide) ?_
                refine bi_gt (tgt := 176) hx hb dX4_part_160 (by decide) (by omega) (by omega) (fun p8 => ?_) (fun p8 => ?_)
                · refine lv_bipush (v := iZ (-3)) hx hb dX4_part_176 (by decide) ?_
                  exact W.iret (v := iZ (-3)) hx hb hr (fun t ht hW => ⟨⟨iZ (-3), _, rfl, ⟨by rw [sp_part, if_pos (by omega), e_q, e_o, e_i, e_j, if_neg p4, ← hQ9, if_pos (by omega)], _, _, _, _, rg, by rw [sp_part, if_pos (by omega), e_q, e_o, e_i, e_j, if_neg p4, ← hQ9, if_pos (by omega)]; exact hm, rfl⟩, wd_end hP hK hD ht hW⟩, hS.F ht⟩) hS.2.2 dX4_part_178
                · refine lv_aload_n hx hb dX4_part_163 rfl (lv_at hl 2 rfl) ?_
                  refine rg_4_a hx hb hts in4 hown hK hP 0 (by decide) mg_0 (hts _ (by decide +kernel)) dX4_part_164 ?_
                  refine rg_3_n hx hb hts in3 hown hK hP 3 (by omega) mg_A.1 (hts _ (by decide +kernel)) dX4_part_167 ?_
                  refine tp_i (y := nI (nd_p R9)) rfl ?_
                  refine lv_sipush (v := nI (190)) hx hb dX4_part_170 (by decide) ?_
                  refine bi_le (tgt := 179) hx hb dX4_part_173 (by decide) (by omega) (by omega) (fun p9 => ?_) (fun p9 => ?_)
                  · refine lv_aload_n hx hb dX4_part_179 rfl (lv_at hl 2 rfl) ?_
                    refine rg_4_registers hx hb hts in4 hown hK hP 0 (by decide) mg_0 (hts _ (by decide +kernel)) dX4_part_180 ?_
                    refine lv_iload_n hx hb dX4_part_183 rfl (lv_at hl 3 rfl) ?_
                    refine rn_q4 hx hb hK hP 1 (by decide) mg_1 (by omega) (by decide) dX4_part_184 ?_
                    refine tp_v (y := .ref (ad (11 + 2 * q_n))) rfl ?_
                    refine lv_aload_n hx hb dX4_part_185 rfl (lv_at hl 2 rfl) ?_
                    refine rg_4_c hx hb hts in4 hown hK hP 0 (by decide) mg_0 (hts _ (by decide +kernel)) dX4_part_186 ?_
                    refine va_callv (va_runV (As := [.ref (ad 7)]) (rest := []) ⟨hx, hb, hml, hown, hts⟩ (c_X3_take l D cA tT A 23 ad _ _ (a := 11 + 2 * q_n) (f := (rg q_n).1) (n := (rg q_n).2.1) (b := (rg q_n).2.2.1) (z := (rg q_n).2.2.2) (o := 7) (f1 := fq_) (n1 := nd_p Q9) (b1 := sn false Q9) (z1 := ((0 : Nat) : Int)) (by omega) (mg_G q_n) (by decide) mg_C (by omega) (by omega) (by omega) (by omega)) (cwV 1 hts gX4_part_X3_take rfl rfl rfl (by decide +kernel) ⟨Nat.le_of_ble_eq_true rfl, Nat.le_of_ble_eq_true rfl⟩) (wd_preV (k := 11 + 2 * q_n) hP hK hD hT hS (by omega) (mg_G q_n).1 rfl) rfl rfl hl.1 rfl (lv_room (Nat.le_of_ble_eq_true rfl)) dX4_part_189 ⟨Nat.zero_le _, Nat.zero_le _⟩) hS id_2 id_1 (fun u t H locs ht hvm hw hB hz1 hk1 hS => ?_)
                    refine c00 ?_
                    obtain ⟨hP, hD⟩ := wd_back ht hB
                    clear ht hvm hB hz1 hk1
                    rw [hw] at hP hD
                    clear hw
                    rw [show rw_ cA ad (mg cA ad (fr_, nd_p R9, sn (((rh i_n).1)) R9, max (rh i_n).2.2 (rh j_n).2.2) (fb, nb, (rh j_n).1, max (rh i_n).2.2 (rh j_n).2.2) (fq_, nd_p Q9, sn false Q9, ((0 : Nat) : Int)) we9 rg tx tl) (11 + 2 * q_n) (tk fq_ (rg q_n).1 (nd_p Q9)) (nd_p Q9) (sn false Q9) (((0 : Nat) : Int)) = mg cA ad (fr_, nd_p R9, sn (((rh i_n).1)) R9, max (rh i_n).2.2 (rh j_n).2.2) (fb, nb, (rh j_n).1, max (rh i_n).2.2 (rh j_n).2.2) (fq_, nd_p Q9, sn false Q9, ((0 : Nat) : Int)) we9 (va_up rg q_n (tk fq_ (rg q_n).1 (nd_p Q9), nd_p Q9, sn false Q9, ((0 : Nat) : Int))) tx tl from mg_ug (w' := (tk fq_ (rg q_n).1 (nd_p Q9), nd_p Q9, sn false Q9, ((0 : Nat) : Int))) q_n] at hP hD
                    have hm1 : mr (va_up rg q_n (tk fq_ (rg q_n).1 (nd_p Q9), nd_p Q9, sn false Q9, ((0 : Nat) : Int))) (va_up rh q_n (sn false Q9, Q9, (0 : Int))) := mr_up hm ⟨rfl, fun j hj => by dsimp only at hj ⊢; rw [tk_lt hj]; exact hv2.2 j hj⟩ rfl
                    obtain ⟨rg1, hrg1⟩ : ∃ rg1, rg1 = va_up rg q_n (tk fq_ (rg q_n).1 (nd_p Q9), nd_p Q9, sn false Q9, ((0 : Nat) : Int)) := ⟨_, rfl⟩
                    rw [← hrg1] at hm1 hP hD
                    refine lv_aload_n hx hb dX4_part_192 rfl (lv_at hl 2 rfl) ?_
                    refine rg_4_registers hx hb hts in4 hown hK hP 0 (by decide) mg_0 (hts _ (by decide +kernel)) dX4_part_193 ?_
                    refine lv_iload_n hx hb dX4_part_196 rfl (lv_at hl 4 rfl) ?_
                    refine rn_q4 hx hb hK hP 1 (by decide) mg_1 (by omega) (by decide) dX4_part_197 ?_
                    refine tp_v (y := .ref (ad (11 + 2 * o_n))) rfl ?_
                    refine lv_aload_n hx hb dX4_part_198 rfl (lv_at hl 2 rfl) ?_
                    refine rg_4_a hx hb hts in4 hown hK hP 0 (by decide) mg_0 (hts _ (by decide +kernel)) dX4_part_199 ?_
                    refine va_callv (va_runV (As := [.ref (ad 3)]) (rest := []) ⟨hx, hb, hml, hown, hts⟩ (c_X3_take l D cA tT A 23 ad _ _ (a := 11 + 2 * o_n) (f := (rg1 o_n).1) (n := (rg1 o_n).2.1) (b := (rg1 o_n).2.2.1) (z := (rg1 o_n).2.2.2) (o := 3) (f1 := fr_) (n1 := nd_p R9) (b1 := sn (((rh i_n).1)) R9) (z1 := max (rh i_n).2.2 (rh j_n).2.2) (by omega) (mg_G o_n) (by decide) mg_A (by omega) (by omega) (by omega) (by omega)) (cwV 1 hts gX4_part_X3_take rfl rfl rfl (by decide +kernel) ⟨Nat.le_of_ble_eq_true rfl, Nat.le_of_ble_eq_true rfl⟩) (wd_preV (k := 11 + 2 * o_n) hP hK hD hT hS (by omega) (mg_G o_n).1 rfl) rfl rfl hl.1 rfl (lv_room (Nat.le_of_ble_eq_true rfl)) dX4_part_202 ⟨Nat.zero_le _, Nat.zero_le _⟩) hS id_2 id_1 (fun u t H locs ht hvm hw hB hz1 hk1 hS => ?_)
                    refine c00 ?_
                    obtain ⟨hP, hD⟩ := wd_back ht hB
                    clear ht hvm hB hz1 hk1
                    rw [hw] at hP hD
                    clear hw
                    rw [show rw_ cA ad (mg cA ad (fr_, nd_p R9, sn (((rh i_n).1)) R9, max (rh i_n).2.2 (rh j_n).2.2) (fb, nb, (rh j_n).1, max (rh i_n).2.2 (rh j_n).2.2) (fq_, nd_p Q9, sn false Q9, ((0 : Nat) : Int)) we9 rg1 tx tl) (11 + 2 * o_n) (tk fr_ (rg1 o_n).1 (nd_p R9)) (nd_p R9) (sn (((rh i_n).1)) R9) (max (rh i_n).2.2 (rh j_n).2.2) = mg cA ad (fr_, nd_p R9, sn (((rh i_n).1)) R9, max (rh i_n).2.2 (rh j_n).2.2) (fb, nb, (rh j_n).1, max (rh i_n).2.2 (rh j_n).2.2) (fq_, nd_p Q9, sn false Q9, ((0 : Nat) : Int)) we9 (va_up rg1 o_n (tk fr_ (rg1 o_n).1 (nd_p R9), nd_p R9, sn (((rh i_n).1)) R9, max (rh i_n).2.2 (rh j_n).2.2)) tx tl from mg_ug (w' := (tk fr_ (rg1 o_n).1 (nd_p R9), nd_p R9, sn (((rh i_n).1)) R9, max (rh i_n).2.2 (rh j_n).2.2)) o_n] at hP hD
                    have hm2 : mr (va_up rg1 o_n (tk fr_ (rg1 o_n).1 (nd_p R9), nd_p R9, sn (((rh i_n).1)) R9, max (rh i_n).2.2 (rh j_n).2.2)) (va_up (va_up rh q_n (sn false Q9, Q9, (0 : Int))) o_n (sn (rh i_n).1 R9, R9, max (rh i_n).2.2 (rh j_n).2.2)) := mr_up hm1 ⟨rfl, fun j hj => by dsimp only at hj ⊢; rw [tk_lt hj]; exact hv1.2 j hj⟩ rfl
                    have hsp : sp_part rh (q_n : Int) (o_n : Int) (i_n : Int) (j_n : Int) = (nI (nd_p Q9), va_up (va_up rh q_n (sn false Q9, Q9, (0 : Int))) o_n (sn (rh i_n).1 R9, R9, max (rh i_n).2.2 (rh j_n).2.2)) := by rw [sp_part, if_pos (by omega), e_q, e_o, e_i, e_j, if_neg p4, hbb, ← hQ9, ← hR9, if_neg (by omega)]
                    refine lv_aload_n hx hb dX4_part_205 rfl (lv_at hl 2 rfl) ?_
                    refine rg_4_c hx hb hts in4 hown hK hP 0 (by decide) mg_0 (hts _ (by decide +kernel)) dX4_part_206 ?_
                    refine rg_3_n hx hb hts in3 hown hK hP 7 (by omega) mg_C.1 (hts _ (by decide +kernel)) dX4_part_209 ?_
                    refine tp_i (y := nI (nd_p Q9)) rfl ?_
                    exact W.iret (v := nI (nd_p Q9)) hx hb hr (fun t ht hW => ⟨⟨nI (nd_p Q9), _, rfl, ⟨by rw [hsp], _, _, _, _, _, by rw [hsp]; exact hm2, rfl⟩, wd_end hP hK hD ht hW⟩, hS.F ht⟩) hS.2.2 dX4_part_212
                  · exact absurd hRl p9
              · have hbb : ((rh i_n).1 != (rh j_n).1) = true := bn_t (fun h => p7 (tn_eq.mpr h))
                refine lv_iconst (v := nI (1)) hx hb dX4_part_89 (by decide) ?_
                refine lv_goto (tgt := 94) hx hb dX4_part_90 (by decide) ?_
                refine rp_3_minus hx hb hts in3 hown hK hP hD hS 7 (by omega) mg_C.1 (hts _ (by decide +kernel)) rfl rfl dX4_part_94 (fun H locs hP hD hS => ?_)
                rw [mg_pc wc.2.1 true wc.2.2.2 (v := nI (1)) rfl] at hP hD
                refine lv_aload_n hx hb dX4_part_97 rfl (lv_at hl 1 rfl) ?_
                refine rg_4_a hx hb hts in4 hown hK hP 0 (by decide) mg_0 (hts _ (by decide +kernel)) dX4_part_98 ?_
                refine rg_3_scale hx hb hts in3 hown hK hP 3 (by omega) mg_A.1 (hts _ (by decide +kernel)) dX4_part_101 ?_
                refine tp_i (y := iZ (max (rh i_n).2.2 (rh j_n).2.2)) rfl ?_
                refine lv_istore (lv' := [(6, .int (iZ (max (rh i_n).2.2 (rh j_n).2.2))), (5, .int (nI (((rh i_n).1).toNat))), (0, .ref (ad 0)), (1, .int (nI (q_n))), (2, .int (nI (o_n))), (3, .int (nI (i_n))), (4, .int (nI (j_n)))]) hx hb dX4_part_104 hl (by decide) rfl (fun ls hl => ?_)
                refine lv_aload_n hx hb dX4_part_106 rfl (lv_at hl 2 rfl) ?_
                refine va_callv (va_runV (As := []) (rest := []) ⟨hx, hb, hml, hown, hts⟩ (c_X4_over l D cA tT A ad _ (fa := fa) (fb := fb) (na := na) (nb := nb) (X := (aX (rh i_n) (rh j_n))) (Y := (aX (rh j_n) (rh i_n))) (ba := (rh i_n).1) (bb := (rh j_n).1) (za := max (rh i_n).2.2 (rh j_n).2.2) (zb := max (rh i_n).2.2 (rh j_n).2.2) (wc := (wc.1, wc.2.1, true, wc.2.2.2)) (we := we) (rg := rg) (tx := tx) (tl := tl) (by omega) (by omega) va vb hY9) (cwV 0 hts gX4_part_X4_over rfl rfl rfl (by decide +kernel) ⟨Nat.le_of_ble_eq_true rfl, Nat.le_of_ble_eq_true rfl⟩) (wd_preV (k := 0) hP hK hD hT hS (by decide) mg_0 rfl) rfl rfl hl.1 rfl (lv_room (Nat.le_of_ble_eq_true rfl)) dX4_part_107 ⟨Nat.zero_le _, Nat.zero_le _⟩) hS id_2 id_1 (fun u t H locs ht hvm hw hB hz1 hk1 hS => ?_)
                refine c00 ?_
                obtain ⟨hP, hD⟩ := wd_back ht hB
                clear ht hvm hB hz1 hk1
                obtain ⟨fr_, fq_, we9, vr_, vq_, hu_⟩ := hw
                rw [hu_] at hP hD
                clear hu_
                have pb : 1 ≤ nb := by rw [vb.1]; exact nd_p_pos _
                have pa : 1 ≤ na := by rw [va.1]; exact nd_p_pos _
                obtain ⟨Q9, hQ9⟩ : ∃ Q9, Q9 = aX (rh i_n) (rh j_n) / aX (rh j_n) (rh i_n) := ⟨_, rfl⟩
                obtain ⟨R9, hR9⟩ : ∃ R9, R9 = aX (rh i_n) (rh j_n) % aX (rh j_n) (rh i_n) := ⟨_, rfl⟩
                rw [← hQ9] at vq_ hP hD
                rw [← hR9] at vr_ hP hD
                have hRl : nd_p R9 ≤ 190 := by
                  rw [hR9]
                  refine part_r ?_ hY9 r_i.1 r_j.1
                  exact ⟨rfl, rfl⟩
                have hQl : nd_p Q9 ≤ 210 := by rw [hQ9]; exact Nat.le_trans ((nd_p_le pa).mpr (Nat.lt_of_le_of_lt (Nat.div_le_self _ _) (rv_dv va).1)) la
                have pq := nd_p_pos Q9
                have pr := nd_p_pos R9
                refine lv_aload_n hx hb dX4_part_110 rfl (lv_at hl 2 rfl) ?_
                refine rg_4_a hx hb hts in4 hown hK hP 0 (by decide) mg_0 (hts _ (by decide +kernel)) dX4_part_111 ?_
                refine lv_iload hx hb dX4_part_114 (lv_at hl 1 rfl) ?_
                refine rp_3_minus hx hb hts in3 hown hK hP hD hS 3 (by omega) mg_A.1 (hts _ (by decide +kernel)) (bt_nar _) (bt_fit _) dX4_part_116 (fun H locs hP hD hS => ?_)
                rw [mg_pa (nd_p R9) (((rh i_n).1)) (max (rh i_n).2.2 (rh j_n).2.2) (v := nI (((rh i_n).1).toNat)) rfl] at hP hD
                refine lv_aload_n hx hb dX4_part_119 rfl (lv_at hl 2 rfl) ?_
                refine rg_4_a hx hb hts in4 hown hK hP 0 (by decide) mg_0 (hts _ (by decide +kernel)) dX4_part_120 ?_
                refine lv_iload hx hb dX4_part_123 (lv_at hl 0 rfl) ?_
                refine rp_3_scale hx hb hts in3 hown hK hP hD hS 3 (by omega) mg_A.1 (hts _ (by decide +kernel)) rfl rfl dX4_part_125 (fun H locs hP hD hS => ?_)
                rw [mg_pa (nd_p R9) (((rh i_n).1)) (max (rh i_n).2.2 (rh j_n).2.2) (v := nI ((((rh i_n).1)).toNat)) rfl] at hP hD
                refine lv_aload_n hx hb dX4_part_128 rfl (lv_at hl 2 rfl) ?_
                refine rg_4_a hx hb hts in4 hown hK hP 0 (by decide) mg_0 (hts _ (by decide +kernel)) dX4_part_129 ?_
                refine va_callv (va_runV (As := []) (rest := []) ⟨hx, hb, hml, hown, hts⟩ (c_X3_trim l D cA tT A 23 ad _ _ (a := 3) (f := fr_) (n := nd_p R9) (b := ((rh i_n).1)) (z := max (rh i_n).2.2 (rh j_n).2.2) (v := R9) (by decide) mg_A (by omega) (by omega) (rv_dv vr_)) (cwV 0 hts gX4_part_X3_trim rfl rfl rfl (by decide +kernel) ⟨Nat.le_of_ble_eq_true rfl, Nat.le_of_ble_eq_true rfl⟩) (wd_preV (k := 3) hP hK hD hT hS (by decide) mg_A.1 rfl) rfl rfl hl.1 rfl (lv_room (Nat.le_of_ble_eq_true rfl)) dX4_part_132 ⟨Nat.zero_le _, Nat.zero_le _⟩) hS id_2 id_1 (fun u t H locs ht hvm hw hB hz1 hk1 hS => ?_)
                refine c00 ?_
                obtain ⟨hP, hD⟩ := wd_back ht hB
                clear ht hvm hB hz1 hk1
                obtain ⟨hv1, hu_⟩ := hw
                rw [hu_] at hP hD
                clear hu_
                rw [show rw_ cA ad (mg cA ad (fr_, nd_p R9, ((rh i_n).1), max (rh i_n).2.2 (rh j_n).2.2) (fb, nb, (rh j_n).1, max (rh i_n).2.2 (rh j_n).2.2) (fq_, nd_p Q9, true, wc.2.2.2) we9 rg tx tl) 3 fr_ (nd_p R9) (sn (((rh i_n).1)) R9) (max (rh i_n).2.2 (rh j_n).2.2) = mg cA ad (fr_, nd_p R9, sn (((rh i_n).1)) R9, max (rh i_n).2.2 (rh j_n).2.2) (fb, nb, (rh j_n).1, max (rh i_n).2.2 (rh j_n).2.2) (fq_, nd_p Q9, true, wc.2.2.2) we9 rg tx tl from mg_ua (w' := (fr_, nd_p R9, sn (((rh i_n).1)) R9, max (rh i_n).2.2 (rh j_n).2.2))] at hP hD
                refine lv_aload_n hx hb dX4_part_135 rfl (lv_at hl 2 rfl) ?_
                refine rg_4_c hx hb hts in4 hown hK hP 0 (by decide) mg_0 (hts _ (by decide +kernel)) dX4_part_136 ?_
                refine lv_iconst (v := nI (0)) hx hb dX4_part_139 (by decide) ?_
                refine tp_i (y := iZ ((0 : Nat) : Int)) (iZ_nat _) ?_
                refine rp_3_scale hx hb hts in3 hown hK hP hD hS 7 (by omega) mg_C.1 (hts _ (by decide +kernel)) rfl rfl dX4_part_140 (fun H locs hP hD hS => ?_)
                rw [mg_pc (nd_p Q9) true (((0 : Nat) : Int)) (v := nI (true.toNat)) rfl] at hP hD
                refine lv_aload_n hx hb dX4_part_143 rfl (lv_at hl 2 rfl) ?_
                refine rg_4_c hx hb hts in4 hown hK hP 0 (by decide) mg_0 (hts _ (by decide +kernel)) dX4_part_144 ?_
                refine va_callv (va_runV (As := []) (rest := []) ⟨hx, hb, hml, hown, hts⟩ (c_X3_trim l D cA tT A 23 ad _ _ (a := 7) (f := fq_) (n := nd_p Q9) (b := true) (z := ((0 : Nat) : Int)) (v := Q9) (by decide) mg_C (by omega) (by omega) (rv_dv vq_)) (cwV 0 hts gX4_part_X3_trim rfl rfl rfl (by decide +kernel) ⟨Nat.le_of_ble_eq_true rfl, Nat.le_of_ble_eq_true rfl⟩) (wd_preV (k := 7) hP hK hD hT hS (by decide) mg_C.1 rfl) rfl rfl hl.1 rfl (lv_room (Nat.le_of_ble_eq_true rfl)) dX4_part_147 ⟨Nat.zero_le _, Nat.zero_le _⟩) hS id_2 id_1 (fun u t H locs ht hvm hw hB hz1 hk1 hS => ?_)
                refine c00 ?_
                obtain ⟨hP, hD⟩ := wd_back ht hB
                clear ht hvm hB hz1 hk1
                obtain ⟨hv2, hu_⟩ := hw
                rw [hu_] at hP hD
                clear hu_
                rw [show rw_ cA ad (mg cA ad (fr_, nd_p R9, sn (((rh i_n).1)) R9, max (rh i_n).2.2 (rh j_n).2.2) (fb, nb, (rh j_n).1, max (rh i_n).2.2 (rh j_n).2.2) (fq_, nd_p Q9, true, ((0 : Nat) : Int)) we9 rg tx tl) 7 fq_ (nd_p Q9) (sn true Q9) ((0 : Nat) : Int) = mg cA ad (fr_, nd_p R9, sn (((rh i_n).1)) R9, max (rh i_n).2.2 (rh j_n).2.2) (fb, nb, (rh j_n).1, max (rh i_n).2.2 (rh j_n).2.2) (fq_, nd_p Q9, sn true Q9, ((0 : Nat) : Int)) we9 rg tx tl from mg_uc (w' := (fq_, nd_p Q9, sn true Q9, ((0 : Nat) : Int)))] at hP hD
                refine lv_aload_n hx hb dX4_part_150 rfl (lv_at hl 2 rfl) ?_
                refine rg_4_c hx hb hts in4 hown hK hP 0 (by decide) mg_0 (hts _ (by decide +kernel)) dX4_part_151 ?_
                refine rg_3_n hx hb hts in3 hown hK hP 7 (by omega) mg_C.1 (hts _ (by decide +kernel)) dX4_part_154 ?_
                refine tp_i (y := nI (nd_p Q9)) rfl ?_
                refine lv_sipush (v := nI (190)) hx hb dX4_part_157 (by decide) ?_
                refine bi_gt (tgt := 176) hx hb dX4_part_160 (by decide) (by omega) (by omega) (fun p8 => ?_) (fun p8 => ?_)
                · refine lv_bipush (v := iZ (-3)) hx hb dX4_part_176 (by decide) ?_
                  exact W.iret (v := iZ (-3)) hx hb hr (fun t ht hW => ⟨⟨iZ (-3), _, rfl, ⟨by rw [sp_part, if_pos (by omega), e_q, e_o, e_i, e_j, if_neg p4, ← hQ9, if_pos (by omega)], _, _, _, _, rg, by rw [sp_part, if_pos (by omega), e_q, e_o, e_i, e_j, if_neg p4, ← hQ9, if_pos (by omega)]; exact hm, rfl⟩, wd_end hP hK hD ht hW⟩, hS.F ht⟩) hS.2.2 dX4_part_178
                · refine lv_aload_n hx hb dX4_part_163 rfl (lv_at hl 2 rfl) ?_
                  refine rg_4_a hx hb hts in4 hown hK hP 0 (by decide) mg_0 (hts _ (by decide +kernel)) dX4_part_164 ?_
                  refine rg_3_n hx hb hts in3 hown hK hP 3 (by omega) mg_A.1 (hts _ (by decide +kernel)) dX4_part_167 ?_
                  refine tp_i (y := nI (nd_p R9)) rfl ?_
                  refine lv_sipush (v := nI (190)) hx hb dX4_part_170 (by decide) ?_
                  refine bi_le (tgt := 179) hx hb dX4_part_173 (by decide) (by omega) (by omega) (fun p9 => ?_) (fun p9 => ?_)
                  · refine lv_aload_n hx hb dX4_part_179 rfl (lv_at hl 2 rfl) ?_
                    refine rg_4_registers hx hb hts in4 hown hK hP 0 (by decide) mg_0 (hts _ (by decide +kernel)) dX4_part_180 ?_
                    refine lv_iload_n hx hb dX4_part_183 rfl (lv_at hl 3 rfl) ?_
                    refine rn_q4 hx hb hK hP 1 (by decide) mg_1 (by omega) (by decide) dX4_part_184 ?_
                    refine tp_v (y := .ref (ad (11 + 2 * q_n))) rfl ?_
                    refine lv_aload_n hx hb dX4_part_185 rfl (lv_at hl 2 rfl) ?_
                    refine rg_4_c hx hb hts in4 hown hK hP 0 (by decide) mg_0 (hts _ (by decide +kernel)) dX4_part_186 ?_
                    refine va_callv (va_runV (As := [.ref (ad 7)]) (rest := []) ⟨hx, hb, hml, hown, hts⟩ (c_X3_take l D cA tT A 23 ad _ _ (a := 11 + 2 * q_n) (f := (rg q_n).1) (n := (rg q_n).2.1) (b := (rg q_n).2.2.1) (z := (rg q_n).2.2.2) (o := 7) (f1 := fq_) (n1 := nd_p Q9) (b1 := sn true Q9) (z1 := ((0 : Nat) : Int)) (by omega) (mg_G q_n) (by decide) mg_C (by omega) (by omega) (by omega) (by omega)) (cwV 1 hts gX4_part_X3_take rfl rfl rfl (by decide +kernel) ⟨Nat.le_of_ble_eq_true rfl, Nat.le_of_ble_eq_true rfl⟩) (wd_preV (k := 11 + 2 * q_n) hP hK hD hT hS (by omega) (mg_G q_n).1 rfl) rfl rfl hl.1 rfl (lv_room (Nat.le_of_ble_eq_true rfl)) dX4_part_189 ⟨Nat.zero_le _, Nat.zero_le _⟩) hS id_2 id_1 (fun u t H locs ht hvm hw hB hz1 hk1 hS => ?_)
                    refine c00 ?_
                    obtain ⟨hP, hD⟩ := wd_back ht hB
                    clear ht hvm hB hz1 hk1
                    rw [hw] at hP hD
                    clear hw
                    rw [show rw_ cA ad (mg cA ad (fr_, nd_p R9, sn (((rh i_n).1)) R9, max (rh i_n).2.2 (rh j_n).2.2) (fb, nb, (rh j_n).1, max (rh i_n).2.2 (rh j_n).2.2) (fq_, nd_p Q9, sn true Q9, ((0 : Nat) : Int)) we9 rg tx tl) (11 + 2 * q_n) (tk fq_ (rg q_n).1 (nd_p Q9)) (nd_p Q9) (sn true Q9) (((0 : Nat) : Int)) = mg cA ad (fr_, nd_p R9, sn (((rh i_n).1)) R9, max (rh i_n).2.2 (rh j_n).2.2) (fb, nb, (rh j_n).1, max (rh i_n).2.2 (rh j_n).2.2) (fq_, nd_p Q9, sn true Q9, ((0 : Nat) : Int)) we9 (va_up rg q_n (tk fq_ (rg q_n).1 (nd_p Q9), nd_p Q9, sn true Q9, ((0 : Nat) : Int))) tx tl from mg_ug (w' := (tk fq_ (rg q_n).1 (nd_p Q9), nd_p Q9, sn true Q9, ((0 : Nat) : Int))) q_n] at hP hD
                    have hm1 : mr (va_up rg q_n (tk fq_ (rg q_n).1 (nd_p Q9), nd_p Q9, sn true Q9, ((0 : Nat) : Int))) (va_up rh q_n (sn true Q9, Q9, (0 : Int))) := mr_up hm ⟨rfl, fun j hj => by dsimp only at hj ⊢; rw [tk_lt hj]; exact hv2.2 j hj⟩ rfl
                    obtain ⟨rg1, hrg1⟩ : ∃ rg1, rg1 = va_up rg q_n (tk fq_ (rg q_n).1 (nd_p Q9), nd_p Q9, sn true Q9, ((0 : Nat) : Int)) := ⟨_, rfl⟩
                    rw [← hrg1] at hm1 hP hD
                    refine lv_aload_n hx hb dX4_part_192 rfl (lv_at hl 2 rfl) ?_
                    refine rg_4_registers hx hb hts in4 hown hK hP 0 (by decide) mg_0 (hts _ (by decide +kernel)) dX4_part_193 ?_
                    refine lv_iload_n hx hb dX4_part_196 rfl (lv_at hl 4 rfl) ?_
                    refine rn_q4 hx hb hK hP 1 (by decide) mg_1 (by omega) (by decide) dX4_part_197 ?_
                    refine tp_v (y := .ref (ad (11 + 2 * o_n))) rfl ?_
                    refine lv_aload_n hx hb dX4_part_198 rfl (lv_at hl 2 rfl) ?_
                    refine rg_4_a hx hb hts in4 hown hK hP 0 (by decide) mg_0 (hts _ (by decide +kernel)) dX4_part_199 ?_
                    refine va_callv (va_runV (As := [.ref (ad 3)]) (rest := []) ⟨hx, hb, hml, hown, hts⟩ (c_X3_take l D cA tT A 23 ad _ _ (a := 11 + 2 * o_n) (f := (rg1 o_n).1) (n := (rg1 o_n).2.1) (b := (rg1 o_n).2.2.1) (z := (rg1 o_n).2.2.2) (o := 3) (f1 := fr_) (n1 := nd_p R9) (b1 := sn (((rh i_n).1)) R9) (z1 := max (rh i_n).2.2 (rh j_n).2.2) (by omega) (mg_G o_n) (by decide) mg_A (by omega) (by omega) (by omega) (by omega)) (cwV 1 hts gX4_part_X3_take rfl rfl rfl (by decide +kernel) ⟨Nat.le_of_ble_eq_true rfl, Nat.le_of_ble_eq_true rfl⟩) (wd_preV (k := 11 + 2 * o_n) hP hK hD hT hS (by omega) (mg_G o_n).1 rfl) rfl rfl hl.1 rfl (lv_room (Nat.le_of_ble_eq_true rfl)) dX4_part_202 ⟨Nat.zero_le _, Nat.zero_le _⟩) hS id_2 id_1 (fun u t H locs ht hvm hw hB hz1 hk1 hS => ?_)
                    refine c00 ?_
                    obtain ⟨hP, hD⟩ := wd_back ht hB
                    clear ht hvm hB hz1 hk1
                    rw [hw] at hP hD
                    clear hw
                    rw [show rw_ cA ad (mg cA ad (fr_, nd_p R9, sn (((rh i_n).1)) R9, max (rh i_n).2.2 (rh j_n).2.2) (fb, nb, (rh j_n).1, max (rh i_n).2.2 (rh j_n).2.2) (fq_, nd_p Q9, sn true Q9, ((0 : Nat) : Int)) we9 rg1 tx tl) (11 + 2 * o_n) (tk fr_ (rg1 o_n).1 (nd_p R9)) (nd_p R9) (sn (((rh i_n).1)) R9) (max (rh i_n).2.2 (rh j_n).2.2) = mg cA ad (fr_, nd_p R9, sn (((rh i_n).1)) R9, max (rh i_n).2.2 (rh j_n).2.2) (fb, nb, (rh j_n).1, max (rh i_n).2.2 (rh j_n).2.2) (fq_, nd_p Q9, sn true Q9, ((0 : Nat) : Int)) we9 (va_up rg1 o_n (tk fr_ (rg1 o_n).1 (nd_p R9), nd_p R9, sn (((rh i_n).1)) R9, max (rh i_n).2.2 (rh j_n).2.2)) tx tl from mg_ug (w' := (tk fr_ (rg1 o_n).1 (nd_p R9), nd_p R9, sn (((rh i_n).1)) R9, max (rh i_n).2.2 (rh j_n).2.2)) o_n] at hP hD
                    have hm2 : mr (va_up rg1 o_n (tk fr_ (rg1 o_n).1 (nd_p R9), nd_p R9, sn (((rh i_n).1)) R9, max (rh i_n).2.2 (rh j_n).2.2)) (va_up (va_up rh q_n (sn true Q9, Q9, (0 : Int))) o_n (sn (rh i_n).1 R9, R9, max (rh i_n).2.2 (rh j_n).2.2)) := mr_up hm1 ⟨rfl, fun j hj => by dsimp only at hj ⊢; rw [tk_lt hj]; exact hv1.2 j hj⟩ rfl
                    have hsp : sp_part rh (q_n : Int) (o_n : Int) (i_n : Int) (j_n : Int) = (nI (nd_p Q9), va_up (va_up rh q_n (sn true Q9, Q9, (0 : Int))) o_n (sn (rh i_n).1 R9, R9, max (rh i_n).2.2 (rh j_n).2.2)) := by rw [sp_part, if_pos (by omega), e_q, e_o, e_i, e_j, if_neg p4, hbb, ← hQ9, ← hR9, if_neg (by omega)]
                    refine lv_aload_n hx hb dX4_part_205 rfl (lv_at hl 2 rfl) ?_
                    refine rg_4_c hx hb hts in4 hown hK hP 0 (by decide) mg_0 (hts _ (by decide +kernel)) dX4_part_206 ?_
                    refine rg_3_n hx hb hts in3 hown hK hP 7 (by omega) mg_C.1 (hts _ (by decide +kernel)) dX4_part_209 ?_
                    refine tp_i (y := nI (nd_p Q9)) rfl ?_
                    exact W.iret (v := nI (nd_p Q9)) hx hb hr (fun t ht hW => ⟨⟨nI (nd_p Q9), _, rfl, ⟨by rw [hsp], _, _, _, _, _, by rw [hsp]; exact hm2, rfl⟩, wd_end hP hK hD ht hW⟩, hS.F ht⟩) hS.2.2 dX4_part_212
                  · exact absurd hRl p9
            · have p4 := it_ne p3
              refine lv_bipush (v := iZ (-2)) hx hb dX4_part_49 (by decide) ?_
              exact W.iret (v := iZ (-2)) hx hb hr (fun t ht hW => ⟨⟨iZ (-2), _, rfl, ⟨by rw [sp_part, if_pos (by omega), e_q, e_o, e_i, e_j, if_pos p4], _, _, _, _, rg, by rw [sp_part, if_pos (by omega), e_q, e_o, e_i, e_j, if_pos p4]; exact hm, rfl⟩, wd_end hP hK hD ht hW⟩, hS.F ht⟩) hS.2.2 dX4_part_51
          · refine lv_iconst (v := iZ (-1)) hx hb dX4_part_34 (by decide) ?_
            exact W.iret (v := iZ (-1)) hx hb hr (fun t ht hW => ⟨⟨iZ (-1), _, rfl, ⟨by rw [sp_part, if_neg (by omega)], _, _, _, _, rg, by rw [sp_part, if_neg (by omega)]; exact hm, rfl⟩, wd_end hP hK hD ht hW⟩, hS.F ht⟩) hS.2.2 dX4_part_35
