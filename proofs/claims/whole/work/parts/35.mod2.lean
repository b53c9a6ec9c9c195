set_option maxHeartbeats 4000000 in
set_option maxRecDepth 100000 in
/-- align -/
theorem c_X4_align (l : Launch) (D : va_G) (cA : Nat → ClassId) (tT : Nat) (A : Nat → Prop) (ad : Nat → Nat) (sz : Nat) {wa wb wc we : RWt} {rg : Nat → RWt} {tx : Nat → Int32} {tl : Nat} {rh : Nat → Bool × Nat × Int} (hm : mr rg rh) (hr9 : rks rh) {i_n j_n : Nat} (h_i : i_n < 6) (h_j : j_n < 6) : Met l yX4_align wsX4_align ({ frames := 2, cells := 0, slots := 0, locals := 42 }) (va_Pc [.ref (ad 0), .int (nI (i_n)), .int (nI (j_n))] (wd_B D cA tT A 23 ad sz (mg cA ad wa wb wc we rg tx tl))) (va_Qv (fun (u : Nat → va_E) => ∃ (fa : Nat → Int32) (na : Nat) (fb : Nat → Int32) (nb : Nat), rv fa na (aX (rh i_n) (rh j_n)) ∧ na ≤ 210 ∧ rv fb nb (aX (rh j_n) (rh i_n)) ∧ nb ≤ 210 ∧ u = mg cA ad (fa, na, (rh i_n).1, max (rh i_n).2.2 (rh j_n).2.2) (fb, nb, (rh j_n).1, max (rh i_n).2.2 (rh j_n).2.2) wc we rg tx tl) (wd_E D cA A 23 ad) A) 0 0 A := by
  refine Met.ofW (cc := cX4_align) (maxL := 4) (ret := none) (by decide) rfl ?_
  intro p e s m args below meth c s₁ B hml hv
  obtain ⟨rfl, hsz, hP, hK, hD, hT⟩ := hv
  have hx := B.exec
  have hb := B.bytes
  have hr := B.returns
  have hts := atoms_spec (ws := wsX4_align) B.pre
  have hown : s.vm.findClass RX4 = some m.cls := findClass_of_methodNamed B.named
  have hlocks := B.notSynchronized
  subst hsz
  have hS : va_S A s.heap s.heap [] := va_S.rf
  have in3 : ∀ w ∈ wsX30, w ∈ wsX4_align := by decide +kernel
  have in4 : ∀ w ∈ wsX40, w ∈ wsX4_align := by decide +kernel
  have hl := lv_entry ([.ref (ad 0), .int (nI (i_n)), .int (nI (j_n))]) (n := 4) (Nat.le_of_ble_eq_true rfl)
  rw [lg_entry_eq]
  generalize (lg_sl ([.ref (ad 0), .int (nI (i_n)), .int (nI (j_n))]) ++ List.replicate (4 - (lg_sl ([.ref (ad 0), .int (nI (i_n)), .int (nI (j_n))])).length) Slot.unset).toArray = ls at hl ⊢
  have hl : lv_has ls 4 [(0, .ref (ad 0)), (1, .int (nI (i_n))), (2, .int (nI (j_n)))] := hl
  have m_i := hm i_n h_i
  have n_i : (rg i_n).2.1 = nd_p (rh i_n).2.1 := m_i.1.1
  have b_i : (rg i_n).2.2.1 = (rh i_n).1 := by rw [m_i.2]
  have z_i : (rg i_n).2.2.2 = (rh i_n).2.2 := by rw [m_i.2]
  have r_i := hr9 i_n h_i
  simp only [rk] at r_i
  have p_i := p190 r_i.1
  have t_i := tn_le (rh i_n).1
  have m_j := hm j_n h_j
  have n_j : (rg j_n).2.1 = nd_p (rh j_n).2.1 := m_j.1.1
  have b_j : (rg j_n).2.2.1 = (rh j_n).1 := by rw [m_j.2]
  have z_j : (rg j_n).2.2.2 = (rh j_n).2.2 := by rw [m_j.2]
  have r_j := hr9 j_n h_j
  simp only [rk] at r_j
  have p_j := p190 r_j.1
  have t_j := tn_le (rh j_n).1
  refine lv_aload_n hx hb dX4_align_0 rfl (lv_at hl 0 rfl) ?_
  refine rg_4_a hx hb hts in4 hown hK hP 0 (by decide) mg_0 (hts _ (by decide +kernel)) dX4_align_1 ?_
  refine lv_aload_n hx hb dX4_align_4 rfl (lv_at hl 0 rfl) ?_
  refine rg_4_registers hx hb hts in4 hown hK hP 0 (by decide) mg_0 (hts _ (by decide +kernel)) dX4_align_5 ?_
  refine lv_iload_n hx hb dX4_align_8 rfl (lv_at hl 1 rfl) ?_
  refine rn_q4 hx hb hK hP 1 (by decide) mg_1 (by omega) (by decide) dX4_align_9 ?_
  refine tp_v (y := .ref (ad (11 + 2 * i_n))) rfl ?_
  refine va_callv (va_runV (As := [.ref (ad (11 + 2 * i_n))]) (rest := []) ⟨hx, hb, hml, hown, hts⟩ (c_X3_take l D cA tT A 23 ad _ _ (a := 3) (f := wa.1) (n := wa.2.1) (b := wa.2.2.1) (z := wa.2.2.2) (o := 11 + 2 * i_n) (f1 := (rg i_n).1) (n1 := (rg i_n).2.1) (b1 := (rg i_n).2.2.1) (z1 := (rg i_n).2.2.2) (by decide) mg_A (by omega) (mg_G _) (by omega) (by omega) (by omega) (by omega)) (cwV 1 hts gX4_align_X3_take rfl rfl rfl (by decide +kernel) ⟨Nat.le_of_ble_eq_true rfl, Nat.le_of_ble_eq_true rfl⟩) (wd_preV (k := 3) hP hK hD hT hS (by decide) mg_A.1 rfl) rfl rfl hl.1 rfl (lv_room (Nat.le_of_ble_eq_true rfl)) dX4_align_10 ⟨Nat.zero_le _, Nat.zero_le _⟩) hS id_2 id_1 (fun u t H locs ht hvm hw hB hz1 hk1 hS => ?_)
  refine c00 ?_
  obtain ⟨hP, hD⟩ := wd_back ht hB
  clear ht hvm hB hz1 hk1
  rw [hw] at hP hD
  clear hw
  obtain ⟨f1, hf1⟩ : ∃ f9 : Nat → Int32, f9 = tk (rg i_n).1 wa.1 (rg i_n).2.1 := ⟨_, rfl⟩
  rw [← hf1, b_i, z_i] at hP hD
  have vf1 : rv f1 (rg i_n).2.1 (rh i_n).2.1 := ⟨n_i, fun j hj => by rw [hf1, tk_lt hj]; exact m_i.1.2 j hj⟩
  rw [show rw_ cA ad (mg cA ad wa wb wc we rg tx tl) 3 f1 ((rg i_n).2.1) ((rh i_n).1) ((rh i_n).2.2) = mg cA ad (f1, (rg i_n).2.1, (rh i_n).1, (rh i_n).2.2) wb wc we rg tx tl from mg_ua (w' := (f1, (rg i_n).2.1, (rh i_n).1, (rh i_n).2.2))] at hP hD
  refine lv_aload_n hx hb dX4_align_13 rfl (lv_at hl 0 rfl) ?_
  refine rg_4_b hx hb hts in4 hown hK hP 0 (by decide) mg_0 (hts _ (by decide +kernel)) dX4_align_14 ?_
  refine lv_aload_n hx hb dX4_align_17 rfl (lv_at hl 0 rfl) ?_
  refine rg_4_registers hx hb hts in4 hown hK hP 0 (by decide) mg_0 (hts _ (by decide +kernel)) dX4_align_18 ?_
  refine lv_iload_n hx hb dX4_align_21 rfl (lv_at hl 2 rfl) ?_
  refine rn_q4 hx hb hK hP 1 (by decide) mg_1 (by omega) (by decide) dX4_align_22 ?_
  refine tp_v (y := .ref (ad (11 + 2 * j_n))) rfl ?_
  refine va_callv (va_runV (As := [.ref (ad (11 + 2 * j_n))]) (rest := []) ⟨hx, hb, hml, hown, hts⟩ (c_X3_take l D cA tT A 23 ad _ _ (a := 5) (f := wb.1) (n := wb.2.1) (b := wb.2.2.1) (z := wb.2.2.2) (o := 11 + 2 * j_n) (f1 := (rg j_n).1) (n1 := (rg j_n).2.1) (b1 := (rg j_n).2.2.1) (z1 := (rg j_n).2.2.2) (by decide) mg_B (by omega) (mg_G _) (by omega) (by omega) (by omega) (by omega)) (cwV 1 hts gX4_align_X3_take rfl rfl rfl (by decide +kernel) ⟨Nat.le_of_ble_eq_true rfl, Nat.le_of_ble_eq_true rfl⟩) (wd_preV (k := 5) hP hK hD hT hS (by decide) mg_B.1 rfl) rfl rfl hl.1 rfl (lv_room (Nat.le_of_ble_eq_true rfl)) dX4_align_23 ⟨Nat.zero_le _, Nat.zero_le _⟩) hS id_2 id_1 (fun u t H locs ht hvm hw hB hz1 hk1 hS => ?_)
  refine c00 ?_
  obtain ⟨hP, hD⟩ := wd_back ht hB
  clear ht hvm hB hz1 hk1
  rw [hw] at hP hD
  clear hw
  obtain ⟨f2, hf2⟩ : ∃ f9 : Nat → Int32, f9 = tk (rg j_n).1 wb.1 (rg j_n).2.1 := ⟨_, rfl⟩
  rw [← hf2, b_j, z_j] at hP hD
  have vf2 : rv f2 (rg j_n).2.1 (rh j_n).2.1 := ⟨n_j, fun j hj => by rw [hf2, tk_lt hj]; exact m_j.1.2 j hj⟩
  rw [show rw_ cA ad (mg cA ad (f1, (rg i_n).2.1, (rh i_n).1, (rh i_n).2.2) wb wc we rg tx tl) 5 f2 ((rg j_n).2.1) ((rh j_n).1) ((rh j_n).2.2) = mg cA ad (f1, (rg i_n).2.1, (rh i_n).1, (rh i_n).2.2) (f2, (rg j_n).2.1, (rh j_n).1, (rh j_n).2.2) wc we rg tx tl from mg_ub (w' := (f2, (rg j_n).2.1, (rh j_n).1, (rh j_n).2.2))] at hP hD
  refine lv_aload_n hx hb dX4_align_26 rfl (lv_at hl 0 rfl) ?_
  refine rg_4_a hx hb hts in4 hown hK hP 0 (by decide) mg_0 (hts _ (by decide +kernel)) dX4_align_27 ?_
  refine rg_3_scale hx hb hts in3 hown hK hP 3 (by omega) mg_A.1 (hts _ (by decide +kernel)) dX4_align_30 ?_
  refine tp_i (y := iZ ((rh i_n).2.2)) rfl ?_
  refine lv_aload_n hx hb dX4_align_33 rfl (lv_at hl 0 rfl) ?_
  refine rg_4_b hx hb hts in4 hown hK hP 0 (by decide) mg_0 (hts _ (by decide +kernel)) dX4_align_34 ?_
  refine rg_3_scale hx hb hts in3 hown hK hP 5 (by omega) mg_B.1 (hts _ (by decide +kernel)) dX4_align_37 ?_
  refine tp_i (y := iZ ((rh j_n).2.2)) rfl ?_
  refine bs_le (tgt := 53) hx hb dX4_align_40 (by decide) (by omega) (by omega) (by omega) (by omega) (fun q1 => ?_) (fun q1 => ?_)
  · have hmx : max (rh i_n).2.2 (rh j_n).2.2 = (rh j_n).2.2 := by omega
    refine lv_aload_n hx hb dX4_align_53 rfl (lv_at hl 0 rfl) ?_
    refine rg_4_b hx hb hts in4 hown hK hP 0 (by decide) mg_0 (hts _ (by decide +kernel)) dX4_align_54 ?_
    refine rg_3_scale hx hb hts in3 hown hK hP 5 (by omega) mg_B.1 (hts _ (by decide +kernel)) dX4_align_57 ?_
    refine tp_i (y := iZ ((rh j_n).2.2)) rfl ?_
    refine lv_istore_n (lv' := [(3, .int (iZ ((rh j_n).2.2))), (0, .ref (ad 0)), (1, .int (nI (i_n))), (2, .int (nI (j_n)))]) hx hb dX4_align_60 rfl hl (by decide) rfl (fun ls hl => ?_)
    refine lv_aload_n hx hb dX4_align_61 rfl (lv_at hl 1 rfl) ?_
    refine rg_4_a hx hb hts in4 hown hK hP 0 (by decide) mg_0 (hts _ (by decide +kernel)) dX4_align_62 ?_
    refine lv_iload_n hx hb dX4_align_65 rfl (lv_at hl 0 rfl) ?_
    refine lv_aload_n hx hb dX4_align_66 rfl (lv_at hl 1 rfl) ?_
    refine rg_4_a hx hb hts in4 hown hK hP 0 (by decide) mg_0 (hts _ (by decide +kernel)) dX4_align_67 ?_
    refine rg_3_scale hx hb hts in3 hown hK hP 3 (by omega) mg_A.1 (hts _ (by decide +kernel)) dX4_align_70 ?_
    refine tp_i (y := iZ ((rh i_n).2.2)) rfl ?_
    refine lv_isub hx hb dX4_align_73 ?_
    refine tp_i (y := iZ (((rh j_n).2.2) - ((rh i_n).2.2))) (iZ_sub _ _) ?_
    refine tp_i (y := nI (((rh j_n).2.2 - (rh i_n).2.2).toNat)) (iZ_tn (by omega)) ?_
    refine va_callv (va_runV (As := [.int (nI (((rh j_n).2.2 - (rh i_n).2.2).toNat))]) (rest := []) ⟨hx, hb, hml, hown, hts⟩ (c_X3_up l D cA tT A 23 ad _ _ (a := 3) (f := f1) (n := (rg i_n).2.1) (b := (rh i_n).1) (z := (rh i_n).2.2) (v := (rh i_n).2.1) (F := ((rh j_n).2.2 - (rh i_n).2.2).toNat) (by decide) mg_A vf1 (by omega)) (cwV 1 hts gX4_align_X3_up rfl rfl rfl (by decide +kernel) ⟨Nat.le_of_ble_eq_true rfl, Nat.le_of_ble_eq_true rfl⟩) (wd_preV (k := 3) hP hK hD hT hS (by decide) mg_A.1 rfl) rfl rfl hl.1 rfl (lv_room (Nat.le_of_ble_eq_true rfl)) dX4_align_74 ⟨Nat.zero_le _, Nat.zero_le _⟩) hS id_2 id_1 (fun u t H locs ht hvm hw hB hz1 hk1 hS => ?_)
    refine c00 ?_
    obtain ⟨hP, hD⟩ := wd_back ht hB
    clear ht hvm hB hz1 hk1
    obtain ⟨f3, nf3, vf3, lf3, hu_⟩ := hw
    rw [hu_] at hP hD
    clear hu_
    rw [show rw_ cA ad (mg cA ad (f1, (rg i_n).2.1, (rh i_n).1, (rh i_n).2.2) (f2, (rg j_n).2.1, (rh j_n).1, (rh j_n).2.2) wc we rg tx tl) 3 f3 nf3 ((rh i_n).1) ((rh i_n).2.2) = mg cA ad (f3, nf3, (rh i_n).1, (rh i_n).2.2) (f2, (rg j_n).2.1, (rh j_n).1, (rh j_n).2.2) wc we rg tx tl from mg_ua (w' := (f3, nf3, (rh i_n).1, (rh i_n).2.2))] at hP hD
    refine lv_aload_n hx hb dX4_align_77 rfl (lv_at hl 1 rfl) ?_
    refine rg_4_b hx hb hts in4 hown hK hP 0 (by decide) mg_0 (hts _ (by decide +kernel)) dX4_align_78 ?_
    refine lv_iload_n hx hb dX4_align_81 rfl (lv_at hl 0 rfl) ?_
    refine lv_aload_n hx hb dX4_align_82 rfl (lv_at hl 1 rfl) ?_
    refine rg_4_b hx hb hts in4 hown hK hP 0 (by decide) mg_0 (hts _ (by decide +kernel)) dX4_align_83 ?_
    refine rg_3_scale hx hb hts in3 hown hK hP 5 (by omega) mg_B.1 (hts _ (by decide +kernel)) dX4_align_86 ?_
    refine tp_i (y := iZ ((rh j_n).2.2)) rfl ?_
    refine lv_isub hx hb dX4_align_89 ?_
    refine tp_i (y := iZ (((rh j_n).2.2) - ((rh j_n).2.2))) (iZ_sub _ _) ?_
    refine tp_i (y := nI (((rh j_n).2.2 - (rh j_n).2.2).toNat)) (iZ_tn (by omega)) ?_
    refine va_callv (va_runV (As := [.int (nI (((rh j_n).2.2 - (rh j_n).2.2).toNat))]) (rest := []) ⟨hx, hb, hml, hown, hts⟩ (c_X3_up l D cA tT A 23 ad _ _ (a := 5) (f := f2) (n := (rg j_n).2.1) (b := (rh j_n).1) (z := (rh j_n).2.2) (v := (rh j_n).2.1) (F := ((rh j_n).2.2 - (rh j_n).2.2).toNat) (by decide) mg_B vf2 (by omega)) (cwV 1 hts gX4_align_X3_up rfl rfl rfl (by decide +kernel) ⟨Nat.le_of_ble_eq_true rfl, Nat.le_of_ble_eq_true rfl⟩) (wd_preV (k := 5) hP hK hD hT hS (by decide) mg_B.1 rfl) rfl rfl hl.1 rfl (lv_room (Nat.le_of_ble_eq_true rfl)) dX4_align_90 ⟨Nat.zero_le _, Nat.zero_le _⟩) hS id_2 id_1 (fun u t H locs ht hvm hw hB hz1 hk1 hS => ?_)
    refine c00 ?_
    obtain ⟨hP, hD⟩ := wd_back ht hB
    clear ht hvm hB hz1 hk1
    obtain ⟨f4, nf4, vf4, lf4, hu_⟩ := hw
    rw [hu_] at hP hD
    clear hu_
    rw [show rw_ cA ad (mg cA ad (f3, nf3, (rh i_n).1, (rh i_n).2.2) (f2, (rg j_n).2.1, (rh j_n).1, (rh j_n).2.2) wc we rg tx tl) 5 f4 nf4 ((rh j_n).1) ((rh j_n).2.2) = mg cA ad (f3, nf3, (rh i_n).1, (rh i_n).2.2) (f4, nf4, (rh j_n).1, (rh j_n).2.2) wc we rg tx tl from mg_ub (w' := (f4, nf4, (rh j_n).1, (rh j_n).2.2))] at hP hD
    rw [show ((rh j_n).2.2 - (rh i_n).2.2).toNat = ((rh j_n).2.2 - (rh i_n).2.2).toNat by omega] at vf3
    rw [show ((rh j_n).2.2 - (rh j_n).2.2).toNat = ((rh i_n).2.2 - (rh j_n).2.2).toNat by omega] at vf4
    refine lv_aload_n hx hb dX4_align_93 rfl (lv_at hl 1 rfl) ?_
    refine rg_4_a hx hb hts in4 hown hK hP 0 (by decide) mg_0 (hts _ (by decide +kernel)) dX4_align_94 ?_
    refine lv_iload_n hx hb dX4_align_97 rfl (lv_at hl 0 rfl) ?_
    refine rp_3_scale hx hb hts in3 hown hK hP hD hS 3 (by omega) mg_A.1 (hts _ (by decide +kernel)) rfl rfl dX4_align_98 (fun H locs hP hD hS => ?_)
    rw [mg_pa nf3 ((rh i_n).1) ((rh j_n).2.2) (v := nI (((rh i_n).1).toNat)) rfl] at hP hD
    refine lv_aload_n hx hb dX4_align_101 rfl (lv_at hl 1 rfl) ?_
    refine rg_4_b hx hb hts in4 hown hK hP 0 (by decide) mg_0 (hts _ (by decide +kernel)) dX4_align_102 ?_
    refine lv_iload_n hx hb dX4_align_105 rfl (lv_at hl 0 rfl) ?_
    refine rp_3_scale hx hb hts in3 hown hK hP hD hS 5 (by omega) mg_B.1 (hts _ (by decide +kernel)) rfl rfl dX4_align_106 (fun H locs hP hD hS => ?_)
    rw [mg_pb nf4 ((rh j_n).1) ((rh j_n).2.2) (v := nI (((rh j_n).1).toNat)) rfl] at hP hD
    exact W.vret hx hb hr (fun t ht hW => ⟨⟨_, rfl, ⟨f3, nf3, f4, nf4, vf3, by omega, vf4, by omega, by rw [hmx]⟩, wd_end hP hK hD ht hW⟩, hS.F ht⟩) hS.2.2 dX4_align_109
  · have hmx : max (rh i_n).2.2 (rh j_n).2.2 = (rh i_n).2.2 := by omega
    refine lv_aload_n hx hb dX4_align_43 rfl (lv_at hl 0 rfl) ?_
    refine rg_4_a hx hb hts in4 hown hK hP 0 (by decide) mg_0 (hts _ (by decide +kernel)) dX4_align_44 ?_
    refine rg_3_scale hx hb hts in3 hown hK hP 3 (by omega) mg_A.1 (hts _ (by decide +kernel)) dX4_align_47 ?_
    refine tp_i (y := iZ ((rh i_n).2.2)) rfl ?_
    refine lv_goto (tgt := 60) hx hb dX4_align_50 (by decide) ?_
    refine lv_istore_n (lv' := [(3, .int (iZ ((rh i_n).2.2))), (0, .ref (ad 0)), (1, .int (nI (i_n))), (2, .int (nI (j_n)))]) hx hb dX4_align_60 rfl hl (by decide) rfl (fun ls hl => ?_)
    refine lv_aload_n hx hb dX4_align_61 rfl (lv_at hl 1 rfl) ?_
    refine rg_4_a hx hb hts in4 hown hK hP 0 (by decide) mg_0 (hts _ (by decide +kernel)) dX4_align_62 ?_
    refine lv_iload_n hx hb dX4_align_65 rfl (lv_at hl 0 rfl) ?_
    refine lv_aload_n hx hb dX4_align_66 rfl (lv_at hl 1 rfl) ?_
    refine rg_4_a hx hb hts in4 hown hK hP 0 (by decide) mg_0 (hts _ (by decide +kernel)) dX4_align_67 ?_
    refine rg_3_scale hx hb hts in3 hown hK hP 3 (by omega) mg_A.1 (hts _ (by decide +kernel)) dX4_align_70 ?_
    refine tp_i (y := iZ ((rh i_n).2.2)) rfl ?_
    refine lv_isub hx hb dX4_align_73 ?_
    refine tp_i (y := iZ (((rh i_n).2.2) - ((rh i_n).2.2))) (iZ_sub _ _) ?_
    refine tp_i (y := nI (((rh i_n).2.2 - (rh i_n).2.2).toNat)) (iZ_tn (by omega)) ?_
    refine va_callv (va_runV (As := [.int (nI (((rh i_n).2.2 - (rh i_n).2.2).toNat))]) (rest := []) ⟨hx, hb, hml, hown, hts⟩ (c_X3_up l D cA tT A 23 ad _ _ (a := 3) (f := f1) (n := (rg i_n).2.1) (b := (rh i_n).1) (z := (rh i_n).2.2) (v := (rh i_n).2.1) (F := ((rh i_n).2.2 - (rh i_n).2.2).toNat) (by decide) mg_A vf1 (by omega)) (cwV 1 hts gX4_align_X3_up rfl rfl rfl (by decide +kernel) ⟨Nat.le_of_ble_eq_true rfl, Nat.le_of_ble_eq_true rfl⟩) (wd_preV (k := 3) hP hK hD hT hS (by decide) mg_A.1 rfl) rfl rfl hl.1 rfl (lv_room (Nat.le_of_ble_eq_true rfl)) dX4_align_74 ⟨Nat.zero_le _, Nat.zero_le _⟩) hS id_2 id_1 (fun u t H locs ht hvm hw hB hz1 hk1 hS => ?_)
    refine c00 ?_
    obtain ⟨hP, hD⟩ := wd_back ht hB
    clear ht hvm hB hz1 hk1
    obtain ⟨f3, nf3, vf3, lf3, hu_⟩ := hw
    rw [hu_] at hP hD
    clear hu_
    rw [show rw_ cA ad (mg cA ad (f1, (rg i_n).2.1, (rh i_n).1, (rh i_n).2.2) (f2, (rg j_n).2.1, (rh j_n).1, (rh j_n).2.2) wc we rg tx tl) 3 f3 nf3 ((rh i_n).1) ((rh i_n).2.2) = mg cA ad (f3, nf3, (rh i_n).1, (rh i_n).2.2) (f2, (rg j_n).2.1, (rh j_n).1, (rh j_n).2.2) wc we rg tx tl from mg_ua (w' := (f3, nf3, (rh i_n).1, (rh i_n).2.2))] at hP hD
    refine lv_aload_n hx hb dX4_align_77 rfl (lv_at hl 1 rfl) ?_
    refine rg_4_b hx hb hts in4 hown hK hP 0 (by decide) mg_0 (hts _ (by decide +kernel)) dX4_align_78 ?_
    refine lv_iload_n hx hb dX4_align_81 rfl (lv_at hl 0 rfl) ?_
    refine lv_aload_n hx hb dX4_align_82 rfl (lv_at hl 1 rfl) ?_
    refine rg_4_b hx hb hts in4 hown hK hP 0 (by decide) mg_0 (hts _ (by decide +kernel)) dX4_align_83 ?_
    refine rg_3_scale hx hb hts in3 hown hK hP 5 (by omega) mg_B.1 (hts _ (by decide +kernel)) dX4_align_86 ?_
    refine tp_i (y := iZ ((rh j_n).2.2)) rfl ?_
    refine lv_isub hx hb dX4_align_89 ?_
    refine tp_i (y := iZ (((rh i_n).2.2) - ((rh j_n).2.2))) (iZ_sub _ _) ?_
    refine tp_i (y := nI (((rh i_n).2.2 - (rh j_n).2.2).toNat)) (iZ_tn (by omega)) ?_
    refine va_callv (va_runV (As := [.int (nI (((rh i_n).2.2 - (rh j_n).2.2).toNat))]) (rest := []) ⟨hx, hb, hml, hown, hts⟩ (c_X3_up l D cA tT A 23 ad _ _ (a := 5) (f := f2) (n := (rg j_n).2.1) (b := (rh j_n).1) (z := (rh j_n).2.2) (v := (rh j_n).2.1) (F := ((rh i_n).2.2 - (rh j_n).2.2).toNat) (by decide) mg_B vf2 (by omega)) (cwV 1 hts gX4_align_X3_up rfl rfl rfl (by decide +kernel) ⟨Nat.le_of_ble_eq_true rfl, Nat.le_of_ble_eq_true rfl⟩) (wd_preV (k := 5) hP hK hD hT hS (by decide) mg_B.1 rfl) rfl rfl hl.1 rfl (lv_room (Nat.le_of_ble_eq_true rfl)) dX4_align_90 ⟨Nat.zero_le _, Nat.zero_le _⟩) hS id_2 id_1 (fun u t H locs ht hvm hw hB hz1 hk1 hS => ?_)
    refine c00 ?_
    obtain ⟨hP, hD⟩ := wd_back ht hB
    clear ht hvm hB hz1 hk1
    obtain ⟨f4, nf4, vf4, lf4, hu_⟩ := hw
    rw [hu_] at hP hD
    clear hu_
    rw [show rw_ cA ad (mg cA ad (f3, nf3, (rh i_n).1, (rh i_n).2.2) (f2, (rg j_n).2.1, (rh j_n).1, (rh j_n).2.2) wc we rg tx tl) 5 f4 nf4 ((rh j_n).1) ((rh j_n).2.2) = mg cA ad (f3, nf3, (rh i_n).1, (rh i_n).2.2) (f4, nf4, (rh j_n).1, (rh j_n).2.2) wc we rg tx tl from mg_ub (w' := (f4, nf4, (rh j_n).1, (rh j_n).2.2))] at hP hD
    rw [show ((rh i_n).2.2 - (rh i_n).2.2).toNat = ((rh j_n).2.2 - (rh i_n).2.2).toNat by omega] at vf3
    rw [show ((rh i_n).2.2 - (rh j_n).2.2).toNat = ((rh i_n).2.2 - (rh j_n).2.2).toNat by omega] at vf4
    refine lv_aload_n hx hb dX4_align_93 rfl (lv_at hl 1 rfl) ?_
    refine rg_4_a hx hb hts in4 hown hK hP 0 (by decide) mg_0 (hts _ (by decide +kernel)) dX4_align_94 ?_
    refine lv_iload_n hx hb dX4_align_97 rfl (lv_at hl 0 rfl) ?_
    refine rp_3_scale hx hb hts in3 hown hK hP hD hS 3 (by omega) mg_A.1 (hts _ (by decide +kernel)) rfl rfl dX4_align_98 (fun H locs hP hD hS => ?_)
    rw [mg_pa nf3 ((rh i_n).1) ((rh i_n).2.2) (v := nI (((rh i_n).1).toNat)) rfl] at hP hD
    refine lv_aload_n hx hb dX4_align_101 rfl (lv_at hl 1 rfl) ?_
    refine rg_4_b hx hb hts in4 hown hK hP 0 (by decide) mg_0 (hts _ (by decide +kernel)) dX4_align_102 ?_
    refine lv_iload_n hx hb dX4_align_105 rfl (lv_at hl 0 rfl) ?_
    refine rp_3_scale hx hb hts in3 hown hK hP hD hS 5 (by omega) mg_B.1 (hts _ (by decide +kernel)) rfl rfl dX4_align_106 (fun H locs hP hD hS => ?_)
    rw [mg_pb nf4 ((rh j_n).1) ((rh i_n).2.2) (v := nI (((rh j_n).1).toNat)) rfl] at hP hD
    exact W.vret hx hb hr (fun t ht hW => ⟨⟨_, rfl, ⟨f3, nf3, f4, nf4, vf3, by omega, vf4, by omega, by rw [hmx]⟩, wd_end hP hK hD ht hW⟩, hS.F ht⟩) hS.2.2 dX4_align_109
theorem odI_neg (x y : Nat) : -odI x y = odI y x := by
  rw [odI, odI]
  rcases Nat.lt_trichotomy x y with h | h | h
  · rw [if_pos h, if_neg (by omega), if_neg (by omega)]; rfl
  · rw [if_neg (by omega), if_pos h, if_neg (by omega), if_pos h.symm]; rfl
  · rw [if_neg (by omega), if_neg (by omega), if_pos h]
theorem aX_0 {d e : Bool × Nat × Int} : aX d e = 0 ↔ d.2.1 = 0 := by
  rw [aX]
  constructor
  · intro h
    rcases Nat.mul_eq_zero.mp h with q | q
    · exact q
    · exact absurd q (Nat.pos_iff_ne_zero.mp (Nat.pow_pos (by decide)))
  · intro h; rw [h, Nat.zero_mul]
theorem cmp_ne {d1 d2 : Bool × Nat × Int} (h1 : d1.1 = true → d1.2.1 ≠ 0) (h2 : d2.1 = true → d2.2.1 ≠ 0) (hb : d1.1 ≠ d2.1) : cmpD d1 d2 = if d1.1 then -1 else 1 := by
  cases e1 : d1.1
  · cases e2 : d2.1
    · exact absurd (e1.trans e2.symm) hb
    · have n2 := h2 e2
      have s2 : sI d2 = -1 := by rw [sI, if_neg n2, e2]; rfl
      have s1 : sI d1 = 0 ∨ sI d1 = 1 := by rw [sI, e1]; split <;> simp
      rw [cmpD, if_neg (by omega), if_neg (by omega)]; rfl
  · cases e2 : d2.1
    · have n1 := h1 e1
      have s1 : sI d1 = -1 := by rw [sI, if_neg n1, e1]; rfl
      have s2 : sI d2 = 0 ∨ sI d2 = 1 := by rw [sI, e2]; split <;> simp
      rw [cmpD, if_neg (by omega), if_pos (by omega)]; rfl
    · exact absurd (e1.trans e2.symm) hb
theorem cmp_eq {d1 d2 : Bool × Nat × Int} (h1 : d1.1 = true → d1.2.1 ≠ 0) (h2 : d2.1 = true → d2.2.1 ≠ 0) (hb : d1.1 = d2.1) : cmpD d1 d2 = if d1.1 then -odI (aX d1 d2) (aX d2 d1) else odI (aX d1 d2) (aX d2 d1) := by
  cases e1 : d1.1
  · have e2 := hb.symm.trans e1
    by_cases z1 : d1.2.1 = 0
    · have s1 : sI d1 = 0 := by rw [sI, if_pos z1]
      by_cases z2 : d2.2.1 = 0
      · have s2 : sI d2 = 0 := by rw [sI, if_pos z2]
        rw [cmpD, if_pos (by omega), e1]; rfl
      · have s2 : sI d2 = 1 := by rw [sI, if_neg z2, e2]; rfl
        rw [cmpD, if_neg (by omega), if_pos (by omega), aX_0.mpr z1]
        have : aX d2 d1 ≠ 0 := fun q => z2 (aX_0.mp q)
        exact odI_lt (x := 0) (y := aX d2 d1) (by omega)
    · have s1 : sI d1 = 1 := by rw [sI, if_neg z1, e1]; rfl
      by_cases z2 : d2.2.1 = 0
      · have s2 : sI d2 = 0 := by rw [sI, if_pos z2]
        rw [cmpD, if_neg (by omega), if_neg (by omega), aX_0.mpr z2]
        have : aX d1 d2 ≠ 0 := fun q => z1 (aX_0.mp q)
        exact odI_gt (x := aX d1 d2) (y := 0) (by omega)
      · have s2 : sI d2 = 1 := by rw [sI, if_neg z2, e2]; rfl
        rw [cmpD, if_pos (by omega), e1]; rfl
  · have e2 := hb.symm.trans e1
    have s1 : sI d1 = -1 := by rw [sI, if_neg (h1 e1), e1]; rfl
    have s2 : sI d2 = -1 := by rw [sI, if_neg (h2 e2), e2]; rfl
    rw [cmpD, if_pos (by omega), e1, odI_neg]
set_option maxHeartbeats 4000000 in
set_option maxRecDepth 100000 in
/-- order -/
theorem c_X4_order (l : Launch) (D : va_G) (cA : Nat → ClassId) (tT : Nat) (A : Nat → Prop) (ad : Nat → Nat) (sz : Nat) {wa wb wc we : RWt} {rg : Nat → RWt} {tx : Nat → Int32} {tl : Nat} {rh : Nat → Bool × Nat × Int} (hm : mr rg rh) (hr9 : rks rh) {i_n j_n : Nat} (h_i : i_n < 6) (h_j : j_n < 6) : Met l yX4_order wsX4_order ({ frames := 3, cells := 0, slots := 0, locals := 65 }) (va_Pc [.ref (ad 0), .int (nI (i_n)), .int (nI (j_n))] (wd_B D cA tT A 23 ad sz (mg cA ad wa wb wc we rg tx tl))) (va_Qi (fun (r : Int32) (u : Nat → va_E) => r = iZ (cmpD (rh i_n) (rh j_n)) ∧ ∃ wa1 wb1, u = mg cA ad wa1 wb1 wc we rg tx tl) (wd_E D cA A 23 ad) A) 0 0 A := by
  refine Met.ofW (cc := cX4_order) (maxL := 4) (ret := (some .int)) (by decide) rfl ?_
  intro p e s m args below meth c s₁ B hml hv
  obtain ⟨rfl, hsz, hP, hK, hD, hT⟩ := hv
  have hx := B.exec
  have hb := B.bytes
  have hr := B.returns
  have hts := atoms_spec (ws := wsX4_order) B.pre
  have hown : s.vm.findClass RX4 = some m.cls := findClass_of_methodNamed B.named
  have hlocks := B.notSynchronized
  subst hsz
  have hS : va_S A s.heap s.heap [] := va_S.rf
  have in3 : ∀ w ∈ wsX30, w ∈ wsX4_order := by decide +kernel
  have in4 : ∀ w ∈ wsX40, w ∈ wsX4_order := by decide +kernel
  have hl := lv_entry ([.ref (ad 0), .int (nI (i_n)), .int (nI (j_n))]) (n := 4) (Nat.le_of_ble_eq_true rfl)
  rw [lg_entry_eq]
  generalize (lg_sl ([.ref (ad 0), .int (nI (i_n)), .int (nI (j_n))]) ++ List.replicate (4 - (lg_sl ([.ref (ad 0), .int (nI (i_n)), .int (nI (j_n))])).length) Slot.unset).toArray = ls at hl ⊢
  have hl : lv_has ls 4 [(0, .ref (ad 0)), (1, .int (nI (i_n))), (2, .int (nI (j_n)))] := hl
  have r_i := hr9 i_n h_i
  have r_j := hr9 j_n h_j
  simp only [rk] at r_i r_j
  have t_i := tn_le (rh i_n).1
  have t_j := tn_le (rh j_n).1
  refine lv_aload_n hx hb dX4_order_0 rfl (lv_at hl 0 rfl) ?_
  refine lv_iload_n hx hb dX4_order_1 rfl (lv_at hl 1 rfl) ?_
  refine lv_iload_n hx hb dX4_order_2 rfl (lv_at hl 2 rfl) ?_
  refine va_callv (va_runV (As := [.int (nI (i_n)), .int (nI (j_n))]) (rest := []) ⟨hx, hb, hml, hown, hts⟩ (c_X4_align l D cA tT A ad _ (wa := wa) (wb := wb) (wc := wc) (we := we) (rg := rg) (tx := tx) (tl := tl) (rh := rh) (i_n := i_n) (j_n := j_n) hm hr9 h_i h_j) (cwV 2 hts gX4_order_X4_align rfl rfl rfl (by decide +kernel) ⟨Nat.le_of_ble_eq_true rfl, Nat.le_of_ble_eq_true rfl⟩) (wd_preV (k := 0) hP hK hD hT hS (by decide) mg_0 rfl) rfl rfl hl.1 rfl (lv_room (Nat.le_of_ble_eq_true rfl)) dX4_order_3 ⟨Nat.zero_le _, Nat.zero_le _⟩) hS id_2 id_1 (fun u t H locs ht hvm hw hB hz1 hk1 hS => ?_)
  refine c00 ?_
  obtain ⟨hP, hD⟩ := wd_back ht hB
  clear ht hvm hB hz1 hk1
  obtain ⟨fa, na, fb, nb, va, la, vb, lb, hu_⟩ := hw
  rw [hu_] at hP hD
  clear hu_
  refine lv_aload_n hx hb dX4_order_6 rfl (lv_at hl 0 rfl) ?_
  refine rg_4_a hx hb hts in4 hown hK hP 0 (by decide) mg_0 (hts _ (by decide +kernel)) dX4_order_7 ?_
  refine rg_3_minus hx hb hts in3 hown hK hP 3 (by omega) mg_A.1 (hts _ (by decide +kernel)) dX4_order_10 ?_
  refine tp_i (y := nI (((rh i_n).1).toNat)) rfl ?_
  refine lv_aload_n hx hb dX4_order_13 rfl (lv_at hl 0 rfl) ?_
  refine rg_4_b hx hb hts in4 hown hK hP 0 (by decide) mg_0 (hts _ (by decide +kernel)) dX4_order_14 ?_
  refine rg_3_minus hx hb hts in3 hown hK hP 5 (by omega) mg_B.1 (hts _ (by decide +kernel)) dX4_order_17 ?_
  refine tp_i (y := nI (((rh j_n).1).toNat)) rfl ?_
  refine bi_eq (tgt := 39) hx hb dX4_order_20 (by decide) (by omega) (by omega) (fun q1 => ?_) (fun q1 => ?_)
  · have hcm := cmp_eq r_i.2.2.2 r_j.2.2.2 (tn_eq.mp q1)
    have ho := odI_b (aX (rh i_n) (rh j_n)) (aX (rh j_n) (rh i_n))
    refine lv_aload_n hx hb dX4_order_39 rfl (lv_at hl 0 rfl) ?_
    refine rg_4_a hx hb hts in4 hown hK hP 0 (by decide) mg_0 (hts _ (by decide +kernel)) dX4_order_40 ?_
    refine lv_aload_n hx hb dX4_order_43 rfl (lv_at hl 0 rfl) ?_
    refine rg_4_b hx hb hts in4 hown hK hP 0 (by decide) mg_0 (hts _ (by decide +kernel)) dX4_order_44 ?_
    refine va_calli (va_runS (As := [.ref (ad 3), .ref (ad 5)]) (rest := []) ⟨hx, hb, hml, hown, hts⟩ (c_X4_sizes l D cA tT A 23 ad _ _ (a := 3) (o := 5) (f := fa) (n := na) (b := (rh i_n).1) (z := max (rh i_n).2.2 (rh j_n).2.2) (f1 := fb) (n1 := nb) (b1 := (rh j_n).1) (z1 := max (rh i_n).2.2 (rh j_n).2.2) (x := aX (rh i_n) (rh j_n)) (y := aX (rh j_n) (rh i_n)) (by decide) (by decide) mg_A mg_B va vb (by omega) (by omega)) (va_cwS 2 hts gX4_order_X4_sizes rfl rfl rfl (by decide +kernel) ⟨Nat.le_of_ble_eq_true rfl, Nat.le_of_ble_eq_true rfl⟩) (wd_preS hP hK hD hT hS) rfl rfl hl.1 rfl (lv_room (Nat.le_of_ble_eq_true rfl)) dX4_order_47 ⟨Nat.zero_le _, Nat.zero_le _⟩) hS id_2 id_1 (fun r_ u t H locs ht hvm hw hB hz1 hk1 hS => ?_)
    refine c00 ?_
    obtain ⟨hP, hD⟩ := wd_back ht hB
    clear ht hvm hB hz1 hk1
    obtain ⟨hr_, hu_⟩ := hw
    subst hr_
    rw [hu_] at hP hD
    clear hu_
    refine lv_istore_n (lv' := [(3, .int (iZ (odI (aX (rh i_n) (rh j_n)) (aX (rh j_n) (rh i_n))))), (0, .ref (ad 0)), (1, .int (nI (i_n))), (2, .int (nI (j_n)))]) hx hb dX4_order_50 rfl hl (by decide) rfl (fun ls hl => ?_)
    refine lv_aload_n hx hb dX4_order_51 rfl (lv_at hl 1 rfl) ?_
    refine rg_4_a hx hb hts in4 hown hK hP 0 (by decide) mg_0 (hts _ (by decide +kernel)) dX4_order_52 ?_
    refine rg_3_minus hx hb hts in3 hown hK hP 3 (by omega) mg_A.1 (hts _ (by decide +kernel)) dX4_order_55 ?_
    refine tp_i (y := nI (((rh i_n).1).toNat)) rfl ?_
    refine bz_eq (tgt := 66) hx hb dX4_order_58 (by decide) (by omega) (fun q2 => ?_) (fun q2 => ?_)
    · rw [tn_z q2] at hcm
      refine lv_iload_n hx hb dX4_order_66 rfl (lv_at hl 0 rfl) ?_
      exact W.iret (v := iZ (odI (aX (rh i_n) (rh j_n)) (aX (rh j_n) (rh i_n)))) hx hb hr (fun t ht hW => ⟨⟨iZ (odI (aX (rh i_n) (rh j_n)) (aX (rh j_n) (rh i_n))), _, rfl, ⟨by rw [hcm]; rfl, _, _, rfl⟩, wd_end hP hK hD ht hW⟩, hS.F ht⟩) hS.2.2 dX4_order_67
    · rw [tn_nz q2] at hcm
      refine lv_iload_n hx hb dX4_order_61 rfl (lv_at hl 0 rfl) ?_
      refine lv_ineg hx hb dX4_order_62 ?_
      refine tp_i (y := iZ (-(odI (aX (rh i_n) (rh j_n)) (aX (rh j_n) (rh i_n))))) (iZ_neg _) ?_
      refine lv_goto (tgt := 67) hx hb dX4_order_63 (by decide) ?_
      exact W.iret (v := iZ (-(odI (aX (rh i_n) (rh j_n)) (aX (rh j_n) (rh i_n))))) hx hb hr (fun t ht hW => ⟨⟨iZ (-(odI (aX (rh i_n) (rh j_n)) (aX (rh j_n) (rh i_n)))), _, rfl, ⟨by rw [hcm]; rfl, _, _, rfl⟩, wd_end hP hK hD ht hW⟩, hS.F ht⟩) hS.2.2 dX4_order_67
  · have hne : (rh i_n).1 ≠ (rh j_n).1 := fun h => q1 (tn_eq.mpr h)
    have hcm := cmp_ne r_i.2.2.2 r_j.2.2.2 hne
    refine lv_aload_n hx hb dX4_order_23 rfl (lv_at hl 0 rfl) ?_
    refine rg_4_a hx hb hts in4 hown hK hP 0 (by decide) mg_0 (hts _ (by decide +kernel)) dX4_order_24 ?_
    refine rg_3_minus hx hb hts in3 hown hK hP 3 (by omega) mg_A.1 (hts _ (by decide +kernel)) dX4_order_27 ?_
    refine tp_i (y := nI (((rh i_n).1).toNat)) rfl ?_
    refine bz_eq (tgt := 37) hx hb dX4_order_30 (by decide) (by omega) (fun q2 => ?_) (fun q2 => ?_)
    · rw [tn_z q2] at hcm
      refine lv_iconst (v := nI (1)) hx hb dX4_order_37 (by decide) ?_
      refine tp_i (y := iZ 1) rfl ?_
      exact W.iret (v := iZ (1)) hx hb hr (fun t ht hW => ⟨⟨iZ (1), _, rfl, ⟨by rw [hcm]; rfl, _, _, rfl⟩, wd_end hP hK hD ht hW⟩, hS.F ht⟩) hS.2.2 dX4_order_38
    · rw [tn_nz q2] at hcm
      refine lv_iconst (v := iZ (-1)) hx hb dX4_order_33 (by decide) ?_
      refine lv_goto (tgt := 38) hx hb dX4_order_34 (by decide) ?_
      exact W.iret (v := iZ (-1)) hx hb hr (fun t ht hW => ⟨⟨iZ (-1), _, rfl, ⟨by rw [hcm]; rfl, _, _, rfl⟩, wd_end hP hK hD ht hW⟩, hS.F ht⟩) hS.2.2 dX4_order_38
set_option maxHeartbeats 4000000 in
set_option maxRecDepth 100000 in
/-- compare -/
theorem c_X4_compare (l : Launch) (D : va_G) (cA : Nat → ClassId) (tT : Nat) (A : Nat → Prop) (ad : Nat → Nat) (sz : Nat) {wa wb wc we : RWt} {rg : Nat → RWt} {tx : Nat → Int32} {tl : Nat} {rh : Nat → Bool × Nat × Int} (hm : mr rg rh) (hr9 : rks rh) {i j : Int} (i_1 : -2147483648 ≤ i) (i_2 : i < 2147483648) (j_1 : -2147483648 ≤ j) (j_2 : j < 2147483648) : Met l yX4_compare wsX4_compare ({ frames := 4, cells := 0, slots := 0, locals := 88 }) (va_Pc [.ref (ad 0), .int (iZ (i)), .int (iZ (j))] (wd_B D cA tT A 23 ad sz (mg cA ad wa wb wc we rg tx tl))) (va_Qi (fun (r : Int32) (u : Nat → va_E) => r = sp_compare rh i j ∧ ∃ wa1 wb1, u = mg cA ad wa1 wb1 wc we rg tx tl) (wd_E D cA A 23 ad) A) 0 0 A := by
  refine Met.ofW (cc := cX4_compare) (maxL := 3) (ret := (some .int)) (by decide) rfl ?_
  intro p e s m args below meth c s₁ B hml hv
  obtain ⟨rfl, hsz, hP, hK, hD, hT⟩ := hv
  have hx := B.exec
  have hb := B.bytes
  have hr := B.returns
  have hts := atoms_spec (ws := wsX4_compare) B.pre
  have hown : s.vm.findClass RX4 = some m.cls := findClass_of_methodNamed B.named
  have hlocks := B.notSynchronized
  subst hsz
  have hS : va_S A s.heap s.heap [] := va_S.rf
  have in3 : ∀ w ∈ wsX30, w ∈ wsX4_compare := by decide +kernel
  have in4 : ∀ w ∈ wsX40, w ∈ wsX4_compare := by decide +kernel
  have hl := lv_entry ([.ref (ad 0), .int (iZ (i)), .int (iZ (j))]) (n := 3) (Nat.le_of_ble_eq_true rfl)
  rw [lg_entry_eq]
  generalize (lg_sl ([.ref (ad 0), .int (iZ (i)), .int (iZ (j))]) ++ List.replicate (3 - (lg_sl ([.ref (ad 0), .int (iZ (i)), .int (iZ (j))])).length) Slot.unset).toArray = ls at hl ⊢
  have hl : lv_has ls 3 [(0, .ref (ad 0)), (1, .int (iZ (i))), (2, .int (iZ (j)))] := hl
  refine lv_iload_n hx hb dX4_compare_0 rfl (lv_at hl 1 rfl) ?_
  refine va_calli (va_runS (As := [.int (iZ (i))]) (rest := []) ⟨hx, hb, hml, hown, hts⟩ (c_X4_is l D cA tT A 23 ad _ _ (k := i) (by omega) (by omega)) (va_cwS 1 hts gX4_compare_X4_is rfl rfl rfl (by decide +kernel) ⟨Nat.le_of_ble_eq_true rfl, Nat.le_of_ble_eq_true rfl⟩) (wd_preS hP hK hD hT hS) rfl rfl hl.1 rfl (lv_room (Nat.le_of_ble_eq_true rfl)) dX4_compare_1 ⟨Nat.zero_le _, Nat.zero_le _⟩) hS id_2 id_1 (fun r_ u t H locs ht hvm hw hB hz1 hk1 hS => ?_)
  refine c00 ?_
  obtain ⟨hP, hD⟩ := wd_back ht hB
  clear ht hvm hB hz1 hk1
  obtain ⟨hr_, hu_⟩ := hw
  subst hr_
  rw [hu_] at hP hD
  clear hu_
  refine bz_eq (tgt := 23) hx hb dX4_compare_4 (by decide) it_lt (fun q_i => ?_) (fun q_i => ?_)
  · have g_i := it_eq q_i
    refine lv_bipush (v := iZ (-2)) hx hb dX4_compare_23 (by decide) ?_
    exact W.iret (v := iZ (-2)) hx hb hr (fun t ht hW => ⟨⟨iZ (-2), _, rfl, ⟨by rw [sp_compare, if_neg (by omega)], wa, wb, rfl⟩, wd_end hP hK hD ht hW⟩, hS.F ht⟩) hS.2.2 dX4_compare_25
  · have g_i := it_ne q_i
    refine lv_iload_n hx hb dX4_compare_7 rfl (lv_at hl 2 rfl) ?_
    refine va_calli (va_runS (As := [.int (iZ (j))]) (rest := []) ⟨hx, hb, hml, hown, hts⟩ (c_X4_is l D cA tT A 23 ad _ _ (k := j) (by omega) (by omega)) (va_cwS 1 hts gX4_compare_X4_is rfl rfl rfl (by decide +kernel) ⟨Nat.le_of_ble_eq_true rfl, Nat.le_of_ble_eq_true rfl⟩) (wd_preS hP hK hD hT hS) rfl rfl hl.1 rfl (lv_room (Nat.le_of_ble_eq_true rfl)) dX4_compare_8 ⟨Nat.zero_le _, Nat.zero_le _⟩) hS id_2 id_1 (fun r_ u t H locs ht hvm hw hB hz1 hk1 hS => ?_)
    refine c00 ?_
    obtain ⟨hP, hD⟩ := wd_back ht hB
    clear ht hvm hB hz1 hk1
    obtain ⟨hr_, hu_⟩ := hw
    subst hr_
    rw [hu_] at hP hD
    clear hu_
    refine bz_eq (tgt := 23) hx hb dX4_compare_11 (by decide) it_lt (fun q_j => ?_) (fun q_j => ?_)
    · have g_j := it_eq q_j
      refine lv_bipush (v := iZ (-2)) hx hb dX4_compare_23 (by decide) ?_
      exact W.iret (v := iZ (-2)) hx hb hr (fun t ht hW => ⟨⟨iZ (-2), _, rfl, ⟨by rw [sp_compare, if_neg (by omega)], wa, wb, rfl⟩, wd_end hP hK hD ht hW⟩, hS.F ht⟩) hS.2.2 dX4_compare_25
    · have g_j := it_ne q_j
      obtain ⟨i_n, h_i, rfl⟩ : ∃ n : Nat, n < 6 ∧ i = (n : Int) := ⟨i.toNat, by omega, by omega⟩
      rw [← iZ_nat i_n] at hl
      have e_i : ((i_n : Nat) : Int).toNat = i_n := Int.toNat_natCast i_n
      obtain ⟨j_n, h_j, rfl⟩ : ∃ n : Nat, n < 6 ∧ j = (n : Int) := ⟨j.toNat, by omega, by omega⟩
      rw [← iZ_nat j_n] at hl
      have e_j : ((j_n : Nat) : Int).toNat = j_n := Int.toNat_natCast j_n
      have m_i := hm i_n h_i
      have n_i : (rg i_n).2.1 = nd_p (rh i_n).2.1 := m_i.1.1
      have b_i : (rg i_n).2.2.1 = (rh i_n).1 := by rw [m_i.2]
      have z_i : (rg i_n).2.2.2 = (rh i_n).2.2 := by rw [m_i.2]
      have r_i := hr9 i_n h_i
      simp only [rk] at r_i
      have p_i := p190 r_i.1
      have t_i := tn_le (rh i_n).1
      have m_j := hm j_n h_j
      have n_j : (rg j_n).2.1 = nd_p (rh j_n).2.1 := m_j.1.1
      have b_j : (rg j_n).2.2.1 = (rh j_n).1 := by rw [m_j.2]
      have z_j : (rg j_n).2.2.2 = (rh j_n).2.2 := by rw [m_j.2]
      have r_j := hr9 j_n h_j
      simp only [rk] at r_j
      have p_j := p190 r_j.1
      have t_j := tn_le (rh j_n).1
      refine lv_aload_n hx hb dX4_compare_14 rfl (lv_at hl 0 rfl) ?_
      refine lv_iload_n hx hb dX4_compare_15 rfl (lv_at hl 1 rfl) ?_
      refine lv_iload_n hx hb dX4_compare_16 rfl (lv_at hl 2 rfl) ?_
      refine va_calli (va_runV (As := [.int (nI (i_n)), .int (nI (j_n))]) (rest := []) ⟨hx, hb, hml, hown, hts⟩ (c_X4_order l D cA tT A ad _ (wa := wa) (wb := wb) (wc := wc) (we := we) (rg := rg) (tx := tx) (tl := tl) (rh := rh) (i_n := i_n) (j_n := j_n) hm hr9 h_i h_j) (cwV 2 hts gX4_compare_X4_order rfl rfl rfl (by decide +kernel) ⟨Nat.le_of_ble_eq_true rfl, Nat.le_of_ble_eq_true rfl⟩) (wd_preV (k := 0) hP hK hD hT hS (by decide) mg_0 rfl) rfl rfl hl.1 rfl (lv_room (Nat.le_of_ble_eq_true rfl)) dX4_compare_17 ⟨Nat.zero_le _, Nat.zero_le _⟩) hS id_2 id_1 (fun r_ u t H locs ht hvm hw hB hz1 hk1 hS => ?_)
      refine c00 ?_
      obtain ⟨hP, hD⟩ := wd_back ht hB
      clear ht hvm hB hz1 hk1
      obtain ⟨rfl, wa1, wb1, hu_⟩ := hw
      rw [hu_] at hP hD
      refine lv_goto (tgt := 25) hx hb dX4_compare_20 (by decide) ?_
      exact W.iret (v := iZ (cmpD (rh i_n) (rh j_n))) hx hb hr (fun t ht hW => ⟨⟨iZ (cmpD (rh i_n) (rh j_n)), _, rfl, ⟨by rw [sp_compare, if_pos (by omega), e_i, e_j], wa1, wb1, rfl⟩, wd_end hP hK hD ht hW⟩, hS.F ht⟩) hS.2.2 dX4_compare_25
theorem odI_z {x y : Nat} : odI x y = 0 ↔ x = y := by
  rw [odI]
  rcases Nat.lt_trichotomy x y with h | h | h
  · rw [if_pos h]; omega
  · rw [if_neg (by omega), if_pos h]; simp [h]
  · rw [if_neg (by omega), if_neg (by omega)]; omega
set_option maxHeartbeats 4000000 in
set_option maxRecDepth 100000 in
/-- same -/
theorem c_X4_same (l : Launch) (D : va_G) (cA : Nat → ClassId) (tT : Nat) (A : Nat → Prop) (ad : Nat → Nat) (sz : Nat) {wa wb wc we : RWt} {rg : Nat → RWt} {tx : Nat → Int32} {tl : Nat} {rh : Nat → Bool × Nat × Int} (hm : mr rg rh) (hr9 : rks rh) {i j : Int} (i_1 : -2147483648 ≤ i) (i_2 : i < 2147483648) (j_1 : -2147483648 ≤ j) (j_2 : j < 2147483648) : Met l yX4_same wsX4_same ({ frames := 1, cells := 0, slots := 0, locals := 22 }) (va_Pc [.ref (ad 0), .int (iZ (i)), .int (iZ (j))] (wd_B D cA tT A 23 ad sz (mg cA ad wa wb wc we rg tx tl))) (va_Qi (fun (r : Int32) (u : Nat → va_E) => r = sp_same rh i j ∧ u = mg cA ad wa wb wc we rg tx tl) (wd_E D cA A 23 ad) A) 0 0 A := by
  refine Met.ofW (cc := cX4_same) (maxL := 5) (ret := (some .boolean)) (by decide) rfl ?_
  intro p e s m args below meth c s₁ B hml hv
  obtain ⟨rfl, hsz, hP, hK, hD, hT⟩ := hv
  have hx := B.exec
  have hb := B.bytes
  have hr := B.returns
  have hts := atoms_spec (ws := wsX4_same) B.pre
  have hown : s.vm.findClass RX4 = some m.cls := findClass_of_methodNamed B.named
  have hlocks := B.notSynchronized
  subst hsz
  have hS : va_S A s.heap s.heap [] := va_S.rf
  have in3 : ∀ w ∈ wsX30, w ∈ wsX4_same := by decide +kernel
  have in4 : ∀ w ∈ wsX40, w ∈ wsX4_same := by decide +kernel
  have hl := lv_entry ([.ref (ad 0), .int (iZ (i)), .int (iZ (j))]) (n := 5) (Nat.le_of_ble_eq_true rfl)
  rw [lg_entry_eq]
  generalize (lg_sl ([.ref (ad 0), .int (iZ (i)), .int (iZ (j))]) ++ List.replicate (5 - (lg_sl ([.ref (ad 0), .int (iZ (i)), .int (iZ (j))])).length) Slot.unset).toArray = ls at hl ⊢
  have hl : lv_has ls 5 [(0, .ref (ad 0)), (1, .int (iZ (i))), (2, .int (iZ (j)))] := hl
  refine lv_iload_n hx hb dX4_same_0 rfl (lv_at hl 1 rfl) ?_
  refine va_calli (va_runS (As := [.int (iZ (i))]) (rest := []) ⟨hx, hb, hml, hown, hts⟩ (c_X4_is l D cA tT A 23 ad _ _ (k := i) (by omega) (by omega)) (va_cwS 1 hts gX4_same_X4_is rfl rfl rfl (by decide +kernel) ⟨Nat.le_of_ble_eq_true rfl, Nat.le_of_ble_eq_true rfl⟩) (wd_preS hP hK hD hT hS) rfl rfl hl.1 rfl (lv_room (Nat.le_of_ble_eq_true rfl)) dX4_same_1 ⟨Nat.zero_le _, Nat.zero_le _⟩) hS id_2 id_1 (fun r_ u t H locs ht hvm hw hB hz1 hk1 hS => ?_)
  refine c00 ?_
  obtain ⟨hP, hD⟩ := wd_back ht hB
  clear ht hvm hB hz1 hk1
  obtain ⟨hr_, hu_⟩ := hw
  subst hr_
  rw [hu_] at hP hD
  clear hu_
  refine bz_eq (tgt := 14) hx hb dX4_same_4 (by decide) it_lt (fun q_i => ?_) (fun q_i => ?_)
  · have g_i := it_eq q_i
    refine lv_iconst (v := nI (0)) hx hb dX4_same_14 (by decide) ?_
    exact W.zret (v := nI (0)) hx hb hr rfl (fun t ht hW => ⟨⟨nI (0), _, rfl, ⟨by rw [sp_same, if_neg (by omega)], rfl⟩, wd_end hP hK hD ht hW⟩, hS.F ht⟩) hS.2.2 dX4_same_15
  · have g_i := it_ne q_i
    refine lv_iload_n hx hb dX4_same_7 rfl (lv_at hl 2 rfl) ?_
    refine va_calli (va_runS (As := [.int (iZ (j))]) (rest := []) ⟨hx, hb, hml, hown, hts⟩ (c_X4_is l D cA tT A 23 ad _ _ (k := j) (by omega) (by omega)) (va_cwS 1 hts gX4_same_X4_is rfl rfl rfl (by decide +kernel) ⟨Nat.le_of_ble_eq_true rfl, Nat.le_of_ble_eq_true rfl⟩) (wd_preS hP hK hD hT hS) rfl rfl hl.1 rfl (lv_room (Nat.le_of_ble_eq_true rfl)) dX4_same_8 ⟨Nat.zero_le _, Nat.zero_le _⟩) hS id_2 id_1 (fun r_ u t H locs ht hvm hw hB hz1 hk1 hS => ?_)
    refine c00 ?_
    obtain ⟨hP, hD⟩ := wd_back ht hB
    clear ht hvm hB hz1 hk1
    obtain ⟨hr_, hu_⟩ := hw
    subst hr_
    rw [hu_] at hP hD
    clear hu_
    refine bz_ne (tgt := 16) hx hb dX4_same_11 (by decide) it_lt (fun q_j => ?_) (fun q_j => ?_)
    · have g_j := it_ne q_j
      obtain ⟨i_n, h_i, rfl⟩ : ∃ n : Nat, n < 6 ∧ i = (n : Int) := ⟨i.toNat, by omega, by omega⟩
      rw [← iZ_nat i_n] at hl
      have e_i : ((i_n : Nat) : Int).toNat = i_n := Int.toNat_natCast i_n
      obtain ⟨j_n, h_j, rfl⟩ : ∃ n : Nat, n < 6 ∧ j = (n : Int) := ⟨j.toNat, by omega, by omega⟩
      rw [← iZ_nat j_n] at hl
      have e_j : ((j_n : Nat) : Int).toNat = j_n := Int.toNat_natCast j_n
      have m_i := hm i_n h_i
      have n_i : (rg i_n).2.1 = nd_p (rh i_n).2.1 := m_i.1.1
      have b_i : (rg i_n).2.2.1 = (rh i_n).1 := by rw [m_i.2]
      have z_i : (rg i_n).2.2.2 = (rh i_n).2.2 := by rw [m_i.2]
      have r_i := hr9 i_n h_i
      simp only [rk] at r_i
      have p_i := p190 r_i.1
      have t_i := tn_le (rh i_n).1
      have m_j := hm j_n h_j
      have n_j : (rg j_n).2.1 = nd_p (rh j_n).2.1 := m_j.1.1
      have b_j : (rg j_n).2.2.1 = (rh j_n).1 := by rw [m_j.2]
      have z_j : (rg j_n).2.2.2 = (rh j_n).2.2 := by rw [m_j.2]
      have r_j := hr9 j_n h_j
      simp only [rk] at r_j
      have p_j := p190 r_j.1
      have t_j := tn_le (rh j_n).1
      refine lv_aload_n hx hb dX4_same_16 rfl (lv_at hl 0 rfl) ?_
      refine rg_4_registers hx hb hts in4 hown hK hP 0 (by decide) mg_0 (hts _ (by decide +kernel)) dX4_same_17 ?_
      refine lv_iload_n hx hb dX4_same_20 rfl (lv_at hl 1 rfl) ?_
      refine rn_q4 hx hb hK hP 1 (by decide) mg_1 (by omega) (by decide) dX4_same_21 ?_
      refine tp_v (y := .ref (ad (11 + 2 * i_n))) rfl ?_
      refine lv_astore_n (lv' := [(3, .ref (ad (11 + 2 * i_n))), (0, .ref (ad 0)), (1, .int (nI (i_n))), (2, .int (nI (j_n)))]) hx hb dX4_same_22 rfl hl (by decide) rfl (fun ls hl => ?_)
      refine lv_aload_n hx hb dX4_same_23 rfl (lv_at hl 1 rfl) ?_
      refine rg_4_registers hx hb hts in4 hown hK hP 0 (by decide) mg_0 (hts _ (by decide +kernel)) dX4_same_24 ?_
      refine lv_iload_n hx hb dX4_same_27 rfl (lv_at hl 3 rfl) ?_
      refine rn_q4 hx hb hK hP 1 (by decide) mg_1 (by omega) (by decide) dX4_same_28 ?_
      refine tp_v (y := .ref (ad (11 + 2 * j_n))) rfl ?_
      refine lv_astore (lv' := [(4, .ref (ad (11 + 2 * j_n))), (3, .ref (ad (11 + 2 * i_n))), (0, .ref (ad 0)), (1, .int (nI (i_n))), (2, .int (nI (j_n)))]) hx hb dX4_same_29 hl (by decide) rfl (fun ls hl => ?_)
      refine lv_aload_n hx hb dX4_same_31 rfl (lv_at hl 1 rfl) ?_
      refine rg_3_minus hx hb hts in3 hown hK hP (11 + 2 * i_n) (by omega) (mg_G i_n).1 (hts _ (by decide +kernel)) dX4_same_32 ?_
      refine tp_i (y := nI (((rg i_n).2.2.1).toNat)) rfl ?_
      refine lv_aload hx hb dX4_same_35 (lv_at hl 0 rfl) ?_
      refine rg_3_minus hx hb hts in3 hown hK hP (11 + 2 * j_n) (by omega) (mg_G j_n).1 (hts _ (by decide +kernel)) dX4_same_37 ?_
      refine tp_i (y := nI (((rg j_n).2.2.1).toNat)) rfl ?_
      refine tp_i (y := nI ((rh j_n).1.toNat)) (by rw [b_j]) ?_
      refine tp_i2 (y := nI ((rh i_n).1.toNat)) (by rw [b_i]) ?_
      refine bi_ne (tgt := 68) hx hb dX4_same_40 (by decide) (by omega) (by omega) (fun q1 => ?_) (fun q1 => ?_)
      · refine lv_iconst (v := nI (0)) hx hb dX4_same_68 (by decide) ?_
        exact W.zret (v := nI (0)) hx hb hr rfl (fun t ht hW => ⟨⟨nI (0), _, rfl, ⟨by rw [sp_same, if_pos (by omega), e_i, e_j, if_neg (fun h => q1 (tn_eq.mpr (d_ext.mp h).2.1))], rfl⟩, wd_end hP hK hD ht hW⟩, hS.F ht⟩) hS.2.2 dX4_same_69
      · refine lv_aload_n hx hb dX4_same_43 rfl (lv_at hl 1 rfl) ?_
        refine rg_3_scale hx hb hts in3 hown hK hP (11 + 2 * i_n) (by omega) (mg_G i_n).1 (hts _ (by decide +kernel)) dX4_same_44 ?_
        refine tp_i (y := iZ ((rg i_n).2.2.2)) rfl ?_
        refine lv_aload hx hb dX4_same_47 (lv_at hl 0 rfl) ?_
        refine rg_3_scale hx hb hts in3 hown hK hP (11 + 2 * j_n) (by omega) (mg_G j_n).1 (hts _ (by decide +kernel)) dX4_same_49 ?_
        refine tp_i (y := iZ ((rg j_n).2.2.2)) rfl ?_
        refine tp_i (y := iZ ((rh j_n).2.2)) (by rw [z_j]) ?_
        refine tp_i2 (y := iZ ((rh i_n).2.2)) (by rw [z_i]) ?_
        refine bs_ne (tgt := 68) hx hb dX4_same_52 (by decide) (by omega) (by omega) (by omega) (by omega) (fun q2 => ?_) (fun q2 => ?_)
        · refine lv_iconst (v := nI (0)) hx hb dX4_same_68 (by decide) ?_
          exact W.zret (v := nI (0)) hx hb hr rfl (fun t ht hW => ⟨⟨nI (0), _, rfl, ⟨by rw [sp_same, if_pos (by omega), e_i, e_j, if_neg (fun h => q2 (d_ext.mp h).1)], rfl⟩, wd_end hP hK hD ht hW⟩, hS.F ht⟩) hS.2.2 dX4_same_69
        · have ho := odI_b (rh i_n).2.1 (rh j_n).2.1
          refine lv_aload_n hx hb dX4_same_55 rfl (lv_at hl 1 rfl) ?_
          refine lv_aload hx hb dX4_same_56 (lv_at hl 0 rfl) ?_
          refine va_calli (va_runS (As := [.ref (ad (11 + 2 * i_n)), .ref (ad (11 + 2 * j_n))]) (rest := []) ⟨hx, hb, hml, hown, hts⟩ (c_X4_sizes l D cA tT A 23 ad _ _ (a := 11 + 2 * i_n) (o := 11 + 2 * j_n) (f := (rg i_n).1) (n := (rg i_n).2.1) (b := (rg i_n).2.2.1) (z := (rg i_n).2.2.2) (f1 := (rg j_n).1) (n1 := (rg j_n).2.1) (b1 := (rg j_n).2.2.1) (z1 := (rg j_n).2.2.2) (x := (rh i_n).2.1) (y := (rh j_n).2.1) (by omega) (by omega) (mg_G _) (mg_G _) m_i.1 m_j.1 (by omega) (by omega)) (va_cwS 2 hts gX4_same_X4_sizes rfl rfl rfl (by decide +kernel) ⟨Nat.le_of_ble_eq_true rfl, Nat.le_of_ble_eq_true rfl⟩) (wd_preS hP hK hD hT hS) rfl rfl hl.1 rfl (lv_room (Nat.le_of_ble_eq_true rfl)) dX4_same_58 ⟨Nat.zero_le _, Nat.zero_le _⟩) hS id_2 id_1 (fun r_ u t H locs ht hvm hw hB hz1 hk1 hS => ?_)
          refine c00 ?_
          obtain ⟨hP, hD⟩ := wd_back ht hB
          clear ht hvm hB hz1 hk1
          obtain ⟨hr_, hu_⟩ := hw
          subst hr_
          rw [hu_] at hP hD
          clear hu_
          refine by_ne (tgt := 68) hx hb dX4_same_61 (by decide) (by omega) (by omega) (fun q3 => ?_) (fun q3 => ?_)
          · refine lv_iconst (v := nI (0)) hx hb dX4_same_68 (by decide) ?_
            exact W.zret (v := nI (0)) hx hb hr rfl (fun t ht hW => ⟨⟨nI (0), _, rfl, ⟨by rw [sp_same, if_pos (by omega), e_i, e_j, if_neg (fun h => q3 (odI_z.mpr (d_ext.mp h).2.2))], rfl⟩, wd_end hP hK hD ht hW⟩, hS.F ht⟩) hS.2.2 dX4_same_69
          · refine lv_iconst (v := nI (1)) hx hb dX4_same_64 (by decide) ?_
            refine lv_goto (tgt := 69) hx hb dX4_same_65 (by decide) ?_
            exact W.zret (v := nI (1)) hx hb hr rfl (fun t ht hW => ⟨⟨nI (1), _, rfl, ⟨by rw [sp_same, if_pos (by omega), e_i, e_j, if_pos (d_ext.mpr ⟨q2, tn_eq.mp q1, odI_z.mp q3⟩)], rfl⟩, wd_end hP hK hD ht hW⟩, hS.F ht⟩) hS.2.2 dX4_same_69
    · have g_j := it_eq q_j
      refine lv_iconst (v := nI (0)) hx hb dX4_same_14 (by decide) ?_
      exact W.zret (v := nI (0)) hx hb hr rfl (fun t ht hW => ⟨⟨nI (0), _, rfl, ⟨by rw [sp_same, if_neg (by omega)], rfl⟩, wd_end hP hK hD ht hW⟩, hS.F ht⟩) hS.2.2 dX4_same_15
