section MGS
variable {cA : Nat → ClassId} {ad : Nat → Nat} {wa wb wc we w' : RWt} {rg : Nat → RWt} {tx : Nat → Int32} {tl : Nat}
theorem mg_GS (i : Nat) : isRw cA ad (mg cA ad wa wb wc we (va_up rg i w') tx tl) (11 + 2 * i) w' := by
  have h := mg_G (cA := cA) (ad := ad) (wa := wa) (wb := wb) (wc := wc) (we := we) (rg := va_up rg i w') (tx := tx) (tl := tl) i
  rw [va_up_self] at h; exact h
theorem mg_pgS (i : Nat) (n' : Nat) (b' : Bool) (z' : Int) {v : Int32} (hv : v = nI b'.toNat) : va_up (mg cA ad wa wb wc we (va_up rg i w') tx tl) (11 + 2 * i) (.inr (3, [.ref (ad (11 + 2 * i + 1)), .int (nI n'), .int v, .int (iZ z')])) = mg cA ad wa wb wc we (va_up rg i (w'.1, n', b', z')) tx tl := by
  rw [mg_pg i n' b' z' hv, va_up_self, bx_uu]
theorem mg_sgS (i : Nat) (f' : Nat → Int32) : va_up (mg cA ad wa wb wc we (va_up rg i w') tx tl) (11 + 2 * i + 1) (.inl (cA 3, 800, .inl f')) = mg cA ad wa wb wc we (va_up rg i (f', w'.2)) tx tl := by
  rw [mg_sg i f', va_up_self, bx_uu]
end MGS
set_option maxHeartbeats 4000000 in
set_option maxRecDepth 100000 in
/-- look -/
theorem c_X4_look (l : Launch) (D : va_G) (cA : Nat → ClassId) (tT : Nat) (A : Nat → Prop) (ad : Nat → Nat) (sz : Nat) {wa wb wc we : RWt} {rg : Nat → RWt} {tx : Nat → Int32} {tl : Nat} {rh : Nat → Bool × Nat × Int} (hm : mr rg rh) (hr9 : rks rh) {q i : Int} (q_1 : -2147483648 ≤ q) (q_2 : q < 2147483648) (i_1 : -2147483648 ≤ i) (i_2 : i < 2147483648) : Met l yX4_look wsX4_look ({ frames := 1, cells := 0, slots := 0, locals := 20 }) (va_Pc [.ref (ad 0), .int (iZ (q)), .int (iZ (i))] (wd_B D cA tT A 23 ad sz (mg cA ad wa wb wc we rg tx tl))) (va_Qi (fun (r : Int32) (u : Nat → va_E) => r = sp_look rh q i ∧ u = mg cA ad wa wb wc we rg tx tl) (wd_E D cA A 23 ad) A) 0 0 A := by
  refine Met.ofW (cc := cX4_look) (maxL := 4) (ret := (some .int)) (by decide) rfl ?_
  intro p e s m args below meth c s₁ B hml hv
  obtain ⟨rfl, hsz, hP, hK, hD, hT⟩ := hv
  have hx := B.exec
  have hb := B.bytes
  have hr := B.returns
  have hts := atoms_spec (ws := wsX4_look) B.pre
  have hown : s.vm.findClass RX4 = some m.cls := findClass_of_methodNamed B.named
  have hlocks := B.notSynchronized
  subst hsz
  have hS : va_S A s.heap s.heap [] := va_S.rf
  have in3 : ∀ w ∈ wsX30, w ∈ wsX4_look := by decide +kernel
  have in4 : ∀ w ∈ wsX40, w ∈ wsX4_look := by decide +kernel
  have hl := lv_entry ([.ref (ad 0), .int (iZ (q)), .int (iZ (i))]) (n := 4) (Nat.le_of_ble_eq_true rfl)
  rw [lg_entry_eq]
  generalize (lg_sl ([.ref (ad 0), .int (iZ (q)), .int (iZ (i))]) ++ List.replicate (4 - (lg_sl ([.ref (ad 0), .int (iZ (q)), .int (iZ (i))])).length) Slot.unset).toArray = ls at hl ⊢
  have hl : lv_has ls 4 [(0, .ref (ad 0)), (1, .int (iZ (q))), (2, .int (iZ (i)))] := hl
  have hq3 : ∀ h : q < 0 ∨ 2 < q, iZ (-1) = sp_look rh q i := fun h => by
    rw [sp_look]
    split
    · rw [if_neg (by omega), if_neg (by omega), if_neg (by omega)]
    · rw [if_neg (by omega)]
  refine lv_iload_n hx hb dX4_look_0 rfl (lv_at hl 1 rfl) ?_
  refine by_lt (tgt := 9) hx hb dX4_look_1 (by decide) (by omega) (by omega) (fun p1 => ?_) (fun p1 => ?_)
  · refine lv_iconst (v := iZ (-1)) hx hb dX4_look_9 (by decide) ?_
    exact W.iret (v := iZ (-1)) hx hb hr (fun t ht hW => ⟨⟨iZ (-1), _, rfl, ⟨hq3 (Or.inl p1), rfl⟩, wd_end hP hK hD ht hW⟩, hS.F ht⟩) hS.2.2 dX4_look_10
  · refine lv_iload_n hx hb dX4_look_4 rfl (lv_at hl 1 rfl) ?_
    refine lv_iconst (v := nI (2)) hx hb dX4_look_5 (by decide) ?_
    refine tp_i (y := iZ ((2 : Nat) : Int)) (iZ_nat _) ?_
    refine bs_le (tgt := 11) hx hb dX4_look_6 (by decide) (by omega) (by omega) (by omega) (by omega) (fun p2 => ?_) (fun p2 => ?_)
    · refine lv_iload_n hx hb dX4_look_11 rfl (lv_at hl 2 rfl) ?_
      refine va_calli (va_runS (As := [.int (iZ (i))]) (rest := []) ⟨hx, hb, hml, hown, hts⟩ (c_X4_is l D cA tT A 23 ad _ _ (k := i) (by omega) (by omega)) (va_cwS 1 hts gX4_look_X4_is rfl rfl rfl (by decide +kernel) ⟨Nat.le_of_ble_eq_true rfl, Nat.le_of_ble_eq_true rfl⟩) (wd_preS hP hK hD hT hS) rfl rfl hl.1 rfl (lv_room (Nat.le_of_ble_eq_true rfl)) dX4_look_12 ⟨Nat.zero_le _, Nat.zero_le _⟩) hS id_2 id_1 (fun r_ u t H locs ht hvm hw hB hz1 hk1 hS => ?_)
      refine c00 ?_
      obtain ⟨hP, hD⟩ := wd_back ht hB
      clear ht hvm hB hz1 hk1
      obtain ⟨hr_, hu_⟩ := hw
      subst hr_
      rw [hu_] at hP hD
      clear hu_
      refine bz_ne (tgt := 31) hx hb dX4_look_15 (by decide) it_lt (fun q_i => ?_) (fun q_i => ?_)
      · have g_i := it_ne q_i
        obtain ⟨i_n, h_i, rfl⟩ : ∃ n : Nat, n < 6 ∧ i = (n : Int) := ⟨i.toNat, by omega, by omega⟩
        rw [← iZ_nat i_n] at hl
        have e_i : ((i_n : Nat) : Int).toNat = i_n := Int.toNat_natCast i_n
        have m_i := hm i_n h_i
        have n_i : (rg i_n).2.1 = nd_p (rh i_n).2.1 := m_i.1.1
        have b_i : (rg i_n).2.2.1 = (rh i_n).1 := by rw [m_i.2]
        have z_i : (rg i_n).2.2.2 = (rh i_n).2.2 := by rw [m_i.2]
        have r_i := hr9 i_n h_i
        simp only [rk] at r_i
        have p_i := p190 r_i.1
        have t_i := tn_le (rh i_n).1
        refine lv_aload_n hx hb dX4_look_31 rfl (lv_at hl 0 rfl) ?_
        refine rg_4_registers hx hb hts in4 hown hK hP 0 (by decide) mg_0 (hts _ (by decide +kernel)) dX4_look_32 ?_
        refine lv_iload_n hx hb dX4_look_35 rfl (lv_at hl 2 rfl) ?_
        refine rn_q4 hx hb hK hP 1 (by decide) mg_1 (by omega) (by decide) dX4_look_36 ?_
        refine tp_v (y := .ref (ad (11 + 2 * i_n))) rfl ?_
        refine lv_astore_n (lv' := [(3, .ref (ad (11 + 2 * i_n))), (0, .ref (ad 0)), (1, .int (iZ (q))), (2, .int (nI (i_n)))]) hx hb dX4_look_37 rfl hl (by decide) rfl (fun ls hl => ?_)
        refine lv_iload_n hx hb dX4_look_38 rfl (lv_at hl 2 rfl) ?_
        refine by_ne (tgt := 68) hx hb dX4_look_39 (by decide) (by omega) (by omega) (fun p4 => ?_) (fun p4 => ?_)
        · refine lv_iload_n hx hb dX4_look_68 rfl (lv_at hl 2 rfl) ?_
          refine lv_iconst (v := nI (1)) hx hb dX4_look_69 (by decide) ?_
          refine tp_i (y := iZ ((1 : Nat) : Int)) (iZ_nat _) ?_
          refine bs_ne (tgt := 80) hx hb dX4_look_70 (by decide) (by omega) (by omega) (by omega) (by omega) (fun p8 => ?_) (fun p8 => ?_)
          · refine lv_aload_n hx hb dX4_look_80 rfl (lv_at hl 0 rfl) ?_
            refine rg_3_scale hx hb hts in3 hown hK hP (11 + 2 * i_n) (by omega) (mg_G i_n).1 (hts _ (by decide +kernel)) dX4_look_81 ?_
            refine tp_i (y := iZ ((rg i_n).2.2.2)) rfl ?_
            exact W.iret (v := iZ ((rg i_n).2.2.2)) hx hb hr (fun t ht hW => ⟨⟨iZ ((rg i_n).2.2.2), _, rfl, ⟨by rw [sp_look, if_pos (by omega), e_i, if_neg (by omega), if_neg (by omega), if_pos (by omega), z_i], rfl⟩, wd_end hP hK hD ht hW⟩, hS.F ht⟩) hS.2.2 dX4_look_84
          · refine lv_aload_n hx hb dX4_look_73 rfl (lv_at hl 0 rfl) ?_
            refine rg_3_n hx hb hts in3 hown hK hP (11 + 2 * i_n) (by omega) (mg_G i_n).1 (hts _ (by decide +kernel)) dX4_look_74 ?_
            refine tp_i (y := nI ((rg i_n).2.1)) rfl ?_
            refine lv_goto (tgt := 84) hx hb dX4_look_77 (by decide) ?_
            exact W.iret (v := nI ((rg i_n).2.1)) hx hb hr (fun t ht hW => ⟨⟨nI ((rg i_n).2.1), _, rfl, ⟨by rw [sp_look, if_pos (by omega), e_i, if_neg (by omega), if_pos (by omega), n_i], rfl⟩, wd_end hP hK hD ht hW⟩, hS.F ht⟩) hS.2.2 dX4_look_84
        · refine lv_aload_n hx hb dX4_look_42 rfl (lv_at hl 0 rfl) ?_
          refine va_calli (va_runV (As := []) (rest := []) ⟨hx, hb, hml, hown, hts⟩ (c_X3_isZero l D cA tT A 23 ad _ _ (a := 11 + 2 * i_n) (f := (rg i_n).1) (n := (rg i_n).2.1) (b := (rg i_n).2.2.1) (z := (rg i_n).2.2.2) (v := (rh i_n).2.1) (by omega) (mg_G _) m_i.1 (by omega)) (cwV 0 hts gX4_look_X3_isZero rfl rfl rfl (by decide +kernel) ⟨Nat.le_of_ble_eq_true rfl, Nat.le_of_ble_eq_true rfl⟩) (wd_preV (k := 11 + 2 * i_n) hP hK hD hT hS (by omega) (mg_G _).1 rfl) rfl rfl hl.1 rfl (lv_room (Nat.le_of_ble_eq_true rfl)) dX4_look_43 ⟨Nat.zero_le _, Nat.zero_le _⟩) hS id_2 id_1 (fun r_ u t H locs ht hvm hw hB hz1 hk1 hS => ?_)
          refine c00 ?_
          obtain ⟨hP, hD⟩ := wd_back ht hB
          clear ht hvm hB hz1 hk1
          obtain ⟨hr_, hu_⟩ := hw
          subst hr_
          rw [hu_] at hP hD
          clear hu_
          refine bz_eq (tgt := 53) hx hb dX4_look_46 (by decide) it_lt (fun p5 => ?_) (fun p5 => ?_)
          · have p6 := it_eq p5
            refine lv_aload_n hx hb dX4_look_53 rfl (lv_at hl 0 rfl) ?_
            refine rg_3_minus hx hb hts in3 hown hK hP (11 + 2 * i_n) (by omega) (mg_G i_n).1 (hts _ (by decide +kernel)) dX4_look_54 ?_
            refine tp_i (y := nI (((rg i_n).2.2.1).toNat)) rfl ?_
            refine tp_i (y := nI ((rh i_n).1.toNat)) (by rw [b_i]) ?_
            refine bz_eq (tgt := 64) hx hb dX4_look_57 (by decide) (by omega) (fun p7 => ?_) (fun p7 => ?_)
            · refine lv_iconst (v := nI (1)) hx hb dX4_look_64 (by decide) ?_
              refine lv_goto (tgt := 84) hx hb dX4_look_65 (by decide) ?_
              refine tp_i (y := iZ 1) rfl ?_
              exact W.iret (v := iZ (1)) hx hb hr (fun t ht hW => ⟨⟨iZ (1), _, rfl, ⟨by rw [sp_look, if_pos (by omega), e_i, if_pos (by omega), sI, if_neg p6, tn_z p7]; rfl, rfl⟩, wd_end hP hK hD ht hW⟩, hS.F ht⟩) hS.2.2 dX4_look_84
            · refine lv_iconst (v := iZ (-1)) hx hb dX4_look_60 (by decide) ?_
              refine lv_goto (tgt := 84) hx hb dX4_look_61 (by decide) ?_
              exact W.iret (v := iZ (-1)) hx hb hr (fun t ht hW => ⟨⟨iZ (-1), _, rfl, ⟨by rw [sp_look, if_pos (by omega), e_i, if_pos (by omega), sI, if_neg p6, tn_nz p7]; rfl, rfl⟩, wd_end hP hK hD ht hW⟩, hS.F ht⟩) hS.2.2 dX4_look_84
          · have p6 := it_ne p5
            refine lv_iconst (v := nI (0)) hx hb dX4_look_49 (by decide) ?_
            refine lv_goto (tgt := 84) hx hb dX4_look_50 (by decide) ?_
            refine tp_i (y := iZ 0) rfl ?_
            exact W.iret (v := iZ (0)) hx hb hr (fun t ht hW => ⟨⟨iZ (0), _, rfl, ⟨by rw [sp_look, if_pos (by omega), e_i, if_pos (by omega), sI, if_pos p6], rfl⟩, wd_end hP hK hD ht hW⟩, hS.F ht⟩) hS.2.2 dX4_look_84
      · have g_i := it_eq q_i
        refine lv_iload_n hx hb dX4_look_18 rfl (lv_at hl 1 rfl) ?_
        refine lv_iconst (v := nI (2)) hx hb dX4_look_19 (by decide) ?_
        refine tp_i (y := iZ ((2 : Nat) : Int)) (iZ_nat _) ?_
        refine bs_ne (tgt := 29) hx hb dX4_look_20 (by decide) (by omega) (by omega) (by omega) (by omega) (fun p3 => ?_) (fun p3 => ?_)
        · refine lv_iconst (v := iZ (-1)) hx hb dX4_look_29 (by decide) ?_
          exact W.iret (v := iZ (-1)) hx hb hr (fun t ht hW => ⟨⟨iZ (-1), _, rfl, ⟨by rw [sp_look, if_neg (by omega), if_neg (by omega)], rfl⟩, wd_end hP hK hD ht hW⟩, hS.F ht⟩) hS.2.2 dX4_look_30
        · refine lv_sipush (v := nI (1000)) hx hb dX4_look_23 (by decide) ?_
          refine lv_goto (tgt := 30) hx hb dX4_look_26 (by decide) ?_
          exact W.iret (v := nI (1000)) hx hb hr (fun t ht hW => ⟨⟨nI (1000), _, rfl, ⟨by rw [sp_look, if_neg (by omega), if_pos (by omega)], rfl⟩, wd_end hP hK hD ht hW⟩, hS.F ht⟩) hS.2.2 dX4_look_30
    · refine lv_iconst (v := iZ (-1)) hx hb dX4_look_9 (by decide) ?_
      exact W.iret (v := iZ (-1)) hx hb hr (fun t ht hW => ⟨⟨iZ (-1), _, rfl, ⟨hq3 (Or.inr (by omega)), rfl⟩, wd_end hP hK hD ht hW⟩, hS.F ht⟩) hS.2.2 dX4_look_10
set_option maxHeartbeats 4000000 in
set_option maxRecDepth 100000 in
/-- digit -/
theorem c_X4_digit (l : Launch) (D : va_G) (cA : Nat → ClassId) (tT : Nat) (A : Nat → Prop) (ad : Nat → Nat) (sz : Nat) {wa wb wc we : RWt} {rg : Nat → RWt} {tx : Nat → Int32} {tl : Nat} {rh : Nat → Bool × Nat × Int} (hm : mr rg rh) (hr9 : rks rh) {i q : Int} (i_1 : -2147483648 ≤ i) (i_2 : i < 2147483648) (q_1 : -2147483648 ≤ q) (q_2 : q < 2147483648) : Met l yX4_digit wsX4_digit ({ frames := 1, cells := 0, slots := 0, locals := 20 }) (va_Pc [.ref (ad 0), .int (iZ (i)), .int (iZ (q))] (wd_B D cA tT A 23 ad sz (mg cA ad wa wb wc we rg tx tl))) (va_Qi (fun (r : Int32) (u : Nat → va_E) => r = sp_digit rh i q ∧ u = mg cA ad wa wb wc we rg tx tl) (wd_E D cA A 23 ad) A) 0 0 A := by
  refine Met.ofW (cc := cX4_digit) (maxL := 3) (ret := (some .int)) (by decide) rfl ?_
  intro p e s m args below meth c s₁ B hml hv
  obtain ⟨rfl, hsz, hP, hK, hD, hT⟩ := hv
  have hx := B.exec
  have hb := B.bytes
  have hr := B.returns
  have hts := atoms_spec (ws := wsX4_digit) B.pre
  have hown : s.vm.findClass RX4 = some m.cls := findClass_of_methodNamed B.named
  have hlocks := B.notSynchronized
  subst hsz
  have hS : va_S A s.heap s.heap [] := va_S.rf
  have in3 : ∀ w ∈ wsX30, w ∈ wsX4_digit := by decide +kernel
  have in4 : ∀ w ∈ wsX40, w ∈ wsX4_digit := by decide +kernel
  have hl := lv_entry ([.ref (ad 0), .int (iZ (i)), .int (iZ (q))]) (n := 3) (Nat.le_of_ble_eq_true rfl)
  rw [lg_entry_eq]
  generalize (lg_sl ([.ref (ad 0), .int (iZ (i)), .int (iZ (q))]) ++ List.replicate (3 - (lg_sl ([.ref (ad 0), .int (iZ (i)), .int (iZ (q))])).length) Slot.unset).toArray = ls at hl ⊢
  have hl : lv_has ls 3 [(0, .ref (ad 0)), (1, .int (iZ (i))), (2, .int (iZ (q)))] := hl
  refine lv_iload_n hx hb dX4_digit_0 rfl (lv_at hl 1 rfl) ?_
  refine va_calli (va_runS (As := [.int (iZ (i))]) (rest := []) ⟨hx, hb, hml, hown, hts⟩ (c_X4_is l D cA tT A 23 ad _ _ (k := i) (by omega) (by omega)) (va_cwS 1 hts gX4_digit_X4_is rfl rfl rfl (by decide +kernel) ⟨Nat.le_of_ble_eq_true rfl, Nat.le_of_ble_eq_true rfl⟩) (wd_preS hP hK hD hT hS) rfl rfl hl.1 rfl (lv_room (Nat.le_of_ble_eq_true rfl)) dX4_digit_1 ⟨Nat.zero_le _, Nat.zero_le _⟩) hS id_2 id_1 (fun r_ u t H locs ht hvm hw hB hz1 hk1 hS => ?_)
  refine c00 ?_
  obtain ⟨hP, hD⟩ := wd_back ht hB
  clear ht hvm hB hz1 hk1
  obtain ⟨hr_, hu_⟩ := hw
  subst hr_
  rw [hu_] at hP hD
  clear hu_
  refine bz_eq (tgt := 38) hx hb dX4_digit_4 (by decide) it_lt (fun q_i => ?_) (fun q_i => ?_)
  · have g_i := it_eq q_i
    refine lv_iconst (v := iZ (-1)) hx hb dX4_digit_38 (by decide) ?_
    exact W.iret (v := iZ (-1)) hx hb hr (fun t ht hW => ⟨⟨iZ (-1), _, rfl, ⟨by rw [sp_digit, if_neg (by omega)], rfl⟩, wd_end hP hK hD ht hW⟩, hS.F ht⟩) hS.2.2 dX4_digit_39
  · have g_i := it_ne q_i
    refine lv_iload_n hx hb dX4_digit_7 rfl (lv_at hl 2 rfl) ?_
    refine by_lt (tgt := 38) hx hb dX4_digit_8 (by decide) (by omega) (by omega) (fun p1 => ?_) (fun p1 => ?_)
    · refine lv_iconst (v := iZ (-1)) hx hb dX4_digit_38 (by decide) ?_
      exact W.iret (v := iZ (-1)) hx hb hr (fun t ht hW => ⟨⟨iZ (-1), _, rfl, ⟨by rw [sp_digit, if_neg (by omega)], rfl⟩, wd_end hP hK hD ht hW⟩, hS.F ht⟩) hS.2.2 dX4_digit_39
    · obtain ⟨i_n, h_i, rfl⟩ : ∃ n : Nat, n < 6 ∧ i = (n : Int) := ⟨i.toNat, by omega, by omega⟩
      rw [← iZ_nat i_n] at hl
      have e_i : ((i_n : Nat) : Int).toNat = i_n := Int.toNat_natCast i_n
      have m_i := hm i_n h_i
      have n_i : (rg i_n).2.1 = nd_p (rh i_n).2.1 := m_i.1.1
      have b_i : (rg i_n).2.2.1 = (rh i_n).1 := by rw [m_i.2]
      have z_i : (rg i_n).2.2.2 = (rh i_n).2.2 := by rw [m_i.2]
      have r_i := hr9 i_n h_i
      simp only [rk] at r_i
      have p_i := p190 r_i.1
      have t_i := tn_le (rh i_n).1
      obtain ⟨q_n, rfl⟩ : ∃ n : Nat, q = (n : Int) := ⟨q.toNat, by omega⟩
      rw [← iZ_nat q_n] at hl
      have e_q : ((q_n : Nat) : Int).toNat = q_n := Int.toNat_natCast q_n
      refine lv_iload_n hx hb dX4_digit_11 rfl (lv_at hl 2 rfl) ?_
      refine lv_aload_n hx hb dX4_digit_12 rfl (lv_at hl 0 rfl) ?_
      refine rg_4_registers hx hb hts in4 hown hK hP 0 (by decide) mg_0 (hts _ (by decide +kernel)) dX4_digit_13 ?_
      refine lv_iload_n hx hb dX4_digit_16 rfl (lv_at hl 1 rfl) ?_
      refine rn_q4 hx hb hK hP 1 (by decide) mg_1 (by omega) (by decide) dX4_digit_17 ?_
      refine tp_v (y := .ref (ad (11 + 2 * i_n))) rfl ?_
      refine rg_3_n hx hb hts in3 hown hK hP (11 + 2 * i_n) (by omega) (mg_G i_n).1 (hts _ (by decide +kernel)) dX4_digit_18 ?_
      refine tp_i (y := nI ((rg i_n).2.1)) rfl ?_
      refine bi_ge (tgt := 38) hx hb dX4_digit_21 (by decide) (by omega) (by omega) (fun p2 => ?_) (fun p2 => ?_)
      · refine lv_iconst (v := iZ (-1)) hx hb dX4_digit_38 (by decide) ?_
        exact W.iret (v := iZ (-1)) hx hb hr (fun t ht hW => ⟨⟨iZ (-1), _, rfl, ⟨by rw [sp_digit, e_i, if_neg (by omega)], rfl⟩, wd_end hP hK hD ht hW⟩, hS.F ht⟩) hS.2.2 dX4_digit_39
      · refine lv_aload_n hx hb dX4_digit_24 rfl (lv_at hl 0 rfl) ?_
        refine rg_4_registers hx hb hts in4 hown hK hP 0 (by decide) mg_0 (hts _ (by decide +kernel)) dX4_digit_25 ?_
        refine lv_iload_n hx hb dX4_digit_28 rfl (lv_at hl 1 rfl) ?_
        refine rn_q4 hx hb hK hP 1 (by decide) mg_1 (by omega) (by decide) dX4_digit_29 ?_
        refine tp_v (y := .ref (ad (11 + 2 * i_n))) rfl ?_
        refine rg_3_d hx hb hts in3 hown hK hP (11 + 2 * i_n) (by omega) (mg_G i_n).1 (hts _ (by decide +kernel)) dX4_digit_30 ?_
        refine lv_iload_n hx hb dX4_digit_33 rfl (lv_at hl 2 rfl) ?_
        refine rn_i hx hb hK hP (11 + 2 * i_n + 1) (by omega) (mg_G i_n).2 (by omega) (by decide) dX4_digit_34 ?_
        refine tp_i (y := nI ((rh i_n).2.1 / 10 ^ q_n % 10)) (m_i.1.2 q_n (by omega)) ?_
        refine lv_goto (tgt := 39) hx hb dX4_digit_35 (by decide) ?_
        exact W.iret (v := nI ((rh i_n).2.1 / 10 ^ q_n % 10)) hx hb hr (fun t ht hW => ⟨⟨nI ((rh i_n).2.1 / 10 ^ q_n % 10), _, rfl, ⟨by rw [sp_digit, e_i, e_q, if_pos (by omega)], rfl⟩, wd_end hP hK hD ht hW⟩, hS.F ht⟩) hS.2.2 dX4_digit_39
set_option maxHeartbeats 4000000 in
set_option maxRecDepth 100000 in
/-- octet -/
theorem c_X4_octet (l : Launch) (D : va_G) (cA : Nat → ClassId) (tT : Nat) (A : Nat → Prop) (ad : Nat → Nat) (sz : Nat) {wa wb wc we : RWt} {rg : Nat → RWt} {tx : Nat → Int32} {T : List Nat} {k : Int} (ht9 : tr tx T) (hT9 : T.length ≤ 200) (k_1 : -2147483648 ≤ k) (k_2 : k < 2147483648) : Met l yX4_octet wsX4_octet ({ frames := 0, cells := 0, slots := 0, locals := 0 }) (va_Pc [.ref (ad 0), .int (iZ (k))] (wd_B D cA tT A 23 ad sz (mg cA ad wa wb wc we rg tx T.length))) (va_Qi (fun (r : Int32) (u : Nat → va_E) => r = sp_octet T k ∧ u = mg cA ad wa wb wc we rg tx T.length) (wd_E D cA A 23 ad) A) 0 0 A := by
  refine Met.ofW (cc := cX4_octet) (maxL := 2) (ret := (some .int)) (by decide) rfl ?_
  intro p e s m args below meth c s₁ B hml hv
  obtain ⟨rfl, hsz, hP, hK, hD, hT⟩ := hv
  have hx := B.exec
  have hb := B.bytes
  have hr := B.returns
  have hts := atoms_spec (ws := wsX4_octet) B.pre
  have hown : s.vm.findClass RX4 = some m.cls := findClass_of_methodNamed B.named
  have hlocks := B.notSynchronized
  subst hsz
  have hS : va_S A s.heap s.heap [] := va_S.rf
  have in4 : ∀ w ∈ wsX40, w ∈ wsX4_octet := by decide +kernel
  have hl := lv_entry ([.ref (ad 0), .int (iZ (k))]) (n := 2) (Nat.le_of_ble_eq_true rfl)
  rw [lg_entry_eq]
  generalize (lg_sl ([.ref (ad 0), .int (iZ (k))]) ++ List.replicate (2 - (lg_sl ([.ref (ad 0), .int (iZ (k))])).length) Slot.unset).toArray = ls at hl ⊢
  have hl : lv_has ls 2 [(0, .ref (ad 0)), (1, .int (iZ (k)))] := hl
  refine lv_iload_n hx hb dX4_octet_0 rfl (lv_at hl 1 rfl) ?_
  refine by_lt (tgt := 21) hx hb dX4_octet_1 (by decide) (by omega) (by omega) (fun q1 => ?_) (fun q1 => ?_)
  · refine lv_iconst (v := iZ (-1)) hx hb dX4_octet_21 (by decide) ?_
    exact W.iret (v := iZ (-1)) hx hb hr (fun t ht hW => ⟨⟨iZ (-1), _, rfl, ⟨by rw [sp_octet, if_neg (by omega)], rfl⟩, wd_end hP hK hD ht hW⟩, hS.F ht⟩) hS.2.2 dX4_octet_22
  · obtain ⟨k_n, rfl⟩ : ∃ n : Nat, k = (n : Int) := ⟨k.toNat, by omega⟩
    rw [← iZ_nat k_n] at hl
    refine lv_iload_n hx hb dX4_octet_4 rfl (lv_at hl 1 rfl) ?_
    refine lv_aload_n hx hb dX4_octet_5 rfl (lv_at hl 0 rfl) ?_
    refine rg_4_length hx hb hts in4 hown hK hP 0 (by decide) mg_0 (hts _ (by decide +kernel)) dX4_octet_6 ?_
    refine bi_ge (tgt := 21) hx hb dX4_octet_9 (by decide) (by omega) (by omega) (fun q2 => ?_) (fun q2 => ?_)
    · refine lv_iconst (v := iZ (-1)) hx hb dX4_octet_21 (by decide) ?_
      exact W.iret (v := iZ (-1)) hx hb hr (fun t ht hW => ⟨⟨iZ (-1), _, rfl, ⟨by rw [sp_octet, if_neg (by omega)], rfl⟩, wd_end hP hK hD ht hW⟩, hS.F ht⟩) hS.2.2 dX4_octet_22
    · refine lv_aload_n hx hb dX4_octet_12 rfl (lv_at hl 0 rfl) ?_
      refine rg_4_text hx hb hts in4 hown hK hP 0 (by decide) mg_0 (hts _ (by decide +kernel)) dX4_octet_13 ?_
      refine lv_iload_n hx hb dX4_octet_16 rfl (lv_at hl 1 rfl) ?_
      refine rn_i hx hb hK hP 2 (by decide) mg_2 (by omega) (by decide) dX4_octet_17 ?_
      refine tp_i (y := nI (T.getD k_n 0)) (ht9 k_n (by omega)) ?_
      refine lv_goto (tgt := 22) hx hb dX4_octet_18 (by decide) ?_
      exact W.iret (v := nI (T.getD k_n 0)) hx hb hr (fun t ht hW => ⟨⟨nI (T.getD k_n 0), _, rfl, ⟨by rw [sp_octet, if_pos (by omega), Int.toNat_natCast], rfl⟩, wd_end hP hK hD ht hW⟩, hS.F ht⟩) hS.2.2 dX4_octet_22
set_option maxHeartbeats 4000000 in
set_option maxRecDepth 100000 in
/-- sign -/
theorem c_X4_sign (l : Launch) (D : va_G) (cA : Nat → ClassId) (tT : Nat) (A : Nat → Prop) (ad : Nat → Nat) (sz : Nat) {wa wb wc we : RWt} {rg : Nat → RWt} {tx : Nat → Int32} {T : List Nat} {q : Nat} (hT9 : T.length < 200) : Met l yX4_sign wsX4_sign ({ frames := 0, cells := 0, slots := 0, locals := 0 }) (va_Pc [.ref (ad 0), .int (nI (q))] (wd_B D cA tT A 23 ad sz (mg cA ad wa wb wc we rg tx T.length))) (va_Qv (fun (u : Nat → va_E) => u = mg cA ad wa wb wc we rg (upd tx T.length (nI q)) (T.length + 1)) (wd_E D cA A 23 ad) A) 0 0 A := by
  refine Met.ofW (cc := cX4_sign) (maxL := 2) (ret := none) (by decide) rfl ?_
  intro p e s m args below meth c s₁ B hml hv
  obtain ⟨rfl, hsz, hP, hK, hD, hT⟩ := hv
  have hx := B.exec
  have hb := B.bytes
  have hr := B.returns
  have hts := atoms_spec (ws := wsX4_sign) B.pre
  have hown : s.vm.findClass RX4 = some m.cls := findClass_of_methodNamed B.named
  have hlocks := B.notSynchronized
  subst hsz
  have hS : va_S A s.heap s.heap [] := va_S.rf
  have in4 : ∀ w ∈ wsX40, w ∈ wsX4_sign := by decide +kernel
  have hl := lv_entry ([.ref (ad 0), .int (nI (q))]) (n := 2) (Nat.le_of_ble_eq_true rfl)
  rw [lg_entry_eq]
  generalize (lg_sl ([.ref (ad 0), .int (nI (q))]) ++ List.replicate (2 - (lg_sl ([.ref (ad 0), .int (nI (q))])).length) Slot.unset).toArray = ls at hl ⊢
  have hl : lv_has ls 2 [(0, .ref (ad 0)), (1, .int (nI (q)))] := hl
  refine lv_aload_n hx hb dX4_sign_0 rfl (lv_at hl 0 rfl) ?_
  refine rg_4_text hx hb hts in4 hown hK hP 0 (by decide) mg_0 (hts _ (by decide +kernel)) dX4_sign_1 ?_
  refine lv_aload_n hx hb dX4_sign_4 rfl (lv_at hl 0 rfl) ?_
  refine rg_4_length hx hb hts in4 hown hK hP 0 (by decide) mg_0 (hts _ (by decide +kernel)) dX4_sign_5 ?_
  refine lv_iload_n hx hb dX4_sign_8 rfl (lv_at hl 1 rfl) ?_
  refine rt_i hx hb hK hP hD hS 2 (by decide) mg_2 (by omega) (by decide) dX4_sign_9 (fun H locs hP hD hS => ?_)
  rw [mg_X] at hP hD
  refine lv_aload_n hx hb dX4_sign_10 rfl (lv_at hl 0 rfl) ?_
  refine lv_dup hx hb dX4_sign_11 rfl ?_
  refine rg_4_length hx hb hts in4 hown hK hP 0 (by decide) mg_0 (hts _ (by decide +kernel)) dX4_sign_12 ?_
  refine lv_iconst (v := nI (1)) hx hb dX4_sign_15 (by decide) ?_
  refine lv_iadd hx hb dX4_sign_16 ?_
  refine tp_i (y := nI (T.length + 1)) (nI_add _ _) ?_
  refine rp_4_length hx hb hts in4 hown hK hP hD hS 0 (by decide) mg_0 (hts _ (by decide +kernel)) rfl rfl dX4_sign_17 (fun H locs hP hD hS => ?_)
  rw [mg_L] at hP hD
  exact W.vret hx hb hr (fun t ht hW => ⟨⟨_, rfl, rfl, wd_end hP hK hD ht hW⟩, hS.F ht⟩) hS.2.2 dX4_sign_20
