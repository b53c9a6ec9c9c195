set_option maxHeartbeats 4000000 in
set_option maxRecDepth 100000 in
/-- whole -/
theorem c_X2_whole (l : Launch) (D : va_G) (cA : Nat → ClassId) (tT : Nat) (A : Nat → Prop) (ad : Nat → Nat) (sz : Nat) {sf : Nat → Bool × Nat × Int} {x y : Nat} {tx : Nat → Int32} {tl : Nat} {i : Int} (hc : ci sf x y) (i_1 : -2147483648 ≤ i) (i_2 : i < 2147483648) : Met l yX2_whole wsX2_whole ({ frames := 4, cells := 0, slots := 0, locals := 103 }) (va_Pc [.ref (ad 0), .int (iZ (i))] (wd_B D cA tT A 31 ad sz (cg cA ad sf x y tx tl))) (va_Ql (fun (r : Int64) (u : Nat → va_E) => r = sp_whole (fun i => sf (2 + i)) i ∧ ∃ sf1 x1 y1, ci sf1 x1 y1 ∧ (fun i => sf1 (2 + i)) = (fun i => sf (2 + i)) ∧ u = cg cA ad sf1 x1 y1 tx tl) (wd_E D cA A 31 ad) A) 0 0 A := by
  refine Met.ofW (cc := cX2_whole) (maxL := 4) (ret := (some .long)) (by decide) rfl ?_
  intro p e s m args below meth c s₁ B hml hv
  obtain ⟨rfl, hsz, hP, hK, hD, hT⟩ := hv
  have hx := B.exec
  have hb := B.bytes
  have hr := B.returns
  have hts := atoms_spec (ws := wsX2_whole) B.pre
  have hown : s.vm.findClass RX2 = some m.cls := findClass_of_methodNamed B.named
  have hlocks := B.notSynchronized
  subst hsz
  have hS : va_S A s.heap s.heap [] := va_S.rf
  have in0 : ∀ w ∈ wsX00, w ∈ wsX2_whole := by decide +kernel
  have in2 : ∀ w ∈ wsX20, w ∈ wsX2_whole := by decide +kernel
  have hl := lv_entry ([.ref (ad 0), .int (iZ (i))]) (n := 4) (Nat.le_of_ble_eq_true rfl)
  rw [lg_entry_eq]
  generalize (lg_sl ([.ref (ad 0), .int (iZ (i))]) ++ List.replicate (4 - (lg_sl ([.ref (ad 0), .int (iZ (i))])).length) Slot.unset).toArray = ls at hl ⊢
  have hl : lv_has ls 4 [(0, .ref (ad 0)), (1, .int (iZ (i)))] := hl
  refine lv_iload_n hx hb dX2_whole_0 rfl (lv_at hl 1 rfl) ?_
  refine va_calli (va_runS (As := [.int (iZ (i))]) (rest := []) ⟨hx, hb, hml, hown, hts⟩ (c_X2_isRegister l D cA tT A 31 ad _ _ (k := i) (by omega) (by omega)) (va_cwS 1 hts gX2_whole_X2_isRegister rfl rfl rfl (by decide +kernel) ⟨Nat.le_of_ble_eq_true rfl, Nat.le_of_ble_eq_true rfl⟩) (wd_preS hP hK hD hT hS) rfl rfl hl.1 rfl (lv_room (Nat.le_of_ble_eq_true rfl)) dX2_whole_1 ⟨Nat.zero_le _, Nat.zero_le _⟩) hS id_2 id_1 (fun r_ u t H locs ht hvm hw hB hz1 hk1 hS => ?_)
  obtain ⟨hP, hD⟩ := wd_back ht hB
  clear ht hvm hB hz1 hk1
  obtain ⟨hr_, hu_⟩ := hw
  subst hr_
  rw [hu_] at hP hD
  clear hu_
  refine bz_ne (tgt := 9) hx hb dX2_whole_4 (by decide) it_lt (fun q_i => ?_) (fun q_i => ?_)
  · have g_i := it_ne q_i
    obtain ⟨i_n, h_i, rfl⟩ : ∃ n : Nat, n < 6 ∧ i = (n : Int) := ⟨i.toNat, by omega, by omega⟩
    rw [← iZ_nat i_n] at hl
    have e_i : ((i_n : Nat) : Int).toNat = i_n := Int.toNat_natCast i_n
    have r_i := hc.2.2.2.2 i_n h_i
    have c_i := c64 r_i.1
    simp only [rk] at r_i
    have h1s := hc.2.2.2.1
    have h11 : (sf 1).2.1 = 1 := by rw [h1s]
    have h12 : (sf 1).2.2 = 0 := by rw [h1s]
    have h13 : (sf 1).1 = false := by rw [h1s]
    have hs1 : nd_s (sf 1).2.1 = 1 := by rw [h11]; decide +kernel
    have hs9 := s190 r_i.1
    have t1 := tn_le (sf (2 + i_n)).1
    have e1 : (((0 : Nat) : Int) + (sf 1).2.2 - (sf (2 + i_n)).2.2).toNat = (-(sf (2 + i_n)).2.2).toNat := by omega
    have e2 : (-(((0 : Nat) : Int) + (sf 1).2.2 - (sf (2 + i_n)).2.2)).toNat = (sf (2 + i_n)).2.2.toNat := by omega
    refine lv_aload_n hx hb dX2_whole_9 rfl (lv_at hl 0 rfl) ?_
    refine lv_aload_n hx hb dX2_whole_10 rfl (lv_at hl 0 rfl) ?_
    refine rg_2_registers hx hb hts in2 hown hK hP 0 (by decide) cg_0 (hts _ (by decide +kernel)) dX2_whole_11 ?_
    refine lv_iload_n hx hb dX2_whole_14 rfl (lv_at hl 1 rfl) ?_
    refine rn_q1 hx hb hK hP 1 (by decide) cg_1 (by omega) (by decide) dX2_whole_15 ?_
    refine tp_v (y := .ref (ad (7 + 3 * (2 + i_n)))) rfl ?_
    refine lv_aload_n hx hb dX2_whole_16 rfl (lv_at hl 0 rfl) ?_
    refine rg_2_one hx hb hts in2 hown hK hP 0 (by decide) cg_0 (hts _ (by decide +kernel)) dX2_whole_17 ?_
    refine lv_iconst (v := nI (0)) hx hb dX2_whole_20 (by decide) ?_
    refine tp_i (y := iZ ((0 : Nat) : Int)) rfl ?_
    refine va_callv (va_runV (As := [.ref (ad (7 + 3 * (2 + i_n))), .ref (ad (7 + 3 * 1)), .int (iZ (((0 : Nat) : Int)))]) (rest := []) ⟨hx, hb, hml, hown, hts⟩ (c_X2_split l D cA tT A ad _ (sf := sf) (x := x) (y := y) (tx := tx) (tl := tl) (e1 := 2 + i_n) (e2 := 1) (sc := ((0 : Nat) : Int)) (by omega) (by decide) hc.1 hc.2.1 c_i (by rw [h11]; decide) (by decide) (by decide) (by omega) (by omega) (by omega) (by omega) (by omega) (by omega) (by omega) (by omega) hc.2.2.1 (by rw [h11]; decide) (by omega)) (cwV 3 hts gX2_whole_X2_split rfl rfl rfl (by decide +kernel) ⟨Nat.le_of_ble_eq_true rfl, Nat.le_of_ble_eq_true rfl⟩) (wd_preV (k := 0) hP hK hD hT hS (by decide) cg_0 rfl) rfl rfl hl.1 rfl (lv_room (Nat.le_of_ble_eq_true rfl)) dX2_whole_21 ⟨Nat.zero_le _, Nat.zero_le _⟩) hS id_2 id_1 (fun u t H locs ht hvm hw hB hz1 hk1 hS => ?_)
    obtain ⟨hP, hD⟩ := wd_back ht hB
    clear ht hvm hB hz1 hk1
    rw [hw] at hP hD
    clear hw
    rw [e1, e2, h11, h13, Nat.one_mul, Bool.bne_false] at hP hD
    have hX := m190 (n := (sf (2 + i_n)).2.1) (P := (-(sf (2 + i_n)).2.2).toNat) r_i.1 (by omega)
    have hY : 10 ^ (sf (2 + i_n)).2.2.toNat < 1000000 ^ 36 := Nat.lt_of_le_of_lt (Nat.pow_le_pow_right (by decide) (show (sf (2 + i_n)).2.2.toNat ≤ 6 by omega)) (by decide +kernel)
    have hwh : (sf (2 + i_n)).2.1 * 10 ^ (-(sf (2 + i_n)).2.2).toNat / 10 ^ (sf (2 + i_n)).2.2.toNat = wh (sf (2 + i_n)) := rfl
    have hwb : wh (sf (2 + i_n)) ≤ (sf (2 + i_n)).2.1 * 10 ^ (-(sf (2 + i_n)).2.2).toNat := Nat.div_le_self _ _
    have hmb : (sf (2 + i_n)).2.1 * 10 ^ (-(sf (2 + i_n)).2.2).toNat % 10 ^ (sf (2 + i_n)).2.2.toNat ≤ (sf (2 + i_n)).2.1 * 10 ^ (-(sf (2 + i_n)).2.2).toNat := Nat.mod_le _ _
    have l36 : 2 * 1000000 ^ 36 < 1000000 ^ 64 := by decide +kernel
    rw [hwh] at hP hD
    generalize (sf (2 + i_n)).2.1 * 10 ^ (-(sf (2 + i_n)).2.2).toNat % 10 ^ (sf (2 + i_n)).2.2.toNat = xm at hmb hP hD
    generalize 10 ^ (sf (2 + i_n)).2.2.toNat = ym at hY hP hD
    have hci := ci_up0 (x1 := xm) (y1 := ym) (d := ((sf (2 + i_n)).1, wh (sf (2 + i_n)), ((0 : Nat) : Int))) hc (by omega) (by omega) (show wh (sf (2 + i_n)) < 1000000 ^ 64 by omega)
    refine lv_aload_n hx hb dX2_whole_24 rfl (lv_at hl 0 rfl) ?_
    refine rg_2_result hx hb hts in2 hown hK hP 0 (by decide) cg_0 (hts _ (by decide +kernel)) dX2_whole_25 ?_
    refine rg_0_digits hx hb hts in0 hown hK hP (7 + 3 * 0) (by omega) (cg_d 0) (hts _ (by decide +kernel)) dX2_whole_28 ?_
    refine va_calll (va_runV (As := []) (rest := []) ⟨hx, hb, hml, hown, hts⟩ (c_X1_lowestBits l D cA tT A 31 ad _ _ (a := 7 + 3 * 0 + 1) (x := (va_up sf 0 ((sf (2 + i_n)).1, wh (sf (2 + i_n)), ((0 : Nat) : Int)) 0).2.1) (by decide) (cg_n 0) hci.2.2.1) (cwV 0 hts gX2_whole_X1_lowestBits rfl rfl rfl (by decide +kernel) ⟨Nat.le_of_ble_eq_true rfl, Nat.le_of_ble_eq_true rfl⟩) (wd_preV (k := 7 + 3 * 0 + 1) hP hK hD hT hS (by decide) (cg_n 0).1 rfl) rfl rfl hl.1 rfl (lv_room (Nat.le_of_ble_eq_true rfl)) dX2_whole_31 ⟨Nat.zero_le _, Nat.zero_le _⟩) hS id_2 id_1 (fun r_ u t H locs ht hvm hw hB hz1 hk1 hS => ?_)
    obtain ⟨hP, hD⟩ := wd_back ht hB
    clear ht hvm hB hz1 hk1
    obtain ⟨hr_, hu_⟩ := hw
    subst hr_
    rw [hu_] at hP hD
    clear hu_
    refine tp_l (y := lN (wh (sf (2 + i_n)))) (by rw [va_up_self]) ?_
    refine lv_lstore_n (lv' := [(2, .long (lN (wh (sf (2 + i_n))))), (0, .ref (ad 0)), (1, .int (nI (i_n)))]) hx hb dX2_whole_34 rfl hl (by decide) rfl (fun ls hl => ?_)
    refine lv_aload_n hx hb dX2_whole_35 rfl (lv_at hl 1 rfl) ?_
    refine rg_2_result hx hb hts in2 hown hK hP 0 (by decide) cg_0 (hts _ (by decide +kernel)) dX2_whole_36 ?_
    refine rg_0_minus hx hb hts in0 hown hK hP (7 + 3 * 0) (by omega) (cg_d 0) (hts _ (by decide +kernel)) dX2_whole_39 ?_
    refine tp_i (y := nI (sf (2 + i_n)).1.toNat) (by rw [va_up_self]) ?_
    refine bz_eq (tgt := 50) hx hb dX2_whole_42 (by decide) (by omega) (fun q1 => ?_) (fun q1 => ?_)
    · refine lv_lload_n hx hb dX2_whole_50 rfl (lv_at hl 0 rfl) ?_
      exact W.lret (v := lN (wh (sf (2 + i_n)))) hx hb hr (fun t ht hW => ⟨⟨lN (wh (sf (2 + i_n))), _, rfl, ⟨by rw [sp_whole, if_pos (by omega), e_i, tn_z q1]; rfl, _, xm, ym, hci, rh_up0, rfl⟩, wd_end hP hK hD ht hW⟩, hS.F ht⟩) hS.2.2 dX2_whole_51
    · refine lv_lload_n hx hb dX2_whole_45 rfl (lv_at hl 0 rfl) ?_
      refine lv_lneg hx hb dX2_whole_46 ?_
      refine lv_goto (tgt := 51) hx hb dX2_whole_47 (by decide) ?_
      exact W.lret (v := -(lN (wh (sf (2 + i_n))))) hx hb hr (fun t ht hW => ⟨⟨-(lN (wh (sf (2 + i_n)))), _, rfl, ⟨by rw [sp_whole, if_pos (by omega), e_i, tn_nz q1]; rfl, _, xm, ym, hci, rh_up0, rfl⟩, wd_end hP hK hD ht hW⟩, hS.F ht⟩) hS.2.2 dX2_whole_51
  · have g_i := it_eq q_i
    refine lv_lconst (v := lN (0)) hx hb dX2_whole_7 rfl ?_
    exact W.lret (v := lN (0)) hx hb hr (fun t ht hW => ⟨⟨lN (0), _, rfl, ⟨by rw [sp_whole, if_neg (by omega)], sf, x, y, hc, rfl, rfl⟩, wd_end hP hK hD ht hW⟩, hS.F ht⟩) hS.2.2 dX2_whole_8
set_option maxHeartbeats 4000000 in
set_option maxRecDepth 100000 in
/-- octet -/
theorem c_X2_octet (l : Launch) (D : va_G) (cA : Nat → ClassId) (tT : Nat) (A : Nat → Prop) (ad : Nat → Nat) (sz : Nat) {sf : Nat → Bool × Nat × Int} {x y : Nat} {tx : Nat → Int32} {T : List Nat} {k : Int} (ht9 : tr tx T) (hT9 : T.length ≤ 200) (k_1 : -2147483648 ≤ k) (k_2 : k < 2147483648) : Met l yX2_octet wsX2_octet ({ frames := 0, cells := 0, slots := 0, locals := 0 }) (va_Pc [.ref (ad 0), .int (iZ (k))] (wd_B D cA tT A 31 ad sz (cg cA ad sf x y tx T.length))) (va_Qi (fun (r : Int32) (u : Nat → va_E) => r = sp_octet T k ∧ u = cg cA ad sf x y tx T.length) (wd_E D cA A 31 ad) A) 0 0 A := by
  refine Met.ofW (cc := cX2_octet) (maxL := 2) (ret := (some .int)) (by decide) rfl ?_
  intro p e s m args below meth c s₁ B hml hv
  obtain ⟨rfl, hsz, hP, hK, hD, hT⟩ := hv
  have hx := B.exec
  have hb := B.bytes
  have hr := B.returns
  have hts := atoms_spec (ws := wsX2_octet) B.pre
  have hown : s.vm.findClass RX2 = some m.cls := findClass_of_methodNamed B.named
  have hlocks := B.notSynchronized
  subst hsz
  have hS : va_S A s.heap s.heap [] := va_S.rf
  have in2 : ∀ w ∈ wsX20, w ∈ wsX2_octet := by decide +kernel
  have hl := lv_entry ([.ref (ad 0), .int (iZ (k))]) (n := 2) (Nat.le_of_ble_eq_true rfl)
  rw [lg_entry_eq]
  generalize (lg_sl ([.ref (ad 0), .int (iZ (k))]) ++ List.replicate (2 - (lg_sl ([.ref (ad 0), .int (iZ (k))])).length) Slot.unset).toArray = ls at hl ⊢
  have hl : lv_has ls 2 [(0, .ref (ad 0)), (1, .int (iZ (k)))] := hl
  refine lv_iload_n hx hb dX2_octet_0 rfl (lv_at hl 1 rfl) ?_
  refine by_lt (tgt := 21) hx hb dX2_octet_1 (by decide) (by omega) (by omega) (fun q1 => ?_) (fun q1 => ?_)
  · refine lv_iconst (v := iZ (-1)) hx hb dX2_octet_21 (by decide) ?_
    exact W.iret (v := iZ (-1)) hx hb hr (fun t ht hW => ⟨⟨iZ (-1), _, rfl, ⟨by rw [sp_octet, if_neg (by omega)], rfl⟩, wd_end hP hK hD ht hW⟩, hS.F ht⟩) hS.2.2 dX2_octet_22
  · obtain ⟨k_n, rfl⟩ : ∃ n : Nat, k = (n : Int) := ⟨k.toNat, by omega⟩
    rw [← iZ_nat k_n] at hl
    refine lv_iload_n hx hb dX2_octet_4 rfl (lv_at hl 1 rfl) ?_
    refine lv_aload_n hx hb dX2_octet_5 rfl (lv_at hl 0 rfl) ?_
    refine rg_2_textLength hx hb hts in2 hown hK hP 0 (by decide) cg_0 (hts _ (by decide +kernel)) dX2_octet_6 ?_
    refine bi_ge (tgt := 21) hx hb dX2_octet_9 (by decide) (by omega) (by omega) (fun q2 => ?_) (fun q2 => ?_)
    · refine lv_iconst (v := iZ (-1)) hx hb dX2_octet_21 (by decide) ?_
      exact W.iret (v := iZ (-1)) hx hb hr (fun t ht hW => ⟨⟨iZ (-1), _, rfl, ⟨by rw [sp_octet, if_neg (by omega)], rfl⟩, wd_end hP hK hD ht hW⟩, hS.F ht⟩) hS.2.2 dX2_octet_22
    · refine lv_aload_n hx hb dX2_octet_12 rfl (lv_at hl 0 rfl) ?_
      refine rg_2_text hx hb hts in2 hown hK hP 0 (by decide) cg_0 (hts _ (by decide +kernel)) dX2_octet_13 ?_
      refine lv_iload_n hx hb dX2_octet_16 rfl (lv_at hl 1 rfl) ?_
      refine rn_c hx hb hK hP 2 (by decide) cg_2 (by omega) (by decide) dX2_octet_17 ?_
      refine tp_i (y := nI (T.getD k_n 0)) (ht9 k_n (by omega)) ?_
      refine lv_goto (tgt := 22) hx hb dX2_octet_18 (by decide) ?_
      exact W.iret (v := nI (T.getD k_n 0)) hx hb hr (fun t ht hW => ⟨⟨nI (T.getD k_n 0), _, rfl, ⟨by rw [sp_octet, if_pos (by omega), Int.toNat_natCast], rfl⟩, wd_end hP hK hD ht hW⟩, hS.F ht⟩) hS.2.2 dX2_octet_22
theorem nar_ch {q : Nat} (h : q < 65536) : vp_nar .char (nI q) = nI q := by
  have := (pk_charN h).1
  rw [vp_nar, this]
theorem i2c_n {q : Nat} (h : q < 65536) : ((nI q).toUInt32 % 65536).toInt32 = nI q := by
  rw [pk_char, pk_tn (by omega), Nat.mod_eq_of_lt h]
set_option maxHeartbeats 4000000 in
set_option maxRecDepth 100000 in
/-- append -/
theorem c_X2_append (l : Launch) (D : va_G) (cA : Nat → ClassId) (tT : Nat) (A : Nat → Prop) (ad : Nat → Nat) (sz : Nat) {sf : Nat → Bool × Nat × Int} {x y : Nat} {tx : Nat → Int32} {T : List Nat} {q : Nat} (hT9 : T.length < 200) (hq : q < 65536) : Met l yX2_append wsX2_append ({ frames := 0, cells := 0, slots := 0, locals := 0 }) (va_Pc [.ref (ad 0), .int (nI (q))] (wd_B D cA tT A 31 ad sz (cg cA ad sf x y tx T.length))) (va_Qv (fun (u : Nat → va_E) => u = cg cA ad sf x y (upd tx T.length (nI q)) (T.length + 1)) (wd_E D cA A 31 ad) A) 0 0 A := by
  refine Met.ofW (cc := cX2_append) (maxL := 2) (ret := none) (by decide) rfl ?_
  intro p e s m args below meth c s₁ B hml hv
  obtain ⟨rfl, hsz, hP, hK, hD, hT⟩ := hv
  have hx := B.exec
  have hb := B.bytes
  have hr := B.returns
  have hts := atoms_spec (ws := wsX2_append) B.pre
  have hown : s.vm.findClass RX2 = some m.cls := findClass_of_methodNamed B.named
  have hlocks := B.notSynchronized
  subst hsz
  have hS : va_S A s.heap s.heap [] := va_S.rf
  have in2 : ∀ w ∈ wsX20, w ∈ wsX2_append := by decide +kernel
  have hl := lv_entry ([.ref (ad 0), .int (nI (q))]) (n := 2) (Nat.le_of_ble_eq_true rfl)
  rw [lg_entry_eq]
  generalize (lg_sl ([.ref (ad 0), .int (nI (q))]) ++ List.replicate (2 - (lg_sl ([.ref (ad 0), .int (nI (q))])).length) Slot.unset).toArray = ls at hl ⊢
  have hl : lv_has ls 2 [(0, .ref (ad 0)), (1, .int (nI (q)))] := hl
  refine lv_aload_n hx hb dX2_append_0 rfl (lv_at hl 0 rfl) ?_
  refine rg_2_textLength hx hb hts in2 hown hK hP 0 (by decide) cg_0 (hts _ (by decide +kernel)) dX2_append_1 ?_
  refine lv_sipush (v := nI (200)) hx hb dX2_append_4 (by decide) ?_
  refine bi_ge (tgt := 30) hx hb dX2_append_7 (by decide) (by omega) (by omega) (fun q1 => ?_) (fun q1 => ?_)
  · exact absurd q1 (by omega)
  · refine lv_aload_n hx hb dX2_append_10 rfl (lv_at hl 0 rfl) ?_
    refine rg_2_text hx hb hts in2 hown hK hP 0 (by decide) cg_0 (hts _ (by decide +kernel)) dX2_append_11 ?_
    refine lv_aload_n hx hb dX2_append_14 rfl (lv_at hl 0 rfl) ?_
    refine rg_2_textLength hx hb hts in2 hown hK hP 0 (by decide) cg_0 (hts _ (by decide +kernel)) dX2_append_15 ?_
    refine lv_iload_n hx hb dX2_append_18 rfl (lv_at hl 1 rfl) ?_
    refine rt_c hx hb hK hP hD hS 2 (by decide) cg_2 (by omega) (by decide) dX2_append_19 (fun H locs hP hD hS => ?_)
    rw [cg_upX] at hP hD
    refine lv_aload_n hx hb dX2_append_20 rfl (lv_at hl 0 rfl) ?_
    refine lv_dup hx hb dX2_append_21 rfl ?_
    refine rg_2_textLength hx hb hts in2 hown hK hP 0 (by decide) cg_0 (hts _ (by decide +kernel)) dX2_append_22 ?_
    refine lv_iconst (v := nI (1)) hx hb dX2_append_25 (by decide) ?_
    refine lv_iadd hx hb dX2_append_26 ?_
    refine tp_i (y := nI (T.length + 1)) (nI_add _ _) ?_
    refine rp_2_textLength hx hb hts in2 hown hK hP hD hS 0 (by decide) cg_0 (hts _ (by decide +kernel)) rfl rfl dX2_append_27 (fun H locs hP hD hS => ?_)
    rw [cg_upL] at hP hD
    rw [nar_ch hq] at hP hD
    exact W.vret hx hb hr (fun t ht hW => ⟨⟨_, rfl, rfl, wd_end hP hK hD ht hW⟩, hS.F ht⟩) hS.2.2 dX2_append_30
theorem len1 (T : List Nat) (q : Nat) : (T ++ [q]).length = T.length + 1 := by simp
theorem fgs_s (n : Nat) (z : Int) (k : Nat) (T : List Nat) : T ++ fgs n z (k + 1) = (if 0 < k ∧ (k : Int) = z then ((T ++ [48 + n / 10 ^ k % 10]) ++ [46]) ++ fgs n z k else (T ++ [48 + n / 10 ^ k % 10]) ++ fgs n z k) := by
  rw [fgs]; split <;> simp
theorem fgs_n (n : Nat) (z : Int) (k : Nat) : (fgs n z k).length = k + (if 0 < z ∧ z < k then 1 else 0) := by
  induction k with
  | zero => rw [fgs, if_neg (by omega)]; rfl
  | succ k ih =>
    rw [fgs]
    by_cases h : 0 < k ∧ (k : Int) = z
    · rw [if_pos h, List.length_cons, List.length_cons, ih, if_neg (by omega), if_pos (by omega)]
    · rw [if_neg h, List.length_cons, ih]
      by_cases h2 : 0 < z ∧ z < k
      · rw [if_pos h2, if_pos (by omega)]
      · rw [if_neg h2, if_neg (by omega)]
theorem dg_lt2 (m j : Nat) : m / 10 ^ j % 10 < 10 := Nat.mod_lt _ (by decide)
set_option maxHeartbeats 4000000 in
set_option maxRecDepth 100000 in
theorem lp_X2_appendFigures {p : Program} {l : Launch} {e : Env} {R : Room} {s : State} {m : MethodId} {args : Array Value} {below : List Frame} {meth : Method} {c : Code} {Q : State → Prop} {D : va_G} {cA : Nat → ClassId} {tT : Nat} {A : Nat → Prop} {ad : Nat → Nat} {sf : Nat → Bool × Nat × Int} {x y : Nat} {e' : Nat} {F : List Nat} (S : CallFix p m c cX2_appendFigures 3 s args wsX2_appendFigures RX2) (hK : va_K D vwCl (ty_s cA) s) (hT : st_T tT A s s.heap) (hRf : 2 ≤ R.frames) (hRl : 43 ≤ R.locals) (he : e' < 8) (hn64 : (sf e').2.1 < 1000000 ^ 64) (b1 : -1000 < (sf e').2.2) (b2 : (sf e').2.2 < 1000) (hF : F.length ≤ 200) (kk : ∀ (tx : Nat → Int32) (H : Heap) (locs : List Loc) (ls : Array Slot), tr tx F → va_P D vwCl (wm_W 31 ad (cg cA ad sf x y tx F.length)) H → va_D A (wm_W 31 ad (cg cA ad sf x y tx F.length)) → va_S A s.heap H locs → W p l e R s m args below meth c H locs 0 0 Q (F0 m 61 ls [])) :
    ∀ (k : Nat) (T : List Nat) (tx : Nat → Int32) (H : Heap) (locs : List Loc) (ls : Array Slot), k < 1000 → T ++ fgs (sf e').2.1 (sf e').2.2 k = F → tr tx T → va_P D vwCl (wm_W 31 ad (cg cA ad sf x y tx T.length)) H → va_D A (wm_W 31 ad (cg cA ad sf x y tx T.length)) → va_S A s.heap H locs → lv_has ls 3 [(2, .int (dn k)), (0, .ref (ad 0)), (1, .ref (ad (7 + 3 * e')))] → W p l e R s m args below meth c H locs 0 0 Q (F0 m 17 ls []) := by
  obtain ⟨hx, hb, hml, hown, hts⟩ := S
  have in2 : ∀ w ∈ wsX20, w ∈ wsX2_appendFigures := by decide +kernel
  have in0 : ∀ w ∈ wsX00, w ∈ wsX2_appendFigures := by decide +kernel
  intro k
  induction k with
  | zero =>
    intro T tx H locs ls hk hTF ht hP hD hS hl
    refine lv_iload_n hx hb dX2_appendFigures_17 rfl (lv_at hl 0 rfl) ?_
    refine by_lt (tgt := 61) hx hb dX2_appendFigures_18 (by decide) (by omega) (by omega) (fun q1 => ?_) (fun q1 => ?_)
    · rw [fgs, List.append_nil] at hTF
      subst hTF
      exact kk tx H locs ls ht hP hD hS
    · exact absurd (by decide) q1
  | succ k ih =>
    intro T tx H locs ls hk hTF ht hP hD hS hl
    have hd := dg_lt2 (sf e').2.1 k
    have hlen : T.length < 200 ∧ (0 < k ∧ (k : Int) = (sf e').2.2 → T.length + 1 < 200) := by
      have h1 := congrArg List.length hTF
      rw [fgs_s] at h1
      constructor
      · split at h1 <;> simp only [List.length_append, List.length_singleton] at h1 <;> omega
      · intro h2; rw [if_pos h2] at h1; simp only [List.length_append, List.length_singleton] at h1; omega
    refine lv_iload_n hx hb dX2_appendFigures_17 rfl (lv_at hl 0 rfl) ?_
    refine bz_lt (tgt := 61) hx hb dX2_appendFigures_18 (by decide) (by omega) (fun q1 => ?_) (fun q1 => ?_)
    · exact absurd q1 (Nat.not_lt_zero _)
    · refine lv_aload_n hx hb dX2_appendFigures_21 rfl (lv_at hl 1 rfl) ?_
      refine lv_bipush (v := nI (48)) hx hb dX2_appendFigures_22 (by decide) ?_
      refine lv_aload_n hx hb dX2_appendFigures_24 rfl (lv_at hl 2 rfl) ?_
      refine rg_0_digits hx hb hts in0 hown hK hP (7 + 3 * e') (by omega) (cg_d e') (hts _ (by decide +kernel)) dX2_appendFigures_25 ?_
      refine lv_iload_n hx hb dX2_appendFigures_28 rfl (lv_at hl 0 rfl) ?_
      refine va_calli (va_runV (As := [.int (nI (k))]) (rest := [.int (nI (48)), .ref (ad 0)]) ⟨hx, hb, hml, hown, hts⟩ (c_X1_figure l D cA tT A 31 ad _ _ (a := 7 + 3 * e' + 1) (x := (sf e').2.1) (P := k) (by omega) (cg_n _) hn64 (by omega)) (cwV 1 hts gX2_appendFigures_X1_figure rfl rfl rfl (by decide +kernel) ⟨Nat.le_trans (Nat.le_of_ble_eq_true rfl) hRf, Nat.le_trans (Nat.le_of_ble_eq_true rfl) hRl⟩) (wd_preV (k := 7 + 3 * e' + 1) hP hK hD hT hS (by omega) (cg_n _).1 rfl) rfl rfl hl.1 rfl (lv_room (Nat.le_of_ble_eq_true rfl)) dX2_appendFigures_29 ⟨Nat.zero_le _, Nat.zero_le _⟩) hS id_2 id_1 (fun r_ u t H locs ht hvm hw hB hz1 hk1 hS => ?_)
      obtain ⟨hP, hD⟩ := wd_back ht hB
      clear ht hvm hB hz1 hk1
      obtain ⟨hr_, hu_⟩ := hw
      subst hr_
      rw [hu_] at hP hD
      clear hu_
      refine lv_iadd hx hb dX2_appendFigures_32 ?_
      refine tp_i (y := nI (48 + ((sf e').2.1 / 10 ^ k % 10))) (nI_add _ _) ?_
      refine lv_i2c (v := nI (48 + (sf e').2.1 / 10 ^ k % 10)) hx hb dX2_appendFigures_33 (i2c_n (by omega)) ?_
      refine va_callv (va_runV (As := [.int (nI (48 + (sf e').2.1 / 10 ^ k % 10))]) (rest := []) ⟨hx, hb, hml, hown, hts⟩ (c_X2_append l D cA tT A ad _ (sf := sf) (x := x) (y := y) (tx := tx) (T := T) (q := 48 + (sf e').2.1 / 10 ^ k % 10) (by omega) (by omega)) (cwV 1 hts gX2_appendFigures_X2_append rfl rfl rfl (by decide +kernel) ⟨Nat.le_trans (Nat.le_of_ble_eq_true rfl) hRf, Nat.le_trans (Nat.le_of_ble_eq_true rfl) hRl⟩) (wd_preV (k := 0) hP hK hD hT hS (by decide) cg_0 rfl) rfl rfl hl.1 rfl (lv_room (Nat.le_of_ble_eq_true rfl)) dX2_appendFigures_34 ⟨Nat.zero_le _, Nat.zero_le _⟩) hS id_2 id_1 (fun u t H locs ht hvm hw hB hz1 hk1 hS => ?_)
      obtain ⟨hP, hD⟩ := wd_back ht hB
      clear ht hvm hB hz1 hk1
      rw [hw] at hP hD
      clear hw
      have ht := tr_ap (q := 48 + (sf e').2.1 / 10 ^ k % 10) ht
      rw [← len1 T (48 + (sf e').2.1 / 10 ^ k % 10)] at hP hD
      refine lv_iload_n hx hb dX2_appendFigures_37 rfl (lv_at hl 0 rfl) ?_
      refine bz_le (tgt := 55) hx hb dX2_appendFigures_38 (by decide) (by omega) (fun q2 => ?_) (fun q2 => ?_)
      · refine lv_iinc (v := dn k) (lv' := [(2, .int (dn k)), (0, .ref (ad 0)), (1, .ref (ad (7 + 3 * e')))]) hx hb dX2_appendFigures_55 hl (k := 0) rfl (dn_dec k) (by decide) rfl (fun ls hl => ?_)
        refine lv_goto (tgt := 17) hx hb dX2_appendFigures_58 (by decide) ?_
        refine ih (T ++ [48 + (sf e').2.1 / 10 ^ k % 10]) _ H locs ls (by omega) ?_ ht hP hD hS hl
        rw [fgs_s, if_neg (by omega)] at hTF; exact hTF
      · refine lv_iload_n hx hb dX2_appendFigures_41 rfl (lv_at hl 0 rfl) ?_
        refine lv_aload_n hx hb dX2_appendFigures_42 rfl (lv_at hl 2 rfl) ?_
        refine rg_0_scale hx hb hts in0 hown hK hP (7 + 3 * e') (by omega) (cg_d e') (hts _ (by decide +kernel)) dX2_appendFigures_43 ?_
        refine tp_i2 (y := iZ ((k : Nat) : Int)) (iZ_nat _) ?_
        refine bs_ne (tgt := 55) hx hb dX2_appendFigures_46 (by decide) (by omega) (by omega) (by omega) (by omega) (fun q3 => ?_) (fun q3 => ?_)
        · refine lv_iinc (v := dn k) (lv' := [(2, .int (dn k)), (0, .ref (ad 0)), (1, .ref (ad (7 + 3 * e')))]) hx hb dX2_appendFigures_55 hl (k := 0) rfl (dn_dec k) (by decide) rfl (fun ls hl => ?_)
          refine lv_goto (tgt := 17) hx hb dX2_appendFigures_58 (by decide) ?_
          refine ih (T ++ [48 + (sf e').2.1 / 10 ^ k % 10]) _ H locs ls (by omega) ?_ ht hP hD hS hl
          rw [fgs_s, if_neg (by omega)] at hTF; exact hTF
        · refine lv_aload_n hx hb dX2_appendFigures_49 rfl (lv_at hl 1 rfl) ?_
          refine lv_bipush (v := nI (46)) hx hb dX2_appendFigures_50 (by decide) ?_
          refine va_callv (va_runV (As := [.int (nI (46))]) (rest := []) ⟨hx, hb, hml, hown, hts⟩ (c_X2_append l D cA tT A ad _ (sf := sf) (x := x) (y := y) (tx := (upd tx T.length (nI (48 + (sf e').2.1 / 10 ^ k % 10)))) (T := T ++ [48 + (sf e').2.1 / 10 ^ k % 10]) (q := 46) (by rw [len1]; have := hlen.2 (by omega); omega) (by decide)) (cwV 1 hts gX2_appendFigures_X2_append rfl rfl rfl (by decide +kernel) ⟨Nat.le_trans (Nat.le_of_ble_eq_true rfl) hRf, Nat.le_trans (Nat.le_of_ble_eq_true rfl) hRl⟩) (wd_preV (k := 0) hP hK hD hT hS (by decide) cg_0 rfl) rfl rfl hl.1 rfl (lv_room (Nat.le_of_ble_eq_true rfl)) dX2_appendFigures_52 ⟨Nat.zero_le _, Nat.zero_le _⟩) hS id_2 id_1 (fun u t H locs ht hvm hw hB hz1 hk1 hS => ?_)
          obtain ⟨hP, hD⟩ := wd_back ht hB
          clear ht hvm hB hz1 hk1
          rw [hw] at hP hD
          clear hw
          have ht := tr_ap (q := 46) ht
          rw [← len1 (T ++ [48 + (sf e').2.1 / 10 ^ k % 10]) 46] at hP hD
          refine lv_iinc (v := dn k) (lv' := [(2, .int (dn k)), (0, .ref (ad 0)), (1, .ref (ad (7 + 3 * e')))]) hx hb dX2_appendFigures_55 hl (k := 0) rfl (dn_dec k) (by decide) rfl (fun ls hl => ?_)
          refine lv_goto (tgt := 17) hx hb dX2_appendFigures_58 (by decide) ?_
          refine ih ((T ++ [48 + (sf e').2.1 / 10 ^ k % 10]) ++ [46]) _ H locs ls (by omega) ?_ ht hP hD hS hl
          rw [fgs_s, if_pos (by omega)] at hTF; exact hTF
set_option maxHeartbeats 4000000 in
set_option maxRecDepth 100000 in
/-- appendFigures -/
theorem c_X2_appendFigures (l : Launch) (D : va_G) (cA : Nat → ClassId) (tT : Nat) (A : Nat → Prop) (ad : Nat → Nat) (sz : Nat) {sf : Nat → Bool × Nat × Int} {x y : Nat} {tx : Nat → Int32} {T : List Nat} {e1 : Nat} (he : e1 < 8) (hn : (sf e1).2.1 < 10 ^ 190) (b1 : -7 < (sf e1).2.2) (b2 : (sf e1).2.2 < 7) (ht9 : tr tx T) (hT9 : (T ++ fgs (sf e1).2.1 (sf e1).2.2 ((max ((nd_p (sf e1).2.1 : Int) - 1) (sf e1).2.2).toNat + 1)).length ≤ 200) : Met l yX2_appendFigures wsX2_appendFigures ({ frames := 2, cells := 0, slots := 0, locals := 43 }) (va_Pc [.ref (ad 0), .ref (ad (7 + 3 * e1))] (wd_B D cA tT A 31 ad sz (cg cA ad sf x y tx T.length))) (va_Qv (fun (u : Nat → va_E) => ∃ tx1, tr tx1 (T ++ fgs (sf e1).2.1 (sf e1).2.2 ((max ((nd_p (sf e1).2.1 : Int) - 1) (sf e1).2.2).toNat + 1)) ∧ u = cg cA ad sf x y tx1 (T ++ fgs (sf e1).2.1 (sf e1).2.2 ((max ((nd_p (sf e1).2.1 : Int) - 1) (sf e1).2.2).toNat + 1)).length) (wd_E D cA A 31 ad) A) 0 0 A := by
  refine Met.ofW (cc := cX2_appendFigures) (maxL := 3) (ret := none) (by decide) rfl ?_
  intro p e s m args below meth c s₁ B hml hv
  obtain ⟨rfl, hsz, hP, hK, hD, hT⟩ := hv
  have hx := B.exec
  have hb := B.bytes
  have hr := B.returns
  have hts := atoms_spec (ws := wsX2_appendFigures) B.pre
  have hown : s.vm.findClass RX2 = some m.cls := findClass_of_methodNamed B.named
  have hlocks := B.notSynchronized
  subst hsz
  have hS : va_S A s.heap s.heap [] := va_S.rf
  have in0 : ∀ w ∈ wsX00, w ∈ wsX2_appendFigures := by decide +kernel
  have in2 : ∀ w ∈ wsX20, w ∈ wsX2_appendFigures := by decide +kernel
  have hl := lv_entry ([.ref (ad 0), .ref (ad (7 + 3 * e1))]) (n := 3) (Nat.le_of_ble_eq_true rfl)
  rw [lg_entry_eq]
  generalize (lg_sl ([.ref (ad 0), .ref (ad (7 + 3 * e1))]) ++ List.replicate (3 - (lg_sl ([.ref (ad 0), .ref (ad (7 + 3 * e1))])).length) Slot.unset).toArray = ls at hl ⊢
  have hl : lv_has ls 3 [(0, .ref (ad 0)), (1, .ref (ad (7 + 3 * e1)))] := hl
  have hp9 := p190 hn
  have hp1 := nd_p_pos (sf e1).2.1
  refine lv_aload_n hx hb dX2_appendFigures_0 rfl (lv_at hl 1 rfl) ?_
  refine rg_0_digits hx hb hts in0 hown hK hP (7 + 3 * e1) (by omega) (cg_d e1) (hts _ (by decide +kernel)) dX2_appendFigures_1 ?_
  refine va_calli (va_runV (As := []) (rest := []) ⟨hx, hb, hml, hown, hts⟩ (c_X1_precision l D cA tT A 31 ad _ _ (a := 7 + 3 * e1 + 1) (x := (sf e1).2.1) (by omega) (cg_n _) (c64 hn)) (cwV 0 hts gX2_appendFigures_X1_precision rfl rfl rfl (by decide +kernel) ⟨Nat.le_of_ble_eq_true rfl, Nat.le_of_ble_eq_true rfl⟩) (wd_preV (k := 7 + 3 * e1 + 1) hP hK hD hT hS (by omega) (cg_n _).1 rfl) rfl rfl hl.1 rfl (lv_room (Nat.le_of_ble_eq_true rfl)) dX2_appendFigures_4 ⟨Nat.zero_le _, Nat.zero_le _⟩) hS id_2 id_1 (fun r_ u t H locs ht hvm hw hB hz1 hk1 hS => ?_)
  obtain ⟨hP, hD⟩ := wd_back ht hB
  clear ht hvm hB hz1 hk1
  obtain ⟨hr_, hu_⟩ := hw
  subst hr_
  rw [hu_] at hP hD
  clear hu_
  refine lv_iconst (v := nI (1)) hx hb dX2_appendFigures_7 (by decide) ?_
  refine lv_isub hx hb dX2_appendFigures_8 ?_
  refine tp_i (y := nI ((nd_p (sf e1).2.1) - 1)) (pk_sub (by omega)) ?_
  refine lv_aload_n hx hb dX2_appendFigures_9 rfl (lv_at hl 1 rfl) ?_
  refine rg_0_scale hx hb hts in0 hown hK hP (7 + 3 * e1) (by omega) (cg_d e1) (hts _ (by decide +kernel)) dX2_appendFigures_10 ?_
  refine tp_i2 (y := iZ ((nd_p (sf e1).2.1 : Int) - 1)) (by rw [iZ_nat]; congr 1; omega) ?_
  refine va_mmax hx hb (by rw [hml]; exact hl.1.symm) hown (hts _ (by decide +kernel)) (hts _ (by decide +kernel)) (hts _ (by decide +kernel)) (hts _ (by decide +kernel)) (Nat.le_of_ble_eq_true rfl) (Nat.le_of_ble_eq_true rfl) (Nat.zero_le _) (Nat.zero_le _) dX2_appendFigures_13 ?_
  refine tp_i (y := nI ((max ((nd_p (sf e1).2.1 : Int) - 1) (sf e1).2.2).toNat)) ((mx_z (by omega) (by omega) (by omega) (by omega)).trans (iZ_tn (by omega))) ?_
  refine lv_istore_n (lv' := [(2, .int (nI ((max ((nd_p (sf e1).2.1 : Int) - 1) (sf e1).2.2).toNat))), (0, .ref (ad 0)), (1, .ref (ad (7 + 3 * e1)))]) hx hb dX2_appendFigures_16 rfl hl (by decide) rfl (fun ls hl => ?_)
  refine lp_X2_appendFigures (e' := e1) (F := T ++ fgs (sf e1).2.1 (sf e1).2.2 ((max ((nd_p (sf e1).2.1 : Int) - 1) (sf e1).2.2).toNat + 1)) ⟨hx, hb, hml, hown, hts⟩ hK hT (Nat.le_of_ble_eq_true rfl) (Nat.le_of_ble_eq_true rfl) he (c64 hn) (by omega) (by omega) hT9 (fun tx H locs ls htr hP hD hS => ?_) ((max ((nd_p (sf e1).2.1 : Int) - 1) (sf e1).2.2).toNat + 1) T _ _ _ ls (by omega) rfl ht9 hP hD hS hl
  exact W.vret hx hb hr (fun t ht hW => ⟨⟨_, rfl, ⟨tx, htr, rfl⟩, wd_end hP hK hD ht hW⟩, hS.F ht⟩) hS.2.2 dX2_appendFigures_61
