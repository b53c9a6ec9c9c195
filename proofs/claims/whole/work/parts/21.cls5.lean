theorem vr_abs (v : Int64) : (v - v / lN (10 ^ 18) * lN (10 ^ 18)).toInt.natAbs = v.toInt.natAbs % 10 ^ 18 := by
  have h1 := Int64.le_toInt v
  have h2 := Int64.toInt_lt v
  have e := lZ_rem (n := decide (v.toInt < 0)) (q := v.toInt.natAbs) (b := 10 ^ 18) (by rw [sg_of]; omega) (by rw [sg_of]; omega) (by decide)
  rw [sg_of, lZ_self] at e
  have h3 := sg_le (n := decide (v.toInt < 0)) (Nat.mod_le v.toInt.natAbs (10 ^ 18)) (by rw [sg_of]; omega) (by rw [sg_of]; omega)
  rw [e, lZ_toInt h3.1 h3.2, sg_abs]
theorem rk_sn {d : Bool × Nat × Int} (h : d.1 = true → d.2.1 ≠ 0) : (sn d.1 d.2.1, d.2) = d := by rw [sn_rk h]
theorem m190 {n P : Nat} (h : n < 10 ^ 190) (hP : P ≤ 20) : n * 10 ^ P < 1000000 ^ 36 := by
  calc n * 10 ^ P ≤ n * 10 ^ 20 := Nat.mul_le_mul_left _ (Nat.pow_le_pow_right (by decide) hP)
    _ < 10 ^ 190 * 10 ^ 20 := (Nat.mul_lt_mul_right (by decide)).mpr h
    _ ≤ 1000000 ^ 36 := by decide +kernel
set_option maxHeartbeats 4000000 in
set_option maxRecDepth 100000 in
/-- push -/
theorem c_X2_push (l : Launch) (D : va_G) (cA : Nat → ClassId) (tT : Nat) (A : Nat → Prop) (ad : Nat → Nat) (sz : Nat) {sf : Nat → Bool × Nat × Int} {x y : Nat} {tx : Nat → Int32} {tl : Nat} {k : Int} {v : Int64} (hc : ci sf x y) (k_1 : -2147483648 ≤ k) (k_2 : k < 2147483648) : Met l yX2_push wsX2_push ({ frames := 5, cells := 0, slots := 0, locals := 105 }) (va_Pc [.ref (ad 0), .int (iZ (k)), .long (v)] (wd_B D cA tT A 31 ad sz (cg cA ad sf x y tx tl))) (va_Qi (fun (r : Int32) (u : Nat → va_E) => r = (sp_push (fun i => sf (2 + i)) k v).1 ∧ ∃ sf1 x1 y1, ci sf1 x1 y1 ∧ (fun i => sf1 (2 + i)) = (sp_push (fun i => sf (2 + i)) k v).2 ∧ u = cg cA ad sf1 x1 y1 tx tl) (wd_E D cA A 31 ad) A) 0 0 A := by
  refine Met.ofW (cc := cX2_push) (maxL := 4) (ret := (some .int)) (by decide) rfl ?_
  intro p e s m args below meth c s₁ B hml hv
  obtain ⟨rfl, hsz, hP, hK, hD, hT⟩ := hv
  have hx := B.exec
  have hb := B.bytes
  have hr := B.returns
  have hts := atoms_spec (ws := wsX2_push) B.pre
  have hown : s.vm.findClass RX2 = some m.cls := findClass_of_methodNamed B.named
  have hlocks := B.notSynchronized
  subst hsz
  have hS : va_S A s.heap s.heap [] := va_S.rf
  have in0 : ∀ w ∈ wsX00, w ∈ wsX2_push := by decide +kernel
  have in2 : ∀ w ∈ wsX20, w ∈ wsX2_push := by decide +kernel
  have hl := lv_entry ([.ref (ad 0), .int (iZ (k)), .long (v)]) (n := 4) (Nat.le_of_ble_eq_true rfl)
  rw [lg_entry_eq]
  generalize (lg_sl ([.ref (ad 0), .int (iZ (k)), .long (v)]) ++ List.replicate (4 - (lg_sl ([.ref (ad 0), .int (iZ (k)), .long (v)])).length) Slot.unset).toArray = ls at hl ⊢
  have hl : lv_has ls 4 [(0, .ref (ad 0)), (1, .int (iZ (k))), (2, .long (v))] := hl
  refine lv_iload_n hx hb dX2_push_0 rfl (lv_at hl 1 rfl) ?_
  refine va_calli (va_runS (As := [.int (iZ (k))]) (rest := []) ⟨hx, hb, hml, hown, hts⟩ (c_X2_isRegister l D cA tT A 31 ad _ _ (k := k) (by omega) (by omega)) (va_cwS 1 hts gX2_push_X2_isRegister rfl rfl rfl (by decide +kernel) ⟨Nat.le_of_ble_eq_true rfl, Nat.le_of_ble_eq_true rfl⟩) (wd_preS hP hK hD hT hS) rfl rfl hl.1 rfl (lv_room (Nat.le_of_ble_eq_true rfl)) dX2_push_1 ⟨Nat.zero_le _, Nat.zero_le _⟩) hS id_2 id_1 (fun r_ u t H locs ht hvm hw hB hz1 hk1 hS => ?_)
  obtain ⟨hP, hD⟩ := wd_back ht hB
  clear ht hvm hB hz1 hk1
  obtain ⟨hr_, hu_⟩ := hw
  subst hr_
  rw [hu_] at hP hD
  clear hu_
  refine bz_ne (tgt := 9) hx hb dX2_push_4 (by decide) it_lt (fun q_k => ?_) (fun q_k => ?_)
  · have g_k := it_ne q_k
    obtain ⟨k_n, h_k, rfl⟩ : ∃ n : Nat, n < 6 ∧ k = (n : Int) := ⟨k.toNat, by omega, by omega⟩
    rw [← iZ_nat k_n] at hl
    have e_k : ((k_n : Nat) : Int).toNat = k_n := Int.toNat_natCast k_n
    have r_k := hc.2.2.2.2 k_n h_k
    have c_k := c64 r_k.1
    simp only [rk] at r_k
    have hs9 := s190 r_k.1
    have hm9 := m190 (P := 18) r_k.1 (by decide)
    have l36 : 2 * 1000000 ^ 36 < 1000000 ^ 64 := by decide +kernel
    have hva : v.toInt.natAbs % 10 ^ 18 < 10 ^ 18 := Nat.mod_lt _ (by decide)
    refine lv_aload_n hx hb dX2_push_9 rfl (lv_at hl 0 rfl) ?_
    refine rg_2_result hx hb hts in2 hown hK hP 0 (by decide) cg_0 (hts _ (by decide +kernel)) dX2_push_10 ?_
    refine lv_aload_n hx hb dX2_push_13 rfl (lv_at hl 0 rfl) ?_
    refine rg_2_registers hx hb hts in2 hown hK hP 0 (by decide) cg_0 (hts _ (by decide +kernel)) dX2_push_14 ?_
    refine lv_iload_n hx hb dX2_push_17 rfl (lv_at hl 1 rfl) ?_
    refine rn_q1 hx hb hK hP 1 (by decide) cg_1 (by omega) (by decide) dX2_push_18 ?_
    refine tp_v (y := .ref (ad (7 + 3 * (2 + k_n)))) rfl ?_
    refine va_callv (va_runV (As := [.ref (ad (7 + 3 * (2 + k_n)))]) (rest := []) ⟨hx, hb, hml, hown, hts⟩ (c_X0_become l D cA tT A 31 ad _ _ (k := 7 + 3 * 0) (k2 := 7 + 3 * (2 + k_n)) (d := sf 0) (d2 := sf (2 + k_n)) (by decide) (by omega) (cg_D 0) (cg_D _) (by omega) hc.2.2.1 c_k) (cwV 1 hts gX2_push_X0_become rfl rfl rfl (by decide +kernel) ⟨Nat.le_of_ble_eq_true rfl, Nat.le_of_ble_eq_true rfl⟩) (wd_preV (k := 7 + 3 * 0) hP hK hD hT hS (by decide) (cg_d 0) rfl) rfl rfl hl.1 rfl (lv_room (Nat.le_of_ble_eq_true rfl)) dX2_push_19 ⟨Nat.zero_le _, Nat.zero_le _⟩) hS id_2 id_1 (fun u t H locs ht hvm hw hB hz1 hk1 hS => ?_)
    obtain ⟨hP, hD⟩ := wd_back ht hB
    clear ht hvm hB hz1 hk1
    rw [hw] at hP hD
    clear hw
    rw [cg_upD 0] at hP hD
    rw [rk_sn r_k.2.2.2] at hP hD
    have hc1 := ci_up0 (d := sf (2 + k_n)) hc hc.1 hc.2.1 c_k
    refine lv_aload_n hx hb dX2_push_22 rfl (lv_at hl 0 rfl) ?_
    refine rg_2_result hx hb hts in2 hown hK hP 0 (by decide) cg_0 (hts _ (by decide +kernel)) dX2_push_23 ?_
    refine rg_0_digits hx hb hts in0 hown hK hP (7 + 3 * 0) (by omega) (cg_d 0) (hts _ (by decide +kernel)) dX2_push_26 ?_
    refine lv_bipush (v := nI (18)) hx hb dX2_push_29 (by decide) ?_
    refine va_callv (va_runV (As := [.int (nI (18))]) (rest := []) ⟨hx, hb, hml, hown, hts⟩ (c_X1_raise l D cA tT A 31 ad _ _ (a := 7 + 3 * 0 + 1) (x := (va_up sf 0 (sf (2 + k_n)) 0).2.1) (P := 18) (by decide) (cg_n 0) (by decide) (by rw [va_up_self]; omega)) (cwV 1 hts gX2_push_X1_raise rfl rfl rfl (by decide +kernel) ⟨Nat.le_of_ble_eq_true rfl, Nat.le_of_ble_eq_true rfl⟩) (wd_preV (k := 7 + 3 * 0 + 1) hP hK hD hT hS (by decide) (cg_n 0).1 rfl) rfl rfl hl.1 rfl (lv_room (Nat.le_of_ble_eq_true rfl)) dX2_push_31 ⟨Nat.zero_le _, Nat.zero_le _⟩) hS id_2 id_1 (fun u t H locs ht hvm hw hB hz1 hk1 hS => ?_)
    obtain ⟨hP, hD⟩ := wd_back ht hB
    clear ht hvm hB hz1 hk1
    rw [hw] at hP hD
    clear hw
    rw [cg_upN 0] at hP hD
    simp only [va_up_self, bx_uu] at hP hD
    generalize hnm : (sf (2 + k_n)).2.1 * 10 ^ 18 = nm at hm9 hP hD
    refine lv_aload_n hx hb dX2_push_34 rfl (lv_at hl 0 rfl) ?_
    refine rg_2_top hx hb hts in2 hown hK hP 0 (by decide) cg_0 (hts _ (by decide +kernel)) dX2_push_35 ?_
    refine lv_lload_n hx hb dX2_push_38 rfl (lv_at hl 2 rfl) ?_
    refine lv_ldc2 (v := lN (1000000000000000000)) hx hb hown (hts _ (by decide +kernel)) dX2_push_39 ?_
    refine lv_lrem hx hb dX2_push_42 (lN_ne0 (by omega) (by omega)) ?_
    refine va_callv (va_runV (As := [.long (v - v / (lN (1000000000000000000)) * (lN (1000000000000000000)))]) (rest := []) ⟨hx, hb, hml, hown, hts⟩ (c_X1_becomeSizeOf l D cA tT A 31 ad _ _ (a := 3) (x := x) (v := v - v / lN (1000000000000000000) * lN (1000000000000000000)) (by decide) cg_T hc.1) (cwV 1 hts gX2_push_X1_becomeSizeOf rfl rfl rfl (by decide +kernel) ⟨Nat.le_of_ble_eq_true rfl, Nat.le_of_ble_eq_true rfl⟩) (wd_preV (k := 3) hP hK hD hT hS (by decide) cg_T.1 rfl) rfl rfl hl.1 rfl (lv_room (Nat.le_of_ble_eq_true rfl)) dX2_push_43 ⟨Nat.zero_le _, Nat.zero_le _⟩) hS id_2 id_1 (fun u t H locs ht hvm hw hB hz1 hk1 hS => ?_)
    obtain ⟨hP, hD⟩ := wd_back ht hB
    clear ht hvm hB hz1 hk1
    rw [hw] at hP hD
    clear hw
    rw [cg_upT, show (v - v / lN (1000000000000000000) * lN (1000000000000000000)).toInt.natAbs = v.toInt.natAbs % 10 ^ 18 from vr_abs v] at hP hD
    generalize hvm9 : v.toInt.natAbs % 10 ^ 18 = vm at hva hP hD
    refine lv_aload_n hx hb dX2_push_46 rfl (lv_at hl 0 rfl) ?_
    refine rg_2_result hx hb hts in2 hown hK hP 0 (by decide) cg_0 (hts _ (by decide +kernel)) dX2_push_47 ?_
    refine rg_0_digits hx hb hts in0 hown hK hP (7 + 3 * 0) (by omega) (cg_d 0) (hts _ (by decide +kernel)) dX2_push_50 ?_
    refine lv_aload_n hx hb dX2_push_53 rfl (lv_at hl 0 rfl) ?_
    refine rg_2_top hx hb hts in2 hown hK hP 0 (by decide) cg_0 (hts _ (by decide +kernel)) dX2_push_54 ?_
    refine va_callv (va_runV (As := [.ref (ad 3)]) (rest := []) ⟨hx, hb, hml, hown, hts⟩ (c_X1_add l D cA tT A 31 ad _ _ (a := 7 + 3 * 0 + 1) (o := 3) (x := (va_up sf 0 ((sf (2 + k_n)).1, nm, (sf (2 + k_n)).2.2) 0).2.1) (y := vm) (by decide) (cg_n 0) (by decide) cg_T (by decide) (by decide) (by decide) (by rw [va_up_self]; show nm < 1000000 ^ 64; omega) (by omega) (by rw [va_up_self]; show nm + vm < 1000000 ^ 64; omega)) (cwV 1 hts gX2_push_X1_add rfl rfl rfl (by decide +kernel) ⟨Nat.le_of_ble_eq_true rfl, Nat.le_of_ble_eq_true rfl⟩) (wd_preV (k := 7 + 3 * 0 + 1) hP hK hD hT hS (by decide) (cg_n 0).1 rfl) rfl rfl hl.1 rfl (lv_room (Nat.le_of_ble_eq_true rfl)) dX2_push_57 ⟨Nat.zero_le _, Nat.zero_le _⟩) hS id_2 id_1 (fun u t H locs ht hvm hw hB hz1 hk1 hS => ?_)
    obtain ⟨hP, hD⟩ := wd_back ht hB
    clear ht hvm hB hz1 hk1
    rw [hw] at hP hD
    clear hw
    rw [cg_upN 0] at hP hD
    simp only [va_up_self, bx_uu] at hP hD
    have hci := ci_up0 (x1 := vm) (d := ((sf (2 + k_n)).1, nm + vm, (sf (2 + k_n)).2.2)) hc (by omega) hc.2.1 (show nm + vm < 1000000 ^ 64 by omega)
    refine lv_aload_n hx hb dX2_push_60 rfl (lv_at hl 0 rfl) ?_
    refine lv_iload_n hx hb dX2_push_61 rfl (lv_at hl 1 rfl) ?_
    refine va_calli (va_runV (As := [.int (nI (k_n))]) (rest := []) ⟨hx, hb, hml, hown, hts⟩ (c_X2_keep l D cA tT A ad _ (sf := va_up sf 0 ((sf (2 + k_n)).1, nm + vm, (sf (2 + k_n)).2.2)) (x := vm) (y := y) (tx := tx) (tl := tl) (k := k_n) h_k hci.2.2.1 (by rw [va_up_ne _ _ (by omega)]; exact c_k) (by rw [va_up_self]; show -2147483648 ≤ (sf (2 + k_n)).2.2; omega) (by rw [va_up_self]; show (sf (2 + k_n)).2.2 < 2147483648; omega)) (cwV 1 hts gX2_push_X2_keep rfl rfl rfl (by decide +kernel) ⟨Nat.le_of_ble_eq_true rfl, Nat.le_of_ble_eq_true rfl⟩) (wd_preV (k := 0) hP hK hD hT hS (by decide) cg_0 rfl) rfl rfl hl.1 rfl (lv_room (Nat.le_of_ble_eq_true rfl)) dX2_push_62 ⟨Nat.zero_le _, Nat.zero_le _⟩) hS id_2 id_1 (fun r_ u t H locs ht hvm hw hB hz1 hk1 hS => ?_)
    obtain ⟨hP, hD⟩ := wd_back ht hB
    clear ht hvm hB hz1 hk1
    obtain ⟨hr_, hu_⟩ := hw
    subst hr_
    rw [hu_] at hP hD
    clear hu_
    have hkc := ci_kp (k := k_n) hci hci.1 hci.2.1
    obtain ⟨a1, a2, -, -⟩ := kp_kpr (va_up sf 0 ((sf (2 + k_n)).1, nm + vm, (sf (2 + k_n)).2.2)) k_n
    rw [va_up_self, rh_up0] at a1 a2
    have hsp : sp_push (fun i => sf (2 + i)) (k_n : Int) v = kpr (fun i => sf (2 + i)) k_n ((sf (2 + k_n)).1, nm + vm, (sf (2 + k_n)).2.2) := by rw [sp_push, if_pos (by omega), e_k, hvm9, hnm]
    exact W.iret (v := (kp (va_up sf 0 ((sf (2 + k_n)).1, nm + vm, (sf (2 + k_n)).2.2)) k_n).1) hx hb hr (fun t ht hW => ⟨⟨(kp (va_up sf 0 ((sf (2 + k_n)).1, nm + vm, (sf (2 + k_n)).2.2)) k_n).1, _, rfl, ⟨by rw [hsp, a1], _, vm, y, hkc, by rw [hsp, a2], rfl⟩, wd_end hP hK hD ht hW⟩, hS.F ht⟩) hS.2.2 dX2_push_65
  · have g_k := it_eq q_k
    refine lv_iconst (v := iZ (-1)) hx hb dX2_push_7 (by decide) ?_
    exact W.iret (v := iZ (-1)) hx hb hr (fun t ht hW => ⟨⟨iZ (-1), _, rfl, ⟨by rw [sp_push, if_neg (by omega)], sf, x, y, hc, by rw [sp_push, if_neg (by omega)], rfl⟩, wd_end hP hK hD ht hW⟩, hS.F ht⟩) hS.2.2 dX2_push_8
set_option maxHeartbeats 4000000 in
set_option maxRecDepth 100000 in
/-- compare -/
theorem c_X2_compare (l : Launch) (D : va_G) (cA : Nat → ClassId) (tT : Nat) (A : Nat → Prop) (ad : Nat → Nat) (sz : Nat) {sf : Nat → Bool × Nat × Int} {x y : Nat} {tx : Nat → Int32} {tl : Nat} {i j : Int} (hc : ci sf x y) (i_1 : -2147483648 ≤ i) (i_2 : i < 2147483648) (j_1 : -2147483648 ≤ j) (j_2 : j < 2147483648) : Met l yX2_compare wsX2_compare ({ frames := 4, cells := 0, slots := 0, locals := 98 }) (va_Pc [.ref (ad 0), .int (iZ (i)), .int (iZ (j))] (wd_B D cA tT A 31 ad sz (cg cA ad sf x y tx tl))) (va_Qi (fun (r : Int32) (u : Nat → va_E) => r = sp_compare (fun i => sf (2 + i)) i j ∧ ∃ x1 y1, x1 < 1000000 ^ 64 ∧ y1 < 1000000 ^ 64 ∧ u = cg cA ad sf x1 y1 tx tl) (wd_E D cA A 31 ad) A) 0 0 A := by
  refine Met.ofW (cc := cX2_compare) (maxL := 3) (ret := (some .int)) (by decide) rfl ?_
  intro p e s m args below meth c s₁ B hml hv
  obtain ⟨rfl, hsz, hP, hK, hD, hT⟩ := hv
  have hx := B.exec
  have hb := B.bytes
  have hr := B.returns
  have hts := atoms_spec (ws := wsX2_compare) B.pre
  have hown : s.vm.findClass RX2 = some m.cls := findClass_of_methodNamed B.named
  have hlocks := B.notSynchronized
  subst hsz
  have hS : va_S A s.heap s.heap [] := va_S.rf
  have in0 : ∀ w ∈ wsX00, w ∈ wsX2_compare := by decide +kernel
  have in2 : ∀ w ∈ wsX20, w ∈ wsX2_compare := by decide +kernel
  have hl := lv_entry ([.ref (ad 0), .int (iZ (i)), .int (iZ (j))]) (n := 3) (Nat.le_of_ble_eq_true rfl)
  rw [lg_entry_eq]
  generalize (lg_sl ([.ref (ad 0), .int (iZ (i)), .int (iZ (j))]) ++ List.replicate (3 - (lg_sl ([.ref (ad 0), .int (iZ (i)), .int (iZ (j))])).length) Slot.unset).toArray = ls at hl ⊢
  have hl : lv_has ls 3 [(0, .ref (ad 0)), (1, .int (iZ (i))), (2, .int (iZ (j)))] := hl
  refine lv_iload_n hx hb dX2_compare_0 rfl (lv_at hl 1 rfl) ?_
  refine va_calli (va_runS (As := [.int (iZ (i))]) (rest := []) ⟨hx, hb, hml, hown, hts⟩ (c_X2_isRegister l D cA tT A 31 ad _ _ (k := i) (by omega) (by omega)) (va_cwS 1 hts gX2_compare_X2_isRegister rfl rfl rfl (by decide +kernel) ⟨Nat.le_of_ble_eq_true rfl, Nat.le_of_ble_eq_true rfl⟩) (wd_preS hP hK hD hT hS) rfl rfl hl.1 rfl (lv_room (Nat.le_of_ble_eq_true rfl)) dX2_compare_1 ⟨Nat.zero_le _, Nat.zero_le _⟩) hS id_2 id_1 (fun r_ u t H locs ht hvm hw hB hz1 hk1 hS => ?_)
  obtain ⟨hP, hD⟩ := wd_back ht hB
  clear ht hvm hB hz1 hk1
  obtain ⟨hr_, hu_⟩ := hw
  subst hr_
  rw [hu_] at hP hD
  clear hu_
  refine bz_eq (tgt := 14) hx hb dX2_compare_4 (by decide) it_lt (fun q_i => ?_) (fun q_i => ?_)
  · have g_i := it_eq q_i
    refine lv_bipush (v := iZ (-2)) hx hb dX2_compare_14 (by decide) ?_
    exact W.iret (v := iZ (-2)) hx hb hr (fun t ht hW => ⟨⟨iZ (-2), _, rfl, ⟨by rw [sp_compare, if_neg (by omega)], x, y, hc.1, hc.2.1, rfl⟩, wd_end hP hK hD ht hW⟩, hS.F ht⟩) hS.2.2 dX2_compare_16
  · have g_i := it_ne q_i
    refine lv_iload_n hx hb dX2_compare_7 rfl (lv_at hl 2 rfl) ?_
    refine va_calli (va_runS (As := [.int (iZ (j))]) (rest := []) ⟨hx, hb, hml, hown, hts⟩ (c_X2_isRegister l D cA tT A 31 ad _ _ (k := j) (by omega) (by omega)) (va_cwS 1 hts gX2_compare_X2_isRegister rfl rfl rfl (by decide +kernel) ⟨Nat.le_of_ble_eq_true rfl, Nat.le_of_ble_eq_true rfl⟩) (wd_preS hP hK hD hT hS) rfl rfl hl.1 rfl (lv_room (Nat.le_of_ble_eq_true rfl)) dX2_compare_8 ⟨Nat.zero_le _, Nat.zero_le _⟩) hS id_2 id_1 (fun r_ u t H locs ht hvm hw hB hz1 hk1 hS => ?_)
    obtain ⟨hP, hD⟩ := wd_back ht hB
    clear ht hvm hB hz1 hk1
    obtain ⟨hr_, hu_⟩ := hw
    subst hr_
    rw [hu_] at hP hD
    clear hu_
    refine bz_ne (tgt := 17) hx hb dX2_compare_11 (by decide) it_lt (fun q_j => ?_) (fun q_j => ?_)
    · have g_j := it_ne q_j
      obtain ⟨i_n, h_i, rfl⟩ : ∃ n : Nat, n < 6 ∧ i = (n : Int) := ⟨i.toNat, by omega, by omega⟩
      rw [← iZ_nat i_n] at hl
      have e_i : ((i_n : Nat) : Int).toNat = i_n := Int.toNat_natCast i_n
      have r_i := hc.2.2.2.2 i_n h_i
      have c_i := c64 r_i.1
      simp only [rk] at r_i
      obtain ⟨j_n, h_j, rfl⟩ : ∃ n : Nat, n < 6 ∧ j = (n : Int) := ⟨j.toNat, by omega, by omega⟩
      rw [← iZ_nat j_n] at hl
      have e_j : ((j_n : Nat) : Int).toNat = j_n := Int.toNat_natCast j_n
      have r_j := hc.2.2.2.2 j_n h_j
      have c_j := c64 r_j.1
      simp only [rk] at r_j
      refine lv_aload_n hx hb dX2_compare_17 rfl (lv_at hl 0 rfl) ?_
      refine lv_aload_n hx hb dX2_compare_18 rfl (lv_at hl 0 rfl) ?_
      refine rg_2_registers hx hb hts in2 hown hK hP 0 (by decide) cg_0 (hts _ (by decide +kernel)) dX2_compare_19 ?_
      refine lv_iload_n hx hb dX2_compare_22 rfl (lv_at hl 1 rfl) ?_
      refine rn_q1 hx hb hK hP 1 (by decide) cg_1 (by omega) (by decide) dX2_compare_23 ?_
      refine tp_v (y := .ref (ad (7 + 3 * (2 + i_n)))) rfl ?_
      refine lv_aload_n hx hb dX2_compare_24 rfl (lv_at hl 0 rfl) ?_
      refine rg_2_registers hx hb hts in2 hown hK hP 0 (by decide) cg_0 (hts _ (by decide +kernel)) dX2_compare_25 ?_
      refine lv_iload_n hx hb dX2_compare_28 rfl (lv_at hl 2 rfl) ?_
      refine rn_q1 hx hb hK hP 1 (by decide) cg_1 (by omega) (by decide) dX2_compare_29 ?_
      refine tp_v (y := .ref (ad (7 + 3 * (2 + j_n)))) rfl ?_
      refine va_calli (va_runV (As := [.ref (ad (7 + 3 * (2 + i_n))), .ref (ad (7 + 3 * (2 + j_n)))]) (rest := []) ⟨hx, hb, hml, hown, hts⟩ (c_X2_order l D cA tT A ad _ (sf := sf) (x := x) (y := y) (tx := tx) (tl := tl) (e1 := 2 + i_n) (e2 := 2 + j_n) (by omega) (by omega) r_i.1 r_j.1 (by omega) (by omega) (by omega) (by omega) hc.1 hc.2.1) (cwV 2 hts gX2_compare_X2_order rfl rfl rfl (by decide +kernel) ⟨Nat.le_of_ble_eq_true rfl, Nat.le_of_ble_eq_true rfl⟩) (wd_preV (k := 0) hP hK hD hT hS (by decide) cg_0 rfl) rfl rfl hl.1 rfl (lv_room (Nat.le_of_ble_eq_true rfl)) dX2_compare_30 ⟨Nat.zero_le _, Nat.zero_le _⟩) hS id_2 id_1 (fun r_ u t H locs ht hvm hw hB hz1 hk1 hS => ?_)
      obtain ⟨hP, hD⟩ := wd_back ht hB
      clear ht hvm hB hz1 hk1
      obtain ⟨rfl, x1, y1, hx1, hy1, hu_⟩ := hw
      rw [hu_] at hP hD
      exact W.iret (v := iZ (cmpD (sf (2 + i_n)) (sf (2 + j_n)))) hx hb hr (fun t ht hW => ⟨⟨iZ (cmpD (sf (2 + i_n)) (sf (2 + j_n))), _, rfl, ⟨by rw [sp_compare, if_pos (by omega), e_i, e_j], x1, y1, hx1, hy1, rfl⟩, wd_end hP hK hD ht hW⟩, hS.F ht⟩) hS.2.2 dX2_compare_33
    · have g_j := it_eq q_j
      refine lv_bipush (v := iZ (-2)) hx hb dX2_compare_14 (by decide) ?_
      exact W.iret (v := iZ (-2)) hx hb hr (fun t ht hW => ⟨⟨iZ (-2), _, rfl, ⟨by rw [sp_compare, if_neg (by omega)], x, y, hc.1, hc.2.1, rfl⟩, wd_end hP hK hD ht hW⟩, hS.F ht⟩) hS.2.2 dX2_compare_16
theorem od_z {x y : Nat} : od x y = nI 0 ↔ x = y := by
  rw [od]
  by_cases h : x < y
  · rw [if_pos h]; constructor
    · intro q; exact absurd q (by decide)
    · intro q; omega
  · rw [if_neg h]
    by_cases h2 : x = y
    · rw [if_pos h2]; simp [h2]
    · rw [if_neg h2]; constructor
      · intro q; exact absurd q (by decide)
      · intro q; exact absurd q h2
theorem d_ext {d e : Bool × Nat × Int} : d = e ↔ d.2.2 = e.2.2 ∧ d.1 = e.1 ∧ d.2.1 = e.2.1 := by
  constructor
  · intro h; rw [h]; exact ⟨rfl, rfl, rfl⟩
  · intro h; exact Prod.ext h.2.1 (Prod.ext h.2.2 h.1)
set_option maxHeartbeats 4000000 in
set_option maxRecDepth 100000 in
/-- same -/
theorem c_X2_same (l : Launch) (D : va_G) (cA : Nat → ClassId) (tT : Nat) (A : Nat → Prop) (ad : Nat → Nat) (sz : Nat) {sf : Nat → Bool × Nat × Int} {x y : Nat} {tx : Nat → Int32} {tl : Nat} {i j : Int} (hc : ci sf x y) (i_1 : -2147483648 ≤ i) (i_2 : i < 2147483648) (j_1 : -2147483648 ≤ j) (j_2 : j < 2147483648) : Met l yX2_same wsX2_same ({ frames := 1, cells := 0, slots := 0, locals := 22 }) (va_Pc [.ref (ad 0), .int (iZ (i)), .int (iZ (j))] (wd_B D cA tT A 31 ad sz (cg cA ad sf x y tx tl))) (va_Qi (fun (r : Int32) (u : Nat → va_E) => r = sp_same (fun i => sf (2 + i)) i j ∧ ∃ x1 y1, x1 < 1000000 ^ 64 ∧ y1 < 1000000 ^ 64 ∧ u = cg cA ad sf x1 y1 tx tl) (wd_E D cA A 31 ad) A) 0 0 A := by
  refine Met.ofW (cc := cX2_same) (maxL := 5) (ret := (some .boolean)) (by decide) rfl ?_
  intro p e s m args below meth c s₁ B hml hv
  obtain ⟨rfl, hsz, hP, hK, hD, hT⟩ := hv
  have hx := B.exec
  have hb := B.bytes
  have hr := B.returns
  have hts := atoms_spec (ws := wsX2_same) B.pre
  have hown : s.vm.findClass RX2 = some m.cls := findClass_of_methodNamed B.named
  have hlocks := B.notSynchronized
  subst hsz
  have hS : va_S A s.heap s.heap [] := va_S.rf
  have in0 : ∀ w ∈ wsX00, w ∈ wsX2_same := by decide +kernel
  have in2 : ∀ w ∈ wsX20, w ∈ wsX2_same := by decide +kernel
  have hl := lv_entry ([.ref (ad 0), .int (iZ (i)), .int (iZ (j))]) (n := 5) (Nat.le_of_ble_eq_true rfl)
  rw [lg_entry_eq]
  generalize (lg_sl ([.ref (ad 0), .int (iZ (i)), .int (iZ (j))]) ++ List.replicate (5 - (lg_sl ([.ref (ad 0), .int (iZ (i)), .int (iZ (j))])).length) Slot.unset).toArray = ls at hl ⊢
  have hl : lv_has ls 5 [(0, .ref (ad 0)), (1, .int (iZ (i))), (2, .int (iZ (j)))] := hl
  refine lv_iload_n hx hb dX2_same_0 rfl (lv_at hl 1 rfl) ?_
  refine va_calli (va_runS (As := [.int (iZ (i))]) (rest := []) ⟨hx, hb, hml, hown, hts⟩ (c_X2_isRegister l D cA tT A 31 ad _ _ (k := i) (by omega) (by omega)) (va_cwS 1 hts gX2_same_X2_isRegister rfl rfl rfl (by decide +kernel) ⟨Nat.le_of_ble_eq_true rfl, Nat.le_of_ble_eq_true rfl⟩) (wd_preS hP hK hD hT hS) rfl rfl hl.1 rfl (lv_room (Nat.le_of_ble_eq_true rfl)) dX2_same_1 ⟨Nat.zero_le _, Nat.zero_le _⟩) hS id_2 id_1 (fun r_ u t H locs ht hvm hw hB hz1 hk1 hS => ?_)
  obtain ⟨hP, hD⟩ := wd_back ht hB
  clear ht hvm hB hz1 hk1
  obtain ⟨hr_, hu_⟩ := hw
  subst hr_
  rw [hu_] at hP hD
  clear hu_
  refine bz_eq (tgt := 14) hx hb dX2_same_4 (by decide) it_lt (fun q_i => ?_) (fun q_i => ?_)
  · have g_i := it_eq q_i
    refine lv_iconst (v := nI (0)) hx hb dX2_same_14 (by decide) ?_
    exact W.zret (v := nI (0)) hx hb hr rfl (fun t ht hW => ⟨⟨nI (0), _, rfl, ⟨by rw [sp_same, if_neg (by omega)], x, y, hc.1, hc.2.1, rfl⟩, wd_end hP hK hD ht hW⟩, hS.F ht⟩) hS.2.2 dX2_same_15
  · have g_i := it_ne q_i
    refine lv_iload_n hx hb dX2_same_7 rfl (lv_at hl 2 rfl) ?_
    refine va_calli (va_runS (As := [.int (iZ (j))]) (rest := []) ⟨hx, hb, hml, hown, hts⟩ (c_X2_isRegister l D cA tT A 31 ad _ _ (k := j) (by omega) (by omega)) (va_cwS 1 hts gX2_same_X2_isRegister rfl rfl rfl (by decide +kernel) ⟨Nat.le_of_ble_eq_true rfl, Nat.le_of_ble_eq_true rfl⟩) (wd_preS hP hK hD hT hS) rfl rfl hl.1 rfl (lv_room (Nat.le_of_ble_eq_true rfl)) dX2_same_8 ⟨Nat.zero_le _, Nat.zero_le _⟩) hS id_2 id_1 (fun r_ u t H locs ht hvm hw hB hz1 hk1 hS => ?_)
    obtain ⟨hP, hD⟩ := wd_back ht hB
    clear ht hvm hB hz1 hk1
    obtain ⟨hr_, hu_⟩ := hw
    subst hr_
    rw [hu_] at hP hD
    clear hu_
    refine bz_ne (tgt := 16) hx hb dX2_same_11 (by decide) it_lt (fun q_j => ?_) (fun q_j => ?_)
    · have g_j := it_ne q_j
      obtain ⟨i_n, h_i, rfl⟩ : ∃ n : Nat, n < 6 ∧ i = (n : Int) := ⟨i.toNat, by omega, by omega⟩
      rw [← iZ_nat i_n] at hl
      have e_i : ((i_n : Nat) : Int).toNat = i_n := Int.toNat_natCast i_n
      have r_i := hc.2.2.2.2 i_n h_i
      have c_i := c64 r_i.1
      simp only [rk] at r_i
      obtain ⟨j_n, h_j, rfl⟩ : ∃ n : Nat, n < 6 ∧ j = (n : Int) := ⟨j.toNat, by omega, by omega⟩
      rw [← iZ_nat j_n] at hl
      have e_j : ((j_n : Nat) : Int).toNat = j_n := Int.toNat_natCast j_n
      have r_j := hc.2.2.2.2 j_n h_j
      have c_j := c64 r_j.1
      simp only [rk] at r_j
      have t1 := tn_le (sf (2 + i_n)).1
      have t2 := tn_le (sf (2 + j_n)).1
      refine lv_aload_n hx hb dX2_same_16 rfl (lv_at hl 0 rfl) ?_
      refine rg_2_registers hx hb hts in2 hown hK hP 0 (by decide) cg_0 (hts _ (by decide +kernel)) dX2_same_17 ?_
      refine lv_iload_n hx hb dX2_same_20 rfl (lv_at hl 1 rfl) ?_
      refine rn_q1 hx hb hK hP 1 (by decide) cg_1 (by omega) (by decide) dX2_same_21 ?_
      refine tp_v (y := .ref (ad (7 + 3 * (2 + i_n)))) rfl ?_
      refine lv_astore_n (lv' := [(3, .ref (ad (7 + 3 * (2 + i_n)))), (0, .ref (ad 0)), (1, .int (nI (i_n))), (2, .int (nI (j_n)))]) hx hb dX2_same_22 rfl hl (by decide) rfl (fun ls hl => ?_)
      refine lv_aload_n hx hb dX2_same_23 rfl (lv_at hl 1 rfl) ?_
      refine rg_2_registers hx hb hts in2 hown hK hP 0 (by decide) cg_0 (hts _ (by decide +kernel)) dX2_same_24 ?_
      refine lv_iload_n hx hb dX2_same_27 rfl (lv_at hl 3 rfl) ?_
      refine rn_q1 hx hb hK hP 1 (by decide) cg_1 (by omega) (by decide) dX2_same_28 ?_
      refine tp_v (y := .ref (ad (7 + 3 * (2 + j_n)))) rfl ?_
      refine lv_astore (lv' := [(4, .ref (ad (7 + 3 * (2 + j_n)))), (3, .ref (ad (7 + 3 * (2 + i_n)))), (0, .ref (ad 0)), (1, .int (nI (i_n))), (2, .int (nI (j_n)))]) hx hb dX2_same_29 hl (by decide) rfl (fun ls hl => ?_)
      refine lv_aload_n hx hb dX2_same_31 rfl (lv_at hl 1 rfl) ?_
      refine rg_0_scale hx hb hts in0 hown hK hP (7 + 3 * (2 + i_n)) (by omega) (cg_d (2 + i_n)) (hts _ (by decide +kernel)) dX2_same_32 ?_
      refine lv_aload hx hb dX2_same_35 (lv_at hl 0 rfl) ?_
      refine rg_0_scale hx hb hts in0 hown hK hP (7 + 3 * (2 + j_n)) (by omega) (cg_d (2 + j_n)) (hts _ (by decide +kernel)) dX2_same_37 ?_
      refine bs_ne (tgt := 74) hx hb dX2_same_40 (by decide) (by omega) (by omega) (by omega) (by omega) (fun q1 => ?_) (fun q1 => ?_)
      · refine lv_iconst (v := nI (0)) hx hb dX2_same_74 (by decide) ?_
        exact W.zret (v := nI (0)) hx hb hr rfl (fun t ht hW => ⟨⟨nI (0), _, rfl, ⟨by rw [sp_same, if_pos (by omega), e_i, e_j, if_neg (fun h => q1 (d_ext.mp h).1)], x, y, hc.1, hc.2.1, rfl⟩, wd_end hP hK hD ht hW⟩, hS.F ht⟩) hS.2.2 dX2_same_75
      · refine lv_aload_n hx hb dX2_same_43 rfl (lv_at hl 1 rfl) ?_
        refine rg_0_minus hx hb hts in0 hown hK hP (7 + 3 * (2 + i_n)) (by omega) (cg_d (2 + i_n)) (hts _ (by decide +kernel)) dX2_same_44 ?_
        refine lv_aload hx hb dX2_same_47 (lv_at hl 0 rfl) ?_
        refine rg_0_minus hx hb hts in0 hown hK hP (7 + 3 * (2 + j_n)) (by omega) (cg_d (2 + j_n)) (hts _ (by decide +kernel)) dX2_same_49 ?_
        refine bi_ne (tgt := 74) hx hb dX2_same_52 (by decide) (by omega) (by omega) (fun q2 => ?_) (fun q2 => ?_)
        · refine lv_iconst (v := nI (0)) hx hb dX2_same_74 (by decide) ?_
          exact W.zret (v := nI (0)) hx hb hr rfl (fun t ht hW => ⟨⟨nI (0), _, rfl, ⟨by rw [sp_same, if_pos (by omega), e_i, e_j, if_neg (fun h => q2 (tn_eq.mpr (d_ext.mp h).2.1))], x, y, hc.1, hc.2.1, rfl⟩, wd_end hP hK hD ht hW⟩, hS.F ht⟩) hS.2.2 dX2_same_75
        · refine lv_aload_n hx hb dX2_same_55 rfl (lv_at hl 1 rfl) ?_
          refine rg_0_digits hx hb hts in0 hown hK hP (7 + 3 * (2 + i_n)) (by omega) (cg_d (2 + i_n)) (hts _ (by decide +kernel)) dX2_same_56 ?_
          refine lv_aload hx hb dX2_same_59 (lv_at hl 0 rfl) ?_
          refine rg_0_digits hx hb hts in0 hown hK hP (7 + 3 * (2 + j_n)) (by omega) (cg_d (2 + j_n)) (hts _ (by decide +kernel)) dX2_same_61 ?_
          refine va_calli (va_runV (As := [.ref (ad (7 + 3 * (2 + j_n) + 1))]) (rest := []) ⟨hx, hb, hml, hown, hts⟩ (c_X1_order l D cA tT A 31 ad _ _ (a := 7 + 3 * (2 + i_n) + 1) (o := 7 + 3 * (2 + j_n) + 1) (x := (sf (2 + i_n)).2.1) (y := (sf (2 + j_n)).2.1) (by omega) (by omega) (cg_n _) (cg_n _) c_i c_j) (cwV 1 hts gX2_same_X1_order rfl rfl rfl (by decide +kernel) ⟨Nat.le_of_ble_eq_true rfl, Nat.le_of_ble_eq_true rfl⟩) (wd_preV (k := 7 + 3 * (2 + i_n) + 1) hP hK hD hT hS (by omega) (cg_n _).1 rfl) rfl rfl hl.1 rfl (lv_room (Nat.le_of_ble_eq_true rfl)) dX2_same_64 ⟨Nat.zero_le _, Nat.zero_le _⟩) hS id_2 id_1 (fun r_ u t H locs ht hvm hw hB hz1 hk1 hS => ?_)
          obtain ⟨hP, hD⟩ := wd_back ht hB
          clear ht hvm hB hz1 hk1
          obtain ⟨hr_, hu_⟩ := hw
          subst hr_
          rw [hu_] at hP hD
          clear hu_
          refine lv_if_ne (tgt := 74) hx hb dX2_same_67 (by decide) (fun q3 => ?_) (fun q3 => ?_)
          · refine lv_iconst (v := nI (0)) hx hb dX2_same_74 (by decide) ?_
            exact W.zret (v := nI (0)) hx hb hr rfl (fun t ht hW => ⟨⟨nI (0), _, rfl, ⟨by rw [sp_same, if_pos (by omega), e_i, e_j, if_neg (fun h => q3 (od_z.mpr (d_ext.mp h).2.2))], x, y, hc.1, hc.2.1, rfl⟩, wd_end hP hK hD ht hW⟩, hS.F ht⟩) hS.2.2 dX2_same_75
          · refine lv_iconst (v := nI (1)) hx hb dX2_same_70 (by decide) ?_
            refine lv_goto (tgt := 75) hx hb dX2_same_71 (by decide) ?_
            exact W.zret (v := nI (1)) hx hb hr rfl (fun t ht hW => ⟨⟨nI (1), _, rfl, ⟨by rw [sp_same, if_pos (by omega), e_i, e_j, if_pos (d_ext.mpr ⟨q1, tn_eq.mp q2, od_z.mp q3⟩)], x, y, hc.1, hc.2.1, rfl⟩, wd_end hP hK hD ht hW⟩, hS.F ht⟩) hS.2.2 dX2_same_75
    · have g_j := it_eq q_j
      refine lv_iconst (v := nI (0)) hx hb dX2_same_14 (by decide) ?_
      exact W.zret (v := nI (0)) hx hb hr rfl (fun t ht hW => ⟨⟨nI (0), _, rfl, ⟨by rw [sp_same, if_neg (by omega)], x, y, hc.1, hc.2.1, rfl⟩, wd_end hP hK hD ht hW⟩, hS.F ht⟩) hS.2.2 dX2_same_15
set_option maxHeartbeats 4000000 in
set_option maxRecDepth 100000 in
/-- look -/
theorem c_X2_look (l : Launch) (D : va_G) (cA : Nat → ClassId) (tT : Nat) (A : Nat → Prop) (ad : Nat → Nat) (sz : Nat) {sf : Nat → Bool × Nat × Int} {x y : Nat} {tx : Nat → Int32} {tl : Nat} {q i : Int} (hc : ci sf x y) (q_1 : -2147483648 ≤ q) (q_2 : q < 2147483648) (i_1 : -2147483648 ≤ i) (i_2 : i < 2147483648) : Met l yX2_look wsX2_look ({ frames := 2, cells := 0, slots := 0, locals := 43 }) (va_Pc [.ref (ad 0), .int (iZ (q)), .int (iZ (i))] (wd_B D cA tT A 31 ad sz (cg cA ad sf x y tx tl))) (va_Qi (fun (r : Int32) (u : Nat → va_E) => r = sp_look (fun i => sf (2 + i)) q i ∧ ∃ x1 y1, x1 < 1000000 ^ 64 ∧ y1 < 1000000 ^ 64 ∧ u = cg cA ad sf x1 y1 tx tl) (wd_E D cA A 31 ad) A) 0 0 A := by
  refine Met.ofW (cc := cX2_look) (maxL := 3) (ret := (some .int)) (by decide) rfl ?_
  intro p e s m args below meth c s₁ B hml hv
  obtain ⟨rfl, hsz, hP, hK, hD, hT⟩ := hv
  have hx := B.exec
  have hb := B.bytes
  have hr := B.returns
  have hts := atoms_spec (ws := wsX2_look) B.pre
  have hown : s.vm.findClass RX2 = some m.cls := findClass_of_methodNamed B.named
  have hlocks := B.notSynchronized
  subst hsz
  have hS : va_S A s.heap s.heap [] := va_S.rf
  have in0 : ∀ w ∈ wsX00, w ∈ wsX2_look := by decide +kernel
  have in2 : ∀ w ∈ wsX20, w ∈ wsX2_look := by decide +kernel
  have hl := lv_entry ([.ref (ad 0), .int (iZ (q)), .int (iZ (i))]) (n := 3) (Nat.le_of_ble_eq_true rfl)
  rw [lg_entry_eq]
  generalize (lg_sl ([.ref (ad 0), .int (iZ (q)), .int (iZ (i))]) ++ List.replicate (3 - (lg_sl ([.ref (ad 0), .int (iZ (q)), .int (iZ (i))])).length) Slot.unset).toArray = ls at hl ⊢
  have hl : lv_has ls 3 [(0, .ref (ad 0)), (1, .int (iZ (q))), (2, .int (iZ (i)))] := hl
  refine lv_iload_n hx hb dX2_look_0 rfl (lv_at hl 2 rfl) ?_
  refine va_calli (va_runS (As := [.int (iZ (i))]) (rest := []) ⟨hx, hb, hml, hown, hts⟩ (c_X2_isRegister l D cA tT A 31 ad _ _ (k := i) (by omega) (by omega)) (va_cwS 1 hts gX2_look_X2_isRegister rfl rfl rfl (by decide +kernel) ⟨Nat.le_of_ble_eq_true rfl, Nat.le_of_ble_eq_true rfl⟩) (wd_preS hP hK hD hT hS) rfl rfl hl.1 rfl (lv_room (Nat.le_of_ble_eq_true rfl)) dX2_look_1 ⟨Nat.zero_le _, Nat.zero_le _⟩) hS id_2 id_1 (fun r_ u t H locs ht hvm hw hB hz1 hk1 hS => ?_)
  obtain ⟨hP, hD⟩ := wd_back ht hB
  clear ht hvm hB hz1 hk1
  obtain ⟨hr_, hu_⟩ := hw
  subst hr_
  rw [hu_] at hP hD
  clear hu_
  refine bz_ne (tgt := 20) hx hb dX2_look_4 (by decide) it_lt (fun q_i => ?_) (fun q_i => ?_)
  · have g_i := it_ne q_i
    obtain ⟨i_n, h_i, rfl⟩ : ∃ n : Nat, n < 6 ∧ i = (n : Int) := ⟨i.toNat, by omega, by omega⟩
    rw [← iZ_nat i_n] at hl
    have e_i : ((i_n : Nat) : Int).toNat = i_n := Int.toNat_natCast i_n
    have r_i := hc.2.2.2.2 i_n h_i
    have c_i := c64 r_i.1
    simp only [rk] at r_i
    refine lv_iload_n hx hb dX2_look_20 rfl (lv_at hl 1 rfl) ?_
    rcases (show q = 0 ∨ q = 1 ∨ q = 2 ∨ (q < 0 ∨ 2 < q) by omega) with hw | hw | hw | hw
    · subst hw
      refine lv_tableIn (off := 27) (tgt := 48) hx hb dX2_look_21 (by rw [tI (by decide) (by decide)]; decide) (by rw [tI (by decide) (by decide)]; decide) (by rw [tI (by decide) (by decide)]; rfl) (by decide) ?_
      refine lv_aload_n hx hb dX2_look_48 rfl (lv_at hl 0 rfl) ?_
      refine rg_2_registers hx hb hts in2 hown hK hP 0 (by decide) cg_0 (hts _ (by decide +kernel)) dX2_look_49 ?_
      refine lv_iload_n hx hb dX2_look_52 rfl (lv_at hl 2 rfl) ?_
      refine rn_q1 hx hb hK hP 1 (by decide) cg_1 (by omega) (by decide) dX2_look_53 ?_
      refine tp_v (y := .ref (ad (7 + 3 * (2 + i_n)))) rfl ?_
      refine va_calli (va_runV (As := []) (rest := []) ⟨hx, hb, hml, hown, hts⟩ (c_X0_sign l D cA tT A 31 ad _ _ (k := 7 + 3 * (2 + i_n)) (d := sf (2 + i_n)) (by omega) (cg_D _) c_i) (cwV 0 hts gX2_look_X0_sign rfl rfl rfl (by decide +kernel) ⟨Nat.le_of_ble_eq_true rfl, Nat.le_of_ble_eq_true rfl⟩) (wd_preV (k := 7 + 3 * (2 + i_n)) hP hK hD hT hS (by omega) (cg_d _) rfl) rfl rfl hl.1 rfl (lv_room (Nat.le_of_ble_eq_true rfl)) dX2_look_54 ⟨Nat.zero_le _, Nat.zero_le _⟩) hS id_2 id_1 (fun r_ u t H locs ht hvm hw hB hz1 hk1 hS => ?_)
      obtain ⟨hP, hD⟩ := wd_back ht hB
      clear ht hvm hB hz1 hk1
      obtain ⟨hr_, hu_⟩ := hw
      subst hr_
      rw [hu_] at hP hD
      clear hu_
      exact W.iret (v := iZ (sI (sf (2 + i_n)))) hx hb hr (fun t ht hW => ⟨⟨iZ (sI (sf (2 + i_n))), _, rfl, ⟨by rw [sp_look, if_pos (by omega), e_i, if_pos rfl], x, y, hc.1, hc.2.1, rfl⟩, wd_end hP hK hD ht hW⟩, hS.F ht⟩) hS.2.2 dX2_look_57
    · subst hw
      refine lv_tableIn (off := 37) (tgt := 58) hx hb dX2_look_21 (by rw [tI (by decide) (by decide)]; decide) (by rw [tI (by decide) (by decide)]; decide) (by rw [tI (by decide) (by decide)]; rfl) (by decide) ?_
      refine lv_aload_n hx hb dX2_look_58 rfl (lv_at hl 0 rfl) ?_
      refine rg_2_registers hx hb hts in2 hown hK hP 0 (by decide) cg_0 (hts _ (by decide +kernel)) dX2_look_59 ?_
      refine lv_iload_n hx hb dX2_look_62 rfl (lv_at hl 2 rfl) ?_
      refine rn_q1 hx hb hK hP 1 (by decide) cg_1 (by omega) (by decide) dX2_look_63 ?_
      refine tp_v (y := .ref (ad (7 + 3 * (2 + i_n)))) rfl ?_
      refine rg_0_digits hx hb hts in0 hown hK hP (7 + 3 * (2 + i_n)) (by omega) (cg_d (2 + i_n)) (hts _ (by decide +kernel)) dX2_look_64 ?_
      refine va_calli (va_runV (As := []) (rest := []) ⟨hx, hb, hml, hown, hts⟩ (c_X1_precision l D cA tT A 31 ad _ _ (a := 7 + 3 * (2 + i_n) + 1) (x := (sf (2 + i_n)).2.1) (by omega) (cg_n _) c_i) (cwV 0 hts gX2_look_X1_precision rfl rfl rfl (by decide +kernel) ⟨Nat.le_of_ble_eq_true rfl, Nat.le_of_ble_eq_true rfl⟩) (wd_preV (k := 7 + 3 * (2 + i_n) + 1) hP hK hD hT hS (by omega) (cg_n _).1 rfl) rfl rfl hl.1 rfl (lv_room (Nat.le_of_ble_eq_true rfl)) dX2_look_67 ⟨Nat.zero_le _, Nat.zero_le _⟩) hS id_2 id_1 (fun r_ u t H locs ht hvm hw hB hz1 hk1 hS => ?_)
      obtain ⟨hP, hD⟩ := wd_back ht hB
      clear ht hvm hB hz1 hk1
      obtain ⟨hr_, hu_⟩ := hw
      subst hr_
      rw [hu_] at hP hD
      clear hu_
      exact W.iret (v := nI (nd_p (sf (2 + i_n)).2.1)) hx hb hr (fun t ht hW => ⟨⟨nI (nd_p (sf (2 + i_n)).2.1), _, rfl, ⟨by rw [sp_look, if_pos (by omega), e_i, if_neg (by decide), if_pos rfl], x, y, hc.1, hc.2.1, rfl⟩, wd_end hP hK hD ht hW⟩, hS.F ht⟩) hS.2.2 dX2_look_70
    · subst hw
      refine lv_tableIn (off := 50) (tgt := 71) hx hb dX2_look_21 (by rw [tI (by decide) (by decide)]; decide) (by rw [tI (by decide) (by decide)]; decide) (by rw [tI (by decide) (by decide)]; rfl) (by decide) ?_
      refine lv_aload_n hx hb dX2_look_71 rfl (lv_at hl 0 rfl) ?_
      refine rg_2_registers hx hb hts in2 hown hK hP 0 (by decide) cg_0 (hts _ (by decide +kernel)) dX2_look_72 ?_
      refine lv_iload_n hx hb dX2_look_75 rfl (lv_at hl 2 rfl) ?_
      refine rn_q1 hx hb hK hP 1 (by decide) cg_1 (by omega) (by decide) dX2_look_76 ?_
      refine tp_v (y := .ref (ad (7 + 3 * (2 + i_n)))) rfl ?_
      refine rg_0_scale hx hb hts in0 hown hK hP (7 + 3 * (2 + i_n)) (by omega) (cg_d (2 + i_n)) (hts _ (by decide +kernel)) dX2_look_77 ?_
      exact W.iret (v := iZ ((sf (2 + i_n)).2.2)) hx hb hr (fun t ht hW => ⟨⟨iZ ((sf (2 + i_n)).2.2), _, rfl, ⟨by rw [sp_look, if_pos (by omega), e_i, if_neg (by decide), if_neg (by decide), if_pos rfl], x, y, hc.1, hc.2.1, rfl⟩, wd_end hP hK hD ht hW⟩, hS.F ht⟩) hS.2.2 dX2_look_80
    · refine lv_tableOut (tgt := 81) hx hb dX2_look_21 (by rw [tI (by omega) (by omega)]; exact hw) (by decide) ?_
      refine lv_iconst (v := iZ (-1)) hx hb dX2_look_81 (by decide) ?_
      exact W.iret (v := iZ (-1)) hx hb hr (fun t ht hW => ⟨⟨iZ (-1), _, rfl, ⟨by rw [sp_look, if_pos (by omega), if_neg (by omega), if_neg (by omega), if_neg (by omega)], x, y, hc.1, hc.2.1, rfl⟩, wd_end hP hK hD ht hW⟩, hS.F ht⟩) hS.2.2 dX2_look_82
  · have g_i := it_eq q_i
    refine lv_iload_n hx hb dX2_look_7 rfl (lv_at hl 1 rfl) ?_
    refine lv_iconst (v := nI (2)) hx hb dX2_look_8 (by decide) ?_
    refine tp_i (y := iZ ((2 : Nat) : Int)) (iZ_nat _) ?_
    refine bs_ne (tgt := 18) hx hb dX2_look_9 (by decide) (by omega) (by omega) (by omega) (by omega) (fun q1 => ?_) (fun q1 => ?_)
    · refine lv_iconst (v := iZ (-1)) hx hb dX2_look_18 (by decide) ?_
      exact W.iret (v := iZ (-1)) hx hb hr (fun t ht hW => ⟨⟨iZ (-1), _, rfl, ⟨by rw [sp_look, if_neg (by omega), if_neg (by omega)], x, y, hc.1, hc.2.1, rfl⟩, wd_end hP hK hD ht hW⟩, hS.F ht⟩) hS.2.2 dX2_look_19
    · refine lv_sipush (v := nI (1000)) hx hb dX2_look_12 (by decide) ?_
      refine lv_goto (tgt := 19) hx hb dX2_look_15 (by decide) ?_
      exact W.iret (v := nI (1000)) hx hb hr (fun t ht hW => ⟨⟨nI (1000), _, rfl, ⟨by rw [sp_look, if_neg (by omega), if_pos (by omega)], x, y, hc.1, hc.2.1, rfl⟩, wd_end hP hK hD ht hW⟩, hS.F ht⟩) hS.2.2 dX2_look_19
theorem p190 {n : Nat} (h : n < 10 ^ 190) : nd_p n ≤ 190 := (nd_p_le (by decide)).mpr h
set_option maxHeartbeats 4000000 in
set_option maxRecDepth 100000 in
/-- digit -/
theorem c_X2_digit (l : Launch) (D : va_G) (cA : Nat → ClassId) (tT : Nat) (A : Nat → Prop) (ad : Nat → Nat) (sz : Nat) {sf : Nat → Bool × Nat × Int} {x y : Nat} {tx : Nat → Int32} {tl : Nat} {i q : Int} (hc : ci sf x y) (i_1 : -2147483648 ≤ i) (i_2 : i < 2147483648) (q_1 : -2147483648 ≤ q) (q_2 : q < 2147483648) : Met l yX2_digit wsX2_digit ({ frames := 2, cells := 0, slots := 0, locals := 43 }) (va_Pc [.ref (ad 0), .int (iZ (i)), .int (iZ (q))] (wd_B D cA tT A 31 ad sz (cg cA ad sf x y tx tl))) (va_Qi (fun (r : Int32) (u : Nat → va_E) => r = sp_digit (fun i => sf (2 + i)) i q ∧ ∃ x1 y1, x1 < 1000000 ^ 64 ∧ y1 < 1000000 ^ 64 ∧ u = cg cA ad sf x1 y1 tx tl) (wd_E D cA A 31 ad) A) 0 0 A := by
  refine Met.ofW (cc := cX2_digit) (maxL := 3) (ret := (some .int)) (by decide) rfl ?_
  intro p e s m args below meth c s₁ B hml hv
  obtain ⟨rfl, hsz, hP, hK, hD, hT⟩ := hv
  have hx := B.exec
  have hb := B.bytes
  have hr := B.returns
  have hts := atoms_spec (ws := wsX2_digit) B.pre
  have hown : s.vm.findClass RX2 = some m.cls := findClass_of_methodNamed B.named
  have hlocks := B.notSynchronized
  subst hsz
  have hS : va_S A s.heap s.heap [] := va_S.rf
  have in0 : ∀ w ∈ wsX00, w ∈ wsX2_digit := by decide +kernel
  have in2 : ∀ w ∈ wsX20, w ∈ wsX2_digit := by decide +kernel
  have hl := lv_entry ([.ref (ad 0), .int (iZ (i)), .int (iZ (q))]) (n := 3) (Nat.le_of_ble_eq_true rfl)
  rw [lg_entry_eq]
  generalize (lg_sl ([.ref (ad 0), .int (iZ (i)), .int (iZ (q))]) ++ List.replicate (3 - (lg_sl ([.ref (ad 0), .int (iZ (i)), .int (iZ (q))])).length) Slot.unset).toArray = ls at hl ⊢
  have hl : lv_has ls 3 [(0, .ref (ad 0)), (1, .int (iZ (i))), (2, .int (iZ (q)))] := hl
  refine lv_iload_n hx hb dX2_digit_0 rfl (lv_at hl 1 rfl) ?_
  refine va_calli (va_runS (As := [.int (iZ (i))]) (rest := []) ⟨hx, hb, hml, hown, hts⟩ (c_X2_isRegister l D cA tT A 31 ad _ _ (k := i) (by omega) (by omega)) (va_cwS 1 hts gX2_digit_X2_isRegister rfl rfl rfl (by decide +kernel) ⟨Nat.le_of_ble_eq_true rfl, Nat.le_of_ble_eq_true rfl⟩) (wd_preS hP hK hD hT hS) rfl rfl hl.1 rfl (lv_room (Nat.le_of_ble_eq_true rfl)) dX2_digit_1 ⟨Nat.zero_le _, Nat.zero_le _⟩) hS id_2 id_1 (fun r_ u t H locs ht hvm hw hB hz1 hk1 hS => ?_)
  obtain ⟨hP, hD⟩ := wd_back ht hB
  clear ht hvm hB hz1 hk1
  obtain ⟨hr_, hu_⟩ := hw
  subst hr_
  rw [hu_] at hP hD
  clear hu_
  refine bz_eq (tgt := 27) hx hb dX2_digit_4 (by decide) it_lt (fun q_i => ?_) (fun q_i => ?_)
  · have g_i := it_eq q_i
    refine lv_iconst (v := iZ (-1)) hx hb dX2_digit_27 (by decide) ?_
    exact W.iret (v := iZ (-1)) hx hb hr (fun t ht hW => ⟨⟨iZ (-1), _, rfl, ⟨by rw [sp_digit, if_neg (by omega)], x, y, hc.1, hc.2.1, rfl⟩, wd_end hP hK hD ht hW⟩, hS.F ht⟩) hS.2.2 dX2_digit_28
  · have g_i := it_ne q_i
    refine lv_iload_n hx hb dX2_digit_7 rfl (lv_at hl 2 rfl) ?_
    refine by_lt (tgt := 27) hx hb dX2_digit_8 (by decide) (by omega) (by omega) (fun q1 => ?_) (fun q1 => ?_)
    · refine lv_iconst (v := iZ (-1)) hx hb dX2_digit_27 (by decide) ?_
      exact W.iret (v := iZ (-1)) hx hb hr (fun t ht hW => ⟨⟨iZ (-1), _, rfl, ⟨by rw [sp_digit, if_neg (by omega)], x, y, hc.1, hc.2.1, rfl⟩, wd_end hP hK hD ht hW⟩, hS.F ht⟩) hS.2.2 dX2_digit_28
    · obtain ⟨i_n, h_i, rfl⟩ : ∃ n : Nat, n < 6 ∧ i = (n : Int) := ⟨i.toNat, by omega, by omega⟩
      rw [← iZ_nat i_n] at hl
      have e_i : ((i_n : Nat) : Int).toNat = i_n := Int.toNat_natCast i_n
      have r_i := hc.2.2.2.2 i_n h_i
      have c_i := c64 r_i.1
      simp only [rk] at r_i
      obtain ⟨q_n, rfl⟩ : ∃ n : Nat, q = (n : Int) := ⟨q.toNat, by omega⟩
      rw [← iZ_nat q_n] at hl
      have e_q : ((q_n : Nat) : Int).toNat = q_n := Int.toNat_natCast q_n
      have hp9 := p190 r_i.1
      refine lv_iload_n hx hb dX2_digit_11 rfl (lv_at hl 2 rfl) ?_
      refine lv_aload_n hx hb dX2_digit_12 rfl (lv_at hl 0 rfl) ?_
      refine rg_2_registers hx hb hts in2 hown hK hP 0 (by decide) cg_0 (hts _ (by decide +kernel)) dX2_digit_13 ?_
      refine lv_iload_n hx hb dX2_digit_16 rfl (lv_at hl 1 rfl) ?_
      refine rn_q1 hx hb hK hP 1 (by decide) cg_1 (by omega) (by decide) dX2_digit_17 ?_
      refine tp_v (y := .ref (ad (7 + 3 * (2 + i_n)))) rfl ?_
      refine rg_0_digits hx hb hts in0 hown hK hP (7 + 3 * (2 + i_n)) (by omega) (cg_d (2 + i_n)) (hts _ (by decide +kernel)) dX2_digit_18 ?_
      refine va_calli (va_runV (As := []) (rest := [.int (nI (q_n))]) ⟨hx, hb, hml, hown, hts⟩ (c_X1_precision l D cA tT A 31 ad _ _ (a := 7 + 3 * (2 + i_n) + 1) (x := (sf (2 + i_n)).2.1) (by omega) (cg_n _) c_i) (cwV 0 hts gX2_digit_X1_precision rfl rfl rfl (by decide +kernel) ⟨Nat.le_of_ble_eq_true rfl, Nat.le_of_ble_eq_true rfl⟩) (wd_preV (k := 7 + 3 * (2 + i_n) + 1) hP hK hD hT hS (by omega) (cg_n _).1 rfl) rfl rfl hl.1 rfl (lv_room (Nat.le_of_ble_eq_true rfl)) dX2_digit_21 ⟨Nat.zero_le _, Nat.zero_le _⟩) hS id_2 id_1 (fun r_ u t H locs ht hvm hw hB hz1 hk1 hS => ?_)
      obtain ⟨hP, hD⟩ := wd_back ht hB
      clear ht hvm hB hz1 hk1
      obtain ⟨hr_, hu_⟩ := hw
      subst hr_
      rw [hu_] at hP hD
      clear hu_
      refine bi_lt (tgt := 29) hx hb dX2_digit_24 (by decide) (by omega) (by omega) (fun q2 => ?_) (fun q2 => ?_)
      · refine lv_aload_n hx hb dX2_digit_29 rfl (lv_at hl 0 rfl) ?_
        refine rg_2_registers hx hb hts in2 hown hK hP 0 (by decide) cg_0 (hts _ (by decide +kernel)) dX2_digit_30 ?_
        refine lv_iload_n hx hb dX2_digit_33 rfl (lv_at hl 1 rfl) ?_
        refine rn_q1 hx hb hK hP 1 (by decide) cg_1 (by omega) (by decide) dX2_digit_34 ?_
        refine tp_v (y := .ref (ad (7 + 3 * (2 + i_n)))) rfl ?_
        refine rg_0_digits hx hb hts in0 hown hK hP (7 + 3 * (2 + i_n)) (by omega) (cg_d (2 + i_n)) (hts _ (by decide +kernel)) dX2_digit_35 ?_
        refine lv_iload_n hx hb dX2_digit_38 rfl (lv_at hl 2 rfl) ?_
        refine va_calli (va_runV (As := [.int (nI (q_n))]) (rest := []) ⟨hx, hb, hml, hown, hts⟩ (c_X1_figure l D cA tT A 31 ad _ _ (a := 7 + 3 * (2 + i_n) + 1) (x := (sf (2 + i_n)).2.1) (P := q_n) (by omega) (cg_n _) c_i (by omega)) (cwV 1 hts gX2_digit_X1_figure rfl rfl rfl (by decide +kernel) ⟨Nat.le_of_ble_eq_true rfl, Nat.le_of_ble_eq_true rfl⟩) (wd_preV (k := 7 + 3 * (2 + i_n) + 1) hP hK hD hT hS (by omega) (cg_n _).1 rfl) rfl rfl hl.1 rfl (lv_room (Nat.le_of_ble_eq_true rfl)) dX2_digit_39 ⟨Nat.zero_le _, Nat.zero_le _⟩) hS id_2 id_1 (fun r_ u t H locs ht hvm hw hB hz1 hk1 hS => ?_)
        obtain ⟨hP, hD⟩ := wd_back ht hB
        clear ht hvm hB hz1 hk1
        obtain ⟨hr_, hu_⟩ := hw
        subst hr_
        rw [hu_] at hP hD
        clear hu_
        exact W.iret (v := nI ((sf (2 + i_n)).2.1 / 10 ^ q_n % 10)) hx hb hr (fun t ht hW => ⟨⟨nI ((sf (2 + i_n)).2.1 / 10 ^ q_n % 10), _, rfl, ⟨by rw [sp_digit, e_i, e_q, if_pos (by omega)], x, y, hc.1, hc.2.1, rfl⟩, wd_end hP hK hD ht hW⟩, hS.F ht⟩) hS.2.2 dX2_digit_42
      · refine lv_iconst (v := iZ (-1)) hx hb dX2_digit_27 (by decide) ?_
        exact W.iret (v := iZ (-1)) hx hb hr (fun t ht hW => ⟨⟨iZ (-1), _, rfl, ⟨by rw [sp_digit, e_i, if_neg (by omega)], x, y, hc.1, hc.2.1, rfl⟩, wd_end hP hK hD ht hW⟩, hS.F ht⟩) hS.2.2 dX2_digit_28
