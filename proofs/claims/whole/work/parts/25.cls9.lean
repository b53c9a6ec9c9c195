set_option maxHeartbeats 4000000 in
set_option maxRecDepth 100000 in
/-- turn -/
theorem c_X2_turn (l : Launch) (D : va_G) (cA : Nat → ClassId) (tT : Nat) (A : Nat → Prop) (ad : Nat → Nat) (sz : Nat) {sf : Nat → Bool × Nat × Int} {x y : Nat} {tx : Nat → Int32} {tl : Nat} {op k i : Int} (hc : ci sf x y) (op_1 : -2147483648 ≤ op) (op_2 : op < 2147483648) (k_1 : -2147483648 ≤ k) (k_2 : k < 2147483648) (i_1 : -2147483648 ≤ i) (i_2 : i < 2147483648) : Met l yX2_turn wsX2_turn ({ frames := 6, cells := 0, slots := 0, locals := 144 }) (va_Pc [.ref (ad 0), .int (iZ (op)), .int (iZ (k)), .int (iZ (i))] (wd_B D cA tT A 31 ad sz (cg cA ad sf x y tx tl))) (va_Qi (fun (r : Int32) (u : Nat → va_E) => r = (sp_turn (fun i => sf (2 + i)) op k i).1 ∧ ∃ sf1 x1 y1, ci sf1 x1 y1 ∧ (fun i => sf1 (2 + i)) = (sp_turn (fun i => sf (2 + i)) op k i).2 ∧ u = cg cA ad sf1 x1 y1 tx tl) (wd_E D cA A 31 ad) A) 0 0 A := by
  refine Met.ofW (cc := cX2_turn) (maxL := 4) (ret := (some .int)) (by decide) rfl ?_
  intro p e s m args below meth c s₁ B hml hv
  obtain ⟨rfl, hsz, hP, hK, hD, hT⟩ := hv
  have hx := B.exec
  have hb := B.bytes
  have hr := B.returns
  have hts := atoms_spec (ws := wsX2_turn) B.pre
  have hown : s.vm.findClass RX2 = some m.cls := findClass_of_methodNamed B.named
  have hlocks := B.notSynchronized
  subst hsz
  have hS : va_S A s.heap s.heap [] := va_S.rf
  have in0 : ∀ w ∈ wsX00, w ∈ wsX2_turn := by decide +kernel
  have in2 : ∀ w ∈ wsX20, w ∈ wsX2_turn := by decide +kernel
  have hl := lv_entry ([.ref (ad 0), .int (iZ (op)), .int (iZ (k)), .int (iZ (i))]) (n := 4) (Nat.le_of_ble_eq_true rfl)
  rw [lg_entry_eq]
  generalize (lg_sl ([.ref (ad 0), .int (iZ (op)), .int (iZ (k)), .int (iZ (i))]) ++ List.replicate (4 - (lg_sl ([.ref (ad 0), .int (iZ (op)), .int (iZ (k)), .int (iZ (i))])).length) Slot.unset).toArray = ls at hl ⊢
  have hl : lv_has ls 4 [(0, .ref (ad 0)), (1, .int (iZ (op))), (2, .int (iZ (k))), (3, .int (iZ (i)))] := hl
  refine lv_iload_n hx hb dX2_turn_0 rfl (lv_at hl 2 rfl) ?_
  refine va_calli (va_runS (As := [.int (iZ (k))]) (rest := []) ⟨hx, hb, hml, hown, hts⟩ (c_X2_isRegister l D cA tT A 31 ad _ _ (k := k) (by omega) (by omega)) (va_cwS 1 hts gX2_turn_X2_isRegister rfl rfl rfl (by decide +kernel) ⟨Nat.le_of_ble_eq_true rfl, Nat.le_of_ble_eq_true rfl⟩) (wd_preS hP hK hD hT hS) rfl rfl hl.1 rfl (lv_room (Nat.le_of_ble_eq_true rfl)) dX2_turn_1 ⟨Nat.zero_le _, Nat.zero_le _⟩) hS id_2 id_1 (fun r_ u t H locs ht hvm hw hB hz1 hk1 hS => ?_)
  refine c00 ?_
  obtain ⟨hP, hD⟩ := wd_back ht hB
  clear ht hvm hB hz1 hk1
  obtain ⟨hr_, hu_⟩ := hw
  subst hr_
  rw [hu_] at hP hD
  clear hu_
  refine bz_eq (tgt := 14) hx hb dX2_turn_4 (by decide) it_lt (fun q_k => ?_) (fun q_k => ?_)
  · have g_k := it_eq q_k
    refine lv_iconst (v := iZ (-1)) hx hb dX2_turn_14 (by decide) ?_
    exact W.iret (v := iZ (-1)) hx hb hr (fun t ht hW => ⟨⟨iZ (-1), _, rfl, ⟨by rw [sp_turn, if_neg (by omega)], sf, x, y, hc, by rw [sp_turn, if_neg (by omega)], rfl⟩, wd_end hP hK hD ht hW⟩, hS.F ht⟩) hS.2.2 dX2_turn_15
  · have g_k := it_ne q_k
    refine lv_iload_n hx hb dX2_turn_7 rfl (lv_at hl 3 rfl) ?_
    refine va_calli (va_runS (As := [.int (iZ (i))]) (rest := []) ⟨hx, hb, hml, hown, hts⟩ (c_X2_isRegister l D cA tT A 31 ad _ _ (k := i) (by omega) (by omega)) (va_cwS 1 hts gX2_turn_X2_isRegister rfl rfl rfl (by decide +kernel) ⟨Nat.le_of_ble_eq_true rfl, Nat.le_of_ble_eq_true rfl⟩) (wd_preS hP hK hD hT hS) rfl rfl hl.1 rfl (lv_room (Nat.le_of_ble_eq_true rfl)) dX2_turn_8 ⟨Nat.zero_le _, Nat.zero_le _⟩) hS id_2 id_1 (fun r_ u t H locs ht hvm hw hB hz1 hk1 hS => ?_)
    refine c00 ?_
    obtain ⟨hP, hD⟩ := wd_back ht hB
    clear ht hvm hB hz1 hk1
    obtain ⟨hr_, hu_⟩ := hw
    subst hr_
    rw [hu_] at hP hD
    clear hu_
    refine bz_ne (tgt := 16) hx hb dX2_turn_11 (by decide) it_lt (fun q_i => ?_) (fun q_i => ?_)
    · have g_i := it_ne q_i
      obtain ⟨k_n, h_k, rfl⟩ : ∃ n : Nat, n < 6 ∧ k = (n : Int) := ⟨k.toNat, by omega, by omega⟩
      rw [← iZ_nat k_n] at hl
      have e_k : ((k_n : Nat) : Int).toNat = k_n := Int.toNat_natCast k_n
      have r_k := hc.2.2.2.2 k_n h_k
      have c_k := c64 r_k.1
      simp only [rk] at r_k
      obtain ⟨i_n, h_i, rfl⟩ : ∃ n : Nat, n < 6 ∧ i = (n : Int) := ⟨i.toNat, by omega, by omega⟩
      rw [← iZ_nat i_n] at hl
      have e_i : ((i_n : Nat) : Int).toNat = i_n := Int.toNat_natCast i_n
      have r_i := hc.2.2.2.2 i_n h_i
      have c_i := c64 r_i.1
      simp only [rk] at r_i
      have t1 := tn_le (sf (2 + i_n)).1
      refine lv_aload_n hx hb dX2_turn_16 rfl (lv_at hl 0 rfl) ?_
      refine rg_2_result hx hb hts in2 hown hK hP 0 (by decide) cg_0 (hts _ (by decide +kernel)) dX2_turn_17 ?_
      refine lv_aload_n hx hb dX2_turn_20 rfl (lv_at hl 0 rfl) ?_
      refine rg_2_registers hx hb hts in2 hown hK hP 0 (by decide) cg_0 (hts _ (by decide +kernel)) dX2_turn_21 ?_
      refine lv_iload_n hx hb dX2_turn_24 rfl (lv_at hl 3 rfl) ?_
      refine rn_q1 hx hb hK hP 1 (by decide) cg_1 (by omega) (by decide) dX2_turn_25 ?_
      refine tp_v (y := .ref (ad (7 + 3 * (2 + i_n)))) rfl ?_
      refine va_callv (va_runV (As := [.ref (ad (7 + 3 * (2 + i_n)))]) (rest := []) ⟨hx, hb, hml, hown, hts⟩ (c_X0_become l D cA tT A 31 ad _ _ (k := 7 + 3 * 0) (k2 := 7 + 3 * (2 + i_n)) (d := sf 0) (d2 := sf (2 + i_n)) (by decide) (by omega) (cg_D 0) (cg_D _) (by omega) hc.2.2.1 c_i) (cwV 1 hts gX2_turn_X0_become rfl rfl rfl (by decide +kernel) ⟨Nat.le_of_ble_eq_true rfl, Nat.le_of_ble_eq_true rfl⟩) (wd_preV (k := 7 + 3 * 0) hP hK hD hT hS (by decide) (cg_d 0) rfl) rfl rfl hl.1 rfl (lv_room (Nat.le_of_ble_eq_true rfl)) dX2_turn_26 ⟨Nat.zero_le _, Nat.zero_le _⟩) hS id_2 id_1 (fun u t H locs ht hvm hw hB hz1 hk1 hS => ?_)
      refine c00 ?_
      obtain ⟨hP, hD⟩ := wd_back ht hB
      clear ht hvm hB hz1 hk1
      rw [hw] at hP hD
      clear hw
      rw [cg_upD 0] at hP hD
      rw [rk_sn r_i.2.2.2] at hP hD
      refine lv_iload_n hx hb dX2_turn_29 rfl (lv_at hl 1 rfl) ?_
      rcases (show op = 0 ∨ op = 1 ∨ op = 2 ∨ (op < 0 ∨ 2 < op) by omega) with hw | hw | hw | hw
      · subst hw
        refine lv_tableIn (off := 26) (tgt := 56) hx hb dX2_turn_30 (by rw [tI (by decide) (by decide)]; decide) (by rw [tI (by decide) (by decide)]; decide) (by rw [tI (by decide) (by decide)]; rfl) (by decide) ?_
        refine lv_aload_n hx hb dX2_turn_56 rfl (lv_at hl 0 rfl) ?_
        refine rg_2_result hx hb hts in2 hown hK hP 0 (by decide) cg_0 (hts _ (by decide +kernel)) dX2_turn_57 ?_
        refine lv_iconst (v := nI (0)) hx hb dX2_turn_60 (by decide) ?_
        refine rp_0_minus hx hb hts in0 hown hK hP hD hS (7 + 3 * 0) (by omega) (cg_d 0) (hts _ (by decide +kernel)) rfl rfl dX2_turn_61 (fun H locs hP hD hS => ?_)
        rw [cg_upM 0 (false) (v := nI (0)) rfl rfl] at hP hD
        refine lv_goto (tgt := 101) hx hb dX2_turn_64 (by decide) ?_
        refine lv_aload_n hx hb dX2_turn_101 rfl (lv_at hl 0 rfl) ?_
        refine lv_iload_n hx hb dX2_turn_102 rfl (lv_at hl 2 rfl) ?_
        simp only [va_up_self, bx_uu] at hP hD
        have hci := ci_up0 (x1 := x) (y1 := y) (d := (false, (sf (2 + i_n)).2)) hc hc.1 hc.2.1 c_i
        refine va_calli (va_runV (As := [.int (nI (k_n))]) (rest := []) ⟨hx, hb, hml, hown, hts⟩ (c_X2_keep l D cA tT A ad _ (sf := va_up sf 0 (false, (sf (2 + i_n)).2)) (x := x) (y := y) (tx := tx) (tl := tl) (k := k_n) h_k hci.2.2.1 (by rw [va_up_ne _ _ (by omega)]; exact c_k) (by rw [va_up_self]; show -2147483648 ≤ (sf (2 + i_n)).2.2; omega) (by rw [va_up_self]; show (sf (2 + i_n)).2.2 < 2147483648; omega)) (cwV 1 hts gX2_turn_X2_keep rfl rfl rfl (by decide +kernel) ⟨Nat.le_of_ble_eq_true rfl, Nat.le_of_ble_eq_true rfl⟩) (wd_preV (k := 0) hP hK hD hT hS (by decide) cg_0 rfl) rfl rfl hl.1 rfl (lv_room (Nat.le_of_ble_eq_true rfl)) dX2_turn_103 ⟨Nat.zero_le _, Nat.zero_le _⟩) hS id_2 id_1 (fun r_ u t H locs ht hvm hw hB hz1 hk1 hS => ?_)
        refine c00 ?_
        obtain ⟨hP, hD⟩ := wd_back ht hB
        clear ht hvm hB hz1 hk1
        obtain ⟨hr_, hu_⟩ := hw
        subst hr_
        rw [hu_] at hP hD
        clear hu_
        have hkc := ci_kp (k := k_n) hci hci.1 hci.2.1
        obtain ⟨a1, a2, -, -⟩ := kp_kpr (va_up sf 0 (false, (sf (2 + i_n)).2)) k_n
        rw [va_up_self, rh_up0] at a1 a2
        have hsp : sp_turn (fun i => sf (2 + i)) 0 (k_n : Int) (i_n : Int) = kpr (fun i => sf (2 + i)) k_n (false, (sf (2 + i_n)).2) := by rw [sp_turn, if_pos (by omega), e_k, e_i, if_pos rfl]
        exact W.iret (v := (kp (va_up sf 0 (false, (sf (2 + i_n)).2)) k_n).1) hx hb hr (fun t ht hW => ⟨⟨(kp (va_up sf 0 (false, (sf (2 + i_n)).2)) k_n).1, _, rfl, ⟨by rw [hsp, a1], _, x, y, hkc, by rw [hsp, a2], rfl⟩, wd_end hP hK hD ht hW⟩, hS.F ht⟩) hS.2.2 dX2_turn_106
      · subst hw
        refine lv_tableIn (off := 37) (tgt := 67) hx hb dX2_turn_30 (by rw [tI (by decide) (by decide)]; decide) (by rw [tI (by decide) (by decide)]; decide) (by rw [tI (by decide) (by decide)]; rfl) (by decide) ?_
        refine lv_aload_n hx hb dX2_turn_67 rfl (lv_at hl 0 rfl) ?_
        refine rg_2_result hx hb hts in2 hown hK hP 0 (by decide) cg_0 (hts _ (by decide +kernel)) dX2_turn_68 ?_
        refine lv_aload_n hx hb dX2_turn_71 rfl (lv_at hl 0 rfl) ?_
        refine rg_2_result hx hb hts in2 hown hK hP 0 (by decide) cg_0 (hts _ (by decide +kernel)) dX2_turn_72 ?_
        refine rg_0_minus hx hb hts in0 hown hK hP (7 + 3 * 0) (by omega) (cg_d 0) (hts _ (by decide +kernel)) dX2_turn_75 ?_
        refine tp_i (y := nI (sf (2 + i_n)).1.toNat) (by rw [va_up_self]) ?_
        refine bz_ne (tgt := 85) hx hb dX2_turn_78 (by decide) (by omega) (fun q1 => ?_) (fun q1 => ?_)
        · refine lv_iconst (v := nI (0)) hx hb dX2_turn_85 (by decide) ?_
          refine rp_0_minus hx hb hts in0 hown hK hP hD hS (7 + 3 * 0) (by omega) (cg_d 0) (hts _ (by decide +kernel)) rfl rfl dX2_turn_86 (fun H locs hP hD hS => ?_)
          rw [cg_upM 0 (false) (v := nI (0)) rfl rfl] at hP hD
          refine lv_goto (tgt := 101) hx hb dX2_turn_89 (by decide) ?_
          refine lv_aload_n hx hb dX2_turn_101 rfl (lv_at hl 0 rfl) ?_
          refine lv_iload_n hx hb dX2_turn_102 rfl (lv_at hl 2 rfl) ?_
          simp only [va_up_self, bx_uu] at hP hD
          have hci := ci_up0 (x1 := x) (y1 := y) (d := (false, (sf (2 + i_n)).2)) hc hc.1 hc.2.1 c_i
          refine va_calli (va_runV (As := [.int (nI (k_n))]) (rest := []) ⟨hx, hb, hml, hown, hts⟩ (c_X2_keep l D cA tT A ad _ (sf := va_up sf 0 (false, (sf (2 + i_n)).2)) (x := x) (y := y) (tx := tx) (tl := tl) (k := k_n) h_k hci.2.2.1 (by rw [va_up_ne _ _ (by omega)]; exact c_k) (by rw [va_up_self]; show -2147483648 ≤ (sf (2 + i_n)).2.2; omega) (by rw [va_up_self]; show (sf (2 + i_n)).2.2 < 2147483648; omega)) (cwV 1 hts gX2_turn_X2_keep rfl rfl rfl (by decide +kernel) ⟨Nat.le_of_ble_eq_true rfl, Nat.le_of_ble_eq_true rfl⟩) (wd_preV (k := 0) hP hK hD hT hS (by decide) cg_0 rfl) rfl rfl hl.1 rfl (lv_room (Nat.le_of_ble_eq_true rfl)) dX2_turn_103 ⟨Nat.zero_le _, Nat.zero_le _⟩) hS id_2 id_1 (fun r_ u t H locs ht hvm hw hB hz1 hk1 hS => ?_)
          refine c00 ?_
          obtain ⟨hP, hD⟩ := wd_back ht hB
          clear ht hvm hB hz1 hk1
          obtain ⟨hr_, hu_⟩ := hw
          subst hr_
          rw [hu_] at hP hD
          clear hu_
          have hkc := ci_kp (k := k_n) hci hci.1 hci.2.1
          obtain ⟨a1, a2, -, -⟩ := kp_kpr (va_up sf 0 (false, (sf (2 + i_n)).2)) k_n
          rw [va_up_self, rh_up0] at a1 a2
          have hsp : sp_turn (fun i => sf (2 + i)) 1 (k_n : Int) (i_n : Int) = kpr (fun i => sf (2 + i)) k_n (false, (sf (2 + i_n)).2) := by rw [sp_turn, if_pos (by omega), e_k, e_i, if_neg (by decide), if_pos rfl, tn_nz q1]; rfl
          exact W.iret (v := (kp (va_up sf 0 (false, (sf (2 + i_n)).2)) k_n).1) hx hb hr (fun t ht hW => ⟨⟨(kp (va_up sf 0 (false, (sf (2 + i_n)).2)) k_n).1, _, rfl, ⟨by rw [hsp, a1], _, x, y, hkc, by rw [hsp, a2], rfl⟩, wd_end hP hK hD ht hW⟩, hS.F ht⟩) hS.2.2 dX2_turn_106
        · refine lv_iconst (v := nI (1)) hx hb dX2_turn_81 (by decide) ?_
          refine lv_goto (tgt := 86) hx hb dX2_turn_82 (by decide) ?_
          refine rp_0_minus hx hb hts in0 hown hK hP hD hS (7 + 3 * 0) (by omega) (cg_d 0) (hts _ (by decide +kernel)) rfl rfl dX2_turn_86 (fun H locs hP hD hS => ?_)
          rw [cg_upM 0 (true) (v := nI (1)) rfl rfl] at hP hD
          refine lv_goto (tgt := 101) hx hb dX2_turn_89 (by decide) ?_
          refine lv_aload_n hx hb dX2_turn_101 rfl (lv_at hl 0 rfl) ?_
          refine lv_iload_n hx hb dX2_turn_102 rfl (lv_at hl 2 rfl) ?_
          simp only [va_up_self, bx_uu] at hP hD
          have hci := ci_up0 (x1 := x) (y1 := y) (d := (true, (sf (2 + i_n)).2)) hc hc.1 hc.2.1 c_i
          refine va_calli (va_runV (As := [.int (nI (k_n))]) (rest := []) ⟨hx, hb, hml, hown, hts⟩ (c_X2_keep l D cA tT A ad _ (sf := va_up sf 0 (true, (sf (2 + i_n)).2)) (x := x) (y := y) (tx := tx) (tl := tl) (k := k_n) h_k hci.2.2.1 (by rw [va_up_ne _ _ (by omega)]; exact c_k) (by rw [va_up_self]; show -2147483648 ≤ (sf (2 + i_n)).2.2; omega) (by rw [va_up_self]; show (sf (2 + i_n)).2.2 < 2147483648; omega)) (cwV 1 hts gX2_turn_X2_keep rfl rfl rfl (by decide +kernel) ⟨Nat.le_of_ble_eq_true rfl, Nat.le_of_ble_eq_true rfl⟩) (wd_preV (k := 0) hP hK hD hT hS (by decide) cg_0 rfl) rfl rfl hl.1 rfl (lv_room (Nat.le_of_ble_eq_true rfl)) dX2_turn_103 ⟨Nat.zero_le _, Nat.zero_le _⟩) hS id_2 id_1 (fun r_ u t H locs ht hvm hw hB hz1 hk1 hS => ?_)
          refine c00 ?_
          obtain ⟨hP, hD⟩ := wd_back ht hB
          clear ht hvm hB hz1 hk1
          obtain ⟨hr_, hu_⟩ := hw
          subst hr_
          rw [hu_] at hP hD
          clear hu_
          have hkc := ci_kp (k := k_n) hci hci.1 hci.2.1
          obtain ⟨a1, a2, -, -⟩ := kp_kpr (va_up sf 0 (true, (sf (2 + i_n)).2)) k_n
          rw [va_up_self, rh_up0] at a1 a2
          have hsp : sp_turn (fun i => sf (2 + i)) 1 (k_n : Int) (i_n : Int) = kpr (fun i => sf (2 + i)) k_n (true, (sf (2 + i_n)).2) := by rw [sp_turn, if_pos (by omega), e_k, e_i, if_neg (by decide), if_pos rfl, tn_z q1]; rfl
          exact W.iret (v := (kp (va_up sf 0 (true, (sf (2 + i_n)).2)) k_n).1) hx hb hr (fun t ht hW => ⟨⟨(kp (va_up sf 0 (true, (sf (2 + i_n)).2)) k_n).1, _, rfl, ⟨by rw [hsp, a1], _, x, y, hkc, by rw [hsp, a2], rfl⟩, wd_end hP hK hD ht hW⟩, hS.F ht⟩) hS.2.2 dX2_turn_106
      · subst hw
        refine lv_tableIn (off := 62) (tgt := 92) hx hb dX2_turn_30 (by rw [tI (by decide) (by decide)]; decide) (by rw [tI (by decide) (by decide)]; decide) (by rw [tI (by decide) (by decide)]; rfl) (by decide) ?_
        refine lv_aload_n hx hb dX2_turn_92 rfl (lv_at hl 0 rfl) ?_
        refine va_callv (va_runV (As := []) (rest := []) ⟨hx, hb, hml, hown, hts⟩ (c_X2_cutOffZeros l D cA tT A ad _ (sf := va_up sf 0 (sf (2 + i_n))) (x := x) (y := y) (tx := tx) (tl := tl) (by rw [va_up_self]; exact r_i.1) hc.1 hc.2.1 (by rw [va_up_self]; omega) (by rw [va_up_self]; omega) (by rw [va_up_ne _ _ (show (1 : Nat) ≠ 0 by decide)]; exact hc.2.2.2.1)) (cwV 0 hts gX2_turn_X2_cutOffZeros rfl rfl rfl (by decide +kernel) ⟨Nat.le_of_ble_eq_true rfl, Nat.le_of_ble_eq_true rfl⟩) (wd_preV (k := 0) hP hK hD hT hS (by decide) cg_0 rfl) rfl rfl hl.1 rfl (lv_room (Nat.le_of_ble_eq_true rfl)) dX2_turn_93 ⟨Nat.zero_le _, Nat.zero_le _⟩) hS id_2 id_1 (fun u t H locs ht hvm hw hB hz1 hk1 hS => ?_)
        refine c00 ?_
        obtain ⟨hP, hD⟩ := wd_back ht hB
        clear ht hvm hB hz1 hk1
        obtain ⟨x1, y1, hx1, hy1, hu_⟩ := hw
        rw [hu_] at hP hD
        clear hu_
        simp only [va_up_self, bx_uu] at hP hD
        have hzz := zz_le r_i.1
        by_cases hn0 : (sf (2 + i_n)).2.1 = 0
        · rw [if_pos hn0] at hP hD
          have hci := ci_up0 (x1 := x1) (y1 := y1) (d := ((sf (2 + i_n)).1, (sf (2 + i_n)).2.1, (0 : Int))) hc hx1 hy1 c_i
          refine lv_goto (tgt := 101) hx hb dX2_turn_96 (by decide) ?_
          refine lv_aload_n hx hb dX2_turn_101 rfl (lv_at hl 0 rfl) ?_
          refine lv_iload_n hx hb dX2_turn_102 rfl (lv_at hl 2 rfl) ?_
          refine va_calli (va_runV (As := [.int (nI (k_n))]) (rest := []) ⟨hx, hb, hml, hown, hts⟩ (c_X2_keep l D cA tT A ad _ (sf := va_up sf 0 ((sf (2 + i_n)).1, (sf (2 + i_n)).2.1, (0 : Int))) (x := x1) (y := y1) (tx := tx) (tl := tl) (k := k_n) h_k hci.2.2.1 (by rw [va_up_ne _ _ (by omega)]; exact c_k) (by rw [va_up_self]; show (-2147483648 : Int) ≤ 0; decide) (by rw [va_up_self]; show (0 : Int) < 2147483648; decide)) (cwV 1 hts gX2_turn_X2_keep rfl rfl rfl (by decide +kernel) ⟨Nat.le_of_ble_eq_true rfl, Nat.le_of_ble_eq_true rfl⟩) (wd_preV (k := 0) hP hK hD hT hS (by decide) cg_0 rfl) rfl rfl hl.1 rfl (lv_room (Nat.le_of_ble_eq_true rfl)) dX2_turn_103 ⟨Nat.zero_le _, Nat.zero_le _⟩) hS id_2 id_1 (fun r_ u t H locs ht hvm hw hB hz1 hk1 hS => ?_)
          refine c00 ?_
          obtain ⟨hP, hD⟩ := wd_back ht hB
          clear ht hvm hB hz1 hk1
          obtain ⟨hr_, hu_⟩ := hw
          subst hr_
          rw [hu_] at hP hD
          clear hu_
          have hkc := ci_kp (k := k_n) hci hci.1 hci.2.1
          obtain ⟨a1, a2, -, -⟩ := kp_kpr (va_up sf 0 ((sf (2 + i_n)).1, (sf (2 + i_n)).2.1, (0 : Int))) k_n
          rw [va_up_self, rh_up0] at a1 a2
          have hsp : sp_turn (fun i => sf (2 + i)) 2 (k_n : Int) (i_n : Int) = kpr (fun i => sf (2 + i)) k_n ((sf (2 + i_n)).1, (sf (2 + i_n)).2.1, (0 : Int)) := by rw [sp_turn, if_pos (by omega), e_k, e_i, if_neg (by decide), if_neg (by decide), if_pos hn0]
          exact W.iret (v := (kp (va_up sf 0 ((sf (2 + i_n)).1, (sf (2 + i_n)).2.1, (0 : Int))) k_n).1) hx hb hr (fun t ht hW => ⟨⟨(kp (va_up sf 0 ((sf (2 + i_n)).1, (sf (2 + i_n)).2.1, (0 : Int))) k_n).1, _, rfl, ⟨by rw [hsp, a1], _, x1, y1, hkc, by rw [hsp, a2], rfl⟩, wd_end hP hK hD ht hW⟩, hS.F ht⟩) hS.2.2 dX2_turn_106
        · rw [if_neg hn0] at hP hD
          have hq9 : (sf (2 + i_n)).2.1 / 10 ^ zz_ (sf (2 + i_n)).2.1 ≤ (sf (2 + i_n)).2.1 := Nat.div_le_self _ _
          have hq8 : (sf (2 + i_n)).2.1 / 10 ^ zz_ (sf (2 + i_n)).2.1 < 1000000 ^ 64 := by omega
          have hci := ci_up0 (x1 := x1) (y1 := y1) (d := ((sf (2 + i_n)).1, (sf (2 + i_n)).2.1 / 10 ^ zz_ (sf (2 + i_n)).2.1, (sf (2 + i_n)).2.2 - (zz_ (sf (2 + i_n)).2.1 : Int))) hc hx1 hy1 hq8
          refine lv_goto (tgt := 101) hx hb dX2_turn_96 (by decide) ?_
          refine lv_aload_n hx hb dX2_turn_101 rfl (lv_at hl 0 rfl) ?_
          refine lv_iload_n hx hb dX2_turn_102 rfl (lv_at hl 2 rfl) ?_
          refine va_calli (va_runV (As := [.int (nI (k_n))]) (rest := []) ⟨hx, hb, hml, hown, hts⟩ (c_X2_keep l D cA tT A ad _ (sf := va_up sf 0 ((sf (2 + i_n)).1, (sf (2 + i_n)).2.1 / 10 ^ zz_ (sf (2 + i_n)).2.1, (sf (2 + i_n)).2.2 - (zz_ (sf (2 + i_n)).2.1 : Int))) (x := x1) (y := y1) (tx := tx) (tl := tl) (k := k_n) h_k hci.2.2.1 (by rw [va_up_ne _ _ (by omega)]; exact c_k) (by rw [va_up_self]; show -2147483648 ≤ (sf (2 + i_n)).2.2 - (zz_ (sf (2 + i_n)).2.1 : Int); omega) (by rw [va_up_self]; show (sf (2 + i_n)).2.2 - (zz_ (sf (2 + i_n)).2.1 : Int) < 2147483648; omega)) (cwV 1 hts gX2_turn_X2_keep rfl rfl rfl (by decide +kernel) ⟨Nat.le_of_ble_eq_true rfl, Nat.le_of_ble_eq_true rfl⟩) (wd_preV (k := 0) hP hK hD hT hS (by decide) cg_0 rfl) rfl rfl hl.1 rfl (lv_room (Nat.le_of_ble_eq_true rfl)) dX2_turn_103 ⟨Nat.zero_le _, Nat.zero_le _⟩) hS id_2 id_1 (fun r_ u t H locs ht hvm hw hB hz1 hk1 hS => ?_)
          refine c00 ?_
          obtain ⟨hP, hD⟩ := wd_back ht hB
          clear ht hvm hB hz1 hk1
          obtain ⟨hr_, hu_⟩ := hw
          subst hr_
          rw [hu_] at hP hD
          clear hu_
          have hkc := ci_kp (k := k_n) hci hci.1 hci.2.1
          obtain ⟨a1, a2, -, -⟩ := kp_kpr (va_up sf 0 ((sf (2 + i_n)).1, (sf (2 + i_n)).2.1 / 10 ^ zz_ (sf (2 + i_n)).2.1, (sf (2 + i_n)).2.2 - (zz_ (sf (2 + i_n)).2.1 : Int))) k_n
          rw [va_up_self, rh_up0] at a1 a2
          have hsp : sp_turn (fun i => sf (2 + i)) 2 (k_n : Int) (i_n : Int) = kpr (fun i => sf (2 + i)) k_n ((sf (2 + i_n)).1, (sf (2 + i_n)).2.1 / 10 ^ zz_ (sf (2 + i_n)).2.1, (sf (2 + i_n)).2.2 - (zz_ (sf (2 + i_n)).2.1 : Int)) := by rw [sp_turn, if_pos (by omega), e_k, e_i, if_neg (by decide), if_neg (by decide), if_neg hn0]
          exact W.iret (v := (kp (va_up sf 0 ((sf (2 + i_n)).1, (sf (2 + i_n)).2.1 / 10 ^ zz_ (sf (2 + i_n)).2.1, (sf (2 + i_n)).2.2 - (zz_ (sf (2 + i_n)).2.1 : Int))) k_n).1) hx hb hr (fun t ht hW => ⟨⟨(kp (va_up sf 0 ((sf (2 + i_n)).1, (sf (2 + i_n)).2.1 / 10 ^ zz_ (sf (2 + i_n)).2.1, (sf (2 + i_n)).2.2 - (zz_ (sf (2 + i_n)).2.1 : Int))) k_n).1, _, rfl, ⟨by rw [hsp, a1], _, x1, y1, hkc, by rw [hsp, a2], rfl⟩, wd_end hP hK hD ht hW⟩, hS.F ht⟩) hS.2.2 dX2_turn_106
      · refine lv_tableOut (tgt := 99) hx hb dX2_turn_30 (by rw [tI (by omega) (by omega)]; exact hw) (by decide) ?_
        have hci := ci_up0 (d := sf (2 + i_n)) hc hc.1 hc.2.1 c_i
        refine lv_iconst (v := iZ (-1)) hx hb dX2_turn_99 (by decide) ?_
        exact W.iret (v := iZ (-1)) hx hb hr (fun t ht hW => ⟨⟨iZ (-1), _, rfl, ⟨by rw [sp_turn, if_neg (by omega)], _, x, y, hci, by rw [sp_turn, if_neg (by omega), rh_up0], rfl⟩, wd_end hP hK hD ht hW⟩, hS.F ht⟩) hS.2.2 dX2_turn_100
    · have g_i := it_eq q_i
      refine lv_iconst (v := iZ (-1)) hx hb dX2_turn_14 (by decide) ?_
      exact W.iret (v := iZ (-1)) hx hb hr (fun t ht hW => ⟨⟨iZ (-1), _, rfl, ⟨by rw [sp_turn, if_neg (by omega)], sf, x, y, hc, by rw [sp_turn, if_neg (by omega)], rfl⟩, wd_end hP hK hD ht hW⟩, hS.F ht⟩) hS.2.2 dX2_turn_15
set_option maxHeartbeats 4000000 in
set_option maxRecDepth 100000 in
/-- move -/
theorem c_X2_move (l : Launch) (D : va_G) (cA : Nat → ClassId) (tT : Nat) (A : Nat → Prop) (ad : Nat → Nat) (sz : Nat) {sf : Nat → Bool × Nat × Int} {x y : Nat} {tx : Nat → Int32} {tl : Nat} {op k i q : Int} (hc : ci sf x y) (op_1 : -2147483648 ≤ op) (op_2 : op < 2147483648) (k_1 : -2147483648 ≤ k) (k_2 : k < 2147483648) (i_1 : -2147483648 ≤ i) (i_2 : i < 2147483648) (q_1 : -2147483648 ≤ q) (q_2 : q < 2147483648) : Met l yX2_move wsX2_move ({ frames := 5, cells := 0, slots := 0, locals := 105 }) (va_Pc [.ref (ad 0), .int (iZ (op)), .int (iZ (k)), .int (iZ (i)), .int (iZ (q))] (wd_B D cA tT A 31 ad sz (cg cA ad sf x y tx tl))) (va_Qi (fun (r : Int32) (u : Nat → va_E) => r = (sp_move (fun i => sf (2 + i)) op k i q).1 ∧ ∃ sf1 x1 y1, ci sf1 x1 y1 ∧ (fun i => sf1 (2 + i)) = (sp_move (fun i => sf (2 + i)) op k i q).2 ∧ u = cg cA ad sf1 x1 y1 tx tl) (wd_E D cA A 31 ad) A) 0 0 A := by
  refine Met.ofW (cc := cX2_move) (maxL := 5) (ret := (some .int)) (by decide) rfl ?_
  intro p e s m args below meth c s₁ B hml hv
  obtain ⟨rfl, hsz, hP, hK, hD, hT⟩ := hv
  have hx := B.exec
  have hb := B.bytes
  have hr := B.returns
  have hts := atoms_spec (ws := wsX2_move) B.pre
  have hown : s.vm.findClass RX2 = some m.cls := findClass_of_methodNamed B.named
  have hlocks := B.notSynchronized
  subst hsz
  have hS : va_S A s.heap s.heap [] := va_S.rf
  have in0 : ∀ w ∈ wsX00, w ∈ wsX2_move := by decide +kernel
  have in2 : ∀ w ∈ wsX20, w ∈ wsX2_move := by decide +kernel
  have hl := lv_entry ([.ref (ad 0), .int (iZ (op)), .int (iZ (k)), .int (iZ (i)), .int (iZ (q))]) (n := 5) (Nat.le_of_ble_eq_true rfl)
  rw [lg_entry_eq]
  generalize (lg_sl ([.ref (ad 0), .int (iZ (op)), .int (iZ (k)), .int (iZ (i)), .int (iZ (q))]) ++ List.replicate (5 - (lg_sl ([.ref (ad 0), .int (iZ (op)), .int (iZ (k)), .int (iZ (i)), .int (iZ (q))])).length) Slot.unset).toArray = ls at hl ⊢
  have hl : lv_has ls 5 [(0, .ref (ad 0)), (1, .int (iZ (op))), (2, .int (iZ (k))), (3, .int (iZ (i))), (4, .int (iZ (q)))] := hl
  refine lv_iload_n hx hb dX2_move_0 rfl (lv_at hl 2 rfl) ?_
  refine va_calli (va_runS (As := [.int (iZ (k))]) (rest := []) ⟨hx, hb, hml, hown, hts⟩ (c_X2_isRegister l D cA tT A 31 ad _ _ (k := k) (by omega) (by omega)) (va_cwS 1 hts gX2_move_X2_isRegister rfl rfl rfl (by decide +kernel) ⟨Nat.le_of_ble_eq_true rfl, Nat.le_of_ble_eq_true rfl⟩) (wd_preS hP hK hD hT hS) rfl rfl hl.1 rfl (lv_room (Nat.le_of_ble_eq_true rfl)) dX2_move_1 ⟨Nat.zero_le _, Nat.zero_le _⟩) hS id_2 id_1 (fun r_ u t H locs ht hvm hw hB hz1 hk1 hS => ?_)
  refine c00 ?_
  obtain ⟨hP, hD⟩ := wd_back ht hB
  clear ht hvm hB hz1 hk1
  obtain ⟨hr_, hu_⟩ := hw
  subst hr_
  rw [hu_] at hP hD
  clear hu_
  refine bz_eq (tgt := 23) hx hb dX2_move_4 (by decide) it_lt (fun q_k => ?_) (fun q_k => ?_)
  · have g_k := it_eq q_k
    refine lv_iconst (v := iZ (-1)) hx hb dX2_move_23 (by decide) ?_
    exact W.iret (v := iZ (-1)) hx hb hr (fun t ht hW => ⟨⟨iZ (-1), _, rfl, ⟨by rw [sp_move, if_neg (by omega)], sf, x, y, hc, by rw [sp_move, if_neg (by omega)], rfl⟩, wd_end hP hK hD ht hW⟩, hS.F ht⟩) hS.2.2 dX2_move_24
  · have g_k := it_ne q_k
    refine lv_iload_n hx hb dX2_move_7 rfl (lv_at hl 3 rfl) ?_
    refine va_calli (va_runS (As := [.int (iZ (i))]) (rest := []) ⟨hx, hb, hml, hown, hts⟩ (c_X2_isRegister l D cA tT A 31 ad _ _ (k := i) (by omega) (by omega)) (va_cwS 1 hts gX2_move_X2_isRegister rfl rfl rfl (by decide +kernel) ⟨Nat.le_of_ble_eq_true rfl, Nat.le_of_ble_eq_true rfl⟩) (wd_preS hP hK hD hT hS) rfl rfl hl.1 rfl (lv_room (Nat.le_of_ble_eq_true rfl)) dX2_move_8 ⟨Nat.zero_le _, Nat.zero_le _⟩) hS id_2 id_1 (fun r_ u t H locs ht hvm hw hB hz1 hk1 hS => ?_)
    refine c00 ?_
    obtain ⟨hP, hD⟩ := wd_back ht hB
    clear ht hvm hB hz1 hk1
    obtain ⟨hr_, hu_⟩ := hw
    subst hr_
    rw [hu_] at hP hD
    clear hu_
    refine bz_eq (tgt := 23) hx hb dX2_move_11 (by decide) it_lt (fun q_i => ?_) (fun q_i => ?_)
    · have g_i := it_eq q_i
      refine lv_iconst (v := iZ (-1)) hx hb dX2_move_23 (by decide) ?_
      exact W.iret (v := iZ (-1)) hx hb hr (fun t ht hW => ⟨⟨iZ (-1), _, rfl, ⟨by rw [sp_move, if_neg (by omega)], sf, x, y, hc, by rw [sp_move, if_neg (by omega)], rfl⟩, wd_end hP hK hD ht hW⟩, hS.F ht⟩) hS.2.2 dX2_move_24
    · have g_i := it_ne q_i
      refine lv_iload_n hx hb dX2_move_14 rfl (lv_at hl 1 rfl) ?_
      refine by_lt (tgt := 23) hx hb dX2_move_15 (by decide) (by omega) (by omega) (fun p1 => ?_) (fun p1 => ?_)
      · refine lv_iconst (v := iZ (-1)) hx hb dX2_move_23 (by decide) ?_
        exact W.iret (v := iZ (-1)) hx hb hr (fun t ht hW => ⟨⟨iZ (-1), _, rfl, ⟨by rw [sp_move, if_neg (by omega)], sf, x, y, hc, by rw [sp_move, if_neg (by omega)], rfl⟩, wd_end hP hK hD ht hW⟩, hS.F ht⟩) hS.2.2 dX2_move_24
      · refine lv_iload_n hx hb dX2_move_18 rfl (lv_at hl 1 rfl) ?_
        refine lv_iconst (v := nI (1)) hx hb dX2_move_19 (by decide) ?_
        refine tp_i (y := iZ ((1 : Nat) : Int)) (iZ_nat _) ?_
        refine bs_le (tgt := 25) hx hb dX2_move_20 (by decide) (by omega) (by omega) (by omega) (by omega) (fun p2 => ?_) (fun p2 => ?_)
        · refine lv_iload hx hb dX2_move_25 (lv_at hl 4 rfl) ?_
          refine lv_bipush (v := iZ (-12)) hx hb dX2_move_27 (by decide) ?_
          refine bs_lt (tgt := 39) hx hb dX2_move_29 (by decide) (by omega) (by omega) (by omega) (by omega) (fun p3 => ?_) (fun p3 => ?_)
          · refine lv_iconst (v := iZ (-1)) hx hb dX2_move_39 (by decide) ?_
            exact W.iret (v := iZ (-1)) hx hb hr (fun t ht hW => ⟨⟨iZ (-1), _, rfl, ⟨by rw [sp_move, if_neg (by omega)], sf, x, y, hc, by rw [sp_move, if_neg (by omega)], rfl⟩, wd_end hP hK hD ht hW⟩, hS.F ht⟩) hS.2.2 dX2_move_40
          · refine lv_iload hx hb dX2_move_32 (lv_at hl 4 rfl) ?_
            refine lv_bipush (v := nI (12)) hx hb dX2_move_34 (by decide) ?_
            refine tp_i (y := iZ ((12 : Nat) : Int)) (iZ_nat _) ?_
            refine bs_le (tgt := 41) hx hb dX2_move_36 (by decide) (by omega) (by omega) (by omega) (by omega) (fun p4 => ?_) (fun p4 => ?_)
            · obtain ⟨k_n, h_k, rfl⟩ : ∃ n : Nat, n < 6 ∧ k = (n : Int) := ⟨k.toNat, by omega, by omega⟩
              rw [← iZ_nat k_n] at hl
              have e_k : ((k_n : Nat) : Int).toNat = k_n := Int.toNat_natCast k_n
              have r_k := hc.2.2.2.2 k_n h_k
              have c_k := c64 r_k.1
              simp only [rk] at r_k
              obtain ⟨i_n, h_i, rfl⟩ : ∃ n : Nat, n < 6 ∧ i = (n : Int) := ⟨i.toNat, by omega, by omega⟩
              rw [← iZ_nat i_n] at hl
              have e_i : ((i_n : Nat) : Int).toNat = i_n := Int.toNat_natCast i_n
              have r_i := hc.2.2.2.2 i_n h_i
              have c_i := c64 r_i.1
              simp only [rk] at r_i
              have hs9 := s190 r_i.1
              refine lv_aload_n hx hb dX2_move_41 rfl (lv_at hl 0 rfl) ?_
              refine rg_2_result hx hb hts in2 hown hK hP 0 (by decide) cg_0 (hts _ (by decide +kernel)) dX2_move_42 ?_
              refine lv_aload_n hx hb dX2_move_45 rfl (lv_at hl 0 rfl) ?_
              refine rg_2_registers hx hb hts in2 hown hK hP 0 (by decide) cg_0 (hts _ (by decide +kernel)) dX2_move_46 ?_
              refine lv_iload_n hx hb dX2_move_49 rfl (lv_at hl 3 rfl) ?_
              refine rn_q1 hx hb hK hP 1 (by decide) cg_1 (by omega) (by decide) dX2_move_50 ?_
              refine tp_v (y := .ref (ad (7 + 3 * (2 + i_n)))) rfl ?_
              refine va_callv (va_runV (As := [.ref (ad (7 + 3 * (2 + i_n)))]) (rest := []) ⟨hx, hb, hml, hown, hts⟩ (c_X0_become l D cA tT A 31 ad _ _ (k := 7 + 3 * 0) (k2 := 7 + 3 * (2 + i_n)) (d := sf 0) (d2 := sf (2 + i_n)) (by decide) (by omega) (cg_D 0) (cg_D _) (by omega) hc.2.2.1 c_i) (cwV 1 hts gX2_move_X0_become rfl rfl rfl (by decide +kernel) ⟨Nat.le_of_ble_eq_true rfl, Nat.le_of_ble_eq_true rfl⟩) (wd_preV (k := 7 + 3 * 0) hP hK hD hT hS (by decide) (cg_d 0) rfl) rfl rfl hl.1 rfl (lv_room (Nat.le_of_ble_eq_true rfl)) dX2_move_51 ⟨Nat.zero_le _, Nat.zero_le _⟩) hS id_2 id_1 (fun u t H locs ht hvm hw hB hz1 hk1 hS => ?_)
              refine c00 ?_
              obtain ⟨hP, hD⟩ := wd_back ht hB
              clear ht hvm hB hz1 hk1
              rw [hw] at hP hD
              clear hw
              rw [cg_upD 0] at hP hD
              rw [rk_sn r_i.2.2.2] at hP hD
              refine lv_aload_n hx hb dX2_move_54 rfl (lv_at hl 0 rfl) ?_
              refine rg_2_result hx hb hts in2 hown hK hP 0 (by decide) cg_0 (hts _ (by decide +kernel)) dX2_move_55 ?_
              refine lv_dup hx hb dX2_move_58 rfl ?_
              refine rg_0_scale hx hb hts in0 hown hK hP (7 + 3 * 0) (by omega) (cg_d 0) (hts _ (by decide +kernel)) dX2_move_59 ?_
              refine lv_iload hx hb dX2_move_62 (lv_at hl 4 rfl) ?_
              refine lv_isub hx hb dX2_move_64 ?_
              refine tp_i (y := iZ ((((va_up sf 0 (sf (2 + i_n))) 0).2.2) - q)) (iZ_sub _ _) ?_
              refine rp_0_scale hx hb hts in0 hown hK hP hD hS (7 + 3 * 0) (by omega) (cg_d 0) (hts _ (by decide +kernel)) rfl rfl dX2_move_65 (fun H locs hP hD hS => ?_)
              rw [cg_upS 0 ((((va_up sf 0 (sf (2 + i_n))) 0).2.2) - q) rfl] at hP hD
              simp only [va_up_self, bx_uu] at hP hD
              have hci := ci_up0 (x1 := x) (y1 := y) (d := ((sf (2 + i_n)).1, (sf (2 + i_n)).2.1, (sf (2 + i_n)).2.2 - q)) hc hc.1 hc.2.1 c_i
              refine lv_iload_n hx hb dX2_move_68 rfl (lv_at hl 1 rfl) ?_
              refine lv_iconst (v := nI (1)) hx hb dX2_move_69 (by decide) ?_
              refine tp_i (y := iZ ((1 : Nat) : Int)) (iZ_nat _) ?_
              refine bs_ne (tgt := 109) hx hb dX2_move_70 (by decide) (by omega) (by omega) (by omega) (by omega) (fun p5 => ?_) (fun p5 => ?_)
              · refine lv_aload_n hx hb dX2_move_109 rfl (lv_at hl 0 rfl) ?_
                refine lv_iload_n hx hb dX2_move_110 rfl (lv_at hl 2 rfl) ?_
                refine va_calli (va_runV (As := [.int (nI (k_n))]) (rest := []) ⟨hx, hb, hml, hown, hts⟩ (c_X2_keep l D cA tT A ad _ (sf := va_up sf 0 ((sf (2 + i_n)).1, (sf (2 + i_n)).2.1, (sf (2 + i_n)).2.2 - q)) (x := x) (y := y) (tx := tx) (tl := tl) (k := k_n) h_k hci.2.2.1 (by rw [va_up_ne _ _ (by omega)]; exact c_k) (by rw [va_up_self]; show -2147483648 ≤ (sf (2 + i_n)).2.2 - q; omega) (by rw [va_up_self]; show (sf (2 + i_n)).2.2 - q < 2147483648; omega)) (cwV 1 hts gX2_move_X2_keep rfl rfl rfl (by decide +kernel) ⟨Nat.le_of_ble_eq_true rfl, Nat.le_of_ble_eq_true rfl⟩) (wd_preV (k := 0) hP hK hD hT hS (by decide) cg_0 rfl) rfl rfl hl.1 rfl (lv_room (Nat.le_of_ble_eq_true rfl)) dX2_move_111 ⟨Nat.zero_le _, Nat.zero_le _⟩) hS id_2 id_1 (fun r_ u t H locs ht hvm hw hB hz1 hk1 hS => ?_)
                refine c00 ?_
                obtain ⟨hP, hD⟩ := wd_back ht hB
                clear ht hvm hB hz1 hk1
                obtain ⟨hr_, hu_⟩ := hw
                subst hr_
                rw [hu_] at hP hD
                clear hu_
                have hkc := ci_kp (k := k_n) hci hci.1 hci.2.1
                obtain ⟨a1, a2, -, -⟩ := kp_kpr (va_up sf 0 ((sf (2 + i_n)).1, (sf (2 + i_n)).2.1, (sf (2 + i_n)).2.2 - q)) k_n
                rw [va_up_self, rh_up0] at a1 a2
                have hsp : sp_move (fun i => sf (2 + i)) op (k_n : Int) (i_n : Int) q = kpr (fun i => sf (2 + i)) k_n ((sf (2 + i_n)).1, (sf (2 + i_n)).2.1, (sf (2 + i_n)).2.2 - q) := by rw [sp_move, if_pos (by omega), e_k, e_i, if_neg (by omega)]
                exact W.iret (v := (kp (va_up sf 0 ((sf (2 + i_n)).1, (sf (2 + i_n)).2.1, (sf (2 + i_n)).2.2 - q)) k_n).1) hx hb hr (fun t ht hW => ⟨⟨(kp (va_up sf 0 ((sf (2 + i_n)).1, (sf (2 + i_n)).2.1, (sf (2 + i_n)).2.2 - q)) k_n).1, _, rfl, ⟨by rw [hsp, a1], _, x, y, hkc, by rw [hsp, a2], rfl⟩, wd_end hP hK hD ht hW⟩, hS.F ht⟩) hS.2.2 dX2_move_114
              · refine lv_aload_n hx hb dX2_move_73 rfl (lv_at hl 0 rfl) ?_
                refine rg_2_result hx hb hts in2 hown hK hP 0 (by decide) cg_0 (hts _ (by decide +kernel)) dX2_move_74 ?_
                refine rg_0_scale hx hb hts in0 hown hK hP (7 + 3 * 0) (by omega) (cg_d 0) (hts _ (by decide +kernel)) dX2_move_77 ?_
                refine tp_i (y := iZ ((sf (2 + i_n)).2.2 - q)) (by rw [va_up_self]) ?_
                refine by_ge (tgt := 109) hx hb dX2_move_80 (by decide) (by omega) (by omega) (fun p6 => ?_) (fun p6 => ?_)
                · refine lv_aload_n hx hb dX2_move_109 rfl (lv_at hl 0 rfl) ?_
                  refine lv_iload_n hx hb dX2_move_110 rfl (lv_at hl 2 rfl) ?_
                  refine va_calli (va_runV (As := [.int (nI (k_n))]) (rest := []) ⟨hx, hb, hml, hown, hts⟩ (c_X2_keep l D cA tT A ad _ (sf := va_up sf 0 ((sf (2 + i_n)).1, (sf (2 + i_n)).2.1, (sf (2 + i_n)).2.2 - q)) (x := x) (y := y) (tx := tx) (tl := tl) (k := k_n) h_k hci.2.2.1 (by rw [va_up_ne _ _ (by omega)]; exact c_k) (by rw [va_up_self]; show -2147483648 ≤ (sf (2 + i_n)).2.2 - q; omega) (by rw [va_up_self]; show (sf (2 + i_n)).2.2 - q < 2147483648; omega)) (cwV 1 hts gX2_move_X2_keep rfl rfl rfl (by decide +kernel) ⟨Nat.le_of_ble_eq_true rfl, Nat.le_of_ble_eq_true rfl⟩) (wd_preV (k := 0) hP hK hD hT hS (by decide) cg_0 rfl) rfl rfl hl.1 rfl (lv_room (Nat.le_of_ble_eq_true rfl)) dX2_move_111 ⟨Nat.zero_le _, Nat.zero_le _⟩) hS id_2 id_1 (fun r_ u t H locs ht hvm hw hB hz1 hk1 hS => ?_)
                  refine c00 ?_
                  obtain ⟨hP, hD⟩ := wd_back ht hB
                  clear ht hvm hB hz1 hk1
                  obtain ⟨hr_, hu_⟩ := hw
                  subst hr_
                  rw [hu_] at hP hD
                  clear hu_
                  have hkc := ci_kp (k := k_n) hci hci.1 hci.2.1
                  obtain ⟨a1, a2, -, -⟩ := kp_kpr (va_up sf 0 ((sf (2 + i_n)).1, (sf (2 + i_n)).2.1, (sf (2 + i_n)).2.2 - q)) k_n
                  rw [va_up_self, rh_up0] at a1 a2
                  have hsp : sp_move (fun i => sf (2 + i)) op (k_n : Int) (i_n : Int) q = kpr (fun i => sf (2 + i)) k_n ((sf (2 + i_n)).1, (sf (2 + i_n)).2.1, (sf (2 + i_n)).2.2 - q) := by rw [sp_move, if_pos (by omega), e_k, e_i, if_neg (by omega)]
                  exact W.iret (v := (kp (va_up sf 0 ((sf (2 + i_n)).1, (sf (2 + i_n)).2.1, (sf (2 + i_n)).2.2 - q)) k_n).1) hx hb hr (fun t ht hW => ⟨⟨(kp (va_up sf 0 ((sf (2 + i_n)).1, (sf (2 + i_n)).2.1, (sf (2 + i_n)).2.2 - q)) k_n).1, _, rfl, ⟨by rw [hsp, a1], _, x, y, hkc, by rw [hsp, a2], rfl⟩, wd_end hP hK hD ht hW⟩, hS.F ht⟩) hS.2.2 dX2_move_114
                · refine lv_aload_n hx hb dX2_move_83 rfl (lv_at hl 0 rfl) ?_
                  refine rg_2_result hx hb hts in2 hown hK hP 0 (by decide) cg_0 (hts _ (by decide +kernel)) dX2_move_84 ?_
                  refine rg_0_digits hx hb hts in0 hown hK hP (7 + 3 * 0) (by omega) (cg_d 0) (hts _ (by decide +kernel)) dX2_move_87 ?_
                  refine lv_aload_n hx hb dX2_move_90 rfl (lv_at hl 0 rfl) ?_
                  refine rg_2_result hx hb hts in2 hown hK hP 0 (by decide) cg_0 (hts _ (by decide +kernel)) dX2_move_91 ?_
                  refine rg_0_scale hx hb hts in0 hown hK hP (7 + 3 * 0) (by omega) (cg_d 0) (hts _ (by decide +kernel)) dX2_move_94 ?_
                  refine tp_i (y := iZ ((sf (2 + i_n)).2.2 - q)) (by rw [va_up_self]) ?_
                  refine lv_ineg hx hb dX2_move_97 ?_
                  refine tp_i (y := iZ (-((sf (2 + i_n)).2.2 - q))) (iZ_neg _) ?_
                  refine tp_i (y := nI ((-((sf (2 + i_n)).2.2 - q)).toNat)) (iZ_tn (by omega)) ?_
                  refine va_callv (va_runV (As := [.int (nI ((-((sf (2 + i_n)).2.2 - q)).toNat))]) (rest := []) ⟨hx, hb, hml, hown, hts⟩ (c_X1_raise l D cA tT A 31 ad _ _ (a := 7 + 3 * 0 + 1) (x := (va_up sf 0 ((sf (2 + i_n)).1, (sf (2 + i_n)).2.1, (sf (2 + i_n)).2.2 - q) 0).2.1) (P := (-((sf (2 + i_n)).2.2 - q)).toNat) (by decide) (cg_n 0) (by omega) (by rw [va_up_self]; show nd_s (sf (2 + i_n)).2.1 + (-((sf (2 + i_n)).2.2 - q)).toNat / 6 < 64; omega)) (cwV 1 hts gX2_move_X1_raise rfl rfl rfl (by decide +kernel) ⟨Nat.le_of_ble_eq_true rfl, Nat.le_of_ble_eq_true rfl⟩) (wd_preV (k := 7 + 3 * 0 + 1) hP hK hD hT hS (by decide) (cg_n 0).1 rfl) rfl rfl hl.1 rfl (lv_room (Nat.le_of_ble_eq_true rfl)) dX2_move_98 ⟨Nat.zero_le _, Nat.zero_le _⟩) hS id_2 id_1 (fun u t H locs ht hvm hw hB hz1 hk1 hS => ?_)
                  refine c00 ?_
                  obtain ⟨hP, hD⟩ := wd_back ht hB
                  clear ht hvm hB hz1 hk1
                  rw [hw] at hP hD
                  clear hw
                  rw [cg_upN 0] at hP hD
                  simp only [va_up_self, bx_uu] at hP hD
                  have hm9 := m190 (n := (sf (2 + i_n)).2.1) (P := (-((sf (2 + i_n)).2.2 - q)).toNat) r_i.1 (by omega)
                  generalize hnm : (sf (2 + i_n)).2.1 * 10 ^ (-((sf (2 + i_n)).2.2 - q)).toNat = nm at hm9 hP hD
                  have l36 : 2 * 1000000 ^ 36 < 1000000 ^ 64 := by decide +kernel
                  refine lv_aload_n hx hb dX2_move_101 rfl (lv_at hl 0 rfl) ?_
                  refine rg_2_result hx hb hts in2 hown hK hP 0 (by decide) cg_0 (hts _ (by decide +kernel)) dX2_move_102 ?_
                  refine lv_iconst (v := nI (0)) hx hb dX2_move_105 (by decide) ?_
                  refine tp_i (y := iZ ((0 : Nat) : Int)) (iZ_nat _) ?_
                  refine rp_0_scale hx hb hts in0 hown hK hP hD hS (7 + 3 * 0) (by omega) (cg_d 0) (hts _ (by decide +kernel)) rfl rfl dX2_move_106 (fun H locs hP hD hS => ?_)
                  rw [cg_upS 0 (((0 : Nat) : Int)) rfl] at hP hD
                  simp only [va_up_self, bx_uu] at hP hD
                  have hci := ci_up0 (x1 := x) (y1 := y) (d := ((sf (2 + i_n)).1, nm, ((0 : Nat) : Int))) hc hc.1 hc.2.1 (show nm < 1000000 ^ 64 by omega)
                  refine lv_aload_n hx hb dX2_move_109 rfl (lv_at hl 0 rfl) ?_
                  refine lv_iload_n hx hb dX2_move_110 rfl (lv_at hl 2 rfl) ?_
                  refine va_calli (va_runV (As := [.int (nI (k_n))]) (rest := []) ⟨hx, hb, hml, hown, hts⟩ (c_X2_keep l D cA tT A ad _ (sf := va_up sf 0 ((sf (2 + i_n)).1, nm, ((0 : Nat) : Int))) (x := x) (y := y) (tx := tx) (tl := tl) (k := k_n) h_k hci.2.2.1 (by rw [va_up_ne _ _ (by omega)]; exact c_k) (by rw [va_up_self]; show (-2147483648 : Int) ≤ ((0 : Nat) : Int); decide) (by rw [va_up_self]; show ((0 : Nat) : Int) < 2147483648; decide)) (cwV 1 hts gX2_move_X2_keep rfl rfl rfl (by decide +kernel) ⟨Nat.le_of_ble_eq_true rfl, Nat.le_of_ble_eq_true rfl⟩) (wd_preV (k := 0) hP hK hD hT hS (by decide) cg_0 rfl) rfl rfl hl.1 rfl (lv_room (Nat.le_of_ble_eq_true rfl)) dX2_move_111 ⟨Nat.zero_le _, Nat.zero_le _⟩) hS id_2 id_1 (fun r_ u t H locs ht hvm hw hB hz1 hk1 hS => ?_)
                  refine c00 ?_
                  obtain ⟨hP, hD⟩ := wd_back ht hB
                  clear ht hvm hB hz1 hk1
                  obtain ⟨hr_, hu_⟩ := hw
                  subst hr_
                  rw [hu_] at hP hD
                  clear hu_
                  have hkc := ci_kp (k := k_n) hci hci.1 hci.2.1
                  obtain ⟨a1, a2, -, -⟩ := kp_kpr (va_up sf 0 ((sf (2 + i_n)).1, nm, ((0 : Nat) : Int))) k_n
                  rw [va_up_self, rh_up0] at a1 a2
                  have hsp : sp_move (fun i => sf (2 + i)) op (k_n : Int) (i_n : Int) q = kpr (fun i => sf (2 + i)) k_n ((sf (2 + i_n)).1, nm, ((0 : Nat) : Int)) := by rw [sp_move, if_pos (by omega), e_k, e_i, if_pos (by omega), hnm]; rfl
                  exact W.iret (v := (kp (va_up sf 0 ((sf (2 + i_n)).1, nm, ((0 : Nat) : Int))) k_n).1) hx hb hr (fun t ht hW => ⟨⟨(kp (va_up sf 0 ((sf (2 + i_n)).1, nm, ((0 : Nat) : Int))) k_n).1, _, rfl, ⟨by rw [hsp, a1], _, x, y, hkc, by rw [hsp, a2], rfl⟩, wd_end hP hK hD ht hW⟩, hS.F ht⟩) hS.2.2 dX2_move_114
            · refine lv_iconst (v := iZ (-1)) hx hb dX2_move_39 (by decide) ?_
              exact W.iret (v := iZ (-1)) hx hb hr (fun t ht hW => ⟨⟨iZ (-1), _, rfl, ⟨by rw [sp_move, if_neg (by omega)], sf, x, y, hc, by rw [sp_move, if_neg (by omega)], rfl⟩, wd_end hP hK hD ht hW⟩, hS.F ht⟩) hS.2.2 dX2_move_40
        · refine lv_iconst (v := iZ (-1)) hx hb dX2_move_23 (by decide) ?_
          exact W.iret (v := iZ (-1)) hx hb hr (fun t ht hW => ⟨⟨iZ (-1), _, rfl, ⟨by rw [sp_move, if_neg (by omega)], sf, x, y, hc, by rw [sp_move, if_neg (by omega)], rfl⟩, wd_end hP hK hD ht hW⟩, hS.F ht⟩) hS.2.2 dX2_move_24
