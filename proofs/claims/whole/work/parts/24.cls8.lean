theorem stl_rdn {S : Nat → Bool × Nat × Int} {b : Bool} {z : Int} {X Y : Nat} {way : Int} (h : S 0 = (b, X / Y, z)) : (stl S (X % Y) Y way).1 = (rdn b X Y way).1 ∧ (stl S (X % Y) Y way).2.1 = va_up S 0 (b, (rdn b X Y way).2, z) := by
  have hS : va_up S 0 (b, X / Y, z) = S := by
    funext e
    by_cases q : e = 0
    · subst q; rw [va_up_self, h]
    · rw [va_up_ne _ _ q]
  rw [stl, rdn, h]
  split
  · exact ⟨rfl, hS.symm⟩
  · split
    · exact ⟨rfl, hS.symm⟩
    · dsimp only
      split
      · exact ⟨rfl, rfl⟩
      · exact ⟨rfl, hS.symm⟩
theorem kqr_rks {rh : Nat → Bool × Nat × Int} {k : Nat} {d1 d2 : Bool × Nat × Int} {sc way : Int} (h : rks rh) : rks (kqr rh k d1 d2 sc way).2 := by
  rw [kqr]
  split
  · split
    · exact h
    · exact kpr_rks h
  · exact h
theorem kq_spec (sf : Nat → Bool × Nat × Int) (k e1 e2 : Nat) (sc way : Int) : (kq sf k e1 e2 sc way).1 = (kqr (fun i => sf (2 + i)) k (sf e1) (sf e2) sc way).1 ∧ (fun i => (kq sf k e1 e2 sc way).2 (2 + i)) = (kqr (fun i => sf (2 + i)) k (sf e1) (sf e2) sc way).2 ∧ (kq sf k e1 e2 sc way).2 1 = sf 1 := by
  rw [kq, kqr]
  split
  · have hs := stl_rdn (S := spl sf e1 e2 sc) (b := ((sf e1).1 != (sf e2).1)) (z := sc) (X := qX (sf e1) (sf e2) sc) (Y := qY (sf e1) (sf e2) sc) (way := way) (by rw [spl, va_up_self]; rfl)
    have hq : stl (spl sf e1 e2 sc) (qX (sf e1) (sf e2) sc % qY (sf e1) (sf e2) sc) (qY (sf e1) (sf e2) sc) way = stl (spl sf e1 e2 sc) ((sf e1).2.1 * 10 ^ (sc + (sf e2).2.2 - (sf e1).2.2).toNat % ((sf e2).2.1 * 10 ^ (-(sc + (sf e2).2.2 - (sf e1).2.2)).toNat)) ((sf e2).2.1 * 10 ^ (-(sc + (sf e2).2.2 - (sf e1).2.2)).toNat) way := rfl
    rw [← hq, hs.1, hs.2]
    have hv : ∀ d, va_up (spl sf e1 e2 sc) 0 d = va_up sf 0 d := fun d => by rw [spl, bx_uu]
    rw [hv]
    split
    · refine ⟨rfl, rh_up0, ?_⟩
      dsimp only
      rw [va_up_ne _ _ (show (1 : Nat) ≠ 0 by decide)]
    · obtain ⟨a1, a2, -, a4⟩ := kp_kpr (va_up sf 0 ((sf e1).1 != (sf e2).1, (rdn ((sf e1).1 != (sf e2).1) (qX (sf e1) (sf e2) sc) (qY (sf e1) (sf e2) sc) way).2, sc)) k
      rw [va_up_self, rh_up0] at a1 a2
      exact ⟨a1, a2, a4.trans (va_up_ne _ _ (show (1 : Nat) ≠ 0 by decide))⟩
  · exact ⟨rfl, rfl, rfl⟩
set_option maxHeartbeats 4000000 in
set_option maxRecDepth 100000 in
/-- divide -/
theorem c_X2_divide (l : Launch) (D : va_G) (cA : Nat → ClassId) (tT : Nat) (A : Nat → Prop) (ad : Nat → Nat) (sz : Nat) {sf : Nat → Bool × Nat × Int} {x y : Nat} {tx : Nat → Int32} {tl : Nat} {k i j sc way : Int} (hc : ci sf x y) (k_1 : -2147483648 ≤ k) (k_2 : k < 2147483648) (i_1 : -2147483648 ≤ i) (i_2 : i < 2147483648) (j_1 : -2147483648 ≤ j) (j_2 : j < 2147483648) (sc_1 : -2147483648 ≤ sc) (sc_2 : sc < 2147483648) (way_1 : -2147483648 ≤ way) (way_2 : way < 2147483648) : Met l yX2_divide wsX2_divide ({ frames := 6, cells := 0, slots := 0, locals := 130 }) (va_Pc [.ref (ad 0), .int (iZ (k)), .int (iZ (i)), .int (iZ (j)), .int (iZ (sc)), .int (iZ (way))] (wd_B D cA tT A 31 ad sz (cg cA ad sf x y tx tl))) (va_Qi (fun (r : Int32) (u : Nat → va_E) => r = (sp_divide (fun i => sf (2 + i)) k i j sc way).1 ∧ ∃ sf1 x1 y1, ci sf1 x1 y1 ∧ (fun i => sf1 (2 + i)) = (sp_divide (fun i => sf (2 + i)) k i j sc way).2 ∧ u = cg cA ad sf1 x1 y1 tx tl) (wd_E D cA A 31 ad) A) 0 0 A := by
  refine Met.ofW (cc := cX2_divide) (maxL := 6) (ret := (some .int)) (by decide) rfl ?_
  intro p e s m args below meth c s₁ B hml hv
  obtain ⟨rfl, hsz, hP, hK, hD, hT⟩ := hv
  have hx := B.exec
  have hb := B.bytes
  have hr := B.returns
  have hts := atoms_spec (ws := wsX2_divide) B.pre
  have hown : s.vm.findClass RX2 = some m.cls := findClass_of_methodNamed B.named
  have hlocks := B.notSynchronized
  subst hsz
  have hS : va_S A s.heap s.heap [] := va_S.rf
  have in0 : ∀ w ∈ wsX00, w ∈ wsX2_divide := by decide +kernel
  have in2 : ∀ w ∈ wsX20, w ∈ wsX2_divide := by decide +kernel
  have hl := lv_entry ([.ref (ad 0), .int (iZ (k)), .int (iZ (i)), .int (iZ (j)), .int (iZ (sc)), .int (iZ (way))]) (n := 6) (Nat.le_of_ble_eq_true rfl)
  rw [lg_entry_eq]
  generalize (lg_sl ([.ref (ad 0), .int (iZ (k)), .int (iZ (i)), .int (iZ (j)), .int (iZ (sc)), .int (iZ (way))]) ++ List.replicate (6 - (lg_sl ([.ref (ad 0), .int (iZ (k)), .int (iZ (i)), .int (iZ (j)), .int (iZ (sc)), .int (iZ (way))])).length) Slot.unset).toArray = ls at hl ⊢
  have hl : lv_has ls 6 [(0, .ref (ad 0)), (1, .int (iZ (k))), (2, .int (iZ (i))), (3, .int (iZ (j))), (4, .int (iZ (sc))), (5, .int (iZ (way)))] := hl
  refine lv_iload_n hx hb dX2_divide_0 rfl (lv_at hl 1 rfl) ?_
  refine va_calli (va_runS (As := [.int (iZ (k))]) (rest := []) ⟨hx, hb, hml, hown, hts⟩ (c_X2_isRegister l D cA tT A 31 ad _ _ (k := k) (by omega) (by omega)) (va_cwS 1 hts gX2_divide_X2_isRegister rfl rfl rfl (by decide +kernel) ⟨Nat.le_of_ble_eq_true rfl, Nat.le_of_ble_eq_true rfl⟩) (wd_preS hP hK hD hT hS) rfl rfl hl.1 rfl (lv_room (Nat.le_of_ble_eq_true rfl)) dX2_divide_1 ⟨Nat.zero_le _, Nat.zero_le _⟩) hS id_2 id_1 (fun r_ u t H locs ht hvm hw hB hz1 hk1 hS => ?_)
  refine c00 ?_
  obtain ⟨hP, hD⟩ := wd_back ht hB
  clear ht hvm hB hz1 hk1
  obtain ⟨hr_, hu_⟩ := hw
  subst hr_
  rw [hu_] at hP hD
  clear hu_
  refine bz_eq (tgt := 29) hx hb dX2_divide_4 (by decide) it_lt (fun q_k => ?_) (fun q_k => ?_)
  · have g_k := it_eq q_k
    refine lv_iconst (v := iZ (-1)) hx hb dX2_divide_29 (by decide) ?_
    exact W.iret (v := iZ (-1)) hx hb hr (fun t ht hW => ⟨⟨iZ (-1), _, rfl, ⟨by rw [sp_divide, if_neg (by omega)], sf, x, y, hc, by rw [sp_divide, if_neg (by omega)], rfl⟩, wd_end hP hK hD ht hW⟩, hS.F ht⟩) hS.2.2 dX2_divide_30
  · have g_k := it_ne q_k
    refine lv_iload_n hx hb dX2_divide_7 rfl (lv_at hl 2 rfl) ?_
    refine va_calli (va_runS (As := [.int (iZ (i))]) (rest := []) ⟨hx, hb, hml, hown, hts⟩ (c_X2_isRegister l D cA tT A 31 ad _ _ (k := i) (by omega) (by omega)) (va_cwS 1 hts gX2_divide_X2_isRegister rfl rfl rfl (by decide +kernel) ⟨Nat.le_of_ble_eq_true rfl, Nat.le_of_ble_eq_true rfl⟩) (wd_preS hP hK hD hT hS) rfl rfl hl.1 rfl (lv_room (Nat.le_of_ble_eq_true rfl)) dX2_divide_8 ⟨Nat.zero_le _, Nat.zero_le _⟩) hS id_2 id_1 (fun r_ u t H locs ht hvm hw hB hz1 hk1 hS => ?_)
    refine c00 ?_
    obtain ⟨hP, hD⟩ := wd_back ht hB
    clear ht hvm hB hz1 hk1
    obtain ⟨hr_, hu_⟩ := hw
    subst hr_
    rw [hu_] at hP hD
    clear hu_
    refine bz_eq (tgt := 29) hx hb dX2_divide_11 (by decide) it_lt (fun q_i => ?_) (fun q_i => ?_)
    · have g_i := it_eq q_i
      refine lv_iconst (v := iZ (-1)) hx hb dX2_divide_29 (by decide) ?_
      exact W.iret (v := iZ (-1)) hx hb hr (fun t ht hW => ⟨⟨iZ (-1), _, rfl, ⟨by rw [sp_divide, if_neg (by omega)], sf, x, y, hc, by rw [sp_divide, if_neg (by omega)], rfl⟩, wd_end hP hK hD ht hW⟩, hS.F ht⟩) hS.2.2 dX2_divide_30
    · have g_i := it_ne q_i
      refine lv_iload_n hx hb dX2_divide_14 rfl (lv_at hl 3 rfl) ?_
      refine va_calli (va_runS (As := [.int (iZ (j))]) (rest := []) ⟨hx, hb, hml, hown, hts⟩ (c_X2_isRegister l D cA tT A 31 ad _ _ (k := j) (by omega) (by omega)) (va_cwS 1 hts gX2_divide_X2_isRegister rfl rfl rfl (by decide +kernel) ⟨Nat.le_of_ble_eq_true rfl, Nat.le_of_ble_eq_true rfl⟩) (wd_preS hP hK hD hT hS) rfl rfl hl.1 rfl (lv_room (Nat.le_of_ble_eq_true rfl)) dX2_divide_15 ⟨Nat.zero_le _, Nat.zero_le _⟩) hS id_2 id_1 (fun r_ u t H locs ht hvm hw hB hz1 hk1 hS => ?_)
      refine c00 ?_
      obtain ⟨hP, hD⟩ := wd_back ht hB
      clear ht hvm hB hz1 hk1
      obtain ⟨hr_, hu_⟩ := hw
      subst hr_
      rw [hu_] at hP hD
      clear hu_
      refine bz_eq (tgt := 29) hx hb dX2_divide_18 (by decide) it_lt (fun q_j => ?_) (fun q_j => ?_)
      · have g_j := it_eq q_j
        refine lv_iconst (v := iZ (-1)) hx hb dX2_divide_29 (by decide) ?_
        exact W.iret (v := iZ (-1)) hx hb hr (fun t ht hW => ⟨⟨iZ (-1), _, rfl, ⟨by rw [sp_divide, if_neg (by omega)], sf, x, y, hc, by rw [sp_divide, if_neg (by omega)], rfl⟩, wd_end hP hK hD ht hW⟩, hS.F ht⟩) hS.2.2 dX2_divide_30
      · have g_j := it_ne q_j
        refine lv_iload hx hb dX2_divide_21 (lv_at hl 5 rfl) ?_
        refine va_calli (va_runS (As := [.int (iZ (way))]) (rest := []) ⟨hx, hb, hml, hown, hts⟩ (c_X2_isWay l D cA tT A 31 ad _ _ (k := way) (by omega) (by omega)) (va_cwS 1 hts gX2_divide_X2_isWay rfl rfl rfl (by decide +kernel) ⟨Nat.le_of_ble_eq_true rfl, Nat.le_of_ble_eq_true rfl⟩) (wd_preS hP hK hD hT hS) rfl rfl hl.1 rfl (lv_room (Nat.le_of_ble_eq_true rfl)) dX2_divide_23 ⟨Nat.zero_le _, Nat.zero_le _⟩) hS id_2 id_1 (fun r_ u t H locs ht hvm hw hB hz1 hk1 hS => ?_)
        refine c00 ?_
        obtain ⟨hP, hD⟩ := wd_back ht hB
        clear ht hvm hB hz1 hk1
        obtain ⟨hr_, hu_⟩ := hw
        subst hr_
        rw [hu_] at hP hD
        clear hu_
        refine bz_ne (tgt := 31) hx hb dX2_divide_26 (by decide) it_lt (fun q_way => ?_) (fun q_way => ?_)
        · have g_way := it_ne q_way
          obtain ⟨k_n, h_k, rfl⟩ : ∃ n : Nat, n < 6 ∧ k = (n : Int) := ⟨k.toNat, by omega, by omega⟩
          rw [← iZ_nat k_n] at hl
          have e_k : ((k_n : Nat) : Int).toNat = k_n := Int.toNat_natCast k_n
          have r_k := hc.2.2.2.2 k_n h_k
          have c_k := c64 r_k.1
          simp only [rk] at r_k
          obtain ⟨i_n, h_i, rfl⟩ : ∃ n : Nat, n < 6 ∧ i = (n : Int) := ⟨i.toNat, by omega, by omega⟩
          rw [← iZ_nat i_n] at hl
          have e_i : ((i_n : Nat) : Int).toNat = i_n := Int.toNat_natCast i_n
          have r_i := hc.2.2.2.2 i_n h_i
          have c_i := c64 r_i.1
          simp only [rk] at r_i
          obtain ⟨j_n, h_j, rfl⟩ : ∃ n : Nat, n < 6 ∧ j = (n : Int) := ⟨j.toNat, by omega, by omega⟩
          rw [← iZ_nat j_n] at hl
          have e_j : ((j_n : Nat) : Int).toNat = j_n := Int.toNat_natCast j_n
          have r_j := hc.2.2.2.2 j_n h_j
          have c_j := c64 r_j.1
          simp only [rk] at r_j
          refine lv_aload_n hx hb dX2_divide_31 rfl (lv_at hl 0 rfl) ?_
          refine rg_2_registers hx hb hts in2 hown hK hP 0 (by decide) cg_0 (hts _ (by decide +kernel)) dX2_divide_32 ?_
          refine lv_iload_n hx hb dX2_divide_35 rfl (lv_at hl 3 rfl) ?_
          refine rn_q1 hx hb hK hP 1 (by decide) cg_1 (by omega) (by decide) dX2_divide_36 ?_
          refine tp_v (y := .ref (ad (7 + 3 * (2 + j_n)))) rfl ?_
          refine rg_0_digits hx hb hts in0 hown hK hP (7 + 3 * (2 + j_n)) (by omega) (cg_d (2 + j_n)) (hts _ (by decide +kernel)) dX2_divide_37 ?_
          refine va_calli (va_runV (As := []) (rest := []) ⟨hx, hb, hml, hown, hts⟩ (c_X1_isZero l D cA tT A 31 ad _ _ (a := 7 + 3 * (2 + j_n) + 1) (x := (sf (2 + j_n)).2.1) (by omega) (cg_n _) c_j) (cwV 0 hts gX2_divide_X1_isZero rfl rfl rfl (by decide +kernel) ⟨Nat.le_of_ble_eq_true rfl, Nat.le_of_ble_eq_true rfl⟩) (wd_preV (k := 7 + 3 * (2 + j_n) + 1) hP hK hD hT hS (by omega) (cg_n _).1 rfl) rfl rfl hl.1 rfl (lv_room (Nat.le_of_ble_eq_true rfl)) dX2_divide_40 ⟨Nat.zero_le _, Nat.zero_le _⟩) hS id_2 id_1 (fun r_ u t H locs ht hvm hw hB hz1 hk1 hS => ?_)
          refine c00 ?_
          obtain ⟨hP, hD⟩ := wd_back ht hB
          clear ht hvm hB hz1 hk1
          obtain ⟨hr_, hu_⟩ := hw
          subst hr_
          rw [hu_] at hP hD
          clear hu_
          refine bz_eq (tgt := 49) hx hb dX2_divide_43 (by decide) it_lt (fun q1 => ?_) (fun q1 => ?_)
          · have q2 := it_eq q1
            refine lv_aload_n hx hb dX2_divide_49 rfl (lv_at hl 0 rfl) ?_
            refine lv_iload_n hx hb dX2_divide_50 rfl (lv_at hl 1 rfl) ?_
            refine lv_aload_n hx hb dX2_divide_51 rfl (lv_at hl 0 rfl) ?_
            refine rg_2_registers hx hb hts in2 hown hK hP 0 (by decide) cg_0 (hts _ (by decide +kernel)) dX2_divide_52 ?_
            refine lv_iload_n hx hb dX2_divide_55 rfl (lv_at hl 2 rfl) ?_
            refine rn_q1 hx hb hK hP 1 (by decide) cg_1 (by omega) (by decide) dX2_divide_56 ?_
            refine tp_v (y := .ref (ad (7 + 3 * (2 + i_n)))) rfl ?_
            refine lv_aload_n hx hb dX2_divide_57 rfl (lv_at hl 0 rfl) ?_
            refine rg_2_registers hx hb hts in2 hown hK hP 0 (by decide) cg_0 (hts _ (by decide +kernel)) dX2_divide_58 ?_
            refine lv_iload_n hx hb dX2_divide_61 rfl (lv_at hl 3 rfl) ?_
            refine rn_q1 hx hb hK hP 1 (by decide) cg_1 (by omega) (by decide) dX2_divide_62 ?_
            refine tp_v (y := .ref (ad (7 + 3 * (2 + j_n)))) rfl ?_
            refine lv_iload hx hb dX2_divide_63 (lv_at hl 4 rfl) ?_
            refine lv_iload hx hb dX2_divide_65 (lv_at hl 5 rfl) ?_
            refine va_calli (va_runV (As := [.int (nI (k_n)), .ref (ad (7 + 3 * (2 + i_n))), .ref (ad (7 + 3 * (2 + j_n))), .int (iZ (sc)), .int (iZ (way))]) (rest := []) ⟨hx, hb, hml, hown, hts⟩ (c_X2_keepQuotient l D cA tT A ad _ (sf := sf) (x := x) (y := y) (tx := tx) (tl := tl) (k := k_n) (e1 := 2 + i_n) (e2 := 2 + j_n) (sc := sc) (way := way) (by omega) (by omega) hc.1 hc.2.1 c_i c_j sc_1 sc_2 (by omega) (by omega) (by omega) (by omega) (fun s1 s2 => by have f1 := s190 r_i.1; have f2 := s190 r_j.1; omega) hc.2.2.1 q2 h_k c_k g_way.1 g_way.2 hc.2.2.2.1) (cwV 5 hts gX2_divide_X2_keepQuotient rfl rfl rfl (by decide +kernel) ⟨Nat.le_of_ble_eq_true rfl, Nat.le_of_ble_eq_true rfl⟩) (wd_preV (k := 0) hP hK hD hT hS (by decide) cg_0 rfl) rfl rfl hl.1 rfl (lv_room (Nat.le_of_ble_eq_true rfl)) dX2_divide_67 ⟨Nat.zero_le _, Nat.zero_le _⟩) hS id_2 id_1 (fun r_ u t H locs ht hvm hw hB hz1 hk1 hS => ?_)
            refine c00 ?_
            obtain ⟨hP, hD⟩ := wd_back ht hB
            clear ht hvm hB hz1 hk1
            obtain ⟨hr_, x1, y1, hx1, hy1, h01, hu_⟩ := hw
            subst hr_
            rw [hu_] at hP hD
            clear hu_
            obtain ⟨a1, a2, a3⟩ := kq_spec sf k_n (2 + i_n) (2 + j_n) sc way
            have hci : ci (kq sf k_n (2 + i_n) (2 + j_n) sc way).2 x1 y1 := ⟨hx1, hy1, h01, a3.trans hc.2.2.2.1, by rw [a2]; exact kqr_rks hc.2.2.2.2⟩
            have hsp : sp_divide (fun i => sf (2 + i)) (k_n : Int) (i_n : Int) (j_n : Int) sc way = kqr (fun i => sf (2 + i)) k_n (sf (2 + i_n)) (sf (2 + j_n)) sc way := by rw [sp_divide, if_pos (by omega), e_j, if_neg q2, e_i, e_k]
            exact W.iret (v := (kq sf k_n (2 + i_n) (2 + j_n) sc way).1) hx hb hr (fun t ht hW => ⟨⟨(kq sf k_n (2 + i_n) (2 + j_n) sc way).1, _, rfl, ⟨by rw [hsp, a1], _, x1, y1, hci, by rw [hsp, a2], rfl⟩, wd_end hP hK hD ht hW⟩, hS.F ht⟩) hS.2.2 dX2_divide_70
          · have q2 := it_ne q1
            refine lv_bipush (v := iZ (-2)) hx hb dX2_divide_46 (by decide) ?_
            exact W.iret (v := iZ (-2)) hx hb hr (fun t ht hW => ⟨⟨iZ (-2), _, rfl, ⟨by rw [sp_divide, if_pos (by omega), e_j, if_pos q2], sf, x, y, hc, by rw [sp_divide, if_pos (by omega), e_j, if_pos q2], rfl⟩, wd_end hP hK hD ht hW⟩, hS.F ht⟩) hS.2.2 dX2_divide_48
        · have g_way := it_eq q_way
          refine lv_iconst (v := iZ (-1)) hx hb dX2_divide_29 (by decide) ?_
          exact W.iret (v := iZ (-1)) hx hb hr (fun t ht hW => ⟨⟨iZ (-1), _, rfl, ⟨by rw [sp_divide, if_neg (by omega)], sf, x, y, hc, by rw [sp_divide, if_neg (by omega)], rfl⟩, wd_end hP hK hD ht hW⟩, hS.F ht⟩) hS.2.2 dX2_divide_30
set_option maxHeartbeats 4000000 in
set_option maxRecDepth 100000 in
/-- scale -/
theorem c_X2_scale (l : Launch) (D : va_G) (cA : Nat → ClassId) (tT : Nat) (A : Nat → Prop) (ad : Nat → Nat) (sz : Nat) {sf : Nat → Bool × Nat × Int} {x y : Nat} {tx : Nat → Int32} {tl : Nat} {k i sc way : Int} (hc : ci sf x y) (k_1 : -2147483648 ≤ k) (k_2 : k < 2147483648) (i_1 : -2147483648 ≤ i) (i_2 : i < 2147483648) (sc_1 : -2147483648 ≤ sc) (sc_2 : sc < 2147483648) (way_1 : -2147483648 ≤ way) (way_2 : way < 2147483648) : Met l yX2_scale wsX2_scale ({ frames := 6, cells := 0, slots := 0, locals := 130 }) (va_Pc [.ref (ad 0), .int (iZ (k)), .int (iZ (i)), .int (iZ (sc)), .int (iZ (way))] (wd_B D cA tT A 31 ad sz (cg cA ad sf x y tx tl))) (va_Qi (fun (r : Int32) (u : Nat → va_E) => r = (sp_scale (fun i => sf (2 + i)) k i sc way).1 ∧ ∃ sf1 x1 y1, ci sf1 x1 y1 ∧ (fun i => sf1 (2 + i)) = (sp_scale (fun i => sf (2 + i)) k i sc way).2 ∧ u = cg cA ad sf1 x1 y1 tx tl) (wd_E D cA A 31 ad) A) 0 0 A := by
  refine Met.ofW (cc := cX2_scale) (maxL := 5) (ret := (some .int)) (by decide) rfl ?_
  intro p e s m args below meth c s₁ B hml hv
  obtain ⟨rfl, hsz, hP, hK, hD, hT⟩ := hv
  have hx := B.exec
  have hb := B.bytes
  have hr := B.returns
  have hts := atoms_spec (ws := wsX2_scale) B.pre
  have hown : s.vm.findClass RX2 = some m.cls := findClass_of_methodNamed B.named
  have hlocks := B.notSynchronized
  subst hsz
  have hS : va_S A s.heap s.heap [] := va_S.rf
  have in0 : ∀ w ∈ wsX00, w ∈ wsX2_scale := by decide +kernel
  have in2 : ∀ w ∈ wsX20, w ∈ wsX2_scale := by decide +kernel
  have hl := lv_entry ([.ref (ad 0), .int (iZ (k)), .int (iZ (i)), .int (iZ (sc)), .int (iZ (way))]) (n := 5) (Nat.le_of_ble_eq_true rfl)
  rw [lg_entry_eq]
  generalize (lg_sl ([.ref (ad 0), .int (iZ (k)), .int (iZ (i)), .int (iZ (sc)), .int (iZ (way))]) ++ List.replicate (5 - (lg_sl ([.ref (ad 0), .int (iZ (k)), .int (iZ (i)), .int (iZ (sc)), .int (iZ (way))])).length) Slot.unset).toArray = ls at hl ⊢
  have hl : lv_has ls 5 [(0, .ref (ad 0)), (1, .int (iZ (k))), (2, .int (iZ (i))), (3, .int (iZ (sc))), (4, .int (iZ (way)))] := hl
  refine lv_iload_n hx hb dX2_scale_0 rfl (lv_at hl 1 rfl) ?_
  refine va_calli (va_runS (As := [.int (iZ (k))]) (rest := []) ⟨hx, hb, hml, hown, hts⟩ (c_X2_isRegister l D cA tT A 31 ad _ _ (k := k) (by omega) (by omega)) (va_cwS 1 hts gX2_scale_X2_isRegister rfl rfl rfl (by decide +kernel) ⟨Nat.le_of_ble_eq_true rfl, Nat.le_of_ble_eq_true rfl⟩) (wd_preS hP hK hD hT hS) rfl rfl hl.1 rfl (lv_room (Nat.le_of_ble_eq_true rfl)) dX2_scale_1 ⟨Nat.zero_le _, Nat.zero_le _⟩) hS id_2 id_1 (fun r_ u t H locs ht hvm hw hB hz1 hk1 hS => ?_)
  refine c00 ?_
  obtain ⟨hP, hD⟩ := wd_back ht hB
  clear ht hvm hB hz1 hk1
  obtain ⟨hr_, hu_⟩ := hw
  subst hr_
  rw [hu_] at hP hD
  clear hu_
  refine bz_eq (tgt := 22) hx hb dX2_scale_4 (by decide) it_lt (fun q_k => ?_) (fun q_k => ?_)
  · have g_k := it_eq q_k
    refine lv_iconst (v := iZ (-1)) hx hb dX2_scale_22 (by decide) ?_
    exact W.iret (v := iZ (-1)) hx hb hr (fun t ht hW => ⟨⟨iZ (-1), _, rfl, ⟨by rw [sp_scale, if_neg (by omega)], sf, x, y, hc, by rw [sp_scale, if_neg (by omega)], rfl⟩, wd_end hP hK hD ht hW⟩, hS.F ht⟩) hS.2.2 dX2_scale_23
  · have g_k := it_ne q_k
    refine lv_iload_n hx hb dX2_scale_7 rfl (lv_at hl 2 rfl) ?_
    refine va_calli (va_runS (As := [.int (iZ (i))]) (rest := []) ⟨hx, hb, hml, hown, hts⟩ (c_X2_isRegister l D cA tT A 31 ad _ _ (k := i) (by omega) (by omega)) (va_cwS 1 hts gX2_scale_X2_isRegister rfl rfl rfl (by decide +kernel) ⟨Nat.le_of_ble_eq_true rfl, Nat.le_of_ble_eq_true rfl⟩) (wd_preS hP hK hD hT hS) rfl rfl hl.1 rfl (lv_room (Nat.le_of_ble_eq_true rfl)) dX2_scale_8 ⟨Nat.zero_le _, Nat.zero_le _⟩) hS id_2 id_1 (fun r_ u t H locs ht hvm hw hB hz1 hk1 hS => ?_)
    refine c00 ?_
    obtain ⟨hP, hD⟩ := wd_back ht hB
    clear ht hvm hB hz1 hk1
    obtain ⟨hr_, hu_⟩ := hw
    subst hr_
    rw [hu_] at hP hD
    clear hu_
    refine bz_eq (tgt := 22) hx hb dX2_scale_11 (by decide) it_lt (fun q_i => ?_) (fun q_i => ?_)
    · have g_i := it_eq q_i
      refine lv_iconst (v := iZ (-1)) hx hb dX2_scale_22 (by decide) ?_
      exact W.iret (v := iZ (-1)) hx hb hr (fun t ht hW => ⟨⟨iZ (-1), _, rfl, ⟨by rw [sp_scale, if_neg (by omega)], sf, x, y, hc, by rw [sp_scale, if_neg (by omega)], rfl⟩, wd_end hP hK hD ht hW⟩, hS.F ht⟩) hS.2.2 dX2_scale_23
    · have g_i := it_ne q_i
      refine lv_iload hx hb dX2_scale_14 (lv_at hl 4 rfl) ?_
      refine va_calli (va_runS (As := [.int (iZ (way))]) (rest := []) ⟨hx, hb, hml, hown, hts⟩ (c_X2_isWay l D cA tT A 31 ad _ _ (k := way) (by omega) (by omega)) (va_cwS 1 hts gX2_scale_X2_isWay rfl rfl rfl (by decide +kernel) ⟨Nat.le_of_ble_eq_true rfl, Nat.le_of_ble_eq_true rfl⟩) (wd_preS hP hK hD hT hS) rfl rfl hl.1 rfl (lv_room (Nat.le_of_ble_eq_true rfl)) dX2_scale_16 ⟨Nat.zero_le _, Nat.zero_le _⟩) hS id_2 id_1 (fun r_ u t H locs ht hvm hw hB hz1 hk1 hS => ?_)
      refine c00 ?_
      obtain ⟨hP, hD⟩ := wd_back ht hB
      clear ht hvm hB hz1 hk1
      obtain ⟨hr_, hu_⟩ := hw
      subst hr_
      rw [hu_] at hP hD
      clear hu_
      refine bz_ne (tgt := 24) hx hb dX2_scale_19 (by decide) it_lt (fun q_way => ?_) (fun q_way => ?_)
      · have g_way := it_ne q_way
        obtain ⟨k_n, h_k, rfl⟩ : ∃ n : Nat, n < 6 ∧ k = (n : Int) := ⟨k.toNat, by omega, by omega⟩
        rw [← iZ_nat k_n] at hl
        have e_k : ((k_n : Nat) : Int).toNat = k_n := Int.toNat_natCast k_n
        have r_k := hc.2.2.2.2 k_n h_k
        have c_k := c64 r_k.1
        simp only [rk] at r_k
        obtain ⟨i_n, h_i, rfl⟩ : ∃ n : Nat, n < 6 ∧ i = (n : Int) := ⟨i.toNat, by omega, by omega⟩
        rw [← iZ_nat i_n] at hl
        have e_i : ((i_n : Nat) : Int).toNat = i_n := Int.toNat_natCast i_n
        have r_i := hc.2.2.2.2 i_n h_i
        have c_i := c64 r_i.1
        simp only [rk] at r_i
        have h1s := hc.2.2.2.1
        have h11 : (sf 1).2.1 = 1 := by rw [h1s]
        have h12 : (sf 1).2.2 = 0 := by rw [h1s]
        have hs1 : nd_s (sf 1).2.1 = 1 := by rw [h11]; decide +kernel
        refine lv_aload_n hx hb dX2_scale_24 rfl (lv_at hl 0 rfl) ?_
        refine lv_iload_n hx hb dX2_scale_25 rfl (lv_at hl 1 rfl) ?_
        refine lv_aload_n hx hb dX2_scale_26 rfl (lv_at hl 0 rfl) ?_
        refine rg_2_registers hx hb hts in2 hown hK hP 0 (by decide) cg_0 (hts _ (by decide +kernel)) dX2_scale_27 ?_
        refine lv_iload_n hx hb dX2_scale_30 rfl (lv_at hl 2 rfl) ?_
        refine rn_q1 hx hb hK hP 1 (by decide) cg_1 (by omega) (by decide) dX2_scale_31 ?_
        refine tp_v (y := .ref (ad (7 + 3 * (2 + i_n)))) rfl ?_
        refine lv_aload_n hx hb dX2_scale_32 rfl (lv_at hl 0 rfl) ?_
        refine rg_2_one hx hb hts in2 hown hK hP 0 (by decide) cg_0 (hts _ (by decide +kernel)) dX2_scale_33 ?_
        refine lv_iload_n hx hb dX2_scale_36 rfl (lv_at hl 3 rfl) ?_
        refine lv_iload hx hb dX2_scale_37 (lv_at hl 4 rfl) ?_
        refine va_calli (va_runV (As := [.int (nI (k_n)), .ref (ad (7 + 3 * (2 + i_n))), .ref (ad (7 + 3 * 1)), .int (iZ (sc)), .int (iZ (way))]) (rest := []) ⟨hx, hb, hml, hown, hts⟩ (c_X2_keepQuotient l D cA tT A ad _ (sf := sf) (x := x) (y := y) (tx := tx) (tl := tl) (k := k_n) (e1 := 2 + i_n) (e2 := 1) (sc := sc) (way := way) (by omega) (by omega) hc.1 hc.2.1 c_i (by rw [h11]; decide) sc_1 sc_2 (by omega) (by omega) (by omega) (by omega) (fun s1 s2 => by have f1 := s190 r_i.1; omega) hc.2.2.1 (by rw [h11]; decide) h_k c_k g_way.1 g_way.2 hc.2.2.2.1) (cwV 5 hts gX2_scale_X2_keepQuotient rfl rfl rfl (by decide +kernel) ⟨Nat.le_of_ble_eq_true rfl, Nat.le_of_ble_eq_true rfl⟩) (wd_preV (k := 0) hP hK hD hT hS (by decide) cg_0 rfl) rfl rfl hl.1 rfl (lv_room (Nat.le_of_ble_eq_true rfl)) dX2_scale_39 ⟨Nat.zero_le _, Nat.zero_le _⟩) hS id_2 id_1 (fun r_ u t H locs ht hvm hw hB hz1 hk1 hS => ?_)
        refine c00 ?_
        obtain ⟨hP, hD⟩ := wd_back ht hB
        clear ht hvm hB hz1 hk1
        obtain ⟨hr_, x1, y1, hx1, hy1, h01, hu_⟩ := hw
        subst hr_
        rw [hu_] at hP hD
        clear hu_
        obtain ⟨a1, a2, a3⟩ := kq_spec sf k_n (2 + i_n) (1) sc way
        have hci : ci (kq sf k_n (2 + i_n) (1) sc way).2 x1 y1 := ⟨hx1, hy1, h01, a3.trans hc.2.2.2.1, by rw [a2]; exact kqr_rks hc.2.2.2.2⟩
        have hsp : sp_scale (fun i => sf (2 + i)) (k_n : Int) (i_n : Int) sc way = kqr (fun i => sf (2 + i)) k_n (sf (2 + i_n)) (sf (1)) sc way := by rw [sp_scale, if_pos (by omega), e_i, e_k, h1s]
        exact W.iret (v := (kq sf k_n (2 + i_n) (1) sc way).1) hx hb hr (fun t ht hW => ⟨⟨(kq sf k_n (2 + i_n) (1) sc way).1, _, rfl, ⟨by rw [hsp, a1], _, x1, y1, hci, by rw [hsp, a2], rfl⟩, wd_end hP hK hD ht hW⟩, hS.F ht⟩) hS.2.2 dX2_scale_42
      · have g_way := it_eq q_way
        refine lv_iconst (v := iZ (-1)) hx hb dX2_scale_22 (by decide) ?_
        exact W.iret (v := iZ (-1)) hx hb hr (fun t ht hW => ⟨⟨iZ (-1), _, rfl, ⟨by rw [sp_scale, if_neg (by omega)], sf, x, y, hc, by rw [sp_scale, if_neg (by omega)], rfl⟩, wd_end hP hK hD ht hW⟩, hS.F ht⟩) hS.2.2 dX2_scale_23
theorem cmpD_b (d1 d2 : Bool × Nat × Int) : -2 < cmpD d1 d2 ∧ cmpD d1 d2 < 2 := by
  rw [cmpD]
  split
  · split
    · exact odI_b _ _
    · exact odI_b _ _
  · split <;> decide
theorem sm_b {d1 d2 : Bool × Nat × Int} {mb : Bool} (h1 : rk d1) (h2 : rk d2) : (sm d1 d2 mb).2.1 < 1000000 ^ 64 ∧ -6 ≤ (sm d1 d2 mb).2.2 ∧ (sm d1 d2 mb).2.2 ≤ 6 := by
  obtain ⟨a1, a2, a3, -⟩ := h1
  obtain ⟨b1, b2, b3, -⟩ := h2
  have lX := aX_lt (d1 := d1) (d2 := d2) a1 (by omega)
  have lY := aX_lt (d1 := d2) (d2 := d1) b1 (by omega)
  have l36 : 2 * 1000000 ^ 36 < 1000000 ^ 64 := by decide +kernel
  rw [sm]
  generalize aX d1 d2 = X at *
  generalize aX d2 d1 = Y at *
  split
  · refine ⟨?_, ?_, ?_⟩
    · show X + Y < 1000000 ^ 64; omega
    · show -6 ≤ max d1.2.2 d2.2.2; omega
    · show max d1.2.2 d2.2.2 ≤ 6; omega
  · split
    · refine ⟨?_, ?_, ?_⟩
      · show X - Y < 1000000 ^ 64; omega
      · show -6 ≤ max d1.2.2 d2.2.2; omega
      · show max d1.2.2 d2.2.2 ≤ 6; omega
    · refine ⟨?_, ?_, ?_⟩
      · show Y - X < 1000000 ^ 64; omega
      · show -6 ≤ max d1.2.2 d2.2.2; omega
      · show max d1.2.2 d2.2.2 ≤ 6; omega
set_option maxHeartbeats 4000000 in
set_option maxRecDepth 100000 in
/-- reckon -/
theorem c_X2_reckon (l : Launch) (D : va_G) (cA : Nat → ClassId) (tT : Nat) (A : Nat → Prop) (ad : Nat → Nat) (sz : Nat) {sf : Nat → Bool × Nat × Int} {x y : Nat} {tx : Nat → Int32} {tl : Nat} {op k i j : Int} (hc : ci sf x y) (op_1 : -2147483648 ≤ op) (op_2 : op < 2147483648) (k_1 : -2147483648 ≤ k) (k_2 : k < 2147483648) (i_1 : -2147483648 ≤ i) (i_2 : i < 2147483648) (j_1 : -2147483648 ≤ j) (j_2 : j < 2147483648) : Met l yX2_reckon wsX2_reckon ({ frames := 5, cells := 0, slots := 0, locals := 105 }) (va_Pc [.ref (ad 0), .int (iZ (op)), .int (iZ (k)), .int (iZ (i)), .int (iZ (j))] (wd_B D cA tT A 31 ad sz (cg cA ad sf x y tx tl))) (va_Qi (fun (r : Int32) (u : Nat → va_E) => r = (sp_reckon (fun i => sf (2 + i)) op k i j).1 ∧ ∃ sf1 x1 y1, ci sf1 x1 y1 ∧ (fun i => sf1 (2 + i)) = (sp_reckon (fun i => sf (2 + i)) op k i j).2 ∧ u = cg cA ad sf1 x1 y1 tx tl) (wd_E D cA A 31 ad) A) 0 0 A := by
  refine Met.ofW (cc := cX2_reckon) (maxL := 7) (ret := (some .int)) (by decide) rfl ?_
  intro p e s m args below meth c s₁ B hml hv
  obtain ⟨rfl, hsz, hP, hK, hD, hT⟩ := hv
  have hx := B.exec
  have hb := B.bytes
  have hr := B.returns
  have hts := atoms_spec (ws := wsX2_reckon) B.pre
  have hown : s.vm.findClass RX2 = some m.cls := findClass_of_methodNamed B.named
  have hlocks := B.notSynchronized
  subst hsz
  have hS : va_S A s.heap s.heap [] := va_S.rf
  have in0 : ∀ w ∈ wsX00, w ∈ wsX2_reckon := by decide +kernel
  have in2 : ∀ w ∈ wsX20, w ∈ wsX2_reckon := by decide +kernel
  have hl := lv_entry ([.ref (ad 0), .int (iZ (op)), .int (iZ (k)), .int (iZ (i)), .int (iZ (j))]) (n := 7) (Nat.le_of_ble_eq_true rfl)
  rw [lg_entry_eq]
  generalize (lg_sl ([.ref (ad 0), .int (iZ (op)), .int (iZ (k)), .int (iZ (i)), .int (iZ (j))]) ++ List.replicate (7 - (lg_sl ([.ref (ad 0), .int (iZ (op)), .int (iZ (k)), .int (iZ (i)), .int (iZ (j))])).length) Slot.unset).toArray = ls at hl ⊢
  have hl : lv_has ls 7 [(0, .ref (ad 0)), (1, .int (iZ (op))), (2, .int (iZ (k))), (3, .int (iZ (i))), (4, .int (iZ (j)))] := hl
  refine lv_iload_n hx hb dX2_reckon_0 rfl (lv_at hl 2 rfl) ?_
  refine va_calli (va_runS (As := [.int (iZ (k))]) (rest := []) ⟨hx, hb, hml, hown, hts⟩ (c_X2_isRegister l D cA tT A 31 ad _ _ (k := k) (by omega) (by omega)) (va_cwS 1 hts gX2_reckon_X2_isRegister rfl rfl rfl (by decide +kernel) ⟨Nat.le_of_ble_eq_true rfl, Nat.le_of_ble_eq_true rfl⟩) (wd_preS hP hK hD hT hS) rfl rfl hl.1 rfl (lv_room (Nat.le_of_ble_eq_true rfl)) dX2_reckon_1 ⟨Nat.zero_le _, Nat.zero_le _⟩) hS id_2 id_1 (fun r_ u t H locs ht hvm hw hB hz1 hk1 hS => ?_)
  refine c00 ?_
  obtain ⟨hP, hD⟩ := wd_back ht hB
  clear ht hvm hB hz1 hk1
  obtain ⟨hr_, hu_⟩ := hw
  subst hr_
  rw [hu_] at hP hD
  clear hu_
  refine bz_eq (tgt := 22) hx hb dX2_reckon_4 (by decide) it_lt (fun q_k => ?_) (fun q_k => ?_)
  · have g_k := it_eq q_k
    refine lv_iconst (v := iZ (-1)) hx hb dX2_reckon_22 (by decide) ?_
    exact W.iret (v := iZ (-1)) hx hb hr (fun t ht hW => ⟨⟨iZ (-1), _, rfl, ⟨by rw [sp_reckon, if_neg (by omega)], sf, x, y, hc, by rw [sp_reckon, if_neg (by omega)], rfl⟩, wd_end hP hK hD ht hW⟩, hS.F ht⟩) hS.2.2 dX2_reckon_23
  · have g_k := it_ne q_k
    refine lv_iload_n hx hb dX2_reckon_7 rfl (lv_at hl 3 rfl) ?_
    refine va_calli (va_runS (As := [.int (iZ (i))]) (rest := []) ⟨hx, hb, hml, hown, hts⟩ (c_X2_isRegister l D cA tT A 31 ad _ _ (k := i) (by omega) (by omega)) (va_cwS 1 hts gX2_reckon_X2_isRegister rfl rfl rfl (by decide +kernel) ⟨Nat.le_of_ble_eq_true rfl, Nat.le_of_ble_eq_true rfl⟩) (wd_preS hP hK hD hT hS) rfl rfl hl.1 rfl (lv_room (Nat.le_of_ble_eq_true rfl)) dX2_reckon_8 ⟨Nat.zero_le _, Nat.zero_le _⟩) hS id_2 id_1 (fun r_ u t H locs ht hvm hw hB hz1 hk1 hS => ?_)
    refine c00 ?_
    obtain ⟨hP, hD⟩ := wd_back ht hB
    clear ht hvm hB hz1 hk1
    obtain ⟨hr_, hu_⟩ := hw
    subst hr_
    rw [hu_] at hP hD
    clear hu_
    refine bz_eq (tgt := 22) hx hb dX2_reckon_11 (by decide) it_lt (fun q_i => ?_) (fun q_i => ?_)
    · have g_i := it_eq q_i
      refine lv_iconst (v := iZ (-1)) hx hb dX2_reckon_22 (by decide) ?_
      exact W.iret (v := iZ (-1)) hx hb hr (fun t ht hW => ⟨⟨iZ (-1), _, rfl, ⟨by rw [sp_reckon, if_neg (by omega)], sf, x, y, hc, by rw [sp_reckon, if_neg (by omega)], rfl⟩, wd_end hP hK hD ht hW⟩, hS.F ht⟩) hS.2.2 dX2_reckon_23
    · have g_i := it_ne q_i
      refine lv_iload hx hb dX2_reckon_14 (lv_at hl 4 rfl) ?_
      refine va_calli (va_runS (As := [.int (iZ (j))]) (rest := []) ⟨hx, hb, hml, hown, hts⟩ (c_X2_isRegister l D cA tT A 31 ad _ _ (k := j) (by omega) (by omega)) (va_cwS 1 hts gX2_reckon_X2_isRegister rfl rfl rfl (by decide +kernel) ⟨Nat.le_of_ble_eq_true rfl, Nat.le_of_ble_eq_true rfl⟩) (wd_preS hP hK hD hT hS) rfl rfl hl.1 rfl (lv_room (Nat.le_of_ble_eq_true rfl)) dX2_reckon_16 ⟨Nat.zero_le _, Nat.zero_le _⟩) hS id_2 id_1 (fun r_ u t H locs ht hvm hw hB hz1 hk1 hS => ?_)
      refine c00 ?_
      obtain ⟨hP, hD⟩ := wd_back ht hB
      clear ht hvm hB hz1 hk1
      obtain ⟨hr_, hu_⟩ := hw
      subst hr_
      rw [hu_] at hP hD
      clear hu_
      refine bz_ne (tgt := 24) hx hb dX2_reckon_19 (by decide) it_lt (fun q_j => ?_) (fun q_j => ?_)
      · have g_j := it_ne q_j
        obtain ⟨k_n, h_k, rfl⟩ : ∃ n : Nat, n < 6 ∧ k = (n : Int) := ⟨k.toNat, by omega, by omega⟩
        rw [← iZ_nat k_n] at hl
        have e_k : ((k_n : Nat) : Int).toNat = k_n := Int.toNat_natCast k_n
        have r_k := hc.2.2.2.2 k_n h_k
        have c_k := c64 r_k.1
        simp only [rk] at r_k
        obtain ⟨i_n, h_i, rfl⟩ : ∃ n : Nat, n < 6 ∧ i = (n : Int) := ⟨i.toNat, by omega, by omega⟩
        rw [← iZ_nat i_n] at hl
        have e_i : ((i_n : Nat) : Int).toNat = i_n := Int.toNat_natCast i_n
        have r_i := hc.2.2.2.2 i_n h_i
        have c_i := c64 r_i.1
        simp only [rk] at r_i
        obtain ⟨j_n, h_j, rfl⟩ : ∃ n : Nat, n < 6 ∧ j = (n : Int) := ⟨j.toNat, by omega, by omega⟩
        rw [← iZ_nat j_n] at hl
        have e_j : ((j_n : Nat) : Int).toNat = j_n := Int.toNat_natCast j_n
        have r_j := hc.2.2.2.2 j_n h_j
        have c_j := c64 r_j.1
        simp only [rk] at r_j
        have t1 := tn_le (sf (2 + i_n)).1
        have t2 := tn_le (sf (2 + j_n)).1
        have ki : rk (sf (2 + i_n)) := r_i
        have kj : rk (sf (2 + j_n)) := r_j
        refine lv_aload_n hx hb dX2_reckon_24 rfl (lv_at hl 0 rfl) ?_
        refine rg_2_registers hx hb hts in2 hown hK hP 0 (by decide) cg_0 (hts _ (by decide +kernel)) dX2_reckon_25 ?_
        refine lv_iload_n hx hb dX2_reckon_28 rfl (lv_at hl 3 rfl) ?_
        refine rn_q1 hx hb hK hP 1 (by decide) cg_1 (by omega) (by decide) dX2_reckon_29 ?_
        refine tp_v (y := .ref (ad (7 + 3 * (2 + i_n)))) rfl ?_
        refine lv_astore (lv' := [(5, .ref (ad (7 + 3 * (2 + i_n)))), (0, .ref (ad 0)), (1, .int (iZ (op))), (2, .int (nI (k_n))), (3, .int (nI (i_n))), (4, .int (nI (j_n)))]) hx hb dX2_reckon_30 hl (by decide) rfl (fun ls hl => ?_)
        refine lv_aload_n hx hb dX2_reckon_32 rfl (lv_at hl 1 rfl) ?_
        refine rg_2_registers hx hb hts in2 hown hK hP 0 (by decide) cg_0 (hts _ (by decide +kernel)) dX2_reckon_33 ?_
        refine lv_iload hx hb dX2_reckon_36 (lv_at hl 5 rfl) ?_
        refine rn_q1 hx hb hK hP 1 (by decide) cg_1 (by omega) (by decide) dX2_reckon_38 ?_
        refine tp_v (y := .ref (ad (7 + 3 * (2 + j_n)))) rfl ?_
        refine lv_astore (lv' := [(6, .ref (ad (7 + 3 * (2 + j_n)))), (5, .ref (ad (7 + 3 * (2 + i_n)))), (0, .ref (ad 0)), (1, .int (iZ (op))), (2, .int (nI (k_n))), (3, .int (nI (i_n))), (4, .int (nI (j_n)))]) hx hb dX2_reckon_39 hl (by decide) rfl (fun ls hl => ?_)
        refine lv_iload_n hx hb dX2_reckon_41 rfl (lv_at hl 3 rfl) ?_
        rcases (show op = 0 ∨ op = 1 ∨ op = 2 ∨ op = 3 ∨ op = 4 ∨ (op < 0 ∨ 4 < op) by omega) with hw | hw | hw | hw | hw | hw
        · subst hw
          refine lv_tableIn (off := 34) (tgt := 76) hx hb dX2_reckon_42 (by rw [tI (by decide) (by decide)]; decide) (by rw [tI (by decide) (by decide)]; decide) (by rw [tI (by decide) (by decide)]; rfl) (by decide) ?_
          refine lv_aload_n hx hb dX2_reckon_76 rfl (lv_at hl 2 rfl) ?_
          refine lv_aload hx hb dX2_reckon_77 (lv_at hl 1 rfl) ?_
          refine lv_aload hx hb dX2_reckon_79 (lv_at hl 0 rfl) ?_
          refine lv_aload hx hb dX2_reckon_81 (lv_at hl 0 rfl) ?_
          refine rg_0_minus hx hb hts in0 hown hK hP (7 + 3 * (2 + j_n)) (by omega) (cg_d (2 + j_n)) (hts _ (by decide +kernel)) dX2_reckon_83 ?_
          refine va_callv (va_runV (As := [.ref (ad (7 + 3 * (2 + i_n))), .ref (ad (7 + 3 * (2 + j_n))), .int (nI ((sf (2 + j_n)).1.toNat))]) (rest := []) ⟨hx, hb, hml, hown, hts⟩ (c_X2_addUp l D cA tT A ad _ (sf := sf) (x := x) (y := y) (tx := tx) (tl := tl) (e1 := 2 + i_n) (e2 := 2 + j_n) (mb := (sf (2 + j_n)).1) (by omega) (by omega) r_i.1 r_j.1 (by omega) (by omega) (by omega) (by omega) hc.1 hc.2.1 hc.2.2.1) (cwV 3 hts gX2_reckon_X2_addUp rfl rfl rfl (by decide +kernel) ⟨Nat.le_of_ble_eq_true rfl, Nat.le_of_ble_eq_true rfl⟩) (wd_preV (k := 0) hP hK hD hT hS (by decide) cg_0 rfl) rfl rfl hl.1 rfl (lv_room (Nat.le_of_ble_eq_true rfl)) dX2_reckon_86 ⟨Nat.zero_le _, Nat.zero_le _⟩) hS id_2 id_1 (fun u t H locs ht hvm hw hB hz1 hk1 hS => ?_)
          refine c00 ?_
          obtain ⟨hP, hD⟩ := wd_back ht hB
          clear ht hvm hB hz1 hk1
          obtain ⟨x1, y1, hx1, hy1, hu_⟩ := hw
          rw [hu_] at hP hD
          clear hu_
          have hsb := sm_b (mb := (sf (2 + j_n)).1) ki kj
          have hci := ci_up0 (x1 := x1) (y1 := y1) (d := (sm (sf (2 + i_n)) (sf (2 + j_n)) (sf (2 + j_n)).1)) hc hx1 hy1 hsb.1
          refine lv_goto (tgt := 185) hx hb dX2_reckon_89 (by decide) ?_
          refine lv_aload_n hx hb dX2_reckon_185 rfl (lv_at hl 2 rfl) ?_
          refine lv_iload_n hx hb dX2_reckon_186 rfl (lv_at hl 4 rfl) ?_
          refine va_calli (va_runV (As := [.int (nI (k_n))]) (rest := []) ⟨hx, hb, hml, hown, hts⟩ (c_X2_keep l D cA tT A ad _ (sf := va_up sf 0 (sm (sf (2 + i_n)) (sf (2 + j_n)) (sf (2 + j_n)).1)) (x := x1) (y := y1) (tx := tx) (tl := tl) (k := k_n) h_k hci.2.2.1 (by rw [va_up_ne _ _ (by omega)]; exact c_k) (by rw [va_up_self]; omega) (by rw [va_up_self]; omega)) (cwV 1 hts gX2_reckon_X2_keep rfl rfl rfl (by decide +kernel) ⟨Nat.le_of_ble_eq_true rfl, Nat.le_of_ble_eq_true rfl⟩) (wd_preV (k := 0) hP hK hD hT hS (by decide) cg_0 rfl) rfl rfl hl.1 rfl (lv_room (Nat.le_of_ble_eq_true rfl)) dX2_reckon_187 ⟨Nat.zero_le _, Nat.zero_le _⟩) hS id_2 id_1 (fun r_ u t H locs ht hvm hw hB hz1 hk1 hS => ?_)
          refine c00 ?_
          obtain ⟨hP, hD⟩ := wd_back ht hB
          clear ht hvm hB hz1 hk1
          obtain ⟨hr_, hu_⟩ := hw
          subst hr_
          rw [hu_] at hP hD
          clear hu_
          have hkc := ci_kp (k := k_n) hci hci.1 hci.2.1
          obtain ⟨a1, a2, -, -⟩ := kp_kpr (va_up sf 0 (sm (sf (2 + i_n)) (sf (2 + j_n)) (sf (2 + j_n)).1)) k_n
          rw [va_up_self, rh_up0] at a1 a2
          have hsp : sp_reckon (fun i => sf (2 + i)) 0 (k_n : Int) (i_n : Int) (j_n : Int) = kpr (fun i => sf (2 + i)) k_n (sm (sf (2 + i_n)) (sf (2 + j_n)) (sf (2 + j_n)).1) := by rw [sp_reckon, if_pos (by omega), e_k, e_i, e_j, if_pos rfl]
          exact W.iret (v := (kp (va_up sf 0 (sm (sf (2 + i_n)) (sf (2 + j_n)) (sf (2 + j_n)).1)) k_n).1) hx hb hr (fun t ht hW => ⟨⟨(kp (va_up sf 0 (sm (sf (2 + i_n)) (sf (2 + j_n)) (sf (2 + j_n)).1)) k_n).1, _, rfl, ⟨by rw [hsp, a1], _, x1, y1, hkc, by rw [hsp, a2], rfl⟩, wd_end hP hK hD ht hW⟩, hS.F ht⟩) hS.2.2 dX2_reckon_190
        · subst hw
          refine lv_tableIn (off := 50) (tgt := 92) hx hb dX2_reckon_42 (by rw [tI (by decide) (by decide)]; decide) (by rw [tI (by decide) (by decide)]; decide) (by rw [tI (by decide) (by decide)]; rfl) (by decide) ?_
          refine lv_aload_n hx hb dX2_reckon_92 rfl (lv_at hl 2 rfl) ?_
          refine lv_aload hx hb dX2_reckon_93 (lv_at hl 1 rfl) ?_
          refine lv_aload hx hb dX2_reckon_95 (lv_at hl 0 rfl) ?_
          refine lv_aload hx hb dX2_reckon_97 (lv_at hl 0 rfl) ?_
          refine rg_0_minus hx hb hts in0 hown hK hP (7 + 3 * (2 + j_n)) (by omega) (cg_d (2 + j_n)) (hts _ (by decide +kernel)) dX2_reckon_99 ?_
          refine bz_ne (tgt := 109) hx hb dX2_reckon_102 (by decide) (by omega) (fun q1 => ?_) (fun q1 => ?_)
          · refine lv_iconst (v := nI (0)) hx hb dX2_reckon_109 (by decide) ?_
            refine va_callv (va_runV (As := [.ref (ad (7 + 3 * (2 + i_n))), .ref (ad (7 + 3 * (2 + j_n))), .int (nI (0))]) (rest := []) ⟨hx, hb, hml, hown, hts⟩ (c_X2_addUp l D cA tT A ad _ (sf := sf) (x := x) (y := y) (tx := tx) (tl := tl) (e1 := 2 + i_n) (e2 := 2 + j_n) (mb := false) (by omega) (by omega) r_i.1 r_j.1 (by omega) (by omega) (by omega) (by omega) hc.1 hc.2.1 hc.2.2.1) (cwV 3 hts gX2_reckon_X2_addUp rfl rfl rfl (by decide +kernel) ⟨Nat.le_of_ble_eq_true rfl, Nat.le_of_ble_eq_true rfl⟩) (wd_preV (k := 0) hP hK hD hT hS (by decide) cg_0 rfl) rfl rfl hl.1 rfl (lv_room (Nat.le_of_ble_eq_true rfl)) dX2_reckon_110 ⟨Nat.zero_le _, Nat.zero_le _⟩) hS id_2 id_1 (fun u t H locs ht hvm hw hB hz1 hk1 hS => ?_)
            refine c00 ?_
            obtain ⟨hP, hD⟩ := wd_back ht hB
            clear ht hvm hB hz1 hk1
            obtain ⟨x1, y1, hx1, hy1, hu_⟩ := hw
            rw [hu_] at hP hD
            clear hu_
            have hsb := sm_b (mb := false) ki kj
            have hci := ci_up0 (x1 := x1) (y1 := y1) (d := (sm (sf (2 + i_n)) (sf (2 + j_n)) false)) hc hx1 hy1 hsb.1
            refine lv_goto (tgt := 185) hx hb dX2_reckon_113 (by decide) ?_
            refine lv_aload_n hx hb dX2_reckon_185 rfl (lv_at hl 2 rfl) ?_
            refine lv_iload_n hx hb dX2_reckon_186 rfl (lv_at hl 4 rfl) ?_
            refine va_calli (va_runV (As := [.int (nI (k_n))]) (rest := []) ⟨hx, hb, hml, hown, hts⟩ (c_X2_keep l D cA tT A ad _ (sf := va_up sf 0 (sm (sf (2 + i_n)) (sf (2 + j_n)) false)) (x := x1) (y := y1) (tx := tx) (tl := tl) (k := k_n) h_k hci.2.2.1 (by rw [va_up_ne _ _ (by omega)]; exact c_k) (by rw [va_up_self]; omega) (by rw [va_up_self]; omega)) (cwV 1 hts gX2_reckon_X2_keep rfl rfl rfl (by decide +kernel) ⟨Nat.le_of_ble_eq_true rfl, Nat.le_of_ble_eq_true rfl⟩) (wd_preV (k := 0) hP hK hD hT hS (by decide) cg_0 rfl) rfl rfl hl.1 rfl (lv_room (Nat.le_of_ble_eq_true rfl)) dX2_reckon_187 ⟨Nat.zero_le _, Nat.zero_le _⟩) hS id_2 id_1 (fun r_ u t H locs ht hvm hw hB hz1 hk1 hS => ?_)
            refine c00 ?_
            obtain ⟨hP, hD⟩ := wd_back ht hB
            clear ht hvm hB hz1 hk1
            obtain ⟨hr_, hu_⟩ := hw
            subst hr_
            rw [hu_] at hP hD
            clear hu_
            have hkc := ci_kp (k := k_n) hci hci.1 hci.2.1
            obtain ⟨a1, a2, -, -⟩ := kp_kpr (va_up sf 0 (sm (sf (2 + i_n)) (sf (2 + j_n)) false)) k_n
            rw [va_up_self, rh_up0] at a1 a2
            have hsp : sp_reckon (fun i => sf (2 + i)) 1 (k_n : Int) (i_n : Int) (j_n : Int) = kpr (fun i => sf (2 + i)) k_n (sm (sf (2 + i_n)) (sf (2 + j_n)) false) := by rw [sp_reckon, if_pos (by omega), e_k, e_i, e_j, if_neg (by decide), if_pos rfl, tn_nz q1]; rfl
            exact W.iret (v := (kp (va_up sf 0 (sm (sf (2 + i_n)) (sf (2 + j_n)) false)) k_n).1) hx hb hr (fun t ht hW => ⟨⟨(kp (va_up sf 0 (sm (sf (2 + i_n)) (sf (2 + j_n)) false)) k_n).1, _, rfl, ⟨by rw [hsp, a1], _, x1, y1, hkc, by rw [hsp, a2], rfl⟩, wd_end hP hK hD ht hW⟩, hS.F ht⟩) hS.2.2 dX2_reckon_190
          · refine lv_iconst (v := nI (1)) hx hb dX2_reckon_105 (by decide) ?_
            refine lv_goto (tgt := 110) hx hb dX2_reckon_106 (by decide) ?_
            refine va_callv (va_runV (As := [.ref (ad (7 + 3 * (2 + i_n))), .ref (ad (7 + 3 * (2 + j_n))), .int (nI (1))]) (rest := []) ⟨hx, hb, hml, hown, hts⟩ (c_X2_addUp l D cA tT A ad _ (sf := sf) (x := x) (y := y) (tx := tx) (tl := tl) (e1 := 2 + i_n) (e2 := 2 + j_n) (mb := true) (by omega) (by omega) r_i.1 r_j.1 (by omega) (by omega) (by omega) (by omega) hc.1 hc.2.1 hc.2.2.1) (cwV 3 hts gX2_reckon_X2_addUp rfl rfl rfl (by decide +kernel) ⟨Nat.le_of_ble_eq_true rfl, Nat.le_of_ble_eq_true rfl⟩) (wd_preV (k := 0) hP hK hD hT hS (by decide) cg_0 rfl) rfl rfl hl.1 rfl (lv_room (Nat.le_of_ble_eq_true rfl)) dX2_reckon_110 ⟨Nat.zero_le _, Nat.zero_le _⟩) hS id_2 id_1 (fun u t H locs ht hvm hw hB hz1 hk1 hS => ?_)
            refine c00 ?_
            obtain ⟨hP, hD⟩ := wd_back ht hB
            clear ht hvm hB hz1 hk1
            obtain ⟨x1, y1, hx1, hy1, hu_⟩ := hw
            rw [hu_] at hP hD
            clear hu_
            have hsb := sm_b (mb := true) ki kj
            have hci := ci_up0 (x1 := x1) (y1 := y1) (d := (sm (sf (2 + i_n)) (sf (2 + j_n)) true)) hc hx1 hy1 hsb.1
            refine lv_goto (tgt := 185) hx hb dX2_reckon_113 (by decide) ?_
            refine lv_aload_n hx hb dX2_reckon_185 rfl (lv_at hl 2 rfl) ?_
            refine lv_iload_n hx hb dX2_reckon_186 rfl (lv_at hl 4 rfl) ?_
            refine va_calli (va_runV (As := [.int (nI (k_n))]) (rest := []) ⟨hx, hb, hml, hown, hts⟩ (c_X2_keep l D cA tT A ad _ (sf := va_up sf 0 (sm (sf (2 + i_n)) (sf (2 + j_n)) true)) (x := x1) (y := y1) (tx := tx) (tl := tl) (k := k_n) h_k hci.2.2.1 (by rw [va_up_ne _ _ (by omega)]; exact c_k) (by rw [va_up_self]; omega) (by rw [va_up_self]; omega)) (cwV 1 hts gX2_reckon_X2_keep rfl rfl rfl (by decide +kernel) ⟨Nat.le_of_ble_eq_true rfl, Nat.le_of_ble_eq_true rfl⟩) (wd_preV (k := 0) hP hK hD hT hS (by decide) cg_0 rfl) rfl rfl hl.1 rfl (lv_room (Nat.le_of_ble_eq_true rfl)) dX2_reckon_187 ⟨Nat.zero_le _, Nat.zero_le _⟩) hS id_2 id_1 (fun r_ u t H locs ht hvm hw hB hz1 hk1 hS => ?_)
            refine c00 ?_
            obtain ⟨hP, hD⟩ := wd_back ht hB
            clear ht hvm hB hz1 hk1
            obtain ⟨hr_, hu_⟩ := hw
            subst hr_
            rw [hu_] at hP hD
            clear hu_
            have hkc := ci_kp (k := k_n) hci hci.1 hci.2.1
            obtain ⟨a1, a2, -, -⟩ := kp_kpr (va_up sf 0 (sm (sf (2 + i_n)) (sf (2 + j_n)) true)) k_n
            rw [va_up_self, rh_up0] at a1 a2
            have hsp : sp_reckon (fun i => sf (2 + i)) 1 (k_n : Int) (i_n : Int) (j_n : Int) = kpr (fun i => sf (2 + i)) k_n (sm (sf (2 + i_n)) (sf (2 + j_n)) true) := by rw [sp_reckon, if_pos (by omega), e_k, e_i, e_j, if_neg (by decide), if_pos rfl, tn_z q1]; rfl
            exact W.iret (v := (kp (va_up sf 0 (sm (sf (2 + i_n)) (sf (2 + j_n)) true)) k_n).1) hx hb hr (fun t ht hW => ⟨⟨(kp (va_up sf 0 (sm (sf (2 + i_n)) (sf (2 + j_n)) true)) k_n).1, _, rfl, ⟨by rw [hsp, a1], _, x1, y1, hkc, by rw [hsp, a2], rfl⟩, wd_end hP hK hD ht hW⟩, hS.F ht⟩) hS.2.2 dX2_reckon_190
        · subst hw
          refine lv_tableIn (off := 74) (tgt := 116) hx hb dX2_reckon_42 (by rw [tI (by decide) (by decide)]; decide) (by rw [tI (by decide) (by decide)]; decide) (by rw [tI (by decide) (by decide)]; rfl) (by decide) ?_
          refine lv_aload_n hx hb dX2_reckon_116 rfl (lv_at hl 2 rfl) ?_
          refine lv_aload hx hb dX2_reckon_117 (lv_at hl 1 rfl) ?_
          refine lv_aload hx hb dX2_reckon_119 (lv_at hl 0 rfl) ?_
          have f1 := s190 r_i.1
          have f2 := s190 r_j.1
          have hpr : (sf (2 + i_n)).2.1 * (sf (2 + j_n)).2.1 < 1000000 ^ 64 := Nat.lt_of_lt_of_le nd_xy (Nat.pow_le_pow_right (by decide) (by omega))
          refine va_callv (va_runV (As := [.ref (ad (7 + 3 * (2 + i_n))), .ref (ad (7 + 3 * (2 + j_n)))]) (rest := []) ⟨hx, hb, hml, hown, hts⟩ (c_X2_multiply l D cA tT A ad _ (sf := sf) (x := x) (y := y) (tx := tx) (tl := tl) (e1 := 2 + i_n) (e2 := 2 + j_n) (by omega) (by omega) hc.1 hc.2.2.1 (by omega)) (cwV 2 hts gX2_reckon_X2_multiply rfl rfl rfl (by decide +kernel) ⟨Nat.le_of_ble_eq_true rfl, Nat.le_of_ble_eq_true rfl⟩) (wd_preV (k := 0) hP hK hD hT hS (by decide) cg_0 rfl) rfl rfl hl.1 rfl (lv_room (Nat.le_of_ble_eq_true rfl)) dX2_reckon_121 ⟨Nat.zero_le _, Nat.zero_le _⟩) hS id_2 id_1 (fun u t H locs ht hvm hw hB hz1 hk1 hS => ?_)
          refine c00 ?_
          obtain ⟨hP, hD⟩ := wd_back ht hB
          clear ht hvm hB hz1 hk1
          rw [hw] at hP hD
          clear hw
          have hci := ci_up0 (x1 := (sf (2 + i_n)).2.1 * (sf (2 + j_n)).2.1) (y1 := y) (d := (sn ((sf (2 + i_n)).1 != (sf (2 + j_n)).1) ((sf (2 + i_n)).2.1 * (sf (2 + j_n)).2.1), (sf (2 + i_n)).2.1 * (sf (2 + j_n)).2.1, (sf (2 + i_n)).2.2 + (sf (2 + j_n)).2.2)) hc hpr hc.2.1 hpr
          refine lv_goto (tgt := 185) hx hb dX2_reckon_124 (by decide) ?_
          refine lv_aload_n hx hb dX2_reckon_185 rfl (lv_at hl 2 rfl) ?_
          refine lv_iload_n hx hb dX2_reckon_186 rfl (lv_at hl 4 rfl) ?_
          refine va_calli (va_runV (As := [.int (nI (k_n))]) (rest := []) ⟨hx, hb, hml, hown, hts⟩ (c_X2_keep l D cA tT A ad _ (sf := va_up sf 0 (sn ((sf (2 + i_n)).1 != (sf (2 + j_n)).1) ((sf (2 + i_n)).2.1 * (sf (2 + j_n)).2.1), (sf (2 + i_n)).2.1 * (sf (2 + j_n)).2.1, (sf (2 + i_n)).2.2 + (sf (2 + j_n)).2.2)) (x := (sf (2 + i_n)).2.1 * (sf (2 + j_n)).2.1) (y := y) (tx := tx) (tl := tl) (k := k_n) h_k hci.2.2.1 (by rw [va_up_ne _ _ (by omega)]; exact c_k) (by rw [va_up_self]; show -2147483648 ≤ (sf (2 + i_n)).2.2 + (sf (2 + j_n)).2.2; omega) (by rw [va_up_self]; show (sf (2 + i_n)).2.2 + (sf (2 + j_n)).2.2 < 2147483648; omega)) (cwV 1 hts gX2_reckon_X2_keep rfl rfl rfl (by decide +kernel) ⟨Nat.le_of_ble_eq_true rfl, Nat.le_of_ble_eq_true rfl⟩) (wd_preV (k := 0) hP hK hD hT hS (by decide) cg_0 rfl) rfl rfl hl.1 rfl (lv_room (Nat.le_of_ble_eq_true rfl)) dX2_reckon_187 ⟨Nat.zero_le _, Nat.zero_le _⟩) hS id_2 id_1 (fun r_ u t H locs ht hvm hw hB hz1 hk1 hS => ?_)
          refine c00 ?_
          obtain ⟨hP, hD⟩ := wd_back ht hB
          clear ht hvm hB hz1 hk1
          obtain ⟨hr_, hu_⟩ := hw
          subst hr_
          rw [hu_] at hP hD
          clear hu_
          have hkc := ci_kp (k := k_n) hci hci.1 hci.2.1
          obtain ⟨a1, a2, -, -⟩ := kp_kpr (va_up sf 0 (sn ((sf (2 + i_n)).1 != (sf (2 + j_n)).1) ((sf (2 + i_n)).2.1 * (sf (2 + j_n)).2.1), (sf (2 + i_n)).2.1 * (sf (2 + j_n)).2.1, (sf (2 + i_n)).2.2 + (sf (2 + j_n)).2.2)) k_n
          rw [va_up_self, rh_up0] at a1 a2
          have hsp : sp_reckon (fun i => sf (2 + i)) 2 (k_n : Int) (i_n : Int) (j_n : Int) = kpr (fun i => sf (2 + i)) k_n (sn ((sf (2 + i_n)).1 != (sf (2 + j_n)).1) ((sf (2 + i_n)).2.1 * (sf (2 + j_n)).2.1), (sf (2 + i_n)).2.1 * (sf (2 + j_n)).2.1, (sf (2 + i_n)).2.2 + (sf (2 + j_n)).2.2) := by rw [sp_reckon, if_pos (by omega), e_k, e_i, e_j, if_neg (by decide), if_neg (by decide), if_pos rfl]
          exact W.iret (v := (kp (va_up sf 0 (sn ((sf (2 + i_n)).1 != (sf (2 + j_n)).1) ((sf (2 + i_n)).2.1 * (sf (2 + j_n)).2.1), (sf (2 + i_n)).2.1 * (sf (2 + j_n)).2.1, (sf (2 + i_n)).2.2 + (sf (2 + j_n)).2.2)) k_n).1) hx hb hr (fun t ht hW => ⟨⟨(kp (va_up sf 0 (sn ((sf (2 + i_n)).1 != (sf (2 + j_n)).1) ((sf (2 + i_n)).2.1 * (sf (2 + j_n)).2.1), (sf (2 + i_n)).2.1 * (sf (2 + j_n)).2.1, (sf (2 + i_n)).2.2 + (sf (2 + j_n)).2.2)) k_n).1, _, rfl, ⟨by rw [hsp, a1], _, (sf (2 + i_n)).2.1 * (sf (2 + j_n)).2.1, y, hkc, by rw [hsp, a2], rfl⟩, wd_end hP hK hD ht hW⟩, hS.F ht⟩) hS.2.2 dX2_reckon_190
        · subst hw
          refine lv_tableIn (off := 85) (tgt := 127) hx hb dX2_reckon_42 (by rw [tI (by decide) (by decide)]; decide) (by rw [tI (by decide) (by decide)]; decide) (by rw [tI (by decide) (by decide)]; rfl) (by decide) ?_
          refine lv_aload_n hx hb dX2_reckon_127 rfl (lv_at hl 2 rfl) ?_
          refine rg_2_result hx hb hts in2 hown hK hP 0 (by decide) cg_0 (hts _ (by decide +kernel)) dX2_reckon_128 ?_
          refine lv_aload_n hx hb dX2_reckon_131 rfl (lv_at hl 2 rfl) ?_
          refine lv_aload hx hb dX2_reckon_132 (lv_at hl 1 rfl) ?_
          refine lv_aload hx hb dX2_reckon_134 (lv_at hl 0 rfl) ?_
          have hcb := cmpD_b (sf (2 + i_n)) (sf (2 + j_n))
          refine va_calli (va_runV (As := [.ref (ad (7 + 3 * (2 + i_n))), .ref (ad (7 + 3 * (2 + j_n)))]) (rest := [.ref (ad (7 + 3 * 0))]) ⟨hx, hb, hml, hown, hts⟩ (c_X2_order l D cA tT A ad _ (sf := sf) (x := x) (y := y) (tx := tx) (tl := tl) (e1 := 2 + i_n) (e2 := 2 + j_n) (by omega) (by omega) r_i.1 r_j.1 (by omega) (by omega) (by omega) (by omega) hc.1 hc.2.1) (cwV 2 hts gX2_reckon_X2_order rfl rfl rfl (by decide +kernel) ⟨Nat.le_of_ble_eq_true rfl, Nat.le_of_ble_eq_true rfl⟩) (wd_preV (k := 0) hP hK hD hT hS (by decide) cg_0 rfl) rfl rfl hl.1 rfl (lv_room (Nat.le_of_ble_eq_true rfl)) dX2_reckon_136 ⟨Nat.zero_le _, Nat.zero_le _⟩) hS id_2 id_1 (fun r_ u t H locs ht hvm hw hB hz1 hk1 hS => ?_)
          refine c00 ?_
          obtain ⟨hP, hD⟩ := wd_back ht hB
          clear ht hvm hB hz1 hk1
          obtain ⟨rfl, x1, y1, hx1, hy1, hu_⟩ := hw
          rw [hu_] at hP hD
          clear hu_
          refine by_lt (tgt := 147) hx hb dX2_reckon_139 (by decide) (by omega) (by omega) (fun q1 => ?_) (fun q1 => ?_)
          · refine lv_aload hx hb dX2_reckon_147 (lv_at hl 0 rfl) ?_
            refine va_callv (va_runV (As := [.ref (ad (7 + 3 * (2 + j_n)))]) (rest := []) ⟨hx, hb, hml, hown, hts⟩ (c_X0_become l D cA tT A 31 ad _ _ (k := 7 + 3 * 0) (k2 := 7 + 3 * (2 + j_n)) (d := sf 0) (d2 := sf (2 + j_n)) (by decide) (by omega) (cg_D 0) (cg_D _) (by omega) hc.2.2.1 c_j) (cwV 1 hts gX2_reckon_X0_become rfl rfl rfl (by decide +kernel) ⟨Nat.le_of_ble_eq_true rfl, Nat.le_of_ble_eq_true rfl⟩) (wd_preV (k := 7 + 3 * 0) hP hK hD hT hS (by decide) (cg_d 0) rfl) rfl rfl hl.1 rfl (lv_room (Nat.le_of_ble_eq_true rfl)) dX2_reckon_149 ⟨Nat.zero_le _, Nat.zero_le _⟩) hS id_2 id_1 (fun u t H locs ht hvm hw hB hz1 hk1 hS => ?_)
            refine c00 ?_
            obtain ⟨hP, hD⟩ := wd_back ht hB
            clear ht hvm hB hz1 hk1
            rw [hw] at hP hD
            clear hw
            rw [cg_upD 0] at hP hD
            rw [rk_sn r_j.2.2.2] at hP hD
            have hci := ci_up0 (x1 := x1) (y1 := y1) (d := (sf (2 + j_n))) hc hx1 hy1 c_j
            refine lv_goto (tgt := 185) hx hb dX2_reckon_152 (by decide) ?_
            refine lv_aload_n hx hb dX2_reckon_185 rfl (lv_at hl 2 rfl) ?_
            refine lv_iload_n hx hb dX2_reckon_186 rfl (lv_at hl 4 rfl) ?_
            refine va_calli (va_runV (As := [.int (nI (k_n))]) (rest := []) ⟨hx, hb, hml, hown, hts⟩ (c_X2_keep l D cA tT A ad _ (sf := va_up sf 0 (sf (2 + j_n))) (x := x1) (y := y1) (tx := tx) (tl := tl) (k := k_n) h_k hci.2.2.1 (by rw [va_up_ne _ _ (by omega)]; exact c_k) (by rw [va_up_self]; omega) (by rw [va_up_self]; omega)) (cwV 1 hts gX2_reckon_X2_keep rfl rfl rfl (by decide +kernel) ⟨Nat.le_of_ble_eq_true rfl, Nat.le_of_ble_eq_true rfl⟩) (wd_preV (k := 0) hP hK hD hT hS (by decide) cg_0 rfl) rfl rfl hl.1 rfl (lv_room (Nat.le_of_ble_eq_true rfl)) dX2_reckon_187 ⟨Nat.zero_le _, Nat.zero_le _⟩) hS id_2 id_1 (fun r_ u t H locs ht hvm hw hB hz1 hk1 hS => ?_)
            refine c00 ?_
            obtain ⟨hP, hD⟩ := wd_back ht hB
            clear ht hvm hB hz1 hk1
            obtain ⟨hr_, hu_⟩ := hw
            subst hr_
            rw [hu_] at hP hD
            clear hu_
            have hkc := ci_kp (k := k_n) hci hci.1 hci.2.1
            obtain ⟨a1, a2, -, -⟩ := kp_kpr (va_up sf 0 (sf (2 + j_n))) k_n
            rw [va_up_self, rh_up0] at a1 a2
            have hsp : sp_reckon (fun i => sf (2 + i)) 3 (k_n : Int) (i_n : Int) (j_n : Int) = kpr (fun i => sf (2 + i)) k_n (sf (2 + j_n)) := by rw [sp_reckon, if_pos (by omega), e_k, e_i, e_j, if_neg (by decide), if_neg (by decide), if_neg (by decide), if_pos rfl, if_neg (by omega)]
            exact W.iret (v := (kp (va_up sf 0 (sf (2 + j_n))) k_n).1) hx hb hr (fun t ht hW => ⟨⟨(kp (va_up sf 0 (sf (2 + j_n))) k_n).1, _, rfl, ⟨by rw [hsp, a1], _, x1, y1, hkc, by rw [hsp, a2], rfl⟩, wd_end hP hK hD ht hW⟩, hS.F ht⟩) hS.2.2 dX2_reckon_190
          · refine lv_aload hx hb dX2_reckon_142 (lv_at hl 1 rfl) ?_
            refine lv_goto (tgt := 149) hx hb dX2_reckon_144 (by decide) ?_
            refine va_callv (va_runV (As := [.ref (ad (7 + 3 * (2 + i_n)))]) (rest := []) ⟨hx, hb, hml, hown, hts⟩ (c_X0_become l D cA tT A 31 ad _ _ (k := 7 + 3 * 0) (k2 := 7 + 3 * (2 + i_n)) (d := sf 0) (d2 := sf (2 + i_n)) (by decide) (by omega) (cg_D 0) (cg_D _) (by omega) hc.2.2.1 c_i) (cwV 1 hts gX2_reckon_X0_become rfl rfl rfl (by decide +kernel) ⟨Nat.le_of_ble_eq_true rfl, Nat.le_of_ble_eq_true rfl⟩) (wd_preV (k := 7 + 3 * 0) hP hK hD hT hS (by decide) (cg_d 0) rfl) rfl rfl hl.1 rfl (lv_room (Nat.le_of_ble_eq_true rfl)) dX2_reckon_149 ⟨Nat.zero_le _, Nat.zero_le _⟩) hS id_2 id_1 (fun u t H locs ht hvm hw hB hz1 hk1 hS => ?_)
            refine c00 ?_
            obtain ⟨hP, hD⟩ := wd_back ht hB
            clear ht hvm hB hz1 hk1
            rw [hw] at hP hD
            clear hw
            rw [cg_upD 0] at hP hD
            rw [rk_sn r_i.2.2.2] at hP hD
            have hci := ci_up0 (x1 := x1) (y1 := y1) (d := (sf (2 + i_n))) hc hx1 hy1 c_i
            refine lv_goto (tgt := 185) hx hb dX2_reckon_152 (by decide) ?_
            refine lv_aload_n hx hb dX2_reckon_185 rfl (lv_at hl 2 rfl) ?_
            refine lv_iload_n hx hb dX2_reckon_186 rfl (lv_at hl 4 rfl) ?_
            refine va_calli (va_runV (As := [.int (nI (k_n))]) (rest := []) ⟨hx, hb, hml, hown, hts⟩ (c_X2_keep l D cA tT A ad _ (sf := va_up sf 0 (sf (2 + i_n))) (x := x1) (y := y1) (tx := tx) (tl := tl) (k := k_n) h_k hci.2.2.1 (by rw [va_up_ne _ _ (by omega)]; exact c_k) (by rw [va_up_self]; omega) (by rw [va_up_self]; omega)) (cwV 1 hts gX2_reckon_X2_keep rfl rfl rfl (by decide +kernel) ⟨Nat.le_of_ble_eq_true rfl, Nat.le_of_ble_eq_true rfl⟩) (wd_preV (k := 0) hP hK hD hT hS (by decide) cg_0 rfl) rfl rfl hl.1 rfl (lv_room (Nat.le_of_ble_eq_true rfl)) dX2_reckon_187 ⟨Nat.zero_le _, Nat.zero_le _⟩) hS id_2 id_1 (fun r_ u t H locs ht hvm hw hB hz1 hk1 hS => ?_)
            refine c00 ?_
            obtain ⟨hP, hD⟩ := wd_back ht hB
            clear ht hvm hB hz1 hk1
            obtain ⟨hr_, hu_⟩ := hw
            subst hr_
            rw [hu_] at hP hD
            clear hu_
            have hkc := ci_kp (k := k_n) hci hci.1 hci.2.1
            obtain ⟨a1, a2, -, -⟩ := kp_kpr (va_up sf 0 (sf (2 + i_n))) k_n
            rw [va_up_self, rh_up0] at a1 a2
            have hsp : sp_reckon (fun i => sf (2 + i)) 3 (k_n : Int) (i_n : Int) (j_n : Int) = kpr (fun i => sf (2 + i)) k_n (sf (2 + i_n)) := by rw [sp_reckon, if_pos (by omega), e_k, e_i, e_j, if_neg (by decide), if_neg (by decide), if_neg (by decide), if_pos rfl, if_pos (by omega)]
            exact W.iret (v := (kp (va_up sf 0 (sf (2 + i_n))) k_n).1) hx hb hr (fun t ht hW => ⟨⟨(kp (va_up sf 0 (sf (2 + i_n))) k_n).1, _, rfl, ⟨by rw [hsp, a1], _, x1, y1, hkc, by rw [hsp, a2], rfl⟩, wd_end hP hK hD ht hW⟩, hS.F ht⟩) hS.2.2 dX2_reckon_190
        · subst hw
          refine lv_tableIn (off := 113) (tgt := 155) hx hb dX2_reckon_42 (by rw [tI (by decide) (by decide)]; decide) (by rw [tI (by decide) (by decide)]; decide) (by rw [tI (by decide) (by decide)]; rfl) (by decide) ?_
          refine lv_aload_n hx hb dX2_reckon_155 rfl (lv_at hl 2 rfl) ?_
          refine rg_2_result hx hb hts in2 hown hK hP 0 (by decide) cg_0 (hts _ (by decide +kernel)) dX2_reckon_156 ?_
          refine lv_aload_n hx hb dX2_reckon_159 rfl (lv_at hl 2 rfl) ?_
          refine lv_aload hx hb dX2_reckon_160 (lv_at hl 1 rfl) ?_
          refine lv_aload hx hb dX2_reckon_162 (lv_at hl 0 rfl) ?_
          have hcb := cmpD_b (sf (2 + i_n)) (sf (2 + j_n))
          refine va_calli (va_runV (As := [.ref (ad (7 + 3 * (2 + i_n))), .ref (ad (7 + 3 * (2 + j_n)))]) (rest := [.ref (ad (7 + 3 * 0))]) ⟨hx, hb, hml, hown, hts⟩ (c_X2_order l D cA tT A ad _ (sf := sf) (x := x) (y := y) (tx := tx) (tl := tl) (e1 := 2 + i_n) (e2 := 2 + j_n) (by omega) (by omega) r_i.1 r_j.1 (by omega) (by omega) (by omega) (by omega) hc.1 hc.2.1) (cwV 2 hts gX2_reckon_X2_order rfl rfl rfl (by decide +kernel) ⟨Nat.le_of_ble_eq_true rfl, Nat.le_of_ble_eq_true rfl⟩) (wd_preV (k := 0) hP hK hD hT hS (by decide) cg_0 rfl) rfl rfl hl.1 rfl (lv_room (Nat.le_of_ble_eq_true rfl)) dX2_reckon_164 ⟨Nat.zero_le _, Nat.zero_le _⟩) hS id_2 id_1 (fun r_ u t H locs ht hvm hw hB hz1 hk1 hS => ?_)
          refine c00 ?_
          obtain ⟨hP, hD⟩ := wd_back ht hB
          clear ht hvm hB hz1 hk1
          obtain ⟨rfl, x1, y1, hx1, hy1, hu_⟩ := hw
          rw [hu_] at hP hD
          clear hu_
          refine by_gt (tgt := 175) hx hb dX2_reckon_167 (by decide) (by omega) (by omega) (fun q1 => ?_) (fun q1 => ?_)
          · refine lv_aload hx hb dX2_reckon_175 (lv_at hl 0 rfl) ?_
            refine va_callv (va_runV (As := [.ref (ad (7 + 3 * (2 + j_n)))]) (rest := []) ⟨hx, hb, hml, hown, hts⟩ (c_X0_become l D cA tT A 31 ad _ _ (k := 7 + 3 * 0) (k2 := 7 + 3 * (2 + j_n)) (d := sf 0) (d2 := sf (2 + j_n)) (by decide) (by omega) (cg_D 0) (cg_D _) (by omega) hc.2.2.1 c_j) (cwV 1 hts gX2_reckon_X0_become rfl rfl rfl (by decide +kernel) ⟨Nat.le_of_ble_eq_true rfl, Nat.le_of_ble_eq_true rfl⟩) (wd_preV (k := 7 + 3 * 0) hP hK hD hT hS (by decide) (cg_d 0) rfl) rfl rfl hl.1 rfl (lv_room (Nat.le_of_ble_eq_true rfl)) dX2_reckon_177 ⟨Nat.zero_le _, Nat.zero_le _⟩) hS id_2 id_1 (fun u t H locs ht hvm hw hB hz1 hk1 hS => ?_)
            refine c00 ?_
            obtain ⟨hP, hD⟩ := wd_back ht hB
            clear ht hvm hB hz1 hk1
            rw [hw] at hP hD
            clear hw
            rw [cg_upD 0] at hP hD
            rw [rk_sn r_j.2.2.2] at hP hD
            have hci := ci_up0 (x1 := x1) (y1 := y1) (d := (sf (2 + j_n))) hc hx1 hy1 c_j
            refine lv_goto (tgt := 185) hx hb dX2_reckon_180 (by decide) ?_
            refine lv_aload_n hx hb dX2_reckon_185 rfl (lv_at hl 2 rfl) ?_
            refine lv_iload_n hx hb dX2_reckon_186 rfl (lv_at hl 4 rfl) ?_
            refine va_calli (va_runV (As := [.int (nI (k_n))]) (rest := []) ⟨hx, hb, hml, hown, hts⟩ (c_X2_keep l D cA tT A ad _ (sf := va_up sf 0 (sf (2 + j_n))) (x := x1) (y := y1) (tx := tx) (tl := tl) (k := k_n) h_k hci.2.2.1 (by rw [va_up_ne _ _ (by omega)]; exact c_k) (by rw [va_up_self]; omega) (by rw [va_up_self]; omega)) (cwV 1 hts gX2_reckon_X2_keep rfl rfl rfl (by decide +kernel) ⟨Nat.le_of_ble_eq_true rfl, Nat.le_of_ble_eq_true rfl⟩) (wd_preV (k := 0) hP hK hD hT hS (by decide) cg_0 rfl) rfl rfl hl.1 rfl (lv_room (Nat.le_of_ble_eq_true rfl)) dX2_reckon_187 ⟨Nat.zero_le _, Nat.zero_le _⟩) hS id_2 id_1 (fun r_ u t H locs ht hvm hw hB hz1 hk1 hS => ?_)
            refine c00 ?_
            obtain ⟨hP, hD⟩ := wd_back ht hB
            clear ht hvm hB hz1 hk1
            obtain ⟨hr_, hu_⟩ := hw
            subst hr_
            rw [hu_] at hP hD
            clear hu_
            have hkc := ci_kp (k := k_n) hci hci.1 hci.2.1
            obtain ⟨a1, a2, -, -⟩ := kp_kpr (va_up sf 0 (sf (2 + j_n))) k_n
            rw [va_up_self, rh_up0] at a1 a2
            have hsp : sp_reckon (fun i => sf (2 + i)) 4 (k_n : Int) (i_n : Int) (j_n : Int) = kpr (fun i => sf (2 + i)) k_n (sf (2 + j_n)) := by rw [sp_reckon, if_pos (by omega), e_k, e_i, e_j, if_neg (by decide), if_neg (by decide), if_neg (by decide), if_neg (by decide), if_neg (by omega)]
            exact W.iret (v := (kp (va_up sf 0 (sf (2 + j_n))) k_n).1) hx hb hr (fun t ht hW => ⟨⟨(kp (va_up sf 0 (sf (2 + j_n))) k_n).1, _, rfl, ⟨by rw [hsp, a1], _, x1, y1, hkc, by rw [hsp, a2], rfl⟩, wd_end hP hK hD ht hW⟩, hS.F ht⟩) hS.2.2 dX2_reckon_190
          · refine lv_aload hx hb dX2_reckon_170 (lv_at hl 1 rfl) ?_
            refine lv_goto (tgt := 177) hx hb dX2_reckon_172 (by decide) ?_
            refine va_callv (va_runV (As := [.ref (ad (7 + 3 * (2 + i_n)))]) (rest := []) ⟨hx, hb, hml, hown, hts⟩ (c_X0_become l D cA tT A 31 ad _ _ (k := 7 + 3 * 0) (k2 := 7 + 3 * (2 + i_n)) (d := sf 0) (d2 := sf (2 + i_n)) (by decide) (by omega) (cg_D 0) (cg_D _) (by omega) hc.2.2.1 c_i) (cwV 1 hts gX2_reckon_X0_become rfl rfl rfl (by decide +kernel) ⟨Nat.le_of_ble_eq_true rfl, Nat.le_of_ble_eq_true rfl⟩) (wd_preV (k := 7 + 3 * 0) hP hK hD hT hS (by decide) (cg_d 0) rfl) rfl rfl hl.1 rfl (lv_room (Nat.le_of_ble_eq_true rfl)) dX2_reckon_177 ⟨Nat.zero_le _, Nat.zero_le _⟩) hS id_2 id_1 (fun u t H locs ht hvm hw hB hz1 hk1 hS => ?_)
            refine c00 ?_
            obtain ⟨hP, hD⟩ := wd_back ht hB
            clear ht hvm hB hz1 hk1
            rw [hw] at hP hD
            clear hw
            rw [cg_upD 0] at hP hD
            rw [rk_sn r_i.2.2.2] at hP hD
            have hci := ci_up0 (x1 := x1) (y1 := y1) (d := (sf (2 + i_n))) hc hx1 hy1 c_i
            refine lv_goto (tgt := 185) hx hb dX2_reckon_180 (by decide) ?_
            refine lv_aload_n hx hb dX2_reckon_185 rfl (lv_at hl 2 rfl) ?_
            refine lv_iload_n hx hb dX2_reckon_186 rfl (lv_at hl 4 rfl) ?_
            refine va_calli (va_runV (As := [.int (nI (k_n))]) (rest := []) ⟨hx, hb, hml, hown, hts⟩ (c_X2_keep l D cA tT A ad _ (sf := va_up sf 0 (sf (2 + i_n))) (x := x1) (y := y1) (tx := tx) (tl := tl) (k := k_n) h_k hci.2.2.1 (by rw [va_up_ne _ _ (by omega)]; exact c_k) (by rw [va_up_self]; omega) (by rw [va_up_self]; omega)) (cwV 1 hts gX2_reckon_X2_keep rfl rfl rfl (by decide +kernel) ⟨Nat.le_of_ble_eq_true rfl, Nat.le_of_ble_eq_true rfl⟩) (wd_preV (k := 0) hP hK hD hT hS (by decide) cg_0 rfl) rfl rfl hl.1 rfl (lv_room (Nat.le_of_ble_eq_true rfl)) dX2_reckon_187 ⟨Nat.zero_le _, Nat.zero_le _⟩) hS id_2 id_1 (fun r_ u t H locs ht hvm hw hB hz1 hk1 hS => ?_)
            refine c00 ?_
            obtain ⟨hP, hD⟩ := wd_back ht hB
            clear ht hvm hB hz1 hk1
            obtain ⟨hr_, hu_⟩ := hw
            subst hr_
            rw [hu_] at hP hD
            clear hu_
            have hkc := ci_kp (k := k_n) hci hci.1 hci.2.1
            obtain ⟨a1, a2, -, -⟩ := kp_kpr (va_up sf 0 (sf (2 + i_n))) k_n
            rw [va_up_self, rh_up0] at a1 a2
            have hsp : sp_reckon (fun i => sf (2 + i)) 4 (k_n : Int) (i_n : Int) (j_n : Int) = kpr (fun i => sf (2 + i)) k_n (sf (2 + i_n)) := by rw [sp_reckon, if_pos (by omega), e_k, e_i, e_j, if_neg (by decide), if_neg (by decide), if_neg (by decide), if_neg (by decide), if_pos (by omega)]
            exact W.iret (v := (kp (va_up sf 0 (sf (2 + i_n))) k_n).1) hx hb hr (fun t ht hW => ⟨⟨(kp (va_up sf 0 (sf (2 + i_n))) k_n).1, _, rfl, ⟨by rw [hsp, a1], _, x1, y1, hkc, by rw [hsp, a2], rfl⟩, wd_end hP hK hD ht hW⟩, hS.F ht⟩) hS.2.2 dX2_reckon_190
        · refine lv_tableOut (tgt := 183) hx hb dX2_reckon_42 (by rw [tI (by omega) (by omega)]; exact hw) (by decide) ?_
          refine lv_iconst (v := iZ (-1)) hx hb dX2_reckon_183 (by decide) ?_
          exact W.iret (v := iZ (-1)) hx hb hr (fun t ht hW => ⟨⟨iZ (-1), _, rfl, ⟨by rw [sp_reckon, if_neg (by omega)], sf, x, y, hc, by rw [sp_reckon, if_neg (by omega)], rfl⟩, wd_end hP hK hD ht hW⟩, hS.F ht⟩) hS.2.2 dX2_reckon_184
      · have g_j := it_eq q_j
        refine lv_iconst (v := iZ (-1)) hx hb dX2_reckon_22 (by decide) ?_
        exact W.iret (v := iZ (-1)) hx hb hr (fun t ht hW => ⟨⟨iZ (-1), _, rfl, ⟨by rw [sp_reckon, if_neg (by omega)], sf, x, y, hc, by rw [sp_reckon, if_neg (by omega)], rfl⟩, wd_end hP hK hD ht hW⟩, hS.F ht⟩) hS.2.2 dX2_reckon_23
