theorem rdn_one (b : Bool) (X : Nat) (way : Int) : rdn b X (10 ^ 0) way = (1, X) := by rw [rdn, Nat.pow_zero, Nat.mod_one, if_pos rfl, Nat.div_one]
theorem kqr_one {rh : Nat → Bool × Nat × Int} {k : Nat} {d : Bool × Nat × Int} {sc way : Int} (h : -6 ≤ sc ∧ sc ≤ 6) : kqr rh k d (false, 1, 0) sc way = if (rdn d.1 (d.2.1 * 10 ^ (sc - d.2.2).toNat) (10 ^ (d.2.2 - sc).toNat) way).1 = 0 then (iZ (-4), rh) else kpr rh k (d.1, (rdn d.1 (d.2.1 * 10 ^ (sc - d.2.2).toNat) (10 ^ (d.2.2 - sc).toNat) way).2, sc) := by
  have e1 : qX d (false, 1, 0) sc = d.2.1 * 10 ^ (sc - d.2.2).toNat := by
    rw [qX]; dsimp only; rw [show sc + 0 - d.2.2 = sc - d.2.2 by omega]
  have e2 : qY d (false, 1, 0) sc = 10 ^ (d.2.2 - sc).toNat := by
    rw [qY]; dsimp only; rw [show -(sc + 0 - d.2.2) = d.2.2 - sc by omega, Nat.one_mul]
  have e3 : (d.1 != false) = d.1 := Bool.bne_false _
  rw [kqr, if_pos h, e1, e2]
  dsimp only
  rw [e3]
theorem rnd_le {b : Bool} {X P : Nat} {way : Int} (h1 : 1 ≤ P) (h : P < nd_p X) : (rdn b X (10 ^ (nd_p X - P)) way).2 ≤ 10 ^ P := by
  have h2 : X / 10 ^ (nd_p X - P) < 10 ^ P := by
    rw [Nat.div_lt_iff_lt_mul (Nat.pow_pos (by decide)), ← Nat.pow_add, show P + (nd_p X - P) = nd_p X by omega]; exact nd_p_lt X
  have h3 : (rdn b X (10 ^ (nd_p X - P)) way).2 ≤ X / 10 ^ (nd_p X - P) + 1 := by
    rw [rdn]
    split
    · exact Nat.le_succ _
    · split
      · exact Nat.le_succ _
      · dsimp only
        split
        · exact Nat.le_refl _
        · exact Nat.le_succ _
  omega
theorem rnd_full {v P : Nat} (h1 : 1 ≤ P) (h : v ≤ 10 ^ P) (h2 : P < nd_p v) : nd_p v = P + 1 ∧ v % 10 = 0 ∧ nd_p (v / 10) = P := by
  have h3 : 10 ^ P ≤ v := (nd_p_ge h1).mp h2
  have h4 : v = 10 ^ P := by omega
  obtain ⟨p, rfl⟩ : ∃ p, P = p + 1 := ⟨P - 1, by omega⟩
  have e : v / 10 = 1 * 10 ^ p := by rw [h4, Nat.pow_succ]; omega
  have e1 : v = 1 * 10 ^ (p + 1) := by omega
  refine ⟨?_, ?_, ?_⟩
  · rw [e1, tp_psh (by decide), nd_p1 (by decide)]; omega
  · rw [h4, Nat.pow_succ]; omega
  · rw [e, tp_psh (by decide), nd_p1 (by decide)]; omega
set_option maxHeartbeats 4000000 in
set_option maxRecDepth 100000 in
/-- scale -/
theorem c_X4_scale (l : Launch) (D : va_G) (cA : Nat → ClassId) (tT : Nat) (A : Nat → Prop) (ad : Nat → Nat) (sz : Nat) {wa wb wc we : RWt} {rg : Nat → RWt} {tx : Nat → Int32} {tl : Nat} {rh : Nat → Bool × Nat × Int} (hm : mr rg rh) (hr9 : rks rh) {k i sc way : Int} (k_1 : -2147483648 ≤ k) (k_2 : k < 2147483648) (i_1 : -2147483648 ≤ i) (i_2 : i < 2147483648) (sc_1 : -2147483648 ≤ sc) (sc_2 : sc < 2147483648) (way_1 : -2147483648 ≤ way) (way_2 : way < 2147483648) : Met l yX4_scale wsX4_scale ({ frames := 2, cells := 0, slots := 0, locals := 50 }) (va_Pc [.ref (ad 0), .int (iZ (k)), .int (iZ (i)), .int (iZ (sc)), .int (iZ (way))] (wd_B D cA tT A 23 ad sz (mg cA ad wa wb wc we rg tx tl))) (va_Qi (fun (r : Int32) (u : Nat → va_E) => r = (sp_scale rh k i sc way).1 ∧ ∃ wa1 wb1 wc1 we1 rg1, mr rg1 (sp_scale rh k i sc way).2 ∧ u = mg cA ad wa1 wb1 wc1 we1 rg1 tx tl) (wd_E D cA A 23 ad) A) 0 0 A := by
  refine Met.ofW (cc := cX4_scale) (maxL := 5) (ret := (some .int)) (by decide) rfl ?_
  intro p e s m args below meth c s₁ B hml hv
  obtain ⟨rfl, hsz, hP, hK, hD, hT⟩ := hv
  have hx := B.exec
  have hb := B.bytes
  have hr := B.returns
  have hts := atoms_spec (ws := wsX4_scale) B.pre
  have hown : s.vm.findClass RX4 = some m.cls := findClass_of_methodNamed B.named
  have hlocks := B.notSynchronized
  subst hsz
  have hS : va_S A s.heap s.heap [] := va_S.rf
  have in3 : ∀ w ∈ wsX30, w ∈ wsX4_scale := by decide +kernel
  have in4 : ∀ w ∈ wsX40, w ∈ wsX4_scale := by decide +kernel
  have hl := lv_entry ([.ref (ad 0), .int (iZ (k)), .int (iZ (i)), .int (iZ (sc)), .int (iZ (way))]) (n := 5) (Nat.le_of_ble_eq_true rfl)
  rw [lg_entry_eq]
  generalize (lg_sl ([.ref (ad 0), .int (iZ (k)), .int (iZ (i)), .int (iZ (sc)), .int (iZ (way))]) ++ List.replicate (5 - (lg_sl ([.ref (ad 0), .int (iZ (k)), .int (iZ (i)), .int (iZ (sc)), .int (iZ (way))])).length) Slot.unset).toArray = ls at hl ⊢
  have hl : lv_has ls 5 [(0, .ref (ad 0)), (1, .int (iZ (k))), (2, .int (iZ (i))), (3, .int (iZ (sc))), (4, .int (iZ (way)))] := hl
  refine lv_iload_n hx hb dX4_scale_0 rfl (lv_at hl 1 rfl) ?_
  refine va_calli (va_runS (As := [.int (iZ (k))]) (rest := []) ⟨hx, hb, hml, hown, hts⟩ (c_X4_is l D cA tT A 23 ad _ _ (k := k) (by omega) (by omega)) (va_cwS 1 hts gX4_scale_X4_is rfl rfl rfl (by decide +kernel) ⟨Nat.le_of_ble_eq_true rfl, Nat.le_of_ble_eq_true rfl⟩) (wd_preS hP hK hD hT hS) rfl rfl hl.1 rfl (lv_room (Nat.le_of_ble_eq_true rfl)) dX4_scale_1 ⟨Nat.zero_le _, Nat.zero_le _⟩) hS id_2 id_1 (fun r_ u t H locs ht hvm hw hB hz1 hk1 hS => ?_)
  refine c00 ?_
  obtain ⟨hP, hD⟩ := wd_back ht hB
  clear ht hvm hB hz1 hk1
  obtain ⟨hr_, hu_⟩ := hw
  subst hr_
  rw [hu_] at hP hD
  clear hu_
  refine bz_eq (tgt := 26) hx hb dX4_scale_4 (by decide) it_lt (fun q_k => ?_) (fun q_k => ?_)
  · have g_k := it_eq q_k
    refine lv_iconst (v := iZ (-1)) hx hb dX4_scale_26 (by decide) ?_
    exact W.iret (v := iZ (-1)) hx hb hr (fun t ht hW => ⟨⟨iZ (-1), _, rfl, ⟨by rw [sp_scale, if_neg (by omega)], _, _, _, _, rg, by rw [sp_scale, if_neg (by omega)]; exact hm, rfl⟩, wd_end hP hK hD ht hW⟩, hS.F ht⟩) hS.2.2 dX4_scale_27
  · have g_k := it_ne q_k
    refine lv_iload_n hx hb dX4_scale_7 rfl (lv_at hl 2 rfl) ?_
    refine va_calli (va_runS (As := [.int (iZ (i))]) (rest := []) ⟨hx, hb, hml, hown, hts⟩ (c_X4_is l D cA tT A 23 ad _ _ (k := i) (by omega) (by omega)) (va_cwS 1 hts gX4_scale_X4_is rfl rfl rfl (by decide +kernel) ⟨Nat.le_of_ble_eq_true rfl, Nat.le_of_ble_eq_true rfl⟩) (wd_preS hP hK hD hT hS) rfl rfl hl.1 rfl (lv_room (Nat.le_of_ble_eq_true rfl)) dX4_scale_8 ⟨Nat.zero_le _, Nat.zero_le _⟩) hS id_2 id_1 (fun r_ u t H locs ht hvm hw hB hz1 hk1 hS => ?_)
    refine c00 ?_
    obtain ⟨hP, hD⟩ := wd_back ht hB
    clear ht hvm hB hz1 hk1
    obtain ⟨hr_, hu_⟩ := hw
    subst hr_
    rw [hu_] at hP hD
    clear hu_
    refine bz_eq (tgt := 26) hx hb dX4_scale_11 (by decide) it_lt (fun q_i => ?_) (fun q_i => ?_)
    · have g_i := it_eq q_i
      refine lv_iconst (v := iZ (-1)) hx hb dX4_scale_26 (by decide) ?_
      exact W.iret (v := iZ (-1)) hx hb hr (fun t ht hW => ⟨⟨iZ (-1), _, rfl, ⟨by rw [sp_scale, if_neg (by omega)], _, _, _, _, rg, by rw [sp_scale, if_neg (by omega)]; exact hm, rfl⟩, wd_end hP hK hD ht hW⟩, hS.F ht⟩) hS.2.2 dX4_scale_27
    · have g_i := it_ne q_i
      refine lv_iload hx hb dX4_scale_14 (lv_at hl 4 rfl) ?_
      refine by_lt (tgt := 26) hx hb dX4_scale_16 (by decide) (by omega) (by omega) (fun p1 => ?_) (fun p1 => ?_)
      · refine lv_iconst (v := iZ (-1)) hx hb dX4_scale_26 (by decide) ?_
        exact W.iret (v := iZ (-1)) hx hb hr (fun t ht hW => ⟨⟨iZ (-1), _, rfl, ⟨by rw [sp_scale, if_neg (by omega)], _, _, _, _, rg, by rw [sp_scale, if_neg (by omega)]; exact hm, rfl⟩, wd_end hP hK hD ht hW⟩, hS.F ht⟩) hS.2.2 dX4_scale_27
      · refine lv_iload hx hb dX4_scale_19 (lv_at hl 4 rfl) ?_
        refine lv_bipush (v := nI (7)) hx hb dX4_scale_21 (by decide) ?_
        refine tp_i (y := iZ ((7 : Nat) : Int)) (iZ_nat _) ?_
        refine bs_le (tgt := 28) hx hb dX4_scale_23 (by decide) (by omega) (by omega) (by omega) (by omega) (fun p2 => ?_) (fun p2 => ?_)
        · obtain ⟨k_n, h_k, rfl⟩ : ∃ n : Nat, n < 6 ∧ k = (n : Int) := ⟨k.toNat, by omega, by omega⟩
          rw [← iZ_nat k_n] at hl
          have e_k : ((k_n : Nat) : Int).toNat = k_n := Int.toNat_natCast k_n
          obtain ⟨i_n, h_i, rfl⟩ : ∃ n : Nat, n < 6 ∧ i = (n : Int) := ⟨i.toNat, by omega, by omega⟩
          rw [← iZ_nat i_n] at hl
          have e_i : ((i_n : Nat) : Int).toNat = i_n := Int.toNat_natCast i_n
          have m_k := hm k_n h_k
          have n_k : (rg k_n).2.1 = nd_p (rh k_n).2.1 := m_k.1.1
          have b_k : (rg k_n).2.2.1 = (rh k_n).1 := by rw [m_k.2]
          have z_k : (rg k_n).2.2.2 = (rh k_n).2.2 := by rw [m_k.2]
          have r_k := hr9 k_n h_k
          simp only [rk] at r_k
          have p_k := p190 r_k.1
          have t_k := tn_le (rh k_n).1
          have m_i := hm i_n h_i
          have n_i : (rg i_n).2.1 = nd_p (rh i_n).2.1 := m_i.1.1
          have b_i : (rg i_n).2.2.1 = (rh i_n).1 := by rw [m_i.2]
          have z_i : (rg i_n).2.2.2 = (rh i_n).2.2 := by rw [m_i.2]
          have r_i := hr9 i_n h_i
          simp only [rk] at r_i
          have p_i := p190 r_i.1
          have t_i := tn_le (rh i_n).1
          refine lv_iload_n hx hb dX4_scale_28 rfl (lv_at hl 3 rfl) ?_
          refine lv_i2l (v := lZ (sc)) hx hb dX4_scale_29 (iZ_l (by omega) (by omega)) ?_
          refine va_calli (va_runS (As := [.long (lZ (sc))]) (rest := []) ⟨hx, hb, hml, hown, hts⟩ (c_X4_isScale l D cA tT A 23 ad _ _ (k := sc) (by omega) (by omega)) (va_cwS 1 hts gX4_scale_X4_isScale rfl rfl rfl (by decide +kernel) ⟨Nat.le_of_ble_eq_true rfl, Nat.le_of_ble_eq_true rfl⟩) (wd_preS hP hK hD hT hS) rfl rfl hl.1 rfl (lv_room (Nat.le_of_ble_eq_true rfl)) dX4_scale_30 ⟨Nat.zero_le _, Nat.zero_le _⟩) hS id_2 id_1 (fun r_ u t H locs ht hvm hw hB hz1 hk1 hS => ?_)
          refine c00 ?_
          obtain ⟨hP, hD⟩ := wd_back ht hB
          clear ht hvm hB hz1 hk1
          obtain ⟨hr_, hu_⟩ := hw
          subst hr_
          rw [hu_] at hP hD
          clear hu_
          refine bz_ne (tgt := 39) hx hb dX4_scale_33 (by decide) it_lt (fun p5 => ?_) (fun p5 => ?_)
          · have p6 := it_ne p5
            refine lv_aload_n hx hb dX4_scale_39 rfl (lv_at hl 0 rfl) ?_
            refine rg_4_a hx hb hts in4 hown hK hP 0 (by decide) mg_0 (hts _ (by decide +kernel)) dX4_scale_40 ?_
            refine lv_aload_n hx hb dX4_scale_43 rfl (lv_at hl 0 rfl) ?_
            refine rg_4_registers hx hb hts in4 hown hK hP 0 (by decide) mg_0 (hts _ (by decide +kernel)) dX4_scale_44 ?_
            refine lv_iload_n hx hb dX4_scale_47 rfl (lv_at hl 2 rfl) ?_
            refine rn_q4 hx hb hK hP 1 (by decide) mg_1 (by omega) (by decide) dX4_scale_48 ?_
            refine tp_v (y := .ref (ad (11 + 2 * i_n))) rfl ?_
            refine va_callv (va_runV (As := [.ref (ad (11 + 2 * i_n))]) (rest := []) ⟨hx, hb, hml, hown, hts⟩ (c_X3_take l D cA tT A 23 ad _ _ (a := 3) (f := wa.1) (n := wa.2.1) (b := wa.2.2.1) (z := wa.2.2.2) (o := 11 + 2 * i_n) (f1 := (rg i_n).1) (n1 := (rg i_n).2.1) (b1 := (rg i_n).2.2.1) (z1 := (rg i_n).2.2.2) (by decide) mg_A (by omega) (mg_G _) (by omega) (by omega) (by omega) (by omega)) (cwV 1 hts gX4_scale_X3_take rfl rfl rfl (by decide +kernel) ⟨Nat.le_of_ble_eq_true rfl, Nat.le_of_ble_eq_true rfl⟩) (wd_preV (k := 3) hP hK hD hT hS (by decide) mg_A.1 rfl) rfl rfl hl.1 rfl (lv_room (Nat.le_of_ble_eq_true rfl)) dX4_scale_49 ⟨Nat.zero_le _, Nat.zero_le _⟩) hS id_2 id_1 (fun u t H locs ht hvm hw hB hz1 hk1 hS => ?_)
            refine c00 ?_
            obtain ⟨hP, hD⟩ := wd_back ht hB
            clear ht hvm hB hz1 hk1
            rw [hw] at hP hD
            clear hw
            obtain ⟨f1, hf1⟩ : ∃ f9 : Nat → Int32, f9 = tk (rg i_n).1 wa.1 (rg i_n).2.1 := ⟨_, rfl⟩
            rw [← hf1, b_i, z_i] at hP hD
            have vf1 : rv f1 (rg i_n).2.1 (rh i_n).2.1 := ⟨n_i, fun j hj => by rw [hf1, tk_lt hj]; exact m_i.1.2 j hj⟩
            rw [show rw_ cA ad (mg cA ad wa wb wc we rg tx tl) 3 f1 ((rg i_n).2.1) ((rh i_n).1) ((rh i_n).2.2) = mg cA ad (f1, (rg i_n).2.1, (rh i_n).1, (rh i_n).2.2) wb wc we rg tx tl from mg_ua (w' := (f1, (rg i_n).2.1, (rh i_n).1, (rh i_n).2.2))] at hP hD
            refine lv_iload_n hx hb dX4_scale_52 rfl (lv_at hl 3 rfl) ?_
            refine lv_aload_n hx hb dX4_scale_53 rfl (lv_at hl 0 rfl) ?_
            refine rg_4_a hx hb hts in4 hown hK hP 0 (by decide) mg_0 (hts _ (by decide +kernel)) dX4_scale_54 ?_
            refine rg_3_scale hx hb hts in3 hown hK hP 3 (by omega) mg_A.1 (hts _ (by decide +kernel)) dX4_scale_57 ?_
            refine tp_i (y := iZ ((rh i_n).2.2)) rfl ?_
            refine bs_lt (tgt := 82) hx hb dX4_scale_60 (by decide) (by omega) (by omega) (by omega) (by omega) (fun p7 => ?_) (fun p7 => ?_)
            · refine lv_aload_n hx hb dX4_scale_82 rfl (lv_at hl 0 rfl) ?_
              refine lv_aload_n hx hb dX4_scale_83 rfl (lv_at hl 0 rfl) ?_
              refine rg_4_a hx hb hts in4 hown hK hP 0 (by decide) mg_0 (hts _ (by decide +kernel)) dX4_scale_84 ?_
              refine rg_3_scale hx hb hts in3 hown hK hP 3 (by omega) mg_A.1 (hts _ (by decide +kernel)) dX4_scale_87 ?_
              refine tp_i (y := iZ ((rh i_n).2.2)) rfl ?_
              refine lv_iload_n hx hb dX4_scale_90 rfl (lv_at hl 3 rfl) ?_
              refine lv_isub hx hb dX4_scale_91 ?_
              refine tp_i (y := iZ (((rh i_n).2.2) - sc)) (iZ_sub _ _) ?_
              refine tp_i (y := nI (((rh i_n).2.2 - sc).toNat)) (iZ_tn (by omega)) ?_
              refine lv_iload hx hb dX4_scale_92 (lv_at hl 4 rfl) ?_
              refine va_calli (va_runV (As := [.int (nI (((rh i_n).2.2 - sc).toNat)), .int (iZ (way))]) (rest := []) ⟨hx, hb, hml, hown, hts⟩ (c_X4_cut l D cA tT A ad _ (fa := f1) (na := (rg i_n).2.1) (X := (rh i_n).2.1) (B9 := ((rh i_n).2.2 - sc).toNat) (ba := (rh i_n).1) (za := (rh i_n).2.2) (way := way) (wb := wb) (wc := wc) (we := we) (rg := rg) (tx := tx) (tl := tl) (by omega) (by omega) vf1 (by omega) (by omega)) (cwV 2 hts gX4_scale_X4_cut rfl rfl rfl (by decide +kernel) ⟨Nat.le_of_ble_eq_true rfl, Nat.le_of_ble_eq_true rfl⟩) (wd_preV (k := 0) hP hK hD hT hS (by decide) mg_0 rfl) rfl rfl hl.1 rfl (lv_room (Nat.le_of_ble_eq_true rfl)) dX4_scale_94 ⟨Nat.zero_le _, Nat.zero_le _⟩) hS id_2 id_1 (fun r_ u t H locs ht hvm hw hB hz1 hk1 hS => ?_)
              refine c00 ?_
              obtain ⟨hP, hD⟩ := wd_back ht hB
              clear ht hvm hB hz1 hk1
              obtain ⟨hr_, fx, nfx, vfx, hu_⟩ := hw
              subst hr_
              rw [hu_] at hP hD
              clear hu_
              have hr1 := rdn_1 (rh i_n).1 (rh i_n).2.1 (10 ^ ((rh i_n).2.2 - sc).toNat) way
              have hx1 : (rh i_n).2.1 * 10 ^ (sc - (rh i_n).2.2).toNat = (rh i_n).2.1 := by rw [show (sc - (rh i_n).2.2).toNat = 0 by omega, Nat.pow_zero, Nat.mul_one]
              refine bz_ne (tgt := 103) hx hb dX4_scale_97 (by decide) (by omega) (fun p8 => ?_) (fun p8 => ?_)
              · obtain ⟨vf9, nf9⟩ := vfx p8
                obtain ⟨v9, hv99⟩ : ∃ v9, v9 = (rdn ((rh i_n).1) ((rh i_n).2.1) (10 ^ (((rh i_n).2.2 - sc).toNat)) way).2 := ⟨_, rfl⟩
                rw [← hv99] at vf9
                have p3 : 1 ≤ nfx := by rw [vf9.1]; exact nd_p_pos _
                have hnc9 := vf9.1
                refine lv_aload_n hx hb dX4_scale_103 rfl (lv_at hl 0 rfl) ?_
                refine rg_4_a hx hb hts in4 hown hK hP 0 (by decide) mg_0 (hts _ (by decide +kernel)) dX4_scale_104 ?_
                refine lv_iload_n hx hb dX4_scale_107 rfl (lv_at hl 3 rfl) ?_
                refine rp_3_scale hx hb hts in3 hown hK hP hD hS 3 (by omega) mg_A.1 (hts _ (by decide +kernel)) rfl rfl dX4_scale_108 (fun H locs hP hD hS => ?_)
                rw [mg_pa nfx ((rh i_n).1) sc (v := nI (((rh i_n).1).toNat)) rfl] at hP hD
                refine lv_aload_n hx hb dX4_scale_111 rfl (lv_at hl 0 rfl) ?_
                refine rg_4_a hx hb hts in4 hown hK hP 0 (by decide) mg_0 (hts _ (by decide +kernel)) dX4_scale_112 ?_
                refine va_callv (va_runV (As := []) (rest := []) ⟨hx, hb, hml, hown, hts⟩ (c_X3_trim l D cA tT A 23 ad _ _ (a := 3) (f := fx) (n := nfx) (b := (rh i_n).1) (z := sc) (v := v9) (by decide) mg_A (by omega) (by omega) (rv_dv vf9)) (cwV 0 hts gX4_scale_X3_trim rfl rfl rfl (by decide +kernel) ⟨Nat.le_of_ble_eq_true rfl, Nat.le_of_ble_eq_true rfl⟩) (wd_preV (k := 3) hP hK hD hT hS (by decide) mg_A.1 rfl) rfl rfl hl.1 rfl (lv_room (Nat.le_of_ble_eq_true rfl)) dX4_scale_115 ⟨Nat.zero_le _, Nat.zero_le _⟩) hS id_2 id_1 (fun u t H locs ht hvm hw hB hz1 hk1 hS => ?_)
                refine c00 ?_
                obtain ⟨hP, hD⟩ := wd_back ht hB
                clear ht hvm hB hz1 hk1
                obtain ⟨hv9, hu_⟩ := hw
                rw [hu_] at hP hD
                clear hu_
                rw [show rw_ cA ad (mg cA ad (fx, nfx, (rh i_n).1, sc) wb wc we rg tx tl) 3 fx (nd_p v9) (sn ((rh i_n).1) v9) sc = mg cA ad (fx, nd_p v9, sn ((rh i_n).1) v9, sc) wb wc we rg tx tl from mg_ua (w' := (fx, nd_p v9, sn ((rh i_n).1) v9, sc))] at hP hD
                refine lv_aload_n hx hb dX4_scale_118 rfl (lv_at hl 0 rfl) ?_
                refine lv_iload_n hx hb dX4_scale_119 rfl (lv_at hl 1 rfl) ?_
                refine lv_aload_n hx hb dX4_scale_120 rfl (lv_at hl 0 rfl) ?_
                refine rg_4_a hx hb hts in4 hown hK hP 0 (by decide) mg_0 (hts _ (by decide +kernel)) dX4_scale_121 ?_
                have hk8 : nd_p v9 ≤ 800 := (by omega)
                have hkz1 : -2147483648 ≤ sc := (by omega)
                have hkz2 : sc < 2147483648 := (by omega)
                have hkb : (sn ((rh i_n).1) v9) = true → v9 ≠ 0 := fun h => sn_ok h
                refine va_calli (va_runV (As := [.int (nI (k_n)), .ref (ad 3)]) (rest := []) ⟨hx, hb, hml, hown, hts⟩ (c_X4_keep_a l D cA tT A ad _ (wa := (fx, nd_p v9, sn ((rh i_n).1) v9, sc)) (wb := wb) (wc := wc) (we := we) (rg := rg) (tx := tx) (tl := tl) (rh := rh) (k := k_n) (v := v9) hm h_k hv9 hk8 hkb hkz1 hkz2) (cwV 2 hts gX4_scale_X4_keep rfl rfl rfl (by decide +kernel) ⟨Nat.le_of_ble_eq_true rfl, Nat.le_of_ble_eq_true rfl⟩) (wd_preV (k := 0) hP hK hD hT hS (by decide) mg_0 rfl) rfl rfl hl.1 rfl (lv_room (Nat.le_of_ble_eq_true rfl)) dX4_scale_124 ⟨Nat.zero_le _, Nat.zero_le _⟩) hS id_2 id_1 (fun r_ u t H locs ht hvm hw hB hz1 hk1 hS => ?_)
                refine c00 ?_
                obtain ⟨hP, hD⟩ := wd_back ht hB
                clear ht hvm hB hz1 hk1
                obtain ⟨hr_, rg1, hmr, hu_⟩ := hw
                rw [hu_] at hP hD
                have hsp : sp_scale rh (k_n : Int) (i_n : Int) sc way = kpr rh k_n (sn ((rh i_n).1) v9, v9, sc) := by rw [sp_scale, if_pos (by omega), e_k, e_i, kqr_one p6, hx1, if_neg p8, kpr_sn, ← hv99]
                exact W.iret hx hb hr (fun t ht hW => ⟨⟨_, _, rfl, ⟨by rw [hsp]; exact hr_, _, _, _, _, rg1, by rw [hsp]; exact hmr, rfl⟩, wd_end hP hK hD ht hW⟩, hS.F ht⟩) hS.2.2 dX4_scale_127
              · refine lv_bipush (v := iZ (-4)) hx hb dX4_scale_100 (by decide) ?_
                have hkq : sp_scale rh (k_n : Int) (i_n : Int) sc way = (iZ (-4), rh) := by rw [sp_scale, if_pos (by omega), e_k, e_i, kqr_one p6, hx1, if_pos p8]
                exact W.iret (v := iZ (-4)) hx hb hr (fun t ht hW => ⟨⟨iZ (-4), _, rfl, ⟨by rw [hkq], _, _, _, _, rg, by rw [hkq]; exact hm, rfl⟩, wd_end hP hK hD ht hW⟩, hS.F ht⟩) hS.2.2 dX4_scale_102
            · refine lv_aload_n hx hb dX4_scale_63 rfl (lv_at hl 0 rfl) ?_
              refine rg_4_a hx hb hts in4 hown hK hP 0 (by decide) mg_0 (hts _ (by decide +kernel)) dX4_scale_64 ?_
              refine lv_iload_n hx hb dX4_scale_67 rfl (lv_at hl 3 rfl) ?_
              refine lv_aload_n hx hb dX4_scale_68 rfl (lv_at hl 0 rfl) ?_
              refine rg_4_a hx hb hts in4 hown hK hP 0 (by decide) mg_0 (hts _ (by decide +kernel)) dX4_scale_69 ?_
              refine rg_3_scale hx hb hts in3 hown hK hP 3 (by omega) mg_A.1 (hts _ (by decide +kernel)) dX4_scale_72 ?_
              refine tp_i (y := iZ ((rh i_n).2.2)) rfl ?_
              refine lv_isub hx hb dX4_scale_75 ?_
              refine tp_i (y := iZ (sc - ((rh i_n).2.2))) (iZ_sub _ _) ?_
              refine tp_i (y := nI ((sc - (rh i_n).2.2).toNat)) (iZ_tn (by omega)) ?_
              refine va_callv (va_runV (As := [.int (nI ((sc - (rh i_n).2.2).toNat))]) (rest := []) ⟨hx, hb, hml, hown, hts⟩ (c_X3_up l D cA tT A 23 ad _ _ (a := 3) (f := f1) (n := (rg i_n).2.1) (b := (rh i_n).1) (z := (rh i_n).2.2) (v := (rh i_n).2.1) (F := (sc - (rh i_n).2.2).toNat) (by decide) mg_A vf1 (by omega)) (cwV 1 hts gX4_scale_X3_up rfl rfl rfl (by decide +kernel) ⟨Nat.le_of_ble_eq_true rfl, Nat.le_of_ble_eq_true rfl⟩) (wd_preV (k := 3) hP hK hD hT hS (by decide) mg_A.1 rfl) rfl rfl hl.1 rfl (lv_room (Nat.le_of_ble_eq_true rfl)) dX4_scale_76 ⟨Nat.zero_le _, Nat.zero_le _⟩) hS id_2 id_1 (fun u t H locs ht hvm hw hB hz1 hk1 hS => ?_)
              refine c00 ?_
              obtain ⟨hP, hD⟩ := wd_back ht hB
              clear ht hvm hB hz1 hk1
              obtain ⟨f3, nf3, vf3, lf3, hu_⟩ := hw
              rw [hu_] at hP hD
              clear hu_
              rw [show rw_ cA ad (mg cA ad (f1, (rg i_n).2.1, (rh i_n).1, (rh i_n).2.2) wb wc we rg tx tl) 3 f3 nf3 ((rh i_n).1) ((rh i_n).2.2) = mg cA ad (f3, nf3, (rh i_n).1, (rh i_n).2.2) wb wc we rg tx tl from mg_ua (w' := (f3, nf3, (rh i_n).1, (rh i_n).2.2))] at hP hD
              have p3 : 1 ≤ nf3 := by rw [vf3.1]; exact nd_p_pos _
              have hnc9 := vf3.1
              refine lv_goto (tgt := 103) hx hb dX4_scale_79 (by decide) ?_
              refine lv_aload_n hx hb dX4_scale_103 rfl (lv_at hl 0 rfl) ?_
              refine rg_4_a hx hb hts in4 hown hK hP 0 (by decide) mg_0 (hts _ (by decide +kernel)) dX4_scale_104 ?_
              refine lv_iload_n hx hb dX4_scale_107 rfl (lv_at hl 3 rfl) ?_
              refine rp_3_scale hx hb hts in3 hown hK hP hD hS 3 (by omega) mg_A.1 (hts _ (by decide +kernel)) rfl rfl dX4_scale_108 (fun H locs hP hD hS => ?_)
              rw [mg_pa nf3 ((rh i_n).1) sc (v := nI (((rh i_n).1).toNat)) rfl] at hP hD
              refine lv_aload_n hx hb dX4_scale_111 rfl (lv_at hl 0 rfl) ?_
              refine rg_4_a hx hb hts in4 hown hK hP 0 (by decide) mg_0 (hts _ (by decide +kernel)) dX4_scale_112 ?_
              refine va_callv (va_runV (As := []) (rest := []) ⟨hx, hb, hml, hown, hts⟩ (c_X3_trim l D cA tT A 23 ad _ _ (a := 3) (f := f3) (n := nf3) (b := (rh i_n).1) (z := sc) (v := (rh i_n).2.1 * 10 ^ (sc - (rh i_n).2.2).toNat) (by decide) mg_A (by omega) (by omega) (rv_dv vf3)) (cwV 0 hts gX4_scale_X3_trim rfl rfl rfl (by decide +kernel) ⟨Nat.le_of_ble_eq_true rfl, Nat.le_of_ble_eq_true rfl⟩) (wd_preV (k := 3) hP hK hD hT hS (by decide) mg_A.1 rfl) rfl rfl hl.1 rfl (lv_room (Nat.le_of_ble_eq_true rfl)) dX4_scale_115 ⟨Nat.zero_le _, Nat.zero_le _⟩) hS id_2 id_1 (fun u t H locs ht hvm hw hB hz1 hk1 hS => ?_)
              refine c00 ?_
              obtain ⟨hP, hD⟩ := wd_back ht hB
              clear ht hvm hB hz1 hk1
              obtain ⟨hv9, hu_⟩ := hw
              rw [hu_] at hP hD
              clear hu_
              rw [show rw_ cA ad (mg cA ad (f3, nf3, (rh i_n).1, sc) wb wc we rg tx tl) 3 f3 (nd_p ((rh i_n).2.1 * 10 ^ (sc - (rh i_n).2.2).toNat)) (sn ((rh i_n).1) ((rh i_n).2.1 * 10 ^ (sc - (rh i_n).2.2).toNat)) sc = mg cA ad (f3, nd_p ((rh i_n).2.1 * 10 ^ (sc - (rh i_n).2.2).toNat), sn ((rh i_n).1) ((rh i_n).2.1 * 10 ^ (sc - (rh i_n).2.2).toNat), sc) wb wc we rg tx tl from mg_ua (w' := (f3, nd_p ((rh i_n).2.1 * 10 ^ (sc - (rh i_n).2.2).toNat), sn ((rh i_n).1) ((rh i_n).2.1 * 10 ^ (sc - (rh i_n).2.2).toNat), sc))] at hP hD
              refine lv_aload_n hx hb dX4_scale_118 rfl (lv_at hl 0 rfl) ?_
              refine lv_iload_n hx hb dX4_scale_119 rfl (lv_at hl 1 rfl) ?_
              refine lv_aload_n hx hb dX4_scale_120 rfl (lv_at hl 0 rfl) ?_
              refine rg_4_a hx hb hts in4 hown hK hP 0 (by decide) mg_0 (hts _ (by decide +kernel)) dX4_scale_121 ?_
              have hk8 : nd_p ((rh i_n).2.1 * 10 ^ (sc - (rh i_n).2.2).toNat) ≤ 800 := (by omega)
              have hkz1 : -2147483648 ≤ sc := (by omega)
              have hkz2 : sc < 2147483648 := (by omega)
              have hkb : (sn ((rh i_n).1) ((rh i_n).2.1 * 10 ^ (sc - (rh i_n).2.2).toNat)) = true → ((rh i_n).2.1 * 10 ^ (sc - (rh i_n).2.2).toNat) ≠ 0 := fun h => sn_ok h
              refine va_calli (va_runV (As := [.int (nI (k_n)), .ref (ad 3)]) (rest := []) ⟨hx, hb, hml, hown, hts⟩ (c_X4_keep_a l D cA tT A ad _ (wa := (f3, nd_p ((rh i_n).2.1 * 10 ^ (sc - (rh i_n).2.2).toNat), sn ((rh i_n).1) ((rh i_n).2.1 * 10 ^ (sc - (rh i_n).2.2).toNat), sc)) (wb := wb) (wc := wc) (we := we) (rg := rg) (tx := tx) (tl := tl) (rh := rh) (k := k_n) (v := (rh i_n).2.1 * 10 ^ (sc - (rh i_n).2.2).toNat) hm h_k hv9 hk8 hkb hkz1 hkz2) (cwV 2 hts gX4_scale_X4_keep rfl rfl rfl (by decide +kernel) ⟨Nat.le_of_ble_eq_true rfl, Nat.le_of_ble_eq_true rfl⟩) (wd_preV (k := 0) hP hK hD hT hS (by decide) mg_0 rfl) rfl rfl hl.1 rfl (lv_room (Nat.le_of_ble_eq_true rfl)) dX4_scale_124 ⟨Nat.zero_le _, Nat.zero_le _⟩) hS id_2 id_1 (fun r_ u t H locs ht hvm hw hB hz1 hk1 hS => ?_)
              refine c00 ?_
              obtain ⟨hP, hD⟩ := wd_back ht hB
              clear ht hvm hB hz1 hk1
              obtain ⟨hr_, rg1, hmr, hu_⟩ := hw
              rw [hu_] at hP hD
              have hsp : sp_scale rh (k_n : Int) (i_n : Int) sc way = kpr rh k_n (sn ((rh i_n).1) ((rh i_n).2.1 * 10 ^ (sc - (rh i_n).2.2).toNat), (rh i_n).2.1 * 10 ^ (sc - (rh i_n).2.2).toNat, sc) := by rw [sp_scale, if_pos (by omega), e_k, e_i, kqr_one p6, show ((rh i_n).2.2 - sc).toNat = 0 by omega, rdn_one, if_neg (show ¬ (1 : Nat) = 0 by decide), kpr_sn]
              exact W.iret hx hb hr (fun t ht hW => ⟨⟨_, _, rfl, ⟨by rw [hsp]; exact hr_, _, _, _, _, rg1, by rw [hsp]; exact hmr, rfl⟩, wd_end hP hK hD ht hW⟩, hS.F ht⟩) hS.2.2 dX4_scale_127
          · have p6 := it_eq p5
            refine lv_bipush (v := iZ (-3)) hx hb dX4_scale_36 (by decide) ?_
            exact W.iret (v := iZ (-3)) hx hb hr (fun t ht hW => ⟨⟨iZ (-3), _, rfl, ⟨by rw [sp_scale, if_pos (by omega), e_k, e_i, kqr, if_neg p6], _, _, _, _, rg, by rw [sp_scale, if_pos (by omega), e_k, e_i, kqr, if_neg p6]; exact hm, rfl⟩, wd_end hP hK hD ht hW⟩, hS.F ht⟩) hS.2.2 dX4_scale_38
        · refine lv_iconst (v := iZ (-1)) hx hb dX4_scale_26 (by decide) ?_
          exact W.iret (v := iZ (-1)) hx hb hr (fun t ht hW => ⟨⟨iZ (-1), _, rfl, ⟨by rw [sp_scale, if_neg (by omega)], _, _, _, _, rg, by rw [sp_scale, if_neg (by omega)]; exact hm, rfl⟩, wd_end hP hK hD ht hW⟩, hS.F ht⟩) hS.2.2 dX4_scale_27
theorem rnd_nz {b : Bool} {X P : Nat} {way : Int} (h0 : X ≠ 0) (h1 : 1 ≤ P) (h : P < nd_p X) : (rdn b X (10 ^ (nd_p X - P)) way).2 ≠ 0 := by
  have h2 : 0 < X / 10 ^ (nd_p X - P) := Nat.div_pos ((nd_p_ge (by omega)).mp (by omega)) (Nat.pow_pos (by decide))
  rw [rdn]
  split
  · exact Nat.pos_iff_ne_zero.mp h2
  · split
    · exact Nat.pos_iff_ne_zero.mp h2
    · dsimp only
      split <;> omega
theorem rnd_nz2 {v P : Nat} (h1 : 1 ≤ P) (h : nd_p (v / 10) = P) (h2 : nd_p v = P + 1) : v / 10 ≠ 0 := by
  intro h3
  have h4 : v < 10 := by omega
  rw [nd_p1 h4] at h2; omega
set_option maxHeartbeats 4000000 in
set_option maxRecDepth 100000 in
/-- round -/
theorem c_X4_round (l : Launch) (D : va_G) (cA : Nat → ClassId) (tT : Nat) (A : Nat → Prop) (ad : Nat → Nat) (sz : Nat) {wa wb wc we : RWt} {rg : Nat → RWt} {tx : Nat → Int32} {tl : Nat} {rh : Nat → Bool × Nat × Int} (hm : mr rg rh) (hr9 : rks rh) {k i pp way : Int} (k_1 : -2147483648 ≤ k) (k_2 : k < 2147483648) (i_1 : -2147483648 ≤ i) (i_2 : i < 2147483648) (pp_1 : -2147483648 ≤ pp) (pp_2 : pp < 2147483648) (way_1 : -2147483648 ≤ way) (way_2 : way < 2147483648) : Met l yX4_round wsX4_round ({ frames := 2, cells := 0, slots := 0, locals := 50 }) (va_Pc [.ref (ad 0), .int (iZ (k)), .int (iZ (i)), .int (iZ (pp)), .int (iZ (way))] (wd_B D cA tT A 23 ad sz (mg cA ad wa wb wc we rg tx tl))) (va_Qi (fun (r : Int32) (u : Nat → va_E) => r = (sp_round rh k i pp way).1 ∧ ∃ wa1 wb1 wc1 we1 rg1, mr rg1 (sp_round rh k i pp way).2 ∧ u = mg cA ad wa1 wb1 wc1 we1 rg1 tx tl) (wd_E D cA A 23 ad) A) 0 0 A := by
  refine Met.ofW (cc := cX4_round) (maxL := 6) (ret := (some .int)) (by decide) rfl ?_
  intro p e s m args below meth c s₁ B hml hv
  obtain ⟨rfl, hsz, hP, hK, hD, hT⟩ := hv
  have hx := B.exec
  have hb := B.bytes
  have hr := B.returns
  have hts := atoms_spec (ws := wsX4_round) B.pre
  have hown : s.vm.findClass RX4 = some m.cls := findClass_of_methodNamed B.named
  have hlocks := B.notSynchronized
  subst hsz
  have hS : va_S A s.heap s.heap [] := va_S.rf
  have in3 : ∀ w ∈ wsX30, w ∈ wsX4_round := by decide +kernel
  have in4 : ∀ w ∈ wsX40, w ∈ wsX4_round := by decide +kernel
  have hl := lv_entry ([.ref (ad 0), .int (iZ (k)), .int (iZ (i)), .int (iZ (pp)), .int (iZ (way))]) (n := 6) (Nat.le_of_ble_eq_true rfl)
  rw [lg_entry_eq]
  generalize (lg_sl ([.ref (ad 0), .int (iZ (k)), .int (iZ (i)), .int (iZ (pp)), .int (iZ (way))]) ++ List.replicate (6 - (lg_sl ([.ref (ad 0), .int (iZ (k)), .int (iZ (i)), .int (iZ (pp)), .int (iZ (way))])).length) Slot.unset).toArray = ls at hl ⊢
  have hl : lv_has ls 6 [(0, .ref (ad 0)), (1, .int (iZ (k))), (2, .int (iZ (i))), (3, .int (iZ (pp))), (4, .int (iZ (way)))] := hl
  refine lv_iload_n hx hb dX4_round_0 rfl (lv_at hl 1 rfl) ?_
  refine va_calli (va_runS (As := [.int (iZ (k))]) (rest := []) ⟨hx, hb, hml, hown, hts⟩ (c_X4_is l D cA tT A 23 ad _ _ (k := k) (by omega) (by omega)) (va_cwS 1 hts gX4_round_X4_is rfl rfl rfl (by decide +kernel) ⟨Nat.le_of_ble_eq_true rfl, Nat.le_of_ble_eq_true rfl⟩) (wd_preS hP hK hD hT hS) rfl rfl hl.1 rfl (lv_room (Nat.le_of_ble_eq_true rfl)) dX4_round_1 ⟨Nat.zero_le _, Nat.zero_le _⟩) hS id_2 id_1 (fun r_ u t H locs ht hvm hw hB hz1 hk1 hS => ?_)
  refine c00 ?_
  obtain ⟨hP, hD⟩ := wd_back ht hB
  clear ht hvm hB hz1 hk1
  obtain ⟨hr_, hu_⟩ := hw
  subst hr_
  rw [hu_] at hP hD
  clear hu_
  refine bz_eq (tgt := 47) hx hb dX4_round_4 (by decide) it_lt (fun q_k => ?_) (fun q_k => ?_)
  · have g_k := it_eq q_k
    refine lv_iconst (v := iZ (-1)) hx hb dX4_round_47 (by decide) ?_
    exact W.iret (v := iZ (-1)) hx hb hr (fun t ht hW => ⟨⟨iZ (-1), _, rfl, ⟨by rw [sp_round, if_neg (by omega)], _, _, _, _, rg, by rw [sp_round, if_neg (by omega)]; exact hm, rfl⟩, wd_end hP hK hD ht hW⟩, hS.F ht⟩) hS.2.2 dX4_round_48
  · have g_k := it_ne q_k
    refine lv_iload_n hx hb dX4_round_7 rfl (lv_at hl 2 rfl) ?_
    refine va_calli (va_runS (As := [.int (iZ (i))]) (rest := []) ⟨hx, hb, hml, hown, hts⟩ (c_X4_is l D cA tT A 23 ad _ _ (k := i) (by omega) (by omega)) (va_cwS 1 hts gX4_round_X4_is rfl rfl rfl (by decide +kernel) ⟨Nat.le_of_ble_eq_true rfl, Nat.le_of_ble_eq_true rfl⟩) (wd_preS hP hK hD hT hS) rfl rfl hl.1 rfl (lv_room (Nat.le_of_ble_eq_true rfl)) dX4_round_8 ⟨Nat.zero_le _, Nat.zero_le _⟩) hS id_2 id_1 (fun r_ u t H locs ht hvm hw hB hz1 hk1 hS => ?_)
    refine c00 ?_
    obtain ⟨hP, hD⟩ := wd_back ht hB
    clear ht hvm hB hz1 hk1
    obtain ⟨hr_, hu_⟩ := hw
    subst hr_
    rw [hu_] at hP hD
    clear hu_
    refine bz_eq (tgt := 47) hx hb dX4_round_11 (by decide) it_lt (fun q_i => ?_) (fun q_i => ?_)
    · have g_i := it_eq q_i
      refine lv_iconst (v := iZ (-1)) hx hb dX4_round_47 (by decide) ?_
      exact W.iret (v := iZ (-1)) hx hb hr (fun t ht hW => ⟨⟨iZ (-1), _, rfl, ⟨by rw [sp_round, if_neg (by omega)], _, _, _, _, rg, by rw [sp_round, if_neg (by omega)]; exact hm, rfl⟩, wd_end hP hK hD ht hW⟩, hS.F ht⟩) hS.2.2 dX4_round_48
    · have g_i := it_ne q_i
      refine lv_iload hx hb dX4_round_14 (lv_at hl 4 rfl) ?_
      refine by_lt (tgt := 47) hx hb dX4_round_16 (by decide) (by omega) (by omega) (fun p1 => ?_) (fun p1 => ?_)
      · refine lv_iconst (v := iZ (-1)) hx hb dX4_round_47 (by decide) ?_
        exact W.iret (v := iZ (-1)) hx hb hr (fun t ht hW => ⟨⟨iZ (-1), _, rfl, ⟨by rw [sp_round, if_neg (by omega)], _, _, _, _, rg, by rw [sp_round, if_neg (by omega)]; exact hm, rfl⟩, wd_end hP hK hD ht hW⟩, hS.F ht⟩) hS.2.2 dX4_round_48
      · refine lv_iload hx hb dX4_round_19 (lv_at hl 4 rfl) ?_
        refine lv_bipush (v := nI (7)) hx hb dX4_round_21 (by decide) ?_
        refine tp_i (y := iZ ((7 : Nat) : Int)) (iZ_nat _) ?_
        refine bs_gt (tgt := 47) hx hb dX4_round_23 (by decide) (by omega) (by omega) (by omega) (by omega) (fun p2 => ?_) (fun p2 => ?_)
        · refine lv_iconst (v := iZ (-1)) hx hb dX4_round_47 (by decide) ?_
          exact W.iret (v := iZ (-1)) hx hb hr (fun t ht hW => ⟨⟨iZ (-1), _, rfl, ⟨by rw [sp_round, if_neg (by omega)], _, _, _, _, rg, by rw [sp_round, if_neg (by omega)]; exact hm, rfl⟩, wd_end hP hK hD ht hW⟩, hS.F ht⟩) hS.2.2 dX4_round_48
        · refine lv_iload_n hx hb dX4_round_26 rfl (lv_at hl 3 rfl) ?_
          refine lv_iconst (v := nI (1)) hx hb dX4_round_27 (by decide) ?_
          refine tp_i (y := iZ ((1 : Nat) : Int)) (iZ_nat _) ?_
          refine bs_lt (tgt := 47) hx hb dX4_round_28 (by decide) (by omega) (by omega) (by omega) (by omega) (fun p3 => ?_) (fun p3 => ?_)
          · refine lv_iconst (v := iZ (-1)) hx hb dX4_round_47 (by decide) ?_
            exact W.iret (v := iZ (-1)) hx hb hr (fun t ht hW => ⟨⟨iZ (-1), _, rfl, ⟨by rw [sp_round, if_neg (by omega)], _, _, _, _, rg, by rw [sp_round, if_neg (by omega)]; exact hm, rfl⟩, wd_end hP hK hD ht hW⟩, hS.F ht⟩) hS.2.2 dX4_round_48
          · obtain ⟨k_n, h_k, rfl⟩ : ∃ n : Nat, n < 6 ∧ k = (n : Int) := ⟨k.toNat, by omega, by omega⟩
            rw [← iZ_nat k_n] at hl
            have e_k : ((k_n : Nat) : Int).toNat = k_n := Int.toNat_natCast k_n
            obtain ⟨i_n, h_i, rfl⟩ : ∃ n : Nat, n < 6 ∧ i = (n : Int) := ⟨i.toNat, by omega, by omega⟩
            rw [← iZ_nat i_n] at hl
            have e_i : ((i_n : Nat) : Int).toNat = i_n := Int.toNat_natCast i_n
            have m_k := hm k_n h_k
            have n_k : (rg k_n).2.1 = nd_p (rh k_n).2.1 := m_k.1.1
            have b_k : (rg k_n).2.2.1 = (rh k_n).1 := by rw [m_k.2]
            have z_k : (rg k_n).2.2.2 = (rh k_n).2.2 := by rw [m_k.2]
            have r_k := hr9 k_n h_k
            simp only [rk] at r_k
            have p_k := p190 r_k.1
            have t_k := tn_le (rh k_n).1
            have m_i := hm i_n h_i
            have n_i : (rg i_n).2.1 = nd_p (rh i_n).2.1 := m_i.1.1
            have b_i : (rg i_n).2.2.1 = (rh i_n).1 := by rw [m_i.2]
            have z_i : (rg i_n).2.2.2 = (rh i_n).2.2 := by rw [m_i.2]
            have r_i := hr9 i_n h_i
            simp only [rk] at r_i
            have p_i := p190 r_i.1
            have t_i := tn_le (rh i_n).1
            refine lv_aload_n hx hb dX4_round_31 rfl (lv_at hl 0 rfl) ?_
            refine rg_4_registers hx hb hts in4 hown hK hP 0 (by decide) mg_0 (hts _ (by decide +kernel)) dX4_round_32 ?_
            refine lv_iload_n hx hb dX4_round_35 rfl (lv_at hl 2 rfl) ?_
            refine rn_q4 hx hb hK hP 1 (by decide) mg_1 (by omega) (by decide) dX4_round_36 ?_
            refine tp_v (y := .ref (ad (11 + 2 * i_n))) rfl ?_
            refine rg_3_n hx hb hts in3 hown hK hP (11 + 2 * i_n) (by omega) (mg_G i_n).1 (hts _ (by decide +kernel)) dX4_round_37 ?_
            refine tp_i (y := nI ((rg i_n).2.1)) rfl ?_
            refine lv_iload_n hx hb dX4_round_40 rfl (lv_at hl 3 rfl) ?_
            refine lv_isub hx hb dX4_round_41 ?_
            refine tp_i (y := iZ ((((rg i_n).2.1 : Nat) : Int) - pp)) (iZ_subM _ _) ?_
            refine lv_bipush (v := nI (18)) hx hb dX4_round_42 (by decide) ?_
            refine tp_i (y := iZ ((18 : Nat) : Int)) (iZ_nat _) ?_
            refine bs_le (tgt := 49) hx hb dX4_round_44 (by decide) (by omega) (by omega) (by omega) (by omega) (fun p4 => ?_) (fun p4 => ?_)
            · obtain ⟨P9, rfl⟩ : ∃ n : Nat, pp = (n : Int) := ⟨pp.toNat, by omega⟩
              rw [← iZ_nat P9] at hl
              have e_p : ((P9 : Nat) : Int).toNat = P9 := Int.toNat_natCast P9
              refine lv_aload_n hx hb dX4_round_49 rfl (lv_at hl 0 rfl) ?_
              refine rg_4_a hx hb hts in4 hown hK hP 0 (by decide) mg_0 (hts _ (by decide +kernel)) dX4_round_50 ?_
              refine lv_aload_n hx hb dX4_round_53 rfl (lv_at hl 0 rfl) ?_
              refine rg_4_registers hx hb hts in4 hown hK hP 0 (by decide) mg_0 (hts _ (by decide +kernel)) dX4_round_54 ?_
              refine lv_iload_n hx hb dX4_round_57 rfl (lv_at hl 2 rfl) ?_
              refine rn_q4 hx hb hK hP 1 (by decide) mg_1 (by omega) (by decide) dX4_round_58 ?_
              refine tp_v (y := .ref (ad (11 + 2 * i_n))) rfl ?_
              refine va_callv (va_runV (As := [.ref (ad (11 + 2 * i_n))]) (rest := []) ⟨hx, hb, hml, hown, hts⟩ (c_X3_take l D cA tT A 23 ad _ _ (a := 3) (f := wa.1) (n := wa.2.1) (b := wa.2.2.1) (z := wa.2.2.2) (o := 11 + 2 * i_n) (f1 := (rg i_n).1) (n1 := (rg i_n).2.1) (b1 := (rg i_n).2.2.1) (z1 := (rg i_n).2.2.2) (by decide) mg_A (by omega) (mg_G _) (by omega) (by omega) (by omega) (by omega)) (cwV 1 hts gX4_round_X3_take rfl rfl rfl (by decide +kernel) ⟨Nat.le_of_ble_eq_true rfl, Nat.le_of_ble_eq_true rfl⟩) (wd_preV (k := 3) hP hK hD hT hS (by decide) mg_A.1 rfl) rfl rfl hl.1 rfl (lv_room (Nat.le_of_ble_eq_true rfl)) dX4_round_59 ⟨Nat.zero_le _, Nat.zero_le _⟩) hS id_2 id_1 (fun u t H locs ht hvm hw hB hz1 hk1 hS => ?_)
              refine c00 ?_
              obtain ⟨hP, hD⟩ := wd_back ht hB
              clear ht hvm hB hz1 hk1
              rw [hw] at hP hD
              clear hw
              obtain ⟨f1, hf1⟩ : ∃ f9 : Nat → Int32, f9 = tk (rg i_n).1 wa.1 (rg i_n).2.1 := ⟨_, rfl⟩
              rw [← hf1, b_i, z_i] at hP hD
              have vf1 : rv f1 (rg i_n).2.1 (rh i_n).2.1 := ⟨n_i, fun j hj => by rw [hf1, tk_lt hj]; exact m_i.1.2 j hj⟩
              rw [show rw_ cA ad (mg cA ad wa wb wc we rg tx tl) 3 f1 ((rg i_n).2.1) ((rh i_n).1) ((rh i_n).2.2) = mg cA ad (f1, (rg i_n).2.1, (rh i_n).1, (rh i_n).2.2) wb wc we rg tx tl from mg_ua (w' := (f1, (rg i_n).2.1, (rh i_n).1, (rh i_n).2.2))] at hP hD
              refine lv_aload_n hx hb dX4_round_62 rfl (lv_at hl 0 rfl) ?_
              refine rg_4_a hx hb hts in4 hown hK hP 0 (by decide) mg_0 (hts _ (by decide +kernel)) dX4_round_63 ?_
              refine rg_3_n hx hb hts in3 hown hK hP 3 (by omega) mg_A.1 (hts _ (by decide +kernel)) dX4_round_66 ?_
              refine tp_i (y := nI ((rg i_n).2.1)) rfl ?_
              refine lv_iload_n hx hb dX4_round_69 rfl (lv_at hl 3 rfl) ?_
              refine bi_le (tgt := 115) hx hb dX4_round_70 (by decide) (by omega) (by omega) (fun p5 => ?_) (fun p5 => ?_)
              · refine lv_aload_n hx hb dX4_round_115 rfl (lv_at hl 0 rfl) ?_
                refine lv_iload_n hx hb dX4_round_116 rfl (lv_at hl 1 rfl) ?_
                refine lv_aload_n hx hb dX4_round_117 rfl (lv_at hl 0 rfl) ?_
                refine rg_4_a hx hb hts in4 hown hK hP 0 (by decide) mg_0 (hts _ (by decide +kernel)) dX4_round_118 ?_
                have hk8 : (rg i_n).2.1 ≤ 800 := (by omega)
                have hkz1 : -2147483648 ≤ ((rh i_n).2.2) := (by omega)
                have hkz2 : ((rh i_n).2.2) < 2147483648 := (by omega)
                have hkb : ((rh i_n).1) = true → ((rh i_n).2.1) ≠ 0 := r_i.2.2.2
                refine va_calli (va_runV (As := [.int (nI (k_n)), .ref (ad 3)]) (rest := []) ⟨hx, hb, hml, hown, hts⟩ (c_X4_keep_a l D cA tT A ad _ (wa := (f1, (rg i_n).2.1, (rh i_n).1, (rh i_n).2.2)) (wb := wb) (wc := wc) (we := we) (rg := rg) (tx := tx) (tl := tl) (rh := rh) (k := k_n) (v := (rh i_n).2.1) hm h_k vf1 hk8 hkb hkz1 hkz2) (cwV 2 hts gX4_round_X4_keep rfl rfl rfl (by decide +kernel) ⟨Nat.le_of_ble_eq_true rfl, Nat.le_of_ble_eq_true rfl⟩) (wd_preV (k := 0) hP hK hD hT hS (by decide) mg_0 rfl) rfl rfl hl.1 rfl (lv_room (Nat.le_of_ble_eq_true rfl)) dX4_round_121 ⟨Nat.zero_le _, Nat.zero_le _⟩) hS id_2 id_1 (fun r_ u t H locs ht hvm hw hB hz1 hk1 hS => ?_)
                refine c00 ?_
                obtain ⟨hP, hD⟩ := wd_back ht hB
                clear ht hvm hB hz1 hk1
                obtain ⟨hr_, rg1, hmr, hu_⟩ := hw
                rw [hu_] at hP hD
                have hsp : sp_round rh (k_n : Int) (i_n : Int) (P9 : Int) way = kpr rh k_n ((rh i_n).1, (rh i_n).2.1, (rh i_n).2.2) := by rw [sp_round, e_k, e_i, e_p, if_pos (by omega), if_pos (by omega)]
                exact W.iret hx hb hr (fun t ht hW => ⟨⟨_, _, rfl, ⟨by rw [hsp]; exact hr_, _, _, _, _, rg1, by rw [hsp]; exact hmr, rfl⟩, wd_end hP hK hD ht hW⟩, hS.F ht⟩) hS.2.2 dX4_round_124
              · refine lv_aload_n hx hb dX4_round_73 rfl (lv_at hl 0 rfl) ?_
                refine rg_4_a hx hb hts in4 hown hK hP 0 (by decide) mg_0 (hts _ (by decide +kernel)) dX4_round_74 ?_
                refine rg_3_n hx hb hts in3 hown hK hP 3 (by omega) mg_A.1 (hts _ (by decide +kernel)) dX4_round_77 ?_
                refine tp_i (y := nI ((rg i_n).2.1)) rfl ?_
                refine lv_iload_n hx hb dX4_round_80 rfl (lv_at hl 3 rfl) ?_
                refine lv_isub hx hb dX4_round_81 ?_
                refine tp_i (y := nI (((rg i_n).2.1) - P9)) (pk_sub (by omega)) ?_
                refine tp_i (y := nI (nd_p (rh i_n).2.1 - P9)) (by rw [n_i]) ?_
                refine lv_istore (lv' := [(5, .int (nI (nd_p (rh i_n).2.1 - P9))), (0, .ref (ad 0)), (1, .int (nI (k_n))), (2, .int (nI (i_n))), (3, .int (nI (P9))), (4, .int (iZ (way)))]) hx hb dX4_round_82 hl (by decide) rfl (fun ls hl => ?_)
                refine lv_aload_n hx hb dX4_round_84 rfl (lv_at hl 1 rfl) ?_
                refine lv_iload hx hb dX4_round_85 (lv_at hl 0 rfl) ?_
                refine lv_iload hx hb dX4_round_87 (lv_at hl 5 rfl) ?_
                refine va_calli (va_runV (As := [.int (nI (nd_p (rh i_n).2.1 - P9)), .int (iZ (way))]) (rest := []) ⟨hx, hb, hml, hown, hts⟩ (c_X4_cut l D cA tT A ad _ (fa := f1) (na := (rg i_n).2.1) (X := (rh i_n).2.1) (B9 := nd_p (rh i_n).2.1 - P9) (ba := (rh i_n).1) (za := (rh i_n).2.2) (way := way) (wb := wb) (wc := wc) (we := we) (rg := rg) (tx := tx) (tl := tl) (by omega) (by omega) vf1 (by omega) (by omega)) (cwV 2 hts gX4_round_X4_cut rfl rfl rfl (by decide +kernel) ⟨Nat.le_of_ble_eq_true rfl, Nat.le_of_ble_eq_true rfl⟩) (wd_preV (k := 0) hP hK hD hT hS (by decide) mg_0 rfl) rfl rfl hl.1 rfl (lv_room (Nat.le_of_ble_eq_true rfl)) dX4_round_89 ⟨Nat.zero_le _, Nat.zero_le _⟩) hS id_2 id_1 (fun r_ u t H locs ht hvm hw hB hz1 hk1 hS => ?_)
                refine c00 ?_
                obtain ⟨hP, hD⟩ := wd_back ht hB
                clear ht hvm hB hz1 hk1
                obtain ⟨hr_, fx, nfx, vfx, hu_⟩ := hw
                subst hr_
                rw [hu_] at hP hD
                clear hu_
                have hr1 := rdn_1 (rh i_n).1 (rh i_n).2.1 (10 ^ (nd_p (rh i_n).2.1 - P9)) way
                refine bz_ne (tgt := 98) hx hb dX4_round_92 (by decide) (by omega) (fun p8 => ?_) (fun p8 => ?_)
                · obtain ⟨vf9, nf9⟩ := vfx p8
                  have hle := rnd_le (b := (rh i_n).1) (X := (rh i_n).2.1) (P := P9) (way := way) (by omega) (by omega)
                  have hb9 : (rh i_n).1 = true → (rdn ((rh i_n).1) ((rh i_n).2.1) (10 ^ (nd_p (rh i_n).2.1 - P9)) way).2 ≠ 0 := fun h => rnd_nz (r_i.2.2.2 h) (by omega) (by omega)
                  obtain ⟨v9, hv99⟩ : ∃ v9, v9 = (rdn ((rh i_n).1) ((rh i_n).2.1) (10 ^ (nd_p (rh i_n).2.1 - P9)) way).2 := ⟨_, rfl⟩
                  rw [← hv99] at vf9 hle hb9
                  have p3 : 1 ≤ nfx := by rw [vf9.1]; exact nd_p_pos _
                  have hnc9 := vf9.1
                  refine lv_aload_n hx hb dX4_round_98 rfl (lv_at hl 1 rfl) ?_
                  refine rg_4_a hx hb hts in4 hown hK hP 0 (by decide) mg_0 (hts _ (by decide +kernel)) dX4_round_99 ?_
                  refine lv_dup hx hb dX4_round_102 rfl ?_
                  refine rg_3_scale hx hb hts in3 hown hK hP 3 (by omega) mg_A.1 (hts _ (by decide +kernel)) dX4_round_103 ?_
                  refine tp_i (y := iZ ((rh i_n).2.2)) rfl ?_
                  refine lv_iload hx hb dX4_round_106 (lv_at hl 0 rfl) ?_
                  refine lv_isub hx hb dX4_round_108 ?_
                  refine tp_i (y := iZ (((rh i_n).2.2) - ((nd_p (rh i_n).2.1 - P9 : Nat) : Int))) (iZ_subN _ _) ?_
                  refine rp_3_scale hx hb hts in3 hown hK hP hD hS 3 (by omega) mg_A.1 (hts _ (by decide +kernel)) rfl rfl dX4_round_109 (fun H locs hP hD hS => ?_)
                  rw [mg_pa nfx ((rh i_n).1) (((rh i_n).2.2) - ((nd_p (rh i_n).2.1 - P9 : Nat) : Int)) (v := nI (((rh i_n).1).toNat)) rfl] at hP hD
                  refine lv_goto (tgt := 62) hx hb dX4_round_112 (by decide) ?_
                  refine lv_aload_n hx hb dX4_round_62 rfl (lv_at hl 1 rfl) ?_
                  refine rg_4_a hx hb hts in4 hown hK hP 0 (by decide) mg_0 (hts _ (by decide +kernel)) dX4_round_63 ?_
                  refine rg_3_n hx hb hts in3 hown hK hP 3 (by omega) mg_A.1 (hts _ (by decide +kernel)) dX4_round_66 ?_
                  refine tp_i (y := nI (nfx)) rfl ?_
                  refine lv_iload_n hx hb dX4_round_69 rfl (lv_at hl 4 rfl) ?_
                  refine bi_le (tgt := 115) hx hb dX4_round_70 (by decide) (by omega) (by omega) (fun p9 => ?_) (fun p9 => ?_)
                  · refine lv_aload_n hx hb dX4_round_115 rfl (lv_at hl 1 rfl) ?_
                    refine lv_iload_n hx hb dX4_round_116 rfl (lv_at hl 2 rfl) ?_
                    refine lv_aload_n hx hb dX4_round_117 rfl (lv_at hl 1 rfl) ?_
                    refine rg_4_a hx hb hts in4 hown hK hP 0 (by decide) mg_0 (hts _ (by decide +kernel)) dX4_round_118 ?_
                    have hk8 : nfx ≤ 800 := (by omega)
                    have hkz1 : -2147483648 ≤ ((rh i_n).2.2) - ((nd_p (rh i_n).2.1 - P9 : Nat) : Int) := (by omega)
                    have hkz2 : ((rh i_n).2.2) - ((nd_p (rh i_n).2.1 - P9 : Nat) : Int) < 2147483648 := (by omega)
                    have hkb : ((rh i_n).1) = true → v9 ≠ 0 := hb9
                    refine va_calli (va_runV (As := [.int (nI (k_n)), .ref (ad 3)]) (rest := []) ⟨hx, hb, hml, hown, hts⟩ (c_X4_keep_a l D cA tT A ad _ (wa := (fx, nfx, (rh i_n).1, ((rh i_n).2.2) - ((nd_p (rh i_n).2.1 - P9 : Nat) : Int))) (wb := wb) (wc := wc) (we := we) (rg := rg) (tx := tx) (tl := tl) (rh := rh) (k := k_n) (v := v9) hm h_k vf9 hk8 hkb hkz1 hkz2) (cwV 2 hts gX4_round_X4_keep rfl rfl rfl (by decide +kernel) ⟨Nat.le_of_ble_eq_true rfl, Nat.le_of_ble_eq_true rfl⟩) (wd_preV (k := 0) hP hK hD hT hS (by decide) mg_0 rfl) rfl rfl hl.1 rfl (lv_room (Nat.le_of_ble_eq_true rfl)) dX4_round_121 ⟨Nat.zero_le _, Nat.zero_le _⟩) hS id_2 id_1 (fun r_ u t H locs ht hvm hw hB hz1 hk1 hS => ?_)
                    refine c00 ?_
                    obtain ⟨hP, hD⟩ := wd_back ht hB
                    clear ht hvm hB hz1 hk1
                    obtain ⟨hr_, rg1, hmr, hu_⟩ := hw
                    rw [hu_] at hP hD
                    have hsp : sp_round rh (k_n : Int) (i_n : Int) (P9 : Int) way = kpr rh k_n ((rh i_n).1, v9, ((rh i_n).2.2) - ((nd_p (rh i_n).2.1 - P9 : Nat) : Int)) := by rw [sp_round, e_k, e_i, e_p, if_pos (by omega), if_neg (by omega), rnd, if_neg p8, ← hv99, if_neg (by omega)]
                    exact W.iret hx hb hr (fun t ht hW => ⟨⟨_, _, rfl, ⟨by rw [hsp]; exact hr_, _, _, _, _, rg1, by rw [hsp]; exact hmr, rfl⟩, wd_end hP hK hD ht hW⟩, hS.F ht⟩) hS.2.2 dX4_round_124
                  · obtain ⟨hf1, hf2, hf3⟩ := rnd_full (by omega) hle (by omega)
                    refine lv_aload_n hx hb dX4_round_73 rfl (lv_at hl 1 rfl) ?_
                    refine rg_4_a hx hb hts in4 hown hK hP 0 (by decide) mg_0 (hts _ (by decide +kernel)) dX4_round_74 ?_
                    refine rg_3_n hx hb hts in3 hown hK hP 3 (by omega) mg_A.1 (hts _ (by decide +kernel)) dX4_round_77 ?_
                    refine tp_i (y := nI (nfx)) rfl ?_
                    refine lv_iload_n hx hb dX4_round_80 rfl (lv_at hl 4 rfl) ?_
                    refine lv_isub hx hb dX4_round_81 ?_
                    refine tp_i (y := nI (nfx - P9)) (pk_sub (by omega)) ?_
                    refine tp_i (y := nI 1) (by congr 1; omega) ?_
                    refine lv_istore (lv' := [(5, .int (nI (1))), (0, .ref (ad 0)), (1, .int (nI (k_n))), (2, .int (nI (i_n))), (3, .int (nI (P9))), (4, .int (iZ (way)))]) hx hb dX4_round_82 hl (by decide) rfl (fun ls hl => ?_)
                    refine lv_aload_n hx hb dX4_round_84 rfl (lv_at hl 1 rfl) ?_
                    refine lv_iload hx hb dX4_round_85 (lv_at hl 0 rfl) ?_
                    refine lv_iload hx hb dX4_round_87 (lv_at hl 5 rfl) ?_
                    refine va_calli (va_runV (As := [.int (nI (1)), .int (iZ (way))]) (rest := []) ⟨hx, hb, hml, hown, hts⟩ (c_X4_cut l D cA tT A ad _ (fa := fx) (na := nfx) (X := v9) (B9 := 1) (ba := (rh i_n).1) (za := ((rh i_n).2.2) - ((nd_p (rh i_n).2.1 - P9 : Nat) : Int)) (way := way) (wb := wb) (wc := wc) (we := we) (rg := rg) (tx := tx) (tl := tl) (by omega) (by omega) vf9 (by omega) (by omega)) (cwV 2 hts gX4_round_X4_cut rfl rfl rfl (by decide +kernel) ⟨Nat.le_of_ble_eq_true rfl, Nat.le_of_ble_eq_true rfl⟩) (wd_preV (k := 0) hP hK hD hT hS (by decide) mg_0 rfl) rfl rfl hl.1 rfl (lv_room (Nat.le_of_ble_eq_true rfl)) dX4_round_89 ⟨Nat.zero_le _, Nat.zero_le _⟩) hS id_2 id_1 (fun r_ u t H locs ht hvm hw hB hz1 hk1 hS => ?_)
                    refine c00 ?_
                    obtain ⟨hP, hD⟩ := wd_back ht hB
                    clear ht hvm hB hz1 hk1
                    obtain ⟨hr_, fy, nfy, vfy, hu_⟩ := hw
                    subst hr_
                    rw [hu_] at hP hD
                    clear hu_
                    have hrr : rdn (rh i_n).1 v9 (10 ^ 1) way = (1, v9 / 10) := by rw [rdn, Nat.pow_one, if_pos hf2]
                    rw [hrr] at vfy
                    refine tp_i (y := nI 1) (by rw [hrr]) ?_
                    refine bz_ne (tgt := 98) hx hb dX4_round_92 (by decide) (by omega) (fun pa => ?_) (fun pa => ?_)
                    · obtain ⟨vf8, nf8⟩ := vfy (show ¬ (1 : Nat) = 0 by decide)
                      have hn8 := vf8.1
                      refine lv_aload_n hx hb dX4_round_98 rfl (lv_at hl 1 rfl) ?_
                      refine rg_4_a hx hb hts in4 hown hK hP 0 (by decide) mg_0 (hts _ (by decide +kernel)) dX4_round_99 ?_
                      refine lv_dup hx hb dX4_round_102 rfl ?_
                      refine rg_3_scale hx hb hts in3 hown hK hP 3 (by omega) mg_A.1 (hts _ (by decide +kernel)) dX4_round_103 ?_
                      refine tp_i (y := iZ (((rh i_n).2.2) - ((nd_p (rh i_n).2.1 - P9 : Nat) : Int))) rfl ?_
                      refine lv_iload hx hb dX4_round_106 (lv_at hl 0 rfl) ?_
                      refine lv_isub hx hb dX4_round_108 ?_
                      refine tp_i (y := iZ ((((rh i_n).2.2) - ((nd_p (rh i_n).2.1 - P9 : Nat) : Int)) - ((1 : Nat) : Int))) (iZ_subN _ _) ?_
                      refine rp_3_scale hx hb hts in3 hown hK hP hD hS 3 (by omega) mg_A.1 (hts _ (by decide +kernel)) rfl rfl dX4_round_109 (fun H locs hP hD hS => ?_)
                      rw [mg_pa nfy ((rh i_n).1) ((((rh i_n).2.2) - ((nd_p (rh i_n).2.1 - P9 : Nat) : Int)) - ((1 : Nat) : Int)) (v := nI (((rh i_n).1).toNat)) rfl] at hP hD
                      refine lv_goto (tgt := 62) hx hb dX4_round_112 (by decide) ?_
                      refine lv_aload_n hx hb dX4_round_62 rfl (lv_at hl 1 rfl) ?_
                      refine rg_4_a hx hb hts in4 hown hK hP 0 (by decide) mg_0 (hts _ (by decide +kernel)) dX4_round_63 ?_
                      refine rg_3_n hx hb hts in3 hown hK hP 3 (by omega) mg_A.1 (hts _ (by decide +kernel)) dX4_round_66 ?_
                      refine tp_i (y := nI (nfy)) rfl ?_
                      refine lv_iload_n hx hb dX4_round_69 rfl (lv_at hl 4 rfl) ?_
                      refine bi_le (tgt := 115) hx hb dX4_round_70 (by decide) (by omega) (by omega) (fun pb => ?_) (fun pb => ?_)
                      · refine lv_aload_n hx hb dX4_round_115 rfl (lv_at hl 1 rfl) ?_
                        refine lv_iload_n hx hb dX4_round_116 rfl (lv_at hl 2 rfl) ?_
                        refine lv_aload_n hx hb dX4_round_117 rfl (lv_at hl 1 rfl) ?_
                        refine rg_4_a hx hb hts in4 hown hK hP 0 (by decide) mg_0 (hts _ (by decide +kernel)) dX4_round_118 ?_
                        have hk8 : nfy ≤ 800 := (by omega)
                        have hkz1 : -2147483648 ≤ (((rh i_n).2.2) - ((nd_p (rh i_n).2.1 - P9 : Nat) : Int)) - ((1 : Nat) : Int) := (by omega)
                        have hkz2 : (((rh i_n).2.2) - ((nd_p (rh i_n).2.1 - P9 : Nat) : Int)) - ((1 : Nat) : Int) < 2147483648 := (by omega)
                        have hkb : ((rh i_n).1) = true → (v9 / 10) ≠ 0 := fun h => rnd_nz2 (by omega) hf3 hf1
                        refine va_calli (va_runV (As := [.int (nI (k_n)), .ref (ad 3)]) (rest := []) ⟨hx, hb, hml, hown, hts⟩ (c_X4_keep_a l D cA tT A ad _ (wa := (fy, nfy, (rh i_n).1, (((rh i_n).2.2) - ((nd_p (rh i_n).2.1 - P9 : Nat) : Int)) - ((1 : Nat) : Int))) (wb := wb) (wc := wc) (we := we) (rg := rg) (tx := tx) (tl := tl) (rh := rh) (k := k_n) (v := v9 / 10) hm h_k vf8 hk8 hkb hkz1 hkz2) (cwV 2 hts gX4_round_X4_keep rfl rfl rfl (by decide +kernel) ⟨Nat.le_of_ble_eq_true rfl, Nat.le_of_ble_eq_true rfl⟩) (wd_preV (k := 0) hP hK hD hT hS (by decide) mg_0 rfl) rfl rfl hl.1 rfl (lv_room (Nat.le_of_ble_eq_true rfl)) dX4_round_121 ⟨Nat.zero_le _, Nat.zero_le _⟩) hS id_2 id_1 (fun r_ u t H locs ht hvm hw hB hz1 hk1 hS => ?_)
                        refine c00 ?_
                        obtain ⟨hP, hD⟩ := wd_back ht hB
                        clear ht hvm hB hz1 hk1
                        obtain ⟨hr_, rg1, hmr, hu_⟩ := hw
                        rw [hu_] at hP hD
                        have hsp : sp_round rh (k_n : Int) (i_n : Int) (P9 : Int) way = kpr rh k_n ((rh i_n).1, v9 / 10, (((rh i_n).2.2) - ((nd_p (rh i_n).2.1 - P9 : Nat) : Int)) - ((1 : Nat) : Int)) := by rw [sp_round, e_k, e_i, e_p, if_pos (by omega), if_neg (by omega), rnd, if_neg p8, ← hv99, if_pos (by omega)]; rfl
                        exact W.iret hx hb hr (fun t ht hW => ⟨⟨_, _, rfl, ⟨by rw [hsp]; exact hr_, _, _, _, _, rg1, by rw [hsp]; exact hmr, rfl⟩, wd_end hP hK hD ht hW⟩, hS.F ht⟩) hS.2.2 dX4_round_124
                      · exact absurd pb (by dsimp only at hn8; omega)
                    · exact absurd pa (by decide)
                · refine lv_bipush (v := iZ (-4)) hx hb dX4_round_95 (by decide) ?_
                  have hkq : sp_round rh (k_n : Int) (i_n : Int) (P9 : Int) way = (iZ (-4), rh) := by rw [sp_round, e_k, e_i, e_p, if_pos (by omega), if_neg (by omega), rnd, if_pos p8]
                  exact W.iret (v := iZ (-4)) hx hb hr (fun t ht hW => ⟨⟨iZ (-4), _, rfl, ⟨by rw [hkq], _, _, _, _, rg, by rw [hkq]; exact hm, rfl⟩, wd_end hP hK hD ht hW⟩, hS.F ht⟩) hS.2.2 dX4_round_97
            · refine lv_iconst (v := iZ (-1)) hx hb dX4_round_47 (by decide) ?_
              exact W.iret (v := iZ (-1)) hx hb hr (fun t ht hW => ⟨⟨iZ (-1), _, rfl, ⟨by rw [sp_round, e_i, if_neg (by omega)], _, _, _, _, rg, by rw [sp_round, e_i, if_neg (by omega)]; exact hm, rfl⟩, wd_end hP hK hD ht hW⟩, hS.F ht⟩) hS.2.2 dX4_round_48
