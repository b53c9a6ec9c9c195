theorem v_ge (v : Int64) : lN 0 ≤ v ↔ 0 ≤ v.toInt := by
  rw [Int64.le_iff_toInt_le, show (lN 0).toInt = 0 by decide]
theorem p_19 (v : Int64) : nd_p v.toInt.natAbs ≤ 19 := (nd_p_le (by decide)).mpr (by have := vl_abs v; omega)
theorem nI_m3 {n : Nat} (h : n < 2 ^ 31) : nI n ≠ iZ (-3) := by
  rw [iZ_nat]; intro q
  have := (iZ_eq (by omega) (by omega) (by decide) (by decide)).mp q
  omega
theorem s_23 {sf : Nat → Bool × Nat × Int} {d : Bool × Nat × Int} : va_up sf 0 d 0 = d := va_up_self _ _ _
set_option maxHeartbeats 4000000 in
set_option maxRecDepth 100000 in
/-- load -/
theorem c_X2_load (l : Launch) (D : va_G) (cA : Nat → ClassId) (tT : Nat) (A : Nat → Prop) (ad : Nat → Nat) (sz : Nat) {sf : Nat → Bool × Nat × Int} {x y : Nat} {tx : Nat → Int32} {tl : Nat} {k sc : Int} {v : Int64} (hc : ci sf x y) (k_1 : -2147483648 ≤ k) (k_2 : k < 2147483648) (sc_1 : -2147483648 ≤ sc) (sc_2 : sc < 2147483648) : Met l yX2_load wsX2_load ({ frames := 5, cells := 0, slots := 0, locals := 105 }) (va_Pc [.ref (ad 0), .int (iZ (k)), .long (v), .int (iZ (sc))] (wd_B D cA tT A 31 ad sz (cg cA ad sf x y tx tl))) (va_Qi (fun (r : Int32) (u : Nat → va_E) => r = (sp_load (fun i => sf (2 + i)) k v sc).1 ∧ ∃ sf1 x1 y1, ci sf1 x1 y1 ∧ (fun i => sf1 (2 + i)) = (sp_load (fun i => sf (2 + i)) k v sc).2 ∧ u = cg cA ad sf1 x1 y1 tx tl) (wd_E D cA A 31 ad) A) 0 0 A := by
  refine Met.ofW (cc := cX2_load) (maxL := 5) (ret := (some .int)) (by decide) rfl ?_
  intro p e s m args below meth c s₁ B hml hv
  obtain ⟨rfl, hsz, hP, hK, hD, hT⟩ := hv
  have hx := B.exec
  have hb := B.bytes
  have hr := B.returns
  have hts := atoms_spec (ws := wsX2_load) B.pre
  have hown : s.vm.findClass RX2 = some m.cls := findClass_of_methodNamed B.named
  have hlocks := B.notSynchronized
  subst hsz
  have hS : va_S A s.heap s.heap [] := va_S.rf
  have in0 : ∀ w ∈ wsX00, w ∈ wsX2_load := by decide +kernel
  have in2 : ∀ w ∈ wsX20, w ∈ wsX2_load := by decide +kernel
  have hl := lv_entry ([.ref (ad 0), .int (iZ (k)), .long (v), .int (iZ (sc))]) (n := 5) (Nat.le_of_ble_eq_true rfl)
  rw [lg_entry_eq]
  generalize (lg_sl ([.ref (ad 0), .int (iZ (k)), .long (v), .int (iZ (sc))]) ++ List.replicate (5 - (lg_sl ([.ref (ad 0), .int (iZ (k)), .long (v), .int (iZ (sc))])).length) Slot.unset).toArray = ls at hl ⊢
  have hl : lv_has ls 5 [(0, .ref (ad 0)), (1, .int (iZ (k))), (2, .long (v)), (4, .int (iZ (sc)))] := hl
  refine lv_iload_n hx hb dX2_load_0 rfl (lv_at hl 1 rfl) ?_
  refine va_calli (va_runS (As := [.int (iZ (k))]) (rest := []) ⟨hx, hb, hml, hown, hts⟩ (c_X2_isRegister l D cA tT A 31 ad _ _ (k := k) (by omega) (by omega)) (va_cwS 1 hts gX2_load_X2_isRegister rfl rfl rfl (by decide +kernel) ⟨Nat.le_of_ble_eq_true rfl, Nat.le_of_ble_eq_true rfl⟩) (wd_preS hP hK hD hT hS) rfl rfl hl.1 rfl (lv_room (Nat.le_of_ble_eq_true rfl)) dX2_load_1 ⟨Nat.zero_le _, Nat.zero_le _⟩) hS id_2 id_1 (fun r_ u t H locs ht hvm hw hB hz1 hk1 hS => ?_)
  obtain ⟨hP, hD⟩ := wd_back ht hB
  clear ht hvm hB hz1 hk1
  obtain ⟨hr_, hu_⟩ := hw
  subst hr_
  rw [hu_] at hP hD
  clear hu_
  refine bz_ne (tgt := 9) hx hb dX2_load_4 (by decide) it_lt (fun q_k => ?_) (fun q_k => ?_)
  · have g_k := it_ne q_k
    obtain ⟨k_n, h_k, rfl⟩ : ∃ n : Nat, n < 6 ∧ k = (n : Int) := ⟨k.toNat, by omega, by omega⟩
    rw [← iZ_nat k_n] at hl
    have e_k : ((k_n : Nat) : Int).toNat = k_n := Int.toNat_natCast k_n
    have r_k := hc.2.2.2.2 k_n h_k
    have c_k := c64 r_k.1
    simp only [rk] at r_k
    have hv19 := p_19 v
    have hva := vl_abs v
    refine lv_aload_n hx hb dX2_load_9 rfl (lv_at hl 0 rfl) ?_
    refine rg_2_result hx hb hts in2 hown hK hP 0 (by decide) cg_0 (hts _ (by decide +kernel)) dX2_load_10 ?_
    refine rg_0_digits hx hb hts in0 hown hK hP (7 + 3 * 0) (by omega) (cg_d 0) (hts _ (by decide +kernel)) dX2_load_13 ?_
    refine lv_lload_n hx hb dX2_load_16 rfl (lv_at hl 2 rfl) ?_
    refine va_callv (va_runV (As := [.long (v)]) (rest := []) ⟨hx, hb, hml, hown, hts⟩ (c_X1_becomeSizeOf l D cA tT A 31 ad _ _ (a := 7 + 3 * 0 + 1) (x := (sf 0).2.1) (v := v) (by decide) (cg_n 0) hc.2.2.1) (cwV 1 hts gX2_load_X1_becomeSizeOf rfl rfl rfl (by decide +kernel) ⟨Nat.le_of_ble_eq_true rfl, Nat.le_of_ble_eq_true rfl⟩) (wd_preV (k := 7 + 3 * 0 + 1) hP hK hD hT hS (by decide) (cg_n 0).1 rfl) rfl rfl hl.1 rfl (lv_room (Nat.le_of_ble_eq_true rfl)) dX2_load_17 ⟨Nat.zero_le _, Nat.zero_le _⟩) hS id_2 id_1 (fun u t H locs ht hvm hw hB hz1 hk1 hS => ?_)
    obtain ⟨hP, hD⟩ := wd_back ht hB
    clear ht hvm hB hz1 hk1
    rw [hw] at hP hD
    clear hw
    rw [cg_upN 0] at hP hD
    refine lv_aload_n hx hb dX2_load_20 rfl (lv_at hl 0 rfl) ?_
    refine rg_2_result hx hb hts in2 hown hK hP 0 (by decide) cg_0 (hts _ (by decide +kernel)) dX2_load_21 ?_
    refine lv_lload_n hx hb dX2_load_24 rfl (lv_at hl 2 rfl) ?_
    refine lv_lconst (v := lN (0)) hx hb dX2_load_25 rfl ?_
    refine bL_ge (tgt := 34) hx hb dX2_load_26 dX2_load_27 (by decide) (fun q1 => ?_) (fun q1 => ?_)
    · rw [v_ge] at q1
      refine lv_iconst (v := nI (0)) hx hb dX2_load_34 (by decide) ?_
      refine rp_0_minus hx hb hts in0 hown hK hP hD hS (7 + 3 * 0) (by omega) (cg_d 0) (hts _ (by decide +kernel)) rfl rfl dX2_load_35 (fun H locs hP hD hS => ?_)
      rw [cg_upM 0 (false) (v := nI (0)) rfl rfl] at hP hD
      refine lv_aload_n hx hb dX2_load_38 rfl (lv_at hl 0 rfl) ?_
      refine rg_2_result hx hb hts in2 hown hK hP 0 (by decide) cg_0 (hts _ (by decide +kernel)) dX2_load_39 ?_
      refine lv_iload hx hb dX2_load_42 (lv_at hl 3 rfl) ?_
      refine rp_0_scale hx hb hts in0 hown hK hP hD hS (7 + 3 * 0) (by omega) (cg_d 0) (hts _ (by decide +kernel)) rfl rfl dX2_load_44 (fun H locs hP hD hS => ?_)
      rw [cg_upS 0 (sc) rfl] at hP hD
      refine lv_aload_n hx hb dX2_load_47 rfl (lv_at hl 0 rfl) ?_
      refine lv_iload_n hx hb dX2_load_48 rfl (lv_at hl 1 rfl) ?_
      simp only [va_up_self, bx_uu] at hP hD
      have hci := ci_up0 (d := (false, v.toInt.natAbs, sc)) hc hc.1 hc.2.1 (show v.toInt.natAbs < 1000000 ^ 64 by omega)
      have hd : decide (v.toInt < 0) = false := by simp; omega
      refine va_calli (va_runV (As := [.int (nI (k_n))]) (rest := []) ⟨hx, hb, hml, hown, hts⟩ (c_X2_keep l D cA tT A ad _ (sf := va_up sf 0 (false, v.toInt.natAbs, sc)) (x := x) (y := y) (tx := tx) (tl := tl) (k := k_n) h_k hci.2.2.1 (by rw [va_up_ne _ _ (by omega)]; exact c_k) (by rw [va_up_self]; exact sc_1) (by rw [va_up_self]; exact sc_2)) (cwV 1 hts gX2_load_X2_keep rfl rfl rfl (by decide +kernel) ⟨Nat.le_of_ble_eq_true rfl, Nat.le_of_ble_eq_true rfl⟩) (wd_preV (k := 0) hP hK hD hT hS (by decide) cg_0 rfl) rfl rfl hl.1 rfl (lv_room (Nat.le_of_ble_eq_true rfl)) dX2_load_49 ⟨Nat.zero_le _, Nat.zero_le _⟩) hS id_2 id_1 (fun r_ u t H locs ht hvm hw hB hz1 hk1 hS => ?_)
      obtain ⟨hP, hD⟩ := wd_back ht hB
      clear ht hvm hB hz1 hk1
      obtain ⟨hr_, hu_⟩ := hw
      subst hr_
      rw [hu_] at hP hD
      clear hu_
      have hkc := ci_kp (k := k_n) hci hc.1 hc.2.1
      obtain ⟨a1, a2, -, -⟩ := kp_kpr (va_up sf 0 (false, v.toInt.natAbs, sc)) k_n
      have hsp : sp_load (fun i => sf (2 + i)) (k_n : Int) v sc = (if -6 ≤ sc ∧ sc ≤ 6 then (nI 0, va_up (fun i => sf (2 + i)) k_n (false, v.toInt.natAbs, sc)) else (iZ (-3), (fun i => sf (2 + i)))) := by rw [sp_load, if_pos (by omega), e_k, hd]
      rw [va_up_self, rh_up0] at a1 a2
      by_cases hsc : -6 ≤ sc ∧ sc ≤ 6
      · rw [if_pos hsc] at hsp
        have hkr : kpr (fun i => sf (2 + i)) k_n (false, v.toInt.natAbs, sc) = (nI (nd_p v.toInt.natAbs), va_up (fun i => sf (2 + i)) k_n (false, v.toInt.natAbs, sc)) := by
          rw [kpr, if_neg (fun h => h.elim (fun (h : 190 < nd_p v.toInt.natAbs) => by omega) (fun h => h hsc))]
          have hsn : sn false v.toInt.natAbs = false := by rw [sn]; rfl
          rw [hsn]
        rw [hkr] at a1 a2
        rw [a1]
        refine lv_bipush (v := iZ (-3)) hx hb dX2_load_52 (by decide) ?_
        refine lv_icmp_ne (tgt := 62) hx hb dX2_load_54 (by decide) (fun q2 => ?_) (fun q2 => ?_)
        · refine lv_iconst (v := nI (0)) hx hb dX2_load_62 (by decide) ?_
          exact W.iret (v := nI (0)) hx hb hr (fun t ht hW => ⟨⟨nI (0), _, rfl, ⟨by rw [hsp], _, x, y, hkc, by rw [hsp, a2], rfl⟩, wd_end hP hK hD ht hW⟩, hS.F ht⟩) hS.2.2 dX2_load_63
        · exact absurd q2 (nI_m3 (by omega))
      · rw [if_neg hsc] at hsp
        have hkr : kpr (fun i => sf (2 + i)) k_n (false, v.toInt.natAbs, sc) = (iZ (-3), (fun i => sf (2 + i))) := by rw [kpr, if_pos (Or.inr hsc)]
        rw [hkr] at a1 a2
        rw [a1]
        refine lv_bipush (v := iZ (-3)) hx hb dX2_load_52 (by decide) ?_
        refine lv_icmp_ne (tgt := 62) hx hb dX2_load_54 (by decide) (fun q2 => ?_) (fun q2 => ?_)
        · exact absurd rfl q2
        · refine lv_bipush (v := iZ (-3)) hx hb dX2_load_57 (by decide) ?_
          refine lv_goto (tgt := 63) hx hb dX2_load_59 (by decide) ?_
          exact W.iret (v := iZ (-3)) hx hb hr (fun t ht hW => ⟨⟨iZ (-3), _, rfl, ⟨by rw [hsp], _, x, y, hkc, by rw [hsp, a2], rfl⟩, wd_end hP hK hD ht hW⟩, hS.F ht⟩) hS.2.2 dX2_load_63
    · rw [v_ge] at q1
      refine lv_iconst (v := nI (1)) hx hb dX2_load_30 (by decide) ?_
      refine lv_goto (tgt := 35) hx hb dX2_load_31 (by decide) ?_
      refine rp_0_minus hx hb hts in0 hown hK hP hD hS (7 + 3 * 0) (by omega) (cg_d 0) (hts _ (by decide +kernel)) rfl rfl dX2_load_35 (fun H locs hP hD hS => ?_)
      rw [cg_upM 0 (true) (v := nI (1)) rfl rfl] at hP hD
      refine lv_aload_n hx hb dX2_load_38 rfl (lv_at hl 0 rfl) ?_
      refine rg_2_result hx hb hts in2 hown hK hP 0 (by decide) cg_0 (hts _ (by decide +kernel)) dX2_load_39 ?_
      refine lv_iload hx hb dX2_load_42 (lv_at hl 3 rfl) ?_
      refine rp_0_scale hx hb hts in0 hown hK hP hD hS (7 + 3 * 0) (by omega) (cg_d 0) (hts _ (by decide +kernel)) rfl rfl dX2_load_44 (fun H locs hP hD hS => ?_)
      rw [cg_upS 0 (sc) rfl] at hP hD
      refine lv_aload_n hx hb dX2_load_47 rfl (lv_at hl 0 rfl) ?_
      refine lv_iload_n hx hb dX2_load_48 rfl (lv_at hl 1 rfl) ?_
      simp only [va_up_self, bx_uu] at hP hD
      have hci := ci_up0 (d := (true, v.toInt.natAbs, sc)) hc hc.1 hc.2.1 (show v.toInt.natAbs < 1000000 ^ 64 by omega)
      have hd : decide (v.toInt < 0) = true := by simp; omega
      refine va_calli (va_runV (As := [.int (nI (k_n))]) (rest := []) ⟨hx, hb, hml, hown, hts⟩ (c_X2_keep l D cA tT A ad _ (sf := va_up sf 0 (true, v.toInt.natAbs, sc)) (x := x) (y := y) (tx := tx) (tl := tl) (k := k_n) h_k hci.2.2.1 (by rw [va_up_ne _ _ (by omega)]; exact c_k) (by rw [va_up_self]; exact sc_1) (by rw [va_up_self]; exact sc_2)) (cwV 1 hts gX2_load_X2_keep rfl rfl rfl (by decide +kernel) ⟨Nat.le_of_ble_eq_true rfl, Nat.le_of_ble_eq_true rfl⟩) (wd_preV (k := 0) hP hK hD hT hS (by decide) cg_0 rfl) rfl rfl hl.1 rfl (lv_room (Nat.le_of_ble_eq_true rfl)) dX2_load_49 ⟨Nat.zero_le _, Nat.zero_le _⟩) hS id_2 id_1 (fun r_ u t H locs ht hvm hw hB hz1 hk1 hS => ?_)
      obtain ⟨hP, hD⟩ := wd_back ht hB
      clear ht hvm hB hz1 hk1
      obtain ⟨hr_, hu_⟩ := hw
      subst hr_
      rw [hu_] at hP hD
      clear hu_
      have hkc := ci_kp (k := k_n) hci hc.1 hc.2.1
      obtain ⟨a1, a2, -, -⟩ := kp_kpr (va_up sf 0 (true, v.toInt.natAbs, sc)) k_n
      have hsp : sp_load (fun i => sf (2 + i)) (k_n : Int) v sc = (if -6 ≤ sc ∧ sc ≤ 6 then (nI 0, va_up (fun i => sf (2 + i)) k_n (true, v.toInt.natAbs, sc)) else (iZ (-3), (fun i => sf (2 + i)))) := by rw [sp_load, if_pos (by omega), e_k, hd]
      rw [va_up_self, rh_up0] at a1 a2
      by_cases hsc : -6 ≤ sc ∧ sc ≤ 6
      · rw [if_pos hsc] at hsp
        have hkr : kpr (fun i => sf (2 + i)) k_n (true, v.toInt.natAbs, sc) = (nI (nd_p v.toInt.natAbs), va_up (fun i => sf (2 + i)) k_n (true, v.toInt.natAbs, sc)) := by
          rw [kpr, if_neg (fun h => h.elim (fun (h : 190 < nd_p v.toInt.natAbs) => by omega) (fun h => h hsc))]
          have hsn : sn true v.toInt.natAbs = true := by rw [sn]; simp; omega
          rw [hsn]
        rw [hkr] at a1 a2
        rw [a1]
        refine lv_bipush (v := iZ (-3)) hx hb dX2_load_52 (by decide) ?_
        refine lv_icmp_ne (tgt := 62) hx hb dX2_load_54 (by decide) (fun q2 => ?_) (fun q2 => ?_)
        · refine lv_iconst (v := nI (0)) hx hb dX2_load_62 (by decide) ?_
          exact W.iret (v := nI (0)) hx hb hr (fun t ht hW => ⟨⟨nI (0), _, rfl, ⟨by rw [hsp], _, x, y, hkc, by rw [hsp, a2], rfl⟩, wd_end hP hK hD ht hW⟩, hS.F ht⟩) hS.2.2 dX2_load_63
        · exact absurd q2 (nI_m3 (by omega))
      · rw [if_neg hsc] at hsp
        have hkr : kpr (fun i => sf (2 + i)) k_n (true, v.toInt.natAbs, sc) = (iZ (-3), (fun i => sf (2 + i))) := by rw [kpr, if_pos (Or.inr hsc)]
        rw [hkr] at a1 a2
        rw [a1]
        refine lv_bipush (v := iZ (-3)) hx hb dX2_load_52 (by decide) ?_
        refine lv_icmp_ne (tgt := 62) hx hb dX2_load_54 (by decide) (fun q2 => ?_) (fun q2 => ?_)
        · exact absurd rfl q2
        · refine lv_bipush (v := iZ (-3)) hx hb dX2_load_57 (by decide) ?_
          refine lv_goto (tgt := 63) hx hb dX2_load_59 (by decide) ?_
          exact W.iret (v := iZ (-3)) hx hb hr (fun t ht hW => ⟨⟨iZ (-3), _, rfl, ⟨by rw [hsp], _, x, y, hkc, by rw [hsp, a2], rfl⟩, wd_end hP hK hD ht hW⟩, hS.F ht⟩) hS.2.2 dX2_load_63
  · have g_k := it_eq q_k
    refine lv_iconst (v := iZ (-1)) hx hb dX2_load_7 (by decide) ?_
    exact W.iret (v := iZ (-1)) hx hb hr (fun t ht hW => ⟨⟨iZ (-1), _, rfl, ⟨by rw [sp_load, if_neg (by omega)], sf, x, y, hc, by rw [sp_load, if_neg (by omega)], rfl⟩, wd_end hP hK hD ht hW⟩, hS.F ht⟩) hS.2.2 dX2_load_8
