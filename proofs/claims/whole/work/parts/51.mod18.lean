theorem nd_z_at (x : Nat) : ∀ n z b : Nat, z ≤ b → b < z + n → (∀ j, z ≤ j → j < b → x / 10 ^ j % 10 = 0) → x / 10 ^ b % 10 ≠ 0 → nd_z x n z = b := by
  intro n
  induction n with
  | zero => intro z b h1 h2; omega
  | succ n ih =>
    intro z b h1 h2 h3 h4
    rw [nd_z]
    rcases Nat.eq_or_lt_of_le h1 with r | r
    · subst r; rw [if_neg h4]
    · rw [if_pos (h3 z (Nat.le_refl _) r)]
      exact ih (z + 1) b r (by omega) (fun j hj hj2 => h3 j (by omega) hj2) h4
theorem zz_at {x b : Nat} (h : x % 10 ^ b = 0) (h2 : x / 10 ^ b % 10 ≠ 0) : zz_ x = b := by
  have hb : b < nd_s x * 6 := by
    rcases Nat.lt_or_ge b (nd_s x * 6) with r | r
    · exact r
    · exfalso
      have h3 := nd_s10 x
      rw [Nat.div_eq_of_lt (Nat.lt_of_lt_of_le h3 (Nat.pow_le_pow_right (by decide) (by omega)))] at h2
      exact h2 rfl
  rw [zz_]
  refine nd_z_at x _ 0 b (Nat.zero_le _) (by omega) (fun j _ hj => ?_) h2
  rw [← tp_md hj, h, Nat.zero_div]
theorem top_nz {x n : Nat} (hn : nd_p x = n + 1) (h : x ≠ 0) : x / 10 ^ n % 10 ≠ 0 := by
  intro h0
  have h1 : x < 10 ^ (n + 1) := by rw [← hn]; exact nd_p_lt x
  have h2 := nd_p_dn h1 h0
  rcases Nat.eq_zero_or_pos n with r | r
  · subst r; rw [Nat.pow_zero] at h2; omega
  · have := (nd_p_le r).mpr h2; omega
theorem dv_nz {x b : Nat} (h2 : x / 10 ^ b % 10 ≠ 0) : x / 10 ^ b ≠ 0 := by
  intro h; rw [h] at h2; exact h2 rfl
theorem kpr_b {rh : Nat → Bool × Nat × Int} {k n : Nat} {b b' : Bool} {z : Int} (h : sn b n = sn b' n) : kpr rh k (b, n, z) = kpr rh k (b', n, z) := by
  rw [← kpr_sn, h, kpr_sn]
set_option maxHeartbeats 4000000 in
set_option maxRecDepth 100000 in
theorem lp_X4_turn {p : Program} {l : Launch} {e : Env} {R : Room} {s : State} {m : MethodId} {args : Array Value} {below : List Frame} {meth : Method} {c : Code} {Q : State → Prop} {D : va_G} {cA : Nat → ClassId} {tT : Nat} {A : Nat → Prop} {ad : Nat → Nat} {wb wc we : RWt} {rg : Nat → RWt} {tx : Nat → Int32} {tl : Nat} {fa : Nat → Int32} {na k_n X : Nat} {b9 : Bool} {z9 : Int} (S : CallFix p m c cX4_turn 5 s args wsX4_turn RX4) (hK : va_K D vwCl (ty_s cA) s) (hT : st_T tT A s s.heap) (hna : na ≤ 800) (hva : rv fa na X) (kk : ∀ (i : Nat) (H : Heap) (locs : List Loc) (ls : Array Slot), i < na → X % 10 ^ i = 0 → (X ≠ 0 → X / 10 ^ i % 10 ≠ 0) → va_P D vwCl (wm_W 23 ad (mg cA ad (fa, na, b9, z9) wb wc we rg tx tl)) H → va_D A (wm_W 23 ad (mg cA ad (fa, na, b9, z9) wb wc we rg tx tl)) → va_S A s.heap H locs → lv_has ls 5 [(4, .int (nI (i))), (0, .ref (ad 0)), (2, .int (nI (k_n)))] → W p l e R s m args below meth c H locs 0 0 Q (F0 m 128 ls [])) :
    ∀ (k i : Nat) (H : Heap) (locs : List Loc) (ls : Array Slot), i + k + 1 = na → X % 10 ^ i = 0 → va_P D vwCl (wm_W 23 ad (mg cA ad (fa, na, b9, z9) wb wc we rg tx tl)) H → va_D A (wm_W 23 ad (mg cA ad (fa, na, b9, z9) wb wc we rg tx tl)) → va_S A s.heap H locs → lv_has ls 5 [(4, .int (nI (i))), (0, .ref (ad 0)), (2, .int (nI (k_n)))] → W p l e R s m args below meth c H locs 0 0 Q (F0 m 95 ls []) := by
  obtain ⟨hx, hb, hml, hown, hts⟩ := S
  have in3 : ∀ w ∈ wsX30, w ∈ wsX4_turn := by decide +kernel
  have in4 : ∀ w ∈ wsX40, w ∈ wsX4_turn := by decide +kernel
  intro k
  induction k with
  | zero =>
    intro i H locs ls hn h1 hP hD hS hl
    have hd := dg_lt X i
    refine lv_iload hx hb dX4_turn_95 (lv_at hl 0 rfl) ?_
    refine lv_aload_n hx hb dX4_turn_97 rfl (lv_at hl 1 rfl) ?_
    refine rg_4_a hx hb hts in4 hown hK hP 0 (by decide) mg_0 (hts _ (by decide +kernel)) dX4_turn_98 ?_
    refine rg_3_n hx hb hts in3 hown hK hP 3 (by omega) mg_A.1 (hts _ (by decide +kernel)) dX4_turn_101 ?_
    refine tp_i (y := nI (na)) rfl ?_
    refine lv_iconst (v := nI (1)) hx hb dX4_turn_104 (by decide) ?_
    refine lv_isub hx hb dX4_turn_105 ?_
    refine tp_i (y := nI (na - 1)) (pk_sub (by omega)) ?_
    refine bi_ge (tgt := 128) hx hb dX4_turn_106 (by decide) (by omega) (by omega) (fun q => ?_) (fun q => ?_)
    · exact kk i H locs ls (by omega) h1 (fun h => top_nz (by rw [← hva.1]; omega) h) hP hD hS hl
    · exact absurd hn (by omega)
  | succ k ih =>
    intro i H locs ls hn h1 hP hD hS hl
    have hd := dg_lt X i
    refine lv_iload hx hb dX4_turn_95 (lv_at hl 0 rfl) ?_
    refine lv_aload_n hx hb dX4_turn_97 rfl (lv_at hl 1 rfl) ?_
    refine rg_4_a hx hb hts in4 hown hK hP 0 (by decide) mg_0 (hts _ (by decide +kernel)) dX4_turn_98 ?_
    refine rg_3_n hx hb hts in3 hown hK hP 3 (by omega) mg_A.1 (hts _ (by decide +kernel)) dX4_turn_101 ?_
    refine tp_i (y := nI (na)) rfl ?_
    refine lv_iconst (v := nI (1)) hx hb dX4_turn_104 (by decide) ?_
    refine lv_isub hx hb dX4_turn_105 ?_
    refine tp_i (y := nI (na - 1)) (pk_sub (by omega)) ?_
    refine bi_ge (tgt := 128) hx hb dX4_turn_106 (by decide) (by omega) (by omega) (fun q => ?_) (fun q => ?_)
    · exact absurd hn (by omega)
    · refine lv_aload_n hx hb dX4_turn_109 rfl (lv_at hl 1 rfl) ?_
      refine rg_4_a hx hb hts in4 hown hK hP 0 (by decide) mg_0 (hts _ (by decide +kernel)) dX4_turn_110 ?_
      refine rg_3_d hx hb hts in3 hown hK hP 3 (by omega) mg_A.1 (hts _ (by decide +kernel)) dX4_turn_113 ?_
      refine lv_iload hx hb dX4_turn_116 (lv_at hl 0 rfl) ?_
      refine rn_i hx hb hK hP (3 + 1) (by omega) mg_A.2 (by omega) (by decide) dX4_turn_118 ?_
      refine tp_i (y := nI (X / 10 ^ i % 10)) (hva.2 i (by omega)) ?_
      refine bz_ne (tgt := 128) hx hb dX4_turn_119 (by decide) (by omega) (fun q2 => ?_) (fun q2 => ?_)
      · exact kk i H locs ls (by omega) h1 (fun _ => q2) hP hD hS hl
      · refine lv_iinc (v := nI (i + 1)) (lv' := [(4, .int (nI (i + 1))), (0, .ref (ad 0)), (2, .int (nI (k_n)))]) hx hb dX4_turn_122 hl (k := 0) rfl (nI_inc i 1) (by decide) rfl (fun ls hl => ?_)
        refine lv_goto (tgt := 95) hx hb dX4_turn_125 (by decide) ?_
        exact ih (i + 1) H locs ls (by omega) (by rw [tp_ms, h1, q2, Nat.mul_zero]) hP hD hS (lv_sub hl [0, 1, 2] rfl)
set_option maxHeartbeats 4000000 in
set_option maxRecDepth 100000 in
/-- turn -/
theorem c_X4_turn (l : Launch) (D : va_G) (cA : Nat → ClassId) (tT : Nat) (A : Nat → Prop) (ad : Nat → Nat) (sz : Nat) {wa wb wc we : RWt} {rg : Nat → RWt} {tx : Nat → Int32} {tl : Nat} {rh : Nat → Bool × Nat × Int} (hm : mr rg rh) (hr9 : rks rh) {op k i : Int} (op_1 : -2147483648 ≤ op) (op_2 : op < 2147483648) (k_1 : -2147483648 ≤ k) (k_2 : k < 2147483648) (i_1 : -2147483648 ≤ i) (i_2 : i < 2147483648) : Met l yX4_turn wsX4_turn ({ frames := 2, cells := 0, slots := 0, locals := 50 }) (va_Pc [.ref (ad 0), .int (iZ (op)), .int (iZ (k)), .int (iZ (i))] (wd_B D cA tT A 23 ad sz (mg cA ad wa wb wc we rg tx tl))) (va_Qi (fun (r : Int32) (u : Nat → va_E) => r = (sp_turn rh op k i).1 ∧ ∃ wa1 wb1 wc1 we1 rg1, mr rg1 (sp_turn rh op k i).2 ∧ u = mg cA ad wa1 wb1 wc1 we1 rg1 tx tl) (wd_E D cA A 23 ad) A) 0 0 A := by
  refine Met.ofW (cc := cX4_turn) (maxL := 5) (ret := (some .int)) (by decide) rfl ?_
  intro p e s m args below meth c s₁ B hml hv
  obtain ⟨rfl, hsz, hP, hK, hD, hT⟩ := hv
  have hx := B.exec
  have hb := B.bytes
  have hr := B.returns
  have hts := atoms_spec (ws := wsX4_turn) B.pre
  have hown : s.vm.findClass RX4 = some m.cls := findClass_of_methodNamed B.named
  have hlocks := B.notSynchronized
  subst hsz
  have hS : va_S A s.heap s.heap [] := va_S.rf
  have in3 : ∀ w ∈ wsX30, w ∈ wsX4_turn := by decide +kernel
  have in4 : ∀ w ∈ wsX40, w ∈ wsX4_turn := by decide +kernel
  have hl := lv_entry ([.ref (ad 0), .int (iZ (op)), .int (iZ (k)), .int (iZ (i))]) (n := 5) (Nat.le_of_ble_eq_true rfl)
  rw [lg_entry_eq]
  generalize (lg_sl ([.ref (ad 0), .int (iZ (op)), .int (iZ (k)), .int (iZ (i))]) ++ List.replicate (5 - (lg_sl ([.ref (ad 0), .int (iZ (op)), .int (iZ (k)), .int (iZ (i))])).length) Slot.unset).toArray = ls at hl ⊢
  have hl : lv_has ls 5 [(0, .ref (ad 0)), (1, .int (iZ (op))), (2, .int (iZ (k))), (3, .int (iZ (i)))] := hl
  refine lv_iload_n hx hb dX4_turn_0 rfl (lv_at hl 2 rfl) ?_
  refine va_calli (va_runS (As := [.int (iZ (k))]) (rest := []) ⟨hx, hb, hml, hown, hts⟩ (c_X4_is l D cA tT A 23 ad _ _ (k := k) (by omega) (by omega)) (va_cwS 1 hts gX4_turn_X4_is rfl rfl rfl (by decide +kernel) ⟨Nat.le_of_ble_eq_true rfl, Nat.le_of_ble_eq_true rfl⟩) (wd_preS hP hK hD hT hS) rfl rfl hl.1 rfl (lv_room (Nat.le_of_ble_eq_true rfl)) dX4_turn_1 ⟨Nat.zero_le _, Nat.zero_le _⟩) hS id_2 id_1 (fun r_ u t H locs ht hvm hw hB hz1 hk1 hS => ?_)
  refine c00 ?_
  obtain ⟨hP, hD⟩ := wd_back ht hB
  clear ht hvm hB hz1 hk1
  obtain ⟨hr_, hu_⟩ := hw
  subst hr_
  rw [hu_] at hP hD
  clear hu_
  refine bz_eq (tgt := 23) hx hb dX4_turn_4 (by decide) it_lt (fun q_k => ?_) (fun q_k => ?_)
  · have g_k := it_eq q_k
    refine lv_iconst (v := iZ (-1)) hx hb dX4_turn_23 (by decide) ?_
    exact W.iret (v := iZ (-1)) hx hb hr (fun t ht hW => ⟨⟨iZ (-1), _, rfl, ⟨by rw [sp_turn, if_neg (by omega)], _, _, _, _, rg, by rw [sp_turn, if_neg (by omega)]; exact hm, rfl⟩, wd_end hP hK hD ht hW⟩, hS.F ht⟩) hS.2.2 dX4_turn_24
  · have g_k := it_ne q_k
    refine lv_iload_n hx hb dX4_turn_7 rfl (lv_at hl 3 rfl) ?_
    refine va_calli (va_runS (As := [.int (iZ (i))]) (rest := []) ⟨hx, hb, hml, hown, hts⟩ (c_X4_is l D cA tT A 23 ad _ _ (k := i) (by omega) (by omega)) (va_cwS 1 hts gX4_turn_X4_is rfl rfl rfl (by decide +kernel) ⟨Nat.le_of_ble_eq_true rfl, Nat.le_of_ble_eq_true rfl⟩) (wd_preS hP hK hD hT hS) rfl rfl hl.1 rfl (lv_room (Nat.le_of_ble_eq_true rfl)) dX4_turn_8 ⟨Nat.zero_le _, Nat.zero_le _⟩) hS id_2 id_1 (fun r_ u t H locs ht hvm hw hB hz1 hk1 hS => ?_)
    refine c00 ?_
    obtain ⟨hP, hD⟩ := wd_back ht hB
    clear ht hvm hB hz1 hk1
    obtain ⟨hr_, hu_⟩ := hw
    subst hr_
    rw [hu_] at hP hD
    clear hu_
    refine bz_eq (tgt := 23) hx hb dX4_turn_11 (by decide) it_lt (fun q_i => ?_) (fun q_i => ?_)
    · have g_i := it_eq q_i
      refine lv_iconst (v := iZ (-1)) hx hb dX4_turn_23 (by decide) ?_
      exact W.iret (v := iZ (-1)) hx hb hr (fun t ht hW => ⟨⟨iZ (-1), _, rfl, ⟨by rw [sp_turn, if_neg (by omega)], _, _, _, _, rg, by rw [sp_turn, if_neg (by omega)]; exact hm, rfl⟩, wd_end hP hK hD ht hW⟩, hS.F ht⟩) hS.2.2 dX4_turn_24
    · have g_i := it_ne q_i
      refine lv_iload_n hx hb dX4_turn_14 rfl (lv_at hl 1 rfl) ?_
      refine by_lt (tgt := 23) hx hb dX4_turn_15 (by decide) (by omega) (by omega) (fun p1 => ?_) (fun p1 => ?_)
      · refine lv_iconst (v := iZ (-1)) hx hb dX4_turn_23 (by decide) ?_
        exact W.iret (v := iZ (-1)) hx hb hr (fun t ht hW => ⟨⟨iZ (-1), _, rfl, ⟨by rw [sp_turn, if_neg (by omega)], _, _, _, _, rg, by rw [sp_turn, if_neg (by omega)]; exact hm, rfl⟩, wd_end hP hK hD ht hW⟩, hS.F ht⟩) hS.2.2 dX4_turn_24
      · refine lv_iload_n hx hb dX4_turn_18 rfl (lv_at hl 1 rfl) ?_
        refine lv_iconst (v := nI (2)) hx hb dX4_turn_19 (by decide) ?_
        refine tp_i (y := iZ ((2 : Nat) : Int)) (iZ_nat _) ?_
        refine bs_le (tgt := 25) hx hb dX4_turn_20 (by decide) (by omega) (by omega) (by omega) (by omega) (fun p2 => ?_) (fun p2 => ?_)
        · obtain ⟨k_n, h_k, rfl⟩ : ∃ n : Nat, n < 6 ∧ k = (n : Int) := ⟨k.toNat, by omega, by omega⟩
          rw [← iZ_nat k_n] at hl
          have e_k : ((k_n : Nat) : Int).toNat = k_n := Int.toNat_natCast k_n
          obtain ⟨i_n, h_i, rfl⟩ : ∃ n : Nat, n < 6 ∧ i = (n : Int) := ⟨i.toNat, by omega, by omega⟩
          rw [← iZ_nat i_n] at hl
          have e_i : ((i_n : Nat) : Int).toNat = i_n := Int.toNat_natCast i_n
          have m_k := hm k_n h_k
          have n_k : (rg k_n).2.1 = nd_p (rh k_n).2.1 := m_k.1.1
          have b_k : (rg k_n).2.2.1 = (rh k_n).1 := by rw [m_k.2]
          have z_k : (rg k_n).2.2.2 = (rh k_n).2.2 := by rw [m_k.2]
          have r_k := hr9 k_n h_k
          simp only [rk] at r_k
          have p_k := p190 r_k.1
          have t_k := tn_le (rh k_n).1
          have m_i := hm i_n h_i
          have n_i : (rg i_n).2.1 = nd_p (rh i_n).2.1 := m_i.1.1
          have b_i : (rg i_n).2.2.1 = (rh i_n).1 := by rw [m_i.2]
          have z_i : (rg i_n).2.2.2 = (rh i_n).2.2 := by rw [m_i.2]
          have r_i := hr9 i_n h_i
          simp only [rk] at r_i
          have p_i := p190 r_i.1
          have t_i := tn_le (rh i_n).1
          refine lv_aload_n hx hb dX4_turn_25 rfl (lv_at hl 0 rfl) ?_
          refine rg_4_a hx hb hts in4 hown hK hP 0 (by decide) mg_0 (hts _ (by decide +kernel)) dX4_turn_26 ?_
          refine lv_aload_n hx hb dX4_turn_29 rfl (lv_at hl 0 rfl) ?_
          refine rg_4_registers hx hb hts in4 hown hK hP 0 (by decide) mg_0 (hts _ (by decide +kernel)) dX4_turn_30 ?_
          refine lv_iload_n hx hb dX4_turn_33 rfl (lv_at hl 3 rfl) ?_
          refine rn_q4 hx hb hK hP 1 (by decide) mg_1 (by omega) (by decide) dX4_turn_34 ?_
          refine tp_v (y := .ref (ad (11 + 2 * i_n))) rfl ?_
          refine va_callv (va_runV (As := [.ref (ad (11 + 2 * i_n))]) (rest := []) ⟨hx, hb, hml, hown, hts⟩ (c_X3_take l D cA tT A 23 ad _ _ (a := 3) (f := wa.1) (n := wa.2.1) (b := wa.2.2.1) (z := wa.2.2.2) (o := 11 + 2 * i_n) (f1 := (rg i_n).1) (n1 := (rg i_n).2.1) (b1 := (rg i_n).2.2.1) (z1 := (rg i_n).2.2.2) (by decide) mg_A (by omega) (mg_G _) (by omega) (by omega) (by omega) (by omega)) (cwV 1 hts gX4_turn_X3_take rfl rfl rfl (by decide +kernel) ⟨Nat.le_of_ble_eq_true rfl, Nat.le_of_ble_eq_true rfl⟩) (wd_preV (k := 3) hP hK hD hT hS (by decide) mg_A.1 rfl) rfl rfl hl.1 rfl (lv_room (Nat.le_of_ble_eq_true rfl)) dX4_turn_35 ⟨Nat.zero_le _, Nat.zero_le _⟩) hS id_2 id_1 (fun u t H locs ht hvm hw hB hz1 hk1 hS => ?_)
          refine c00 ?_
          obtain ⟨hP, hD⟩ := wd_back ht hB
          clear ht hvm hB hz1 hk1
          rw [hw] at hP hD
          clear hw
          obtain ⟨f1, hf1⟩ : ∃ f9 : Nat → Int32, f9 = tk (rg i_n).1 wa.1 (rg i_n).2.1 := ⟨_, rfl⟩
          rw [← hf1, b_i, z_i] at hP hD
          have vf1 : rv f1 (rg i_n).2.1 (rh i_n).2.1 := ⟨n_i, fun j hj => by rw [hf1, tk_lt hj]; exact m_i.1.2 j hj⟩
          rw [show rw_ cA ad (mg cA ad wa wb wc we rg tx tl) 3 f1 ((rg i_n).2.1) ((rh i_n).1) ((rh i_n).2.2) = mg cA ad (f1, (rg i_n).2.1, (rh i_n).1, (rh i_n).2.2) wb wc we rg tx tl from mg_ua (w' := (f1, (rg i_n).2.1, (rh i_n).1, (rh i_n).2.2))] at hP hD
          refine lv_iload_n hx hb dX4_turn_38 rfl (lv_at hl 1 rfl) ?_
          refine by_ne (tgt := 50) hx hb dX4_turn_39 (by decide) (by omega) (by omega) (fun p3 => ?_) (fun p3 => ?_)
          · refine lv_iload_n hx hb dX4_turn_50 rfl (lv_at hl 1 rfl) ?_
            refine lv_iconst (v := nI (1)) hx hb dX4_turn_51 (by decide) ?_
            refine tp_i (y := iZ ((1 : Nat) : Int)) (iZ_nat _) ?_
            refine bs_ne (tgt := 87) hx hb dX4_turn_52 (by decide) (by omega) (by omega) (by omega) (by omega) (fun p4 => ?_) (fun p4 => ?_)
            · refine lv_iload_n hx hb dX4_turn_87 rfl (lv_at hl 1 rfl) ?_
              refine lv_iconst (v := nI (2)) hx hb dX4_turn_88 (by decide) ?_
              refine tp_i (y := iZ ((2 : Nat) : Int)) (iZ_nat _) ?_
              refine bs_ne (tgt := 167) hx hb dX4_turn_89 (by decide) (by omega) (by omega) (by omega) (by omega) (fun p5 => ?_) (fun p5 => ?_)
              · exact absurd p5 (by omega)
              · have pn : 1 ≤ (rg i_n).2.1 := by rw [n_i]; exact nd_p_pos _
                refine lv_iconst (v := nI (0)) hx hb dX4_turn_92 (by decide) ?_
                refine lv_istore (lv' := [(4, .int (nI (0))), (0, .ref (ad 0)), (1, .int (iZ (op))), (2, .int (nI (k_n))), (3, .int (nI (i_n)))]) hx hb dX4_turn_93 hl (by decide) rfl (fun ls hl => ?_)
                refine lp_X4_turn (X := (rh i_n).2.1) ⟨hx, hb, hml, hown, hts⟩ hK hT (by omega) vf1 (fun c9 H locs ls hc9 hm9 hnz hP hD hS hl => ?_) ((rg i_n).2.1 - 1) 0 _ _ ls (by omega) (by rw [Nat.pow_zero, Nat.mod_one]) hP hD hS (lv_sub hl [0, 1, 3] rfl)
                refine lv_aload_n hx hb dX4_turn_128 rfl (lv_at hl 1 rfl) ?_
                refine lv_iload hx hb dX4_turn_129 (lv_at hl 0 rfl) ?_
                refine lv_iconst (v := nI (1)) hx hb dX4_turn_131 (by decide) ?_
                refine tp_i (y := iZ 1) rfl ?_
                refine va_calli (va_runV (As := [.int (nI (c9)), .int (iZ (1))]) (rest := []) ⟨hx, hb, hml, hown, hts⟩ (c_X4_cut l D cA tT A ad _ (fa := f1) (na := (rg i_n).2.1) (X := (rh i_n).2.1) (B9 := c9) (ba := (rh i_n).1) (za := (rh i_n).2.2) (way := 1) (wb := wb) (wc := wc) (we := we) (rg := rg) (tx := tx) (tl := tl) (by decide) (by decide) vf1 (by omega) (by omega)) (cwV 2 hts gX4_turn_X4_cut rfl rfl rfl (by decide +kernel) ⟨Nat.le_of_ble_eq_true rfl, Nat.le_of_ble_eq_true rfl⟩) (wd_preV (k := 0) hP hK hD hT hS (by decide) mg_0 rfl) rfl rfl hl.1 rfl (lv_room (Nat.le_of_ble_eq_true rfl)) dX4_turn_132 ⟨Nat.zero_le _, Nat.zero_le _⟩) hS id_2 id_1 (fun r_ u t H locs ht hvm hw hB hz1 hk1 hS => ?_)
                refine c00 ?_
                obtain ⟨hP, hD⟩ := wd_back ht hB
                clear ht hvm hB hz1 hk1
                obtain ⟨hr_, fx, nfx, vfx, hu_⟩ := hw
                subst hr_
                rw [hu_] at hP hD
                clear hu_
                have hrr : rdn (rh i_n).1 (rh i_n).2.1 (10 ^ c9) 1 = (1, (rh i_n).2.1 / 10 ^ c9) := by rw [rdn, if_pos hm9]
                rw [hrr] at vfx
                obtain ⟨vf9, nf9⟩ := vfx (show ¬ (1 : Nat) = 0 by decide)
                refine tp_i (y := nI 1) (by rw [hrr]) ?_
                refine lv_pop hx hb dX4_turn_135 rfl ?_
                have vf9 : rv fx nfx ((rh i_n).2.1 / 10 ^ c9) := vf9
                have hn9 : nfx ≤ 700 := nf9
                refine lv_aload_n hx hb dX4_turn_136 rfl (lv_at hl 1 rfl) ?_
                refine rg_4_a hx hb hts in4 hown hK hP 0 (by decide) mg_0 (hts _ (by decide +kernel)) dX4_turn_137 ?_
                refine lv_aload_n hx hb dX4_turn_140 rfl (lv_at hl 1 rfl) ?_
                refine rg_4_a hx hb hts in4 hown hK hP 0 (by decide) mg_0 (hts _ (by decide +kernel)) dX4_turn_141 ?_
                refine va_calli (va_runV (As := []) (rest := [.ref (ad 3)]) ⟨hx, hb, hml, hown, hts⟩ (c_X3_isZero l D cA tT A 23 ad _ _ (a := 3) (f := fx) (n := nfx) (b := (rh i_n).1) (z := (rh i_n).2.2) (v := (rh i_n).2.1 / 10 ^ c9) (by decide) mg_A vf9 (by omega)) (cwV 0 hts gX4_turn_X3_isZero rfl rfl rfl (by decide +kernel) ⟨Nat.le_of_ble_eq_true rfl, Nat.le_of_ble_eq_true rfl⟩) (wd_preV (k := 3) hP hK hD hT hS (by decide) mg_A.1 rfl) rfl rfl hl.1 rfl (lv_room (Nat.le_of_ble_eq_true rfl)) dX4_turn_144 ⟨Nat.zero_le _, Nat.zero_le _⟩) hS id_2 id_1 (fun r_ u t H locs ht hvm hw hB hz1 hk1 hS => ?_)
                refine c00 ?_
                obtain ⟨hP, hD⟩ := wd_back ht hB
                clear ht hvm hB hz1 hk1
                obtain ⟨hr_, hu_⟩ := hw
                subst hr_
                rw [hu_] at hP hD
                clear hu_
                refine bz_eq (tgt := 154) hx hb dX4_turn_147 (by decide) it_lt (fun p8 => ?_) (fun p8 => ?_)
                · have p9 := it_eq p8
                  have hx0 : (rh i_n).2.1 ≠ 0 := fun h => p9 (by rw [h, Nat.zero_div])
                  have hzz : zz_ (rh i_n).2.1 = c9 := zz_at hm9 (hnz hx0)
                  refine lv_aload_n hx hb dX4_turn_154 rfl (lv_at hl 1 rfl) ?_
                  refine rg_4_a hx hb hts in4 hown hK hP 0 (by decide) mg_0 (hts _ (by decide +kernel)) dX4_turn_155 ?_
                  refine rg_3_scale hx hb hts in3 hown hK hP 3 (by omega) mg_A.1 (hts _ (by decide +kernel)) dX4_turn_158 ?_
                  refine tp_i (y := iZ ((rh i_n).2.2)) rfl ?_
                  refine lv_iload hx hb dX4_turn_161 (lv_at hl 0 rfl) ?_
                  refine lv_isub hx hb dX4_turn_163 ?_
                  refine tp_i (y := iZ (((rh i_n).2.2) - ((c9 : Nat) : Int))) (iZ_subN _ _) ?_
                  refine rp_3_scale hx hb hts in3 hown hK hP hD hS 3 (by omega) mg_A.1 (hts _ (by decide +kernel)) rfl rfl dX4_turn_164 (fun H locs hP hD hS => ?_)
                  rw [mg_pa nfx ((rh i_n).1) (((rh i_n).2.2) - ((c9 : Nat) : Int)) (v := nI (((rh i_n).1).toNat)) rfl] at hP hD
                  refine lv_aload_n hx hb dX4_turn_167 rfl (lv_at hl 1 rfl) ?_
                  refine lv_iload_n hx hb dX4_turn_168 rfl (lv_at hl 2 rfl) ?_
                  refine lv_aload_n hx hb dX4_turn_169 rfl (lv_at hl 1 rfl) ?_
                  refine rg_4_a hx hb hts in4 hown hK hP 0 (by decide) mg_0 (hts _ (by decide +kernel)) dX4_turn_170 ?_
                  have hk8 : nfx ≤ 800 := (by omega)
                  have hkz1 : -2147483648 ≤ ((rh i_n).2.2) - ((c9 : Nat) : Int) := (by omega)
                  have hkz2 : ((rh i_n).2.2) - ((c9 : Nat) : Int) < 2147483648 := (by omega)
                  have hkb : ((rh i_n).1) = true → ((rh i_n).2.1 / 10 ^ c9) ≠ 0 := fun _ => p9
                  refine va_calli (va_runV (As := [.int (nI (k_n)), .ref (ad 3)]) (rest := []) ⟨hx, hb, hml, hown, hts⟩ (c_X4_keep_a l D cA tT A ad _ (wa := (fx, nfx, (rh i_n).1, ((rh i_n).2.2) - ((c9 : Nat) : Int))) (wb := wb) (wc := wc) (we := we) (rg := rg) (tx := tx) (tl := tl) (rh := rh) (k := k_n) (v := (rh i_n).2.1 / 10 ^ c9) hm h_k vf9 hk8 hkb hkz1 hkz2) (cwV 2 hts gX4_turn_X4_keep rfl rfl rfl (by decide +kernel) ⟨Nat.le_of_ble_eq_true rfl, Nat.le_of_ble_eq_true rfl⟩) (wd_preV (k := 0) hP hK hD hT hS (by decide) mg_0 rfl) rfl rfl hl.1 rfl (lv_room (Nat.le_of_ble_eq_true rfl)) dX4_turn_173 ⟨Nat.zero_le _, Nat.zero_le _⟩) hS id_2 id_1 (fun r_ u t H locs ht hvm hw hB hz1 hk1 hS => ?_)
                  refine c00 ?_
                  obtain ⟨hP, hD⟩ := wd_back ht hB
                  clear ht hvm hB hz1 hk1
                  obtain ⟨hr_, rg1, hmr, hu_⟩ := hw
                  rw [hu_] at hP hD
                  have hsp : sp_turn rh op (k_n : Int) (i_n : Int) = kpr rh k_n ((rh i_n).1, (rh i_n).2.1 / 10 ^ c9, ((rh i_n).2.2) - ((c9 : Nat) : Int)) := by rw [sp_turn, if_pos (by omega), e_k, e_i, if_neg (by omega), if_neg (by omega), if_neg hx0, hzz]
                  exact W.iret hx hb hr (fun t ht hW => ⟨⟨_, _, rfl, ⟨by rw [hsp]; exact hr_, _, _, _, _, rg1, by rw [hsp]; exact hmr, rfl⟩, wd_end hP hK hD ht hW⟩, hS.F ht⟩) hS.2.2 dX4_turn_176
                · have p9 := it_ne p8
                  have hx0 : (rh i_n).2.1 = 0 := Decidable.byContradiction (fun h => dv_nz (hnz h) p9)
                  refine lv_iconst (v := nI (0)) hx hb dX4_turn_150 (by decide) ?_
                  refine lv_goto (tgt := 164) hx hb dX4_turn_151 (by decide) ?_
                  refine tp_i (y := iZ ((0 : Nat) : Int)) (iZ_nat _) ?_
                  refine rp_3_scale hx hb hts in3 hown hK hP hD hS 3 (by omega) mg_A.1 (hts _ (by decide +kernel)) rfl rfl dX4_turn_164 (fun H locs hP hD hS => ?_)
                  rw [mg_pa nfx ((rh i_n).1) (((0 : Nat) : Int)) (v := nI (((rh i_n).1).toNat)) rfl] at hP hD
                  refine lv_aload_n hx hb dX4_turn_167 rfl (lv_at hl 1 rfl) ?_
                  refine lv_iload_n hx hb dX4_turn_168 rfl (lv_at hl 2 rfl) ?_
                  refine lv_aload_n hx hb dX4_turn_169 rfl (lv_at hl 1 rfl) ?_
                  refine rg_4_a hx hb hts in4 hown hK hP 0 (by decide) mg_0 (hts _ (by decide +kernel)) dX4_turn_170 ?_
                  have hk8 : nfx ≤ 800 := (by omega)
                  have hkz1 : -2147483648 ≤ ((0 : Nat) : Int) := (by omega)
                  have hkz2 : ((0 : Nat) : Int) < 2147483648 := (by omega)
                  have hkb : ((rh i_n).1) = true → ((rh i_n).2.1 / 10 ^ c9) ≠ 0 := fun h => absurd hx0 (r_i.2.2.2 h)
                  refine va_calli (va_runV (As := [.int (nI (k_n)), .ref (ad 3)]) (rest := []) ⟨hx, hb, hml, hown, hts⟩ (c_X4_keep_a l D cA tT A ad _ (wa := (fx, nfx, (rh i_n).1, ((0 : Nat) : Int))) (wb := wb) (wc := wc) (we := we) (rg := rg) (tx := tx) (tl := tl) (rh := rh) (k := k_n) (v := (rh i_n).2.1 / 10 ^ c9) hm h_k vf9 hk8 hkb hkz1 hkz2) (cwV 2 hts gX4_turn_X4_keep rfl rfl rfl (by decide +kernel) ⟨Nat.le_of_ble_eq_true rfl, Nat.le_of_ble_eq_true rfl⟩) (wd_preV (k := 0) hP hK hD hT hS (by decide) mg_0 rfl) rfl rfl hl.1 rfl (lv_room (Nat.le_of_ble_eq_true rfl)) dX4_turn_173 ⟨Nat.zero_le _, Nat.zero_le _⟩) hS id_2 id_1 (fun r_ u t H locs ht hvm hw hB hz1 hk1 hS => ?_)
                  refine c00 ?_
                  obtain ⟨hP, hD⟩ := wd_back ht hB
                  clear ht hvm hB hz1 hk1
                  obtain ⟨hr_, rg1, hmr, hu_⟩ := hw
                  rw [hu_] at hP hD
                  have hsp : sp_turn rh op (k_n : Int) (i_n : Int) = kpr rh k_n ((rh i_n).1, (rh i_n).2.1 / 10 ^ c9, ((0 : Nat) : Int)) := by rw [sp_turn, if_pos (by omega), e_k, e_i, if_neg (by omega), if_neg (by omega), if_pos hx0, show (rh i_n).2.1 / 10 ^ c9 = (rh i_n).2.1 by rw [hx0, Nat.zero_div]]; rfl
                  exact W.iret hx hb hr (fun t ht hW => ⟨⟨_, _, rfl, ⟨by rw [hsp]; exact hr_, _, _, _, _, rg1, by rw [hsp]; exact hmr, rfl⟩, wd_end hP hK hD ht hW⟩, hS.F ht⟩) hS.2.2 dX4_turn_176
            · refine lv_aload_n hx hb dX4_turn_55 rfl (lv_at hl 0 rfl) ?_
              refine rg_4_a hx hb hts in4 hown hK hP 0 (by decide) mg_0 (hts _ (by decide +kernel)) dX4_turn_56 ?_
              refine lv_aload_n hx hb dX4_turn_59 rfl (lv_at hl 0 rfl) ?_
              refine rg_4_a hx hb hts in4 hown hK hP 0 (by decide) mg_0 (hts _ (by decide +kernel)) dX4_turn_60 ?_
              refine rg_3_minus hx hb hts in3 hown hK hP 3 (by omega) mg_A.1 (hts _ (by decide +kernel)) dX4_turn_63 ?_
              refine tp_i (y := nI (((rh i_n).1).toNat)) rfl ?_
              refine tp_i (y := nI ((rh i_n).1.toNat)) rfl ?_
              refine bz_ne (tgt := 83) hx hb dX4_turn_66 (by decide) (by omega) (fun p5 => ?_) (fun p5 => ?_)
              · refine lv_iconst (v := nI (0)) hx hb dX4_turn_83 (by decide) ?_
                refine rp_3_minus hx hb hts in3 hown hK hP hD hS 3 (by omega) mg_A.1 (hts _ (by decide +kernel)) rfl rfl dX4_turn_84 (fun H locs hP hD hS => ?_)
                rw [mg_pa ((rg i_n).2.1) false ((rh i_n).2.2) (v := nI (0)) rfl] at hP hD
                refine lv_iload_n hx hb dX4_turn_87 rfl (lv_at hl 1 rfl) ?_
                refine lv_iconst (v := nI (2)) hx hb dX4_turn_88 (by decide) ?_
                refine tp_i (y := iZ ((2 : Nat) : Int)) (iZ_nat _) ?_
                refine bs_ne (tgt := 167) hx hb dX4_turn_89 (by decide) (by omega) (by omega) (by omega) (by omega) (fun p6 => ?_) (fun p6 => ?_)
                · refine lv_aload_n hx hb dX4_turn_167 rfl (lv_at hl 0 rfl) ?_
                  refine lv_iload_n hx hb dX4_turn_168 rfl (lv_at hl 2 rfl) ?_
                  refine lv_aload_n hx hb dX4_turn_169 rfl (lv_at hl 0 rfl) ?_
                  refine rg_4_a hx hb hts in4 hown hK hP 0 (by decide) mg_0 (hts _ (by decide +kernel)) dX4_turn_170 ?_
                  have hk8 : (rg i_n).2.1 ≤ 800 := (by omega)
                  have hkz1 : -2147483648 ≤ ((rh i_n).2.2) := (by omega)
                  have hkz2 : ((rh i_n).2.2) < 2147483648 := (by omega)
                  have hkb : false = true → ((rh i_n).2.1) ≠ 0 := fun h => absurd h (by decide)
                  refine va_calli (va_runV (As := [.int (nI (k_n)), .ref (ad 3)]) (rest := []) ⟨hx, hb, hml, hown, hts⟩ (c_X4_keep_a l D cA tT A ad _ (wa := (f1, (rg i_n).2.1, false, (rh i_n).2.2)) (wb := wb) (wc := wc) (we := we) (rg := rg) (tx := tx) (tl := tl) (rh := rh) (k := k_n) (v := (rh i_n).2.1) hm h_k vf1 hk8 hkb hkz1 hkz2) (cwV 2 hts gX4_turn_X4_keep rfl rfl rfl (by decide +kernel) ⟨Nat.le_of_ble_eq_true rfl, Nat.le_of_ble_eq_true rfl⟩) (wd_preV (k := 0) hP hK hD hT hS (by decide) mg_0 rfl) rfl rfl hl.1 rfl (lv_room (Nat.le_of_ble_eq_true rfl)) dX4_turn_173 ⟨Nat.zero_le _, Nat.zero_le _⟩) hS id_2 id_1 (fun r_ u t H locs ht hvm hw hB hz1 hk1 hS => ?_)
                  refine c00 ?_
                  obtain ⟨hP, hD⟩ := wd_back ht hB
                  clear ht hvm hB hz1 hk1
                  obtain ⟨hr_, rg1, hmr, hu_⟩ := hw
                  rw [hu_] at hP hD
                  have hsp : sp_turn rh op (k_n : Int) (i_n : Int) = kpr rh k_n (false, (rh i_n).2.1, (rh i_n).2.2) := by rw [sp_turn, if_pos (by omega), e_k, e_i, if_neg (by omega), if_pos (by omega)]; exact kpr_b (by rw [tn_nz p5]; rfl)
                  exact W.iret hx hb hr (fun t ht hW => ⟨⟨_, _, rfl, ⟨by rw [hsp]; exact hr_, _, _, _, _, rg1, by rw [hsp]; exact hmr, rfl⟩, wd_end hP hK hD ht hW⟩, hS.F ht⟩) hS.2.2 dX4_turn_176
                · exact absurd p6 (by omega)
              · refine lv_aload_n hx hb dX4_turn_69 rfl (lv_at hl 0 rfl) ?_
                refine rg_4_a hx hb hts in4 hown hK hP 0 (by decide) mg_0 (hts _ (by decide +kernel)) dX4_turn_70 ?_
                refine va_calli (va_runV (As := []) (rest := [.ref (ad 3)]) ⟨hx, hb, hml, hown, hts⟩ (c_X3_isZero l D cA tT A 23 ad _ _ (a := 3) (f := f1) (n := (rg i_n).2.1) (b := (rh i_n).1) (z := (rh i_n).2.2) (v := (rh i_n).2.1) (by decide) mg_A vf1 (by omega)) (cwV 0 hts gX4_turn_X3_isZero rfl rfl rfl (by decide +kernel) ⟨Nat.le_of_ble_eq_true rfl, Nat.le_of_ble_eq_true rfl⟩) (wd_preV (k := 3) hP hK hD hT hS (by decide) mg_A.1 rfl) rfl rfl hl.1 rfl (lv_room (Nat.le_of_ble_eq_true rfl)) dX4_turn_73 ⟨Nat.zero_le _, Nat.zero_le _⟩) hS id_2 id_1 (fun r_ u t H locs ht hvm hw hB hz1 hk1 hS => ?_)
                refine c00 ?_
                obtain ⟨hP, hD⟩ := wd_back ht hB
                clear ht hvm hB hz1 hk1
                obtain ⟨hr_, hu_⟩ := hw
                subst hr_
                rw [hu_] at hP hD
                clear hu_
                refine bz_ne (tgt := 83) hx hb dX4_turn_76 (by decide) it_lt (fun p8 => ?_) (fun p8 => ?_)
                · have p9 := it_ne p8
                  refine lv_iconst (v := nI (0)) hx hb dX4_turn_83 (by decide) ?_
                  refine rp_3_minus hx hb hts in3 hown hK hP hD hS 3 (by omega) mg_A.1 (hts _ (by decide +kernel)) rfl rfl dX4_turn_84 (fun H locs hP hD hS => ?_)
                  rw [mg_pa ((rg i_n).2.1) false ((rh i_n).2.2) (v := nI (0)) rfl] at hP hD
                  refine lv_iload_n hx hb dX4_turn_87 rfl (lv_at hl 1 rfl) ?_
                  refine lv_iconst (v := nI (2)) hx hb dX4_turn_88 (by decide) ?_
                  refine tp_i (y := iZ ((2 : Nat) : Int)) (iZ_nat _) ?_
                  refine bs_ne (tgt := 167) hx hb dX4_turn_89 (by decide) (by omega) (by omega) (by omega) (by omega) (fun p6 => ?_) (fun p6 => ?_)
                  · refine lv_aload_n hx hb dX4_turn_167 rfl (lv_at hl 0 rfl) ?_
                    refine lv_iload_n hx hb dX4_turn_168 rfl (lv_at hl 2 rfl) ?_
                    refine lv_aload_n hx hb dX4_turn_169 rfl (lv_at hl 0 rfl) ?_
                    refine rg_4_a hx hb hts in4 hown hK hP 0 (by decide) mg_0 (hts _ (by decide +kernel)) dX4_turn_170 ?_
                    have hk8 : (rg i_n).2.1 ≤ 800 := (by omega)
                    have hkz1 : -2147483648 ≤ ((rh i_n).2.2) := (by omega)
                    have hkz2 : ((rh i_n).2.2) < 2147483648 := (by omega)
                    have hkb : false = true → ((rh i_n).2.1) ≠ 0 := fun h => absurd h (by decide)
                    refine va_calli (va_runV (As := [.int (nI (k_n)), .ref (ad 3)]) (rest := []) ⟨hx, hb, hml, hown, hts⟩ (c_X4_keep_a l D cA tT A ad _ (wa := (f1, (rg i_n).2.1, false, (rh i_n).2.2)) (wb := wb) (wc := wc) (we := we) (rg := rg) (tx := tx) (tl := tl) (rh := rh) (k := k_n) (v := (rh i_n).2.1) hm h_k vf1 hk8 hkb hkz1 hkz2) (cwV 2 hts gX4_turn_X4_keep rfl rfl rfl (by decide +kernel) ⟨Nat.le_of_ble_eq_true rfl, Nat.le_of_ble_eq_true rfl⟩) (wd_preV (k := 0) hP hK hD hT hS (by decide) mg_0 rfl) rfl rfl hl.1 rfl (lv_room (Nat.le_of_ble_eq_true rfl)) dX4_turn_173 ⟨Nat.zero_le _, Nat.zero_le _⟩) hS id_2 id_1 (fun r_ u t H locs ht hvm hw hB hz1 hk1 hS => ?_)
                    refine c00 ?_
                    obtain ⟨hP, hD⟩ := wd_back ht hB
                    clear ht hvm hB hz1 hk1
                    obtain ⟨hr_, rg1, hmr, hu_⟩ := hw
                    rw [hu_] at hP hD
                    have hsp : sp_turn rh op (k_n : Int) (i_n : Int) = kpr rh k_n (false, (rh i_n).2.1, (rh i_n).2.2) := by rw [sp_turn, if_pos (by omega), e_k, e_i, if_neg (by omega), if_pos (by omega)]; exact kpr_b (by rw [p9, sn, sn]; simp)
                    exact W.iret hx hb hr (fun t ht hW => ⟨⟨_, _, rfl, ⟨by rw [hsp]; exact hr_, _, _, _, _, rg1, by rw [hsp]; exact hmr, rfl⟩, wd_end hP hK hD ht hW⟩, hS.F ht⟩) hS.2.2 dX4_turn_176
                  · exact absurd p6 (by omega)
                · have p9 := it_eq p8
                  refine lv_iconst (v := nI (1)) hx hb dX4_turn_79 (by decide) ?_
                  refine lv_goto (tgt := 84) hx hb dX4_turn_80 (by decide) ?_
                  refine rp_3_minus hx hb hts in3 hown hK hP hD hS 3 (by omega) mg_A.1 (hts _ (by decide +kernel)) rfl rfl dX4_turn_84 (fun H locs hP hD hS => ?_)
                  rw [mg_pa ((rg i_n).2.1) true ((rh i_n).2.2) (v := nI (1)) rfl] at hP hD
                  refine lv_iload_n hx hb dX4_turn_87 rfl (lv_at hl 1 rfl) ?_
                  refine lv_iconst (v := nI (2)) hx hb dX4_turn_88 (by decide) ?_
                  refine tp_i (y := iZ ((2 : Nat) : Int)) (iZ_nat _) ?_
                  refine bs_ne (tgt := 167) hx hb dX4_turn_89 (by decide) (by omega) (by omega) (by omega) (by omega) (fun p6 => ?_) (fun p6 => ?_)
                  · refine lv_aload_n hx hb dX4_turn_167 rfl (lv_at hl 0 rfl) ?_
                    refine lv_iload_n hx hb dX4_turn_168 rfl (lv_at hl 2 rfl) ?_
                    refine lv_aload_n hx hb dX4_turn_169 rfl (lv_at hl 0 rfl) ?_
                    refine rg_4_a hx hb hts in4 hown hK hP 0 (by decide) mg_0 (hts _ (by decide +kernel)) dX4_turn_170 ?_
                    have hk8 : (rg i_n).2.1 ≤ 800 := (by omega)
                    have hkz1 : -2147483648 ≤ ((rh i_n).2.2) := (by omega)
                    have hkz2 : ((rh i_n).2.2) < 2147483648 := (by omega)
                    have hkb : true = true → ((rh i_n).2.1) ≠ 0 := fun _ => p9
                    refine va_calli (va_runV (As := [.int (nI (k_n)), .ref (ad 3)]) (rest := []) ⟨hx, hb, hml, hown, hts⟩ (c_X4_keep_a l D cA tT A ad _ (wa := (f1, (rg i_n).2.1, true, (rh i_n).2.2)) (wb := wb) (wc := wc) (we := we) (rg := rg) (tx := tx) (tl := tl) (rh := rh) (k := k_n) (v := (rh i_n).2.1) hm h_k vf1 hk8 hkb hkz1 hkz2) (cwV 2 hts gX4_turn_X4_keep rfl rfl rfl (by decide +kernel) ⟨Nat.le_of_ble_eq_true rfl, Nat.le_of_ble_eq_true rfl⟩) (wd_preV (k := 0) hP hK hD hT hS (by decide) mg_0 rfl) rfl rfl hl.1 rfl (lv_room (Nat.le_of_ble_eq_true rfl)) dX4_turn_173 ⟨Nat.zero_le _, Nat.zero_le _⟩) hS id_2 id_1 (fun r_ u t H locs ht hvm hw hB hz1 hk1 hS => ?_)
                    refine c00 ?_
                    obtain ⟨hP, hD⟩ := wd_back ht hB
                    clear ht hvm hB hz1 hk1
                    obtain ⟨hr_, rg1, hmr, hu_⟩ := hw
                    rw [hu_] at hP hD
                    have hsp : sp_turn rh op (k_n : Int) (i_n : Int) = kpr rh k_n (true, (rh i_n).2.1, (rh i_n).2.2) := by rw [sp_turn, if_pos (by omega), e_k, e_i, if_neg (by omega), if_pos (by omega)]; exact kpr_b (by rw [tn_z p5]; rfl)
                    exact W.iret hx hb hr (fun t ht hW => ⟨⟨_, _, rfl, ⟨by rw [hsp]; exact hr_, _, _, _, _, rg1, by rw [hsp]; exact hmr, rfl⟩, wd_end hP hK hD ht hW⟩, hS.F ht⟩) hS.2.2 dX4_turn_176
                  · exact absurd p6 (by omega)
          · refine lv_aload_n hx hb dX4_turn_42 rfl (lv_at hl 0 rfl) ?_
            refine rg_4_a hx hb hts in4 hown hK hP 0 (by decide) mg_0 (hts _ (by decide +kernel)) dX4_turn_43 ?_
            refine lv_iconst (v := nI (0)) hx hb dX4_turn_46 (by decide) ?_
            refine rp_3_minus hx hb hts in3 hown hK hP hD hS 3 (by omega) mg_A.1 (hts _ (by decide +kernel)) rfl rfl dX4_turn_47 (fun H locs hP hD hS => ?_)
            rw [mg_pa ((rg i_n).2.1) false ((rh i_n).2.2) (v := nI (0)) rfl] at hP hD
            refine lv_iload_n hx hb dX4_turn_50 rfl (lv_at hl 1 rfl) ?_
            refine lv_iconst (v := nI (1)) hx hb dX4_turn_51 (by decide) ?_
            refine tp_i (y := iZ ((1 : Nat) : Int)) (iZ_nat _) ?_
            refine bs_ne (tgt := 87) hx hb dX4_turn_52 (by decide) (by omega) (by omega) (by omega) (by omega) (fun p4 => ?_) (fun p4 => ?_)
            · refine lv_iload_n hx hb dX4_turn_87 rfl (lv_at hl 1 rfl) ?_
              refine lv_iconst (v := nI (2)) hx hb dX4_turn_88 (by decide) ?_
              refine tp_i (y := iZ ((2 : Nat) : Int)) (iZ_nat _) ?_
              refine bs_ne (tgt := 167) hx hb dX4_turn_89 (by decide) (by omega) (by omega) (by omega) (by omega) (fun p5 => ?_) (fun p5 => ?_)
              · refine lv_aload_n hx hb dX4_turn_167 rfl (lv_at hl 0 rfl) ?_
                refine lv_iload_n hx hb dX4_turn_168 rfl (lv_at hl 2 rfl) ?_
                refine lv_aload_n hx hb dX4_turn_169 rfl (lv_at hl 0 rfl) ?_
                refine rg_4_a hx hb hts in4 hown hK hP 0 (by decide) mg_0 (hts _ (by decide +kernel)) dX4_turn_170 ?_
                have hk8 : (rg i_n).2.1 ≤ 800 := (by omega)
                have hkz1 : -2147483648 ≤ ((rh i_n).2.2) := (by omega)
                have hkz2 : ((rh i_n).2.2) < 2147483648 := (by omega)
                have hkb : false = true → ((rh i_n).2.1) ≠ 0 := fun h => absurd h (by decide)
                refine va_calli (va_runV (As := [.int (nI (k_n)), .ref (ad 3)]) (rest := []) ⟨hx, hb, hml, hown, hts⟩ (c_X4_keep_a l D cA tT A ad _ (wa := (f1, (rg i_n).2.1, false, (rh i_n).2.2)) (wb := wb) (wc := wc) (we := we) (rg := rg) (tx := tx) (tl := tl) (rh := rh) (k := k_n) (v := (rh i_n).2.1) hm h_k vf1 hk8 hkb hkz1 hkz2) (cwV 2 hts gX4_turn_X4_keep rfl rfl rfl (by decide +kernel) ⟨Nat.le_of_ble_eq_true rfl, Nat.le_of_ble_eq_true rfl⟩) (wd_preV (k := 0) hP hK hD hT hS (by decide) mg_0 rfl) rfl rfl hl.1 rfl (lv_room (Nat.le_of_ble_eq_true rfl)) dX4_turn_173 ⟨Nat.zero_le _, Nat.zero_le _⟩) hS id_2 id_1 (fun r_ u t H locs ht hvm hw hB hz1 hk1 hS => ?_)
                refine c00 ?_
                obtain ⟨hP, hD⟩ := wd_back ht hB
                clear ht hvm hB hz1 hk1
                obtain ⟨hr_, rg1, hmr, hu_⟩ := hw
                rw [hu_] at hP hD
                have hsp : sp_turn rh op (k_n : Int) (i_n : Int) = kpr rh k_n (false, (rh i_n).2.1, (rh i_n).2.2) := by rw [sp_turn, if_pos (by omega), e_k, e_i, if_pos (by omega)]
                exact W.iret hx hb hr (fun t ht hW => ⟨⟨_, _, rfl, ⟨by rw [hsp]; exact hr_, _, _, _, _, rg1, by rw [hsp]; exact hmr, rfl⟩, wd_end hP hK hD ht hW⟩, hS.F ht⟩) hS.2.2 dX4_turn_176
              · exact absurd p5 (by omega)
            · exact absurd p4 (by omega)
        · refine lv_iconst (v := iZ (-1)) hx hb dX4_turn_23 (by decide) ?_
          exact W.iret (v := iZ (-1)) hx hb hr (fun t ht hW => ⟨⟨iZ (-1), _, rfl, ⟨by rw [sp_turn, if_neg (by omega)], _, _, _, _, rg, by rw [sp_turn, if_neg (by omega)]; exact hm, rfl⟩, wd_end hP hK hD ht hW⟩, hS.F ht⟩) hS.2.2 dX4_turn_24
