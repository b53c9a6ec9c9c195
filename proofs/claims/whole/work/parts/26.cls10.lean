theorem pw_le {d : Bool × Nat × Int} (t : Nat) : (pw d t).2.1 ≤ 10 ^ (t * nd_p d.2.1) := by
  induction t with
  | zero => rw [pw, Nat.zero_mul, Nat.pow_zero]; exact Nat.le_refl _
  | succ t ih =>
    rw [pw, Nat.succ_mul, Nat.pow_add]
    exact Nat.mul_le_mul ih (Nat.le_of_lt (nd_p_lt _))
theorem pw_z {d : Bool × Nat × Int} (h1 : -6 ≤ d.2.2) (h2 : d.2.2 ≤ 6) (t : Nat) : -6 * (t : Int) ≤ (pw d t).2.2 ∧ (pw d t).2.2 ≤ 6 * (t : Int) := by
  induction t with
  | zero => rw [pw]; decide
  | succ t ih => rw [pw]; show -6 * ((t + 1 : Nat) : Int) ≤ (pw d t).2.2 + d.2.2 ∧ (pw d t).2.2 + d.2.2 ≤ 6 * ((t + 1 : Nat) : Int); omega
theorem pw_s {d : Bool × Nat × Int} {t : Nat} (h : t * nd_p d.2.1 ≤ 190) : nd_s (pw d t).2.1 ≤ 32 ∧ (pw d t).2.1 < 1000000 ^ 64 := by
  have h1 := pw_le (d := d) t
  have h2 : 10 ^ (t * nd_p d.2.1) ≤ 10 ^ 190 := Nat.pow_le_pow_right (by decide) h
  have h3 : (10 : Nat) ^ 190 < 1000000 ^ 32 := by decide +kernel
  have h4 : (1000000 : Nat) ^ 32 < 1000000 ^ 64 := by decide +kernel
  exact ⟨nd_s_le 32 _ (by omega), by omega⟩
theorem pw_m {n p N : Nat} (h : n * p ≤ 190) (hn : N ≤ n) : N * p ≤ 190 := Nat.le_trans (Nat.mul_le_mul_right p hn) h
set_option maxHeartbeats 4000000 in
set_option maxRecDepth 100000 in
theorem lp_X2_power {p : Program} {l : Launch} {e : Env} {R : Room} {s : State} {m : MethodId} {args : Array Value} {below : List Frame} {meth : Method} {c : Code} {Q : State → Prop} {D : va_G} {cA : Nat → ClassId} {tT : Nat} {A : Nat → Prop} {ad : Nat → Nat} {sf : Nat → Bool × Nat × Int} {x y : Nat} {tx : Nat → Int32} {tl : Nat} {i_n k_n q_n : Nat} (S : CallFix p m c cX2_power 6 s args wsX2_power RX2) (hK : va_K D vwCl (ty_s cA) s) (hT : st_T tT A s s.heap) (hRf : 5 ≤ R.frames) (hRl : 105 ≤ R.locals) (h_i : i_n < 6) (hc : ci sf x y) (hq9 : q_n ≤ 40) (hqp : q_n * nd_p (sf (2 + i_n)).2.1 ≤ 190) (kk : ∀ (x1 : Nat) (H : Heap) (locs : List Loc) (ls : Array Slot), x1 < 1000000 ^ 64 → va_P D vwCl (wm_W 31 ad (cg cA ad (va_up sf 0 (pw (sf (2 + i_n)) q_n)) x1 y tx tl)) H → va_D A (wm_W 31 ad (cg cA ad (va_up sf 0 (pw (sf (2 + i_n)) q_n)) x1 y tx tl)) → va_S A s.heap H locs → lv_has ls 6 [(0, .ref (ad 0)), (1, .int (nI k_n))] → W p l e R s m args below meth c H locs 0 0 Q (F0 m 89 ls [])) :
    ∀ (n t9 x1 : Nat) (H : Heap) (locs : List Loc) (ls : Array Slot), t9 + n = q_n → x1 < 1000000 ^ 64 → va_P D vwCl (wm_W 31 ad (cg cA ad (va_up sf 0 (pw (sf (2 + i_n)) t9)) x1 y tx tl)) H → va_D A (wm_W 31 ad (cg cA ad (va_up sf 0 (pw (sf (2 + i_n)) t9)) x1 y tx tl)) → va_S A s.heap H locs → lv_has ls 6 [(5, .int (nI (t9))), (0, .ref (ad 0)), (1, .int (nI (k_n))), (3, .int (nI (q_n))), (4, .ref (ad (7 + 3 * (2 + i_n))))] → W p l e R s m args below meth c H locs 0 0 Q (F0 m 67 ls []) := by
  obtain ⟨hx, hb, hml, hown, hts⟩ := S
  have in2 : ∀ w ∈ wsX20, w ∈ wsX2_power := by decide +kernel
  have r_i := hc.2.2.2.2 i_n h_i
  simp only [rk] at r_i
  have hs9 := s190 r_i.1
  intro n
  induction n with
  | zero =>
    intro t9 x1 H locs ls hn hx1 hP hD hS hl
    refine lv_iload hx hb dX2_power_67 (lv_at hl 0 rfl) ?_
    refine lv_iload_n hx hb dX2_power_69 rfl (lv_at hl 3 rfl) ?_
    refine bi_ge (tgt := 89) hx hb dX2_power_70 (by decide) (by omega) (by omega) (fun q1 => ?_) (fun q1 => ?_)
    · obtain rfl : t9 = q_n := by omega
      exact kk x1 H locs ls hx1 hP hD hS (lv_sub hl [1, 2] rfl)
    · exact absurd hn (by omega)
  | succ n ih =>
    intro t9 x1 H locs ls hn hx1 hP hD hS hl
    refine lv_iload hx hb dX2_power_67 (lv_at hl 0 rfl) ?_
    refine lv_iload_n hx hb dX2_power_69 rfl (lv_at hl 3 rfl) ?_
    refine bi_ge (tgt := 89) hx hb dX2_power_70 (by decide) (by omega) (by omega) (fun q1 => ?_) (fun q1 => ?_)
    · exact absurd hn (by omega)
    · have hps := pw_s (pw_m (N := t9) hqp (by omega))
      have hps1 := pw_s (pw_m (N := t9 + 1) hqp (by omega))
      refine lv_aload_n hx hb dX2_power_73 rfl (lv_at hl 1 rfl) ?_
      refine lv_aload_n hx hb dX2_power_74 rfl (lv_at hl 1 rfl) ?_
      refine rg_2_result hx hb hts in2 hown hK hP 0 (by decide) cg_0 (hts _ (by decide +kernel)) dX2_power_75 ?_
      refine lv_aload hx hb dX2_power_78 (lv_at hl 4 rfl) ?_
      refine va_callv (va_runV (As := [.ref (ad (7 + 3 * 0)), .ref (ad (7 + 3 * (2 + i_n)))]) (rest := []) ⟨hx, hb, hml, hown, hts⟩ (c_X2_multiply l D cA tT A ad _ (sf := va_up sf 0 (pw (sf (2 + i_n)) t9)) (x := x1) (y := y) (tx := tx) (tl := tl) (e1 := 0) (e2 := 2 + i_n) (by decide) (by omega) hx1 (by rw [va_up_self]; exact hps.2) (by rw [va_up_self, va_up_ne _ _ (show 2 + i_n ≠ 0 by omega)]; omega)) (cwV 2 hts gX2_power_X2_multiply rfl rfl rfl (by decide +kernel) ⟨Nat.le_trans (Nat.le_of_ble_eq_true rfl) hRf, Nat.le_trans (Nat.le_of_ble_eq_true rfl) hRl⟩) (wd_preV (k := 0) hP hK hD hT hS (by decide) cg_0 rfl) rfl rfl hl.1 rfl (lv_room (Nat.le_of_ble_eq_true rfl)) dX2_power_80 ⟨Nat.zero_le _, Nat.zero_le _⟩) hS id_2 id_1 (fun u t H locs ht hvm hw hB hz1 hk1 hS => ?_)
      refine c00 ?_
      obtain ⟨hP, hD⟩ := wd_back ht hB
      clear ht hvm hB hz1 hk1
      rw [hw] at hP hD
      clear hw
      rw [va_up_self, va_up_ne _ _ (show 2 + i_n ≠ 0 by omega), bx_uu] at hP hD
      refine lv_iinc (v := nI (t9 + 1)) (lv' := [(5, .int (nI (t9 + 1))), (0, .ref (ad 0)), (1, .int (nI (k_n))), (3, .int (nI (q_n))), (4, .ref (ad (7 + 3 * (2 + i_n))))]) hx hb dX2_power_83 hl (k := 0) rfl (nI_inc t9 1) (by decide) rfl (fun ls hl => ?_)
      refine lv_goto (tgt := 67) hx hb dX2_power_86 (by decide) ?_
      exact ih (t9 + 1) _ H locs ls (by omega) hps1.2 hP hD hS hl
set_option maxHeartbeats 4000000 in
set_option maxRecDepth 100000 in
/-- power -/
theorem c_X2_power (l : Launch) (D : va_G) (cA : Nat → ClassId) (tT : Nat) (A : Nat → Prop) (ad : Nat → Nat) (sz : Nat) {sf : Nat → Bool × Nat × Int} {x y : Nat} {tx : Nat → Int32} {tl : Nat} {k i q : Int} (hc : ci sf x y) (k_1 : -2147483648 ≤ k) (k_2 : k < 2147483648) (i_1 : -2147483648 ≤ i) (i_2 : i < 2147483648) (q_1 : -2147483648 ≤ q) (q_2 : q < 2147483648) : Met l yX2_power wsX2_power ({ frames := 5, cells := 0, slots := 0, locals := 105 }) (va_Pc [.ref (ad 0), .int (iZ (k)), .int (iZ (i)), .int (iZ (q))] (wd_B D cA tT A 31 ad sz (cg cA ad sf x y tx tl))) (va_Qi (fun (r : Int32) (u : Nat → va_E) => r = (sp_power (fun i => sf (2 + i)) k i q).1 ∧ ∃ sf1 x1 y1, ci sf1 x1 y1 ∧ (fun i => sf1 (2 + i)) = (sp_power (fun i => sf (2 + i)) k i q).2 ∧ u = cg cA ad sf1 x1 y1 tx tl) (wd_E D cA A 31 ad) A) 0 0 A := by
  refine Met.ofW (cc := cX2_power) (maxL := 6) (ret := (some .int)) (by decide) rfl ?_
  intro p e s m args below meth c s₁ B hml hv
  obtain ⟨rfl, hsz, hP, hK, hD, hT⟩ := hv
  have hx := B.exec
  have hb := B.bytes
  have hr := B.returns
  have hts := atoms_spec (ws := wsX2_power) B.pre
  have hown : s.vm.findClass RX2 = some m.cls := findClass_of_methodNamed B.named
  have hlocks := B.notSynchronized
  subst hsz
  have hS : va_S A s.heap s.heap [] := va_S.rf
  have in0 : ∀ w ∈ wsX00, w ∈ wsX2_power := by decide +kernel
  have in2 : ∀ w ∈ wsX20, w ∈ wsX2_power := by decide +kernel
  have hl := lv_entry ([.ref (ad 0), .int (iZ (k)), .int (iZ (i)), .int (iZ (q))]) (n := 6) (Nat.le_of_ble_eq_true rfl)
  rw [lg_entry_eq]
  generalize (lg_sl ([.ref (ad 0), .int (iZ (k)), .int (iZ (i)), .int (iZ (q))]) ++ List.replicate (6 - (lg_sl ([.ref (ad 0), .int (iZ (k)), .int (iZ (i)), .int (iZ (q))])).length) Slot.unset).toArray = ls at hl ⊢
  have hl : lv_has ls 6 [(0, .ref (ad 0)), (1, .int (iZ (k))), (2, .int (iZ (i))), (3, .int (iZ (q)))] := hl
  refine lv_iload_n hx hb dX2_power_0 rfl (lv_at hl 1 rfl) ?_
  refine va_calli (va_runS (As := [.int (iZ (k))]) (rest := []) ⟨hx, hb, hml, hown, hts⟩ (c_X2_isRegister l D cA tT A 31 ad _ _ (k := k) (by omega) (by omega)) (va_cwS 1 hts gX2_power_X2_isRegister rfl rfl rfl (by decide +kernel) ⟨Nat.le_of_ble_eq_true rfl, Nat.le_of_ble_eq_true rfl⟩) (wd_preS hP hK hD hT hS) rfl rfl hl.1 rfl (lv_room (Nat.le_of_ble_eq_true rfl)) dX2_power_1 ⟨Nat.zero_le _, Nat.zero_le _⟩) hS id_2 id_1 (fun r_ u t H locs ht hvm hw hB hz1 hk1 hS => ?_)
  refine c00 ?_
  obtain ⟨hP, hD⟩ := wd_back ht hB
  clear ht hvm hB hz1 hk1
  obtain ⟨hr_, hu_⟩ := hw
  subst hr_
  rw [hu_] at hP hD
  clear hu_
  refine bz_eq (tgt := 24) hx hb dX2_power_4 (by decide) it_lt (fun q_k => ?_) (fun q_k => ?_)
  · have g_k := it_eq q_k
    refine lv_iconst (v := iZ (-1)) hx hb dX2_power_24 (by decide) ?_
    exact W.iret (v := iZ (-1)) hx hb hr (fun t ht hW => ⟨⟨iZ (-1), _, rfl, ⟨by rw [sp_power, if_neg (by omega)], sf, x, y, hc, by rw [sp_power, if_neg (by omega)], rfl⟩, wd_end hP hK hD ht hW⟩, hS.F ht⟩) hS.2.2 dX2_power_25
  · have g_k := it_ne q_k
    refine lv_iload_n hx hb dX2_power_7 rfl (lv_at hl 2 rfl) ?_
    refine va_calli (va_runS (As := [.int (iZ (i))]) (rest := []) ⟨hx, hb, hml, hown, hts⟩ (c_X2_isRegister l D cA tT A 31 ad _ _ (k := i) (by omega) (by omega)) (va_cwS 1 hts gX2_power_X2_isRegister rfl rfl rfl (by decide +kernel) ⟨Nat.le_of_ble_eq_true rfl, Nat.le_of_ble_eq_true rfl⟩) (wd_preS hP hK hD hT hS) rfl rfl hl.1 rfl (lv_room (Nat.le_of_ble_eq_true rfl)) dX2_power_8 ⟨Nat.zero_le _, Nat.zero_le _⟩) hS id_2 id_1 (fun r_ u t H locs ht hvm hw hB hz1 hk1 hS => ?_)
    refine c00 ?_
    obtain ⟨hP, hD⟩ := wd_back ht hB
    clear ht hvm hB hz1 hk1
    obtain ⟨hr_, hu_⟩ := hw
    subst hr_
    rw [hu_] at hP hD
    clear hu_
    refine bz_eq (tgt := 24) hx hb dX2_power_11 (by decide) it_lt (fun q_i => ?_) (fun q_i => ?_)
    · have g_i := it_eq q_i
      refine lv_iconst (v := iZ (-1)) hx hb dX2_power_24 (by decide) ?_
      exact W.iret (v := iZ (-1)) hx hb hr (fun t ht hW => ⟨⟨iZ (-1), _, rfl, ⟨by rw [sp_power, if_neg (by omega)], sf, x, y, hc, by rw [sp_power, if_neg (by omega)], rfl⟩, wd_end hP hK hD ht hW⟩, hS.F ht⟩) hS.2.2 dX2_power_25
    · have g_i := it_ne q_i
      refine lv_iload_n hx hb dX2_power_14 rfl (lv_at hl 3 rfl) ?_
      refine by_lt (tgt := 24) hx hb dX2_power_15 (by decide) (by omega) (by omega) (fun p1 => ?_) (fun p1 => ?_)
      · refine lv_iconst (v := iZ (-1)) hx hb dX2_power_24 (by decide) ?_
        exact W.iret (v := iZ (-1)) hx hb hr (fun t ht hW => ⟨⟨iZ (-1), _, rfl, ⟨by rw [sp_power, if_neg (by omega)], sf, x, y, hc, by rw [sp_power, if_neg (by omega)], rfl⟩, wd_end hP hK hD ht hW⟩, hS.F ht⟩) hS.2.2 dX2_power_25
      · refine lv_iload_n hx hb dX2_power_18 rfl (lv_at hl 3 rfl) ?_
        refine lv_bipush (v := nI (40)) hx hb dX2_power_19 (by decide) ?_
        refine tp_i (y := iZ ((40 : Nat) : Int)) (iZ_nat _) ?_
        refine bs_le (tgt := 26) hx hb dX2_power_21 (by decide) (by omega) (by omega) (by omega) (by omega) (fun p2 => ?_) (fun p2 => ?_)
        · obtain ⟨k_n, h_k, rfl⟩ : ∃ n : Nat, n < 6 ∧ k = (n : Int) := ⟨k.toNat, by omega, by omega⟩
          rw [← iZ_nat k_n] at hl
          have e_k : ((k_n : Nat) : Int).toNat = k_n := Int.toNat_natCast k_n
          have r_k := hc.2.2.2.2 k_n h_k
          have c_k := c64 r_k.1
          simp only [rk] at r_k
          obtain ⟨i_n, h_i, rfl⟩ : ∃ n : Nat, n < 6 ∧ i = (n : Int) := ⟨i.toNat, by omega, by omega⟩
          rw [← iZ_nat i_n] at hl
          have e_i : ((i_n : Nat) : Int).toNat = i_n := Int.toNat_natCast i_n
          have r_i := hc.2.2.2.2 i_n h_i
          have c_i := c64 r_i.1
          simp only [rk] at r_i
          obtain ⟨q_n, rfl⟩ : ∃ n : Nat, q = (n : Int) := ⟨q.toNat, by omega⟩
          rw [← iZ_nat q_n] at hl
          have e_q : ((q_n : Nat) : Int).toNat = q_n := Int.toNat_natCast q_n
          have hp9 := p190 r_i.1
          have hmb : q_n * nd_p (sf (2 + i_n)).2.1 ≤ 40 * 190 := Nat.mul_le_mul (by omega) hp9
          refine lv_aload_n hx hb dX2_power_26 rfl (lv_at hl 0 rfl) ?_
          refine rg_2_registers hx hb hts in2 hown hK hP 0 (by decide) cg_0 (hts _ (by decide +kernel)) dX2_power_27 ?_
          refine lv_iload_n hx hb dX2_power_30 rfl (lv_at hl 2 rfl) ?_
          refine rn_q1 hx hb hK hP 1 (by decide) cg_1 (by omega) (by decide) dX2_power_31 ?_
          refine tp_v (y := .ref (ad (7 + 3 * (2 + i_n)))) rfl ?_
          refine lv_astore (lv' := [(4, .ref (ad (7 + 3 * (2 + i_n)))), (0, .ref (ad 0)), (1, .int (nI (k_n))), (2, .int (nI (i_n))), (3, .int (nI (q_n)))]) hx hb dX2_power_32 hl (by decide) rfl (fun ls hl => ?_)
          refine lv_iload_n hx hb dX2_power_34 rfl (lv_at hl 4 rfl) ?_
          refine lv_aload hx hb dX2_power_35 (lv_at hl 0 rfl) ?_
          refine rg_0_digits hx hb hts in0 hown hK hP (7 + 3 * (2 + i_n)) (by omega) (cg_d (2 + i_n)) (hts _ (by decide +kernel)) dX2_power_37 ?_
          refine va_calli (va_runV (As := []) (rest := [.int (nI (q_n))]) ⟨hx, hb, hml, hown, hts⟩ (c_X1_precision l D cA tT A 31 ad _ _ (a := 7 + 3 * (2 + i_n) + 1) (x := (sf (2 + i_n)).2.1) (by omega) (cg_n _) c_i) (cwV 0 hts gX2_power_X1_precision rfl rfl rfl (by decide +kernel) ⟨Nat.le_of_ble_eq_true rfl, Nat.le_of_ble_eq_true rfl⟩) (wd_preV (k := 7 + 3 * (2 + i_n) + 1) hP hK hD hT hS (by omega) (cg_n _).1 rfl) rfl rfl hl.1 rfl (lv_room (Nat.le_of_ble_eq_true rfl)) dX2_power_40 ⟨Nat.zero_le _, Nat.zero_le _⟩) hS id_2 id_1 (fun r_ u t H locs ht hvm hw hB hz1 hk1 hS => ?_)
          refine c00 ?_
          obtain ⟨hP, hD⟩ := wd_back ht hB
          clear ht hvm hB hz1 hk1
          obtain ⟨hr_, hu_⟩ := hw
          subst hr_
          rw [hu_] at hP hD
          clear hu_
          refine lv_imul hx hb dX2_power_43 ?_
          refine tp_i (y := nI (q_n * (nd_p (sf (2 + i_n)).2.1))) (pk_mul _ _) ?_
          refine lv_sipush (v := nI (190)) hx hb dX2_power_44 (by decide) ?_
          refine bi_le (tgt := 53) hx hb dX2_power_47 (by decide) (by omega) (by omega) (fun p3 => ?_) (fun p3 => ?_)
          · refine lv_aload_n hx hb dX2_power_53 rfl (lv_at hl 1 rfl) ?_
            refine rg_2_result hx hb hts in2 hown hK hP 0 (by decide) cg_0 (hts _ (by decide +kernel)) dX2_power_54 ?_
            refine lv_aload_n hx hb dX2_power_57 rfl (lv_at hl 1 rfl) ?_
            refine rg_2_one hx hb hts in2 hown hK hP 0 (by decide) cg_0 (hts _ (by decide +kernel)) dX2_power_58 ?_
            refine va_callv (va_runV (As := [.ref (ad (7 + 3 * 1))]) (rest := []) ⟨hx, hb, hml, hown, hts⟩ (c_X0_become l D cA tT A 31 ad _ _ (k := 7 + 3 * 0) (k2 := 7 + 3 * 1) (d := sf 0) (d2 := sf 1) (by decide) (by decide) (cg_D 0) (cg_D 1) (by decide) hc.2.2.1 (by rw [hc.2.2.2.1]; decide)) (cwV 1 hts gX2_power_X0_become rfl rfl rfl (by decide +kernel) ⟨Nat.le_of_ble_eq_true rfl, Nat.le_of_ble_eq_true rfl⟩) (wd_preV (k := 7 + 3 * 0) hP hK hD hT hS (by decide) (cg_d 0) rfl) rfl rfl hl.1 rfl (lv_room (Nat.le_of_ble_eq_true rfl)) dX2_power_61 ⟨Nat.zero_le _, Nat.zero_le _⟩) hS id_2 id_1 (fun u t H locs ht hvm hw hB hz1 hk1 hS => ?_)
            refine c00 ?_
            obtain ⟨hP, hD⟩ := wd_back ht hB
            clear ht hvm hB hz1 hk1
            rw [hw] at hP hD
            clear hw
            rw [cg_upD 0, hc.2.2.2.1] at hP hD
            have hP : va_P D vwCl (wm_W 31 ad (cg cA ad (va_up sf 0 (pw (sf (2 + i_n)) 0)) x y tx tl)) H := hP
            have hD : va_D A (wm_W 31 ad (cg cA ad (va_up sf 0 (pw (sf (2 + i_n)) 0)) x y tx tl)) := hD
            refine lv_iconst (v := nI (0)) hx hb dX2_power_64 (by decide) ?_
            refine lv_istore (lv' := [(5, .int (nI (0))), (4, .ref (ad (7 + 3 * (2 + i_n)))), (0, .ref (ad 0)), (1, .int (nI (k_n))), (2, .int (nI (i_n))), (3, .int (nI (q_n)))]) hx hb dX2_power_65 hl (by decide) rfl (fun ls hl => ?_)
            refine lp_X2_power (k_n := k_n) (q_n := q_n) (i_n := i_n) ⟨hx, hb, hml, hown, hts⟩ hK hT (Nat.le_of_ble_eq_true rfl) (Nat.le_of_ble_eq_true rfl) h_i hc (by omega) (by omega) (fun x1 H locs ls hx1 hP hD hS hl => ?_) q_n 0 x _ _ ls (by omega) hc.1 hP hD hS (lv_sub hl [0, 2, 3, 5, 1] rfl)
            have hps := pw_s (d := sf (2 + i_n)) (t := q_n) (by omega)
            have hpz := pw_z (d := sf (2 + i_n)) r_i.2.1 r_i.2.2.1 q_n
            have hci := ci_up0 (x1 := x1) (y1 := y) (d := (pw (sf (2 + i_n)) q_n)) hc hx1 hc.2.1 hps.2
            refine lv_aload_n hx hb dX2_power_89 rfl (lv_at hl 0 rfl) ?_
            refine lv_iload_n hx hb dX2_power_90 rfl (lv_at hl 1 rfl) ?_
            refine va_calli (va_runV (As := [.int (nI (k_n))]) (rest := []) ⟨hx, hb, hml, hown, hts⟩ (c_X2_keep l D cA tT A ad _ (sf := va_up sf 0 (pw (sf (2 + i_n)) q_n)) (x := x1) (y := y) (tx := tx) (tl := tl) (k := k_n) h_k hci.2.2.1 (by rw [va_up_ne _ _ (by omega)]; exact c_k) (by rw [va_up_self]; omega) (by rw [va_up_self]; omega)) (cwV 1 hts gX2_power_X2_keep rfl rfl rfl (by decide +kernel) ⟨Nat.le_of_ble_eq_true rfl, Nat.le_of_ble_eq_true rfl⟩) (wd_preV (k := 0) hP hK hD hT hS (by decide) cg_0 rfl) rfl rfl hl.1 rfl (lv_room (Nat.le_of_ble_eq_true rfl)) dX2_power_91 ⟨Nat.zero_le _, Nat.zero_le _⟩) hS id_2 id_1 (fun r_ u t H locs ht hvm hw hB hz1 hk1 hS => ?_)
            refine c00 ?_
            obtain ⟨hP, hD⟩ := wd_back ht hB
            clear ht hvm hB hz1 hk1
            obtain ⟨hr_, hu_⟩ := hw
            subst hr_
            rw [hu_] at hP hD
            clear hu_
            have hkc := ci_kp (k := k_n) hci hci.1 hci.2.1
            obtain ⟨a1, a2, -, -⟩ := kp_kpr (va_up sf 0 (pw (sf (2 + i_n)) q_n)) k_n
            rw [va_up_self, rh_up0] at a1 a2
            have hsp : sp_power (fun i => sf (2 + i)) (k_n : Int) (i_n : Int) (q_n : Int) = kpr (fun i => sf (2 + i)) k_n (pw (sf (2 + i_n)) q_n) := by rw [sp_power, if_pos (by omega), e_q, e_i, if_neg (by omega), e_k]
            exact W.iret (v := (kp (va_up sf 0 (pw (sf (2 + i_n)) q_n)) k_n).1) hx hb hr (fun t ht hW => ⟨⟨(kp (va_up sf 0 (pw (sf (2 + i_n)) q_n)) k_n).1, _, rfl, ⟨by rw [hsp, a1], _, x1, y, hkc, by rw [hsp, a2], rfl⟩, wd_end hP hK hD ht hW⟩, hS.F ht⟩) hS.2.2 dX2_power_94
          · refine lv_bipush (v := iZ (-3)) hx hb dX2_power_50 (by decide) ?_
            exact W.iret (v := iZ (-3)) hx hb hr (fun t ht hW => ⟨⟨iZ (-3), _, rfl, ⟨by rw [sp_power, if_pos (by omega), e_q, e_i, if_pos (by omega)], sf, x, y, hc, by rw [sp_power, if_pos (by omega), e_q, e_i, if_pos (by omega)], rfl⟩, wd_end hP hK hD ht hW⟩, hS.F ht⟩) hS.2.2 dX2_power_52
        · refine lv_iconst (v := iZ (-1)) hx hb dX2_power_24 (by decide) ?_
          exact W.iret (v := iZ (-1)) hx hb hr (fun t ht hW => ⟨⟨iZ (-1), _, rfl, ⟨by rw [sp_power, if_neg (by omega)], sf, x, y, hc, by rw [sp_power, if_neg (by omega)], rfl⟩, wd_end hP hK hD ht hW⟩, hS.F ht⟩) hS.2.2 dX2_power_25
theorem rh_upk {sf : Nat → Bool × Nat × Int} {k : Nat} {d : Bool × Nat × Int} : (fun i => va_up sf (2 + k) d (2 + i)) = va_up (fun i => sf (2 + i)) k d := by
  funext i
  by_cases h : i = k
  · subst h; rw [va_up_self, va_up_self]
  · rw [va_up_ne _ _ (by omega), va_up_ne _ _ h]
theorem aX_mod {d1 d2 : Bool × Nat × Int} (h1 : d1.2.1 < 10 ^ 190) (h2 : d2.2.1 < 10 ^ 190) (h0 : d2.2.1 ≠ 0) : aX d1 d2 % aX d2 d1 < 10 ^ 190 := by
  rcases Int.lt_or_le d1.2.2 d2.2.2 with q | q
  · have e : aX d2 d1 = d2.2.1 := by rw [aX, show (d1.2.2 - d2.2.2).toNat = 0 by omega, Nat.pow_zero, Nat.mul_one]
    rw [e]
    exact Nat.lt_trans (Nat.mod_lt _ (Nat.pos_of_ne_zero h0)) h2
  · have e : aX d1 d2 = d1.2.1 := by rw [aX, show (d2.2.2 - d1.2.2).toNat = 0 by omega, Nat.pow_zero, Nat.mul_one]
    rw [e]
    exact Nat.lt_of_le_of_lt (Nat.mod_le _ _) h1
set_option maxHeartbeats 4000000 in
set_option maxRecDepth 100000 in
/-- part -/
theorem c_X2_part (l : Launch) (D : va_G) (cA : Nat → ClassId) (tT : Nat) (A : Nat → Prop) (ad : Nat → Nat) (sz : Nat) {sf : Nat → Bool × Nat × Int} {x y : Nat} {tx : Nat → Int32} {tl : Nat} {q r i j : Int} (hc : ci sf x y) (q_1 : -2147483648 ≤ q) (q_2 : q < 2147483648) (r_1 : -2147483648 ≤ r) (r_2 : r < 2147483648) (i_1 : -2147483648 ≤ i) (i_2 : i < 2147483648) (j_1 : -2147483648 ≤ j) (j_2 : j < 2147483648) : Met l yX2_part wsX2_part ({ frames := 5, cells := 0, slots := 0, locals := 105 }) (va_Pc [.ref (ad 0), .int (iZ (q)), .int (iZ (r)), .int (iZ (i)), .int (iZ (j))] (wd_B D cA tT A 31 ad sz (cg cA ad sf x y tx tl))) (va_Qi (fun (r9 : Int32) (u : Nat → va_E) => r9 = (sp_part (fun i => sf (2 + i)) q r i j).1 ∧ ∃ sf1 x1 y1, ci sf1 x1 y1 ∧ (fun i => sf1 (2 + i)) = (sp_part (fun i => sf (2 + i)) q r i j).2 ∧ u = cg cA ad sf1 x1 y1 tx tl) (wd_E D cA A 31 ad) A) 0 0 A := by
  refine Met.ofW (cc := cX2_part) (maxL := 10) (ret := (some .int)) (by decide) rfl ?_
  intro p e s m args below meth c s₁ B hml hv
  obtain ⟨rfl, hsz, hP, hK, hD, hT⟩ := hv
  have hx := B.exec
  have hb := B.bytes
  have hr := B.returns
  have hts := atoms_spec (ws := wsX2_part) B.pre
  have hown : s.vm.findClass RX2 = some m.cls := findClass_of_methodNamed B.named
  have hlocks := B.notSynchronized
  subst hsz
  have hS : va_S A s.heap s.heap [] := va_S.rf
  have in0 : ∀ w ∈ wsX00, w ∈ wsX2_part := by decide +kernel
  have in2 : ∀ w ∈ wsX20, w ∈ wsX2_part := by decide +kernel
  have hl := lv_entry ([.ref (ad 0), .int (iZ (q)), .int (iZ (r)), .int (iZ (i)), .int (iZ (j))]) (n := 10) (Nat.le_of_ble_eq_true rfl)
  rw [lg_entry_eq]
  generalize (lg_sl ([.ref (ad 0), .int (iZ (q)), .int (iZ (r)), .int (iZ (i)), .int (iZ (j))]) ++ List.replicate (10 - (lg_sl ([.ref (ad 0), .int (iZ (q)), .int (iZ (r)), .int (iZ (i)), .int (iZ (j))])).length) Slot.unset).toArray = ls at hl ⊢
  have hl : lv_has ls 10 [(0, .ref (ad 0)), (1, .int (iZ (q))), (2, .int (iZ (r))), (3, .int (iZ (i))), (4, .int (iZ (j)))] := hl
  refine lv_iload_n hx hb dX2_part_0 rfl (lv_at hl 1 rfl) ?_
  refine va_calli (va_runS (As := [.int (iZ (q))]) (rest := []) ⟨hx, hb, hml, hown, hts⟩ (c_X2_isRegister l D cA tT A 31 ad _ _ (k := q) (by omega) (by omega)) (va_cwS 1 hts gX2_part_X2_isRegister rfl rfl rfl (by decide +kernel) ⟨Nat.le_of_ble_eq_true rfl, Nat.le_of_ble_eq_true rfl⟩) (wd_preS hP hK hD hT hS) rfl rfl hl.1 rfl (lv_room (Nat.le_of_ble_eq_true rfl)) dX2_part_1 ⟨Nat.zero_le _, Nat.zero_le _⟩) hS id_2 id_1 (fun r_ u t H locs ht hvm hw hB hz1 hk1 hS => ?_)
  refine c00 ?_
  obtain ⟨hP, hD⟩ := wd_back ht hB
  clear ht hvm hB hz1 hk1
  obtain ⟨hr_, hu_⟩ := hw
  subst hr_
  rw [hu_] at hP hD
  clear hu_
  refine bz_eq (tgt := 34) hx hb dX2_part_4 (by decide) it_lt (fun q_q => ?_) (fun q_q => ?_)
  · have g_q := it_eq q_q
    refine lv_iconst (v := iZ (-1)) hx hb dX2_part_34 (by decide) ?_
    exact W.iret (v := iZ (-1)) hx hb hr (fun t ht hW => ⟨⟨iZ (-1), _, rfl, ⟨by rw [sp_part, if_neg (by omega)], sf, x, y, hc, by rw [sp_part, if_neg (by omega)], rfl⟩, wd_end hP hK hD ht hW⟩, hS.F ht⟩) hS.2.2 dX2_part_35
  · have g_q := it_ne q_q
    refine lv_iload_n hx hb dX2_part_7 rfl (lv_at hl 2 rfl) ?_
    refine va_calli (va_runS (As := [.int (iZ (r))]) (rest := []) ⟨hx, hb, hml, hown, hts⟩ (c_X2_isRegister l D cA tT A 31 ad _ _ (k := r) (by omega) (by omega)) (va_cwS 1 hts gX2_part_X2_isRegister rfl rfl rfl (by decide +kernel) ⟨Nat.le_of_ble_eq_true rfl, Nat.le_of_ble_eq_true rfl⟩) (wd_preS hP hK hD hT hS) rfl rfl hl.1 rfl (lv_room (Nat.le_of_ble_eq_true rfl)) dX2_part_8 ⟨Nat.zero_le _, Nat.zero_le _⟩) hS id_2 id_1 (fun r_ u t H locs ht hvm hw hB hz1 hk1 hS => ?_)
    refine c00 ?_
    obtain ⟨hP, hD⟩ := wd_back ht hB
    clear ht hvm hB hz1 hk1
    obtain ⟨hr_, hu_⟩ := hw
    subst hr_
    rw [hu_] at hP hD
    clear hu_
    refine bz_eq (tgt := 34) hx hb dX2_part_11 (by decide) it_lt (fun q_r => ?_) (fun q_r => ?_)
    · have g_r := it_eq q_r
      refine lv_iconst (v := iZ (-1)) hx hb dX2_part_34 (by decide) ?_
      exact W.iret (v := iZ (-1)) hx hb hr (fun t ht hW => ⟨⟨iZ (-1), _, rfl, ⟨by rw [sp_part, if_neg (by omega)], sf, x, y, hc, by rw [sp_part, if_neg (by omega)], rfl⟩, wd_end hP hK hD ht hW⟩, hS.F ht⟩) hS.2.2 dX2_part_35
    · have g_r := it_ne q_r
      refine lv_iload_n hx hb dX2_part_14 rfl (lv_at hl 3 rfl) ?_
      refine va_calli (va_runS (As := [.int (iZ (i))]) (rest := []) ⟨hx, hb, hml, hown, hts⟩ (c_X2_isRegister l D cA tT A 31 ad _ _ (k := i) (by omega) (by omega)) (va_cwS 1 hts gX2_part_X2_isRegister rfl rfl rfl (by decide +kernel) ⟨Nat.le_of_ble_eq_true rfl, Nat.le_of_ble_eq_true rfl⟩) (wd_preS hP hK hD hT hS) rfl rfl hl.1 rfl (lv_room (Nat.le_of_ble_eq_true rfl)) dX2_part_15 ⟨Nat.zero_le _, Nat.zero_le _⟩) hS id_2 id_1 (fun r_ u t H locs ht hvm hw hB hz1 hk1 hS => ?_)
      refine c00 ?_
      obtain ⟨hP, hD⟩ := wd_back ht hB
      clear ht hvm hB hz1 hk1
      obtain ⟨hr_, hu_⟩ := hw
      subst hr_
      rw [hu_] at hP hD
      clear hu_
      refine bz_eq (tgt := 34) hx hb dX2_part_18 (by decide) it_lt (fun q_i => ?_) (fun q_i => ?_)
      · have g_i := it_eq q_i
        refine lv_iconst (v := iZ (-1)) hx hb dX2_part_34 (by decide) ?_
        exact W.iret (v := iZ (-1)) hx hb hr (fun t ht hW => ⟨⟨iZ (-1), _, rfl, ⟨by rw [sp_part, if_neg (by omega)], sf, x, y, hc, by rw [sp_part, if_neg (by omega)], rfl⟩, wd_end hP hK hD ht hW⟩, hS.F ht⟩) hS.2.2 dX2_part_35
      · have g_i := it_ne q_i
        refine lv_iload hx hb dX2_part_21 (lv_at hl 4 rfl) ?_
        refine va_calli (va_runS (As := [.int (iZ (j))]) (rest := []) ⟨hx, hb, hml, hown, hts⟩ (c_X2_isRegister l D cA tT A 31 ad _ _ (k := j) (by omega) (by omega)) (va_cwS 1 hts gX2_part_X2_isRegister rfl rfl rfl (by decide +kernel) ⟨Nat.le_of_ble_eq_true rfl, Nat.le_of_ble_eq_true rfl⟩) (wd_preS hP hK hD hT hS) rfl rfl hl.1 rfl (lv_room (Nat.le_of_ble_eq_true rfl)) dX2_part_23 ⟨Nat.zero_le _, Nat.zero_le _⟩) hS id_2 id_1 (fun r_ u t H locs ht hvm hw hB hz1 hk1 hS => ?_)
        refine c00 ?_
        obtain ⟨hP, hD⟩ := wd_back ht hB
        clear ht hvm hB hz1 hk1
        obtain ⟨hr_, hu_⟩ := hw
        subst hr_
        rw [hu_] at hP hD
        clear hu_
        refine bz_eq (tgt := 34) hx hb dX2_part_26 (by decide) it_lt (fun q_j => ?_) (fun q_j => ?_)
        · have g_j := it_eq q_j
          refine lv_iconst (v := iZ (-1)) hx hb dX2_part_34 (by decide) ?_
          exact W.iret (v := iZ (-1)) hx hb hr (fun t ht hW => ⟨⟨iZ (-1), _, rfl, ⟨by rw [sp_part, if_neg (by omega)], sf, x, y, hc, by rw [sp_part, if_neg (by omega)], rfl⟩, wd_end hP hK hD ht hW⟩, hS.F ht⟩) hS.2.2 dX2_part_35
        · have g_j := it_ne q_j
          refine lv_iload_n hx hb dX2_part_29 rfl (lv_at hl 1 rfl) ?_
          refine lv_iload_n hx hb dX2_part_30 rfl (lv_at hl 2 rfl) ?_
          refine bs_ne (tgt := 36) hx hb dX2_part_31 (by decide) (by omega) (by omega) (by omega) (by omega) (fun p1 => ?_) (fun p1 => ?_)
          · obtain ⟨q_n, h_q, rfl⟩ : ∃ n : Nat, n < 6 ∧ q = (n : Int) := ⟨q.toNat, by omega, by omega⟩
            rw [← iZ_nat q_n] at hl
            have e_q : ((q_n : Nat) : Int).toNat = q_n := Int.toNat_natCast q_n
            have r_q := hc.2.2.2.2 q_n h_q
            have c_q := c64 r_q.1
            simp only [rk] at r_q
            obtain ⟨r_n, h_r, rfl⟩ : ∃ n : Nat, n < 6 ∧ r = (n : Int) := ⟨r.toNat, by omega, by omega⟩
            rw [← iZ_nat r_n] at hl
            have e_r : ((r_n : Nat) : Int).toNat = r_n := Int.toNat_natCast r_n
            have r_r := hc.2.2.2.2 r_n h_r
            have c_r := c64 r_r.1
            simp only [rk] at r_r
            obtain ⟨i_n, h_i, rfl⟩ : ∃ n : Nat, n < 6 ∧ i = (n : Int) := ⟨i.toNat, by omega, by omega⟩
            rw [← iZ_nat i_n] at hl
            have e_i : ((i_n : Nat) : Int).toNat = i_n := Int.toNat_natCast i_n
            have r_i := hc.2.2.2.2 i_n h_i
            have c_i := c64 r_i.1
            simp only [rk] at r_i
            obtain ⟨j_n, h_j, rfl⟩ : ∃ n : Nat, n < 6 ∧ j = (n : Int) := ⟨j.toNat, by omega, by omega⟩
            rw [← iZ_nat j_n] at hl
            have e_j : ((j_n : Nat) : Int).toNat = j_n := Int.toNat_natCast j_n
            have r_j := hc.2.2.2.2 j_n h_j
            have c_j := c64 r_j.1
            simp only [rk] at r_j
            have t1 := tn_le (sf (2 + i_n)).1
            refine lv_aload_n hx hb dX2_part_36 rfl (lv_at hl 0 rfl) ?_
            refine rg_2_registers hx hb hts in2 hown hK hP 0 (by decide) cg_0 (hts _ (by decide +kernel)) dX2_part_37 ?_
            refine lv_iload_n hx hb dX2_part_40 rfl (lv_at hl 3 rfl) ?_
            refine rn_q1 hx hb hK hP 1 (by decide) cg_1 (by omega) (by decide) dX2_part_41 ?_
            refine tp_v (y := .ref (ad (7 + 3 * (2 + i_n)))) rfl ?_
            refine lv_astore (lv' := [(5, .ref (ad (7 + 3 * (2 + i_n)))), (0, .ref (ad 0)), (1, .int (nI (q_n))), (2, .int (nI (r_n))), (3, .int (nI (i_n))), (4, .int (nI (j_n)))]) hx hb dX2_part_42 hl (by decide) rfl (fun ls hl => ?_)
            refine lv_aload_n hx hb dX2_part_44 rfl (lv_at hl 1 rfl) ?_
            refine rg_2_registers hx hb hts in2 hown hK hP 0 (by decide) cg_0 (hts _ (by decide +kernel)) dX2_part_45 ?_
            refine lv_iload hx hb dX2_part_48 (lv_at hl 5 rfl) ?_
            refine rn_q1 hx hb hK hP 1 (by decide) cg_1 (by omega) (by decide) dX2_part_50 ?_
            refine tp_v (y := .ref (ad (7 + 3 * (2 + j_n)))) rfl ?_
            refine lv_astore (lv' := [(6, .ref (ad (7 + 3 * (2 + j_n)))), (5, .ref (ad (7 + 3 * (2 + i_n)))), (0, .ref (ad 0)), (1, .int (nI (q_n))), (2, .int (nI (r_n))), (3, .int (nI (i_n))), (4, .int (nI (j_n)))]) hx hb dX2_part_51 hl (by decide) rfl (fun ls hl => ?_)
            refine lv_aload hx hb dX2_part_53 (lv_at hl 0 rfl) ?_
            refine rg_0_digits hx hb hts in0 hown hK hP (7 + 3 * (2 + j_n)) (by omega) (cg_d (2 + j_n)) (hts _ (by decide +kernel)) dX2_part_55 ?_
            refine va_calli (va_runV (As := []) (rest := []) ⟨hx, hb, hml, hown, hts⟩ (c_X1_isZero l D cA tT A 31 ad _ _ (a := 7 + 3 * (2 + j_n) + 1) (x := (sf (2 + j_n)).2.1) (by omega) (cg_n _) c_j) (cwV 0 hts gX2_part_X1_isZero rfl rfl rfl (by decide +kernel) ⟨Nat.le_of_ble_eq_true rfl, Nat.le_of_ble_eq_true rfl⟩) (wd_preV (k := 7 + 3 * (2 + j_n) + 1) hP hK hD hT hS (by omega) (cg_n _).1 rfl) rfl rfl hl.1 rfl (lv_room (Nat.le_of_ble_eq_true rfl)) dX2_part_58 ⟨Nat.zero_le _, Nat.zero_le _⟩) hS id_2 id_1 (fun r_ u t H locs ht hvm hw hB hz1 hk1 hS => ?_)
            refine c00 ?_
            obtain ⟨hP, hD⟩ := wd_back ht hB
            clear ht hvm hB hz1 hk1
            obtain ⟨hr_, hu_⟩ := hw
            subst hr_
            rw [hu_] at hP hD
            clear hu_
            refine bz_eq (tgt := 67) hx hb dX2_part_61 (by decide) it_lt (fun q1 => ?_) (fun q1 => ?_)
            · have q2 := it_eq q1
              have f1 := s190 r_i.1
              have f2 := s190 r_j.1
              refine lv_aload hx hb dX2_part_67 (lv_at hl 1 rfl) ?_
              refine rg_0_minus hx hb hts in0 hown hK hP (7 + 3 * (2 + i_n)) (by omega) (cg_d (2 + i_n)) (hts _ (by decide +kernel)) dX2_part_69 ?_
              refine lv_istore (lv' := [(7, .int (nI ((sf (2 + i_n)).1.toNat))), (6, .ref (ad (7 + 3 * (2 + j_n)))), (5, .ref (ad (7 + 3 * (2 + i_n)))), (0, .ref (ad 0)), (1, .int (nI (q_n))), (2, .int (nI (r_n))), (3, .int (nI (i_n))), (4, .int (nI (j_n)))]) hx hb dX2_part_72 hl (by decide) rfl (fun ls hl => ?_)
              refine lv_aload hx hb dX2_part_74 (lv_at hl 2 rfl) ?_
              refine rg_0_scale hx hb hts in0 hown hK hP (7 + 3 * (2 + i_n)) (by omega) (cg_d (2 + i_n)) (hts _ (by decide +kernel)) dX2_part_76 ?_
              refine lv_aload hx hb dX2_part_79 (lv_at hl 1 rfl) ?_
              refine rg_0_scale hx hb hts in0 hown hK hP (7 + 3 * (2 + j_n)) (by omega) (cg_d (2 + j_n)) (hts _ (by decide +kernel)) dX2_part_81 ?_
              refine va_mmax hx hb (by rw [hml]; exact hl.1.symm) hown (hts _ (by decide +kernel)) (hts _ (by decide +kernel)) (hts _ (by decide +kernel)) (hts _ (by decide +kernel)) (Nat.le_of_ble_eq_true rfl) (Nat.le_of_ble_eq_true rfl) (Nat.zero_le _) (Nat.zero_le _) dX2_part_84 ?_
              refine tp_i (y := iZ (max (sf (2 + i_n)).2.2 (sf (2 + j_n)).2.2)) (mx_z (by omega) (by omega) (by omega) (by omega)) ?_
              refine lv_istore (lv' := [(8, .int (iZ (max (sf (2 + i_n)).2.2 (sf (2 + j_n)).2.2))), (7, .int (nI ((sf (2 + i_n)).1.toNat))), (6, .ref (ad (7 + 3 * (2 + j_n)))), (5, .ref (ad (7 + 3 * (2 + i_n)))), (0, .ref (ad 0)), (1, .int (nI (q_n))), (2, .int (nI (r_n))), (3, .int (nI (i_n))), (4, .int (nI (j_n)))]) hx hb dX2_part_87 hl (by decide) rfl (fun ls hl => ?_)
              refine lv_aload_n hx hb dX2_part_89 rfl (lv_at hl 4 rfl) ?_
              refine lv_aload hx hb dX2_part_90 (lv_at hl 3 rfl) ?_
              refine lv_aload hx hb dX2_part_92 (lv_at hl 2 rfl) ?_
              refine lv_iconst (v := nI (0)) hx hb dX2_part_94 (by decide) ?_
              refine tp_i (y := iZ ((0 : Nat) : Int)) rfl ?_
              refine va_callv (va_runV (As := [.ref (ad (7 + 3 * (2 + i_n))), .ref (ad (7 + 3 * (2 + j_n))), .int (iZ (((0 : Nat) : Int)))]) (rest := []) ⟨hx, hb, hml, hown, hts⟩ (c_X2_split l D cA tT A ad _ (sf := sf) (x := x) (y := y) (tx := tx) (tl := tl) (e1 := 2 + i_n) (e2 := 2 + j_n) (sc := ((0 : Nat) : Int)) (by omega) (by omega) hc.1 hc.2.1 c_i c_j (by decide) (by decide) (by omega) (by omega) (by omega) (by omega) (by omega) (by omega) (by omega) (by omega) hc.2.2.1 q2 (by omega)) (cwV 3 hts gX2_part_X2_split rfl rfl rfl (by decide +kernel) ⟨Nat.le_of_ble_eq_true rfl, Nat.le_of_ble_eq_true rfl⟩) (wd_preV (k := 0) hP hK hD hT hS (by decide) cg_0 rfl) rfl rfl hl.1 rfl (lv_room (Nat.le_of_ble_eq_true rfl)) dX2_part_95 ⟨Nat.zero_le _, Nat.zero_le _⟩) hS id_2 id_1 (fun u t H locs ht hvm hw hB hz1 hk1 hS => ?_)
              refine c00 ?_
              obtain ⟨hP, hD⟩ := wd_back ht hB
              clear ht hvm hB hz1 hk1
              rw [hw] at hP hD
              clear hw
              have eX : (sf (2 + i_n)).2.1 * 10 ^ (((0 : Nat) : Int) + (sf (2 + j_n)).2.2 - (sf (2 + i_n)).2.2).toNat = aX (sf (2 + i_n)) (sf (2 + j_n)) := by rw [aX, show (((0 : Nat) : Int) + (sf (2 + j_n)).2.2 - (sf (2 + i_n)).2.2) = (sf (2 + j_n)).2.2 - (sf (2 + i_n)).2.2 by omega]
              have eY : (sf (2 + j_n)).2.1 * 10 ^ (-(((0 : Nat) : Int) + (sf (2 + j_n)).2.2 - (sf (2 + i_n)).2.2)).toNat = aX (sf (2 + j_n)) (sf (2 + i_n)) := by rw [aX, show -(((0 : Nat) : Int) + (sf (2 + j_n)).2.2 - (sf (2 + i_n)).2.2) = (sf (2 + i_n)).2.2 - (sf (2 + j_n)).2.2 by omega]
              rw [eX, eY] at hP hD
              have lX := aX_lt (d1 := sf (2 + i_n)) (d2 := sf (2 + j_n)) r_i.1 (by omega)
              have lY := aX_lt (d1 := sf (2 + j_n)) (d2 := sf (2 + i_n)) r_j.1 (by omega)
              have l36 : 2 * 1000000 ^ 36 < 1000000 ^ 64 := by decide +kernel
              have hR9 := aX_mod r_i.1 r_j.1 q2
              have hsp : sp_part (fun i => sf (2 + i)) (q_n : Int) (r_n : Int) (i_n : Int) (j_n : Int) = (if 190 < nd_p (aX (sf (2 + i_n)) (sf (2 + j_n)) / aX (sf (2 + j_n)) (sf (2 + i_n))) then (iZ (-3), (fun i => sf (2 + i))) else (nI (nd_p (aX (sf (2 + i_n)) (sf (2 + j_n)) / aX (sf (2 + j_n)) (sf (2 + i_n)))), va_up (va_up (fun i => sf (2 + i)) q_n (sn ((sf (2 + i_n)).1 != (sf (2 + j_n)).1) (aX (sf (2 + i_n)) (sf (2 + j_n)) / aX (sf (2 + j_n)) (sf (2 + i_n))), aX (sf (2 + i_n)) (sf (2 + j_n)) / aX (sf (2 + j_n)) (sf (2 + i_n)), 0)) r_n (sn (sf (2 + i_n)).1 (aX (sf (2 + i_n)) (sf (2 + j_n)) % aX (sf (2 + j_n)) (sf (2 + i_n))), aX (sf (2 + i_n)) (sf (2 + j_n)) % aX (sf (2 + j_n)) (sf (2 + i_n)), max (sf (2 + i_n)).2.2 (sf (2 + j_n)).2.2))) := by rw [sp_part, if_pos (by omega), e_j, if_neg q2, e_i, e_q, e_r]
              have hQ9 : aX (sf (2 + i_n)) (sf (2 + j_n)) / aX (sf (2 + j_n)) (sf (2 + i_n)) ≤ aX (sf (2 + i_n)) (sf (2 + j_n)) := Nat.div_le_self _ _
              generalize aX (sf (2 + i_n)) (sf (2 + j_n)) / aX (sf (2 + j_n)) (sf (2 + i_n)) = Qv at hsp hQ9 hP hD
              generalize aX (sf (2 + i_n)) (sf (2 + j_n)) % aX (sf (2 + j_n)) (sf (2 + i_n)) = Rv at hsp hR9 hP hD
              generalize aX (sf (2 + j_n)) (sf (2 + i_n)) = Yv at lY hP hD
              have hQ8 : Qv < 1000000 ^ 64 := by omega
              have hR8 := c64 hR9
              have hci := ci_up0 (x1 := Rv) (y1 := Yv) (d := ((sf (2 + i_n)).1 != (sf (2 + j_n)).1, Qv, ((0 : Nat) : Int))) hc hR8 (by omega) hQ8
              refine lv_aload_n hx hb dX2_part_98 rfl (lv_at hl 4 rfl) ?_
              refine lv_iload_n hx hb dX2_part_99 rfl (lv_at hl 5 rfl) ?_
              refine va_calli (va_runV (As := [.int (nI (q_n))]) (rest := []) ⟨hx, hb, hml, hown, hts⟩ (c_X2_keep l D cA tT A ad _ (sf := va_up sf 0 ((sf (2 + i_n)).1 != (sf (2 + j_n)).1, Qv, ((0 : Nat) : Int))) (x := Rv) (y := Yv) (tx := tx) (tl := tl) (k := q_n) h_q hci.2.2.1 (by rw [va_up_ne _ _ (by omega)]; exact c_q) (by rw [va_up_self]; show (-2147483648 : Int) ≤ ((0 : Nat) : Int); decide) (by rw [va_up_self]; show ((0 : Nat) : Int) < 2147483648; decide)) (cwV 1 hts gX2_part_X2_keep rfl rfl rfl (by decide +kernel) ⟨Nat.le_of_ble_eq_true rfl, Nat.le_of_ble_eq_true rfl⟩) (wd_preV (k := 0) hP hK hD hT hS (by decide) cg_0 rfl) rfl rfl hl.1 rfl (lv_room (Nat.le_of_ble_eq_true rfl)) dX2_part_100 ⟨Nat.zero_le _, Nat.zero_le _⟩) hS id_2 id_1 (fun r_ u t H locs ht hvm hw hB hz1 hk1 hS => ?_)
              refine c00 ?_
              obtain ⟨hP, hD⟩ := wd_back ht hB
              clear ht hvm hB hz1 hk1
              obtain ⟨hr_, hu_⟩ := hw
              subst hr_
              rw [hu_] at hP hD
              clear hu_
              have hkc := ci_kp (k := q_n) hci hci.1 hci.2.1
              by_cases hQp : 190 < nd_p Qv
              · rw [if_pos hQp] at hsp
                have hkp : kp (va_up sf 0 ((sf (2 + i_n)).1 != (sf (2 + j_n)).1, Qv, ((0 : Nat) : Int))) q_n = (iZ (-3), va_up sf 0 ((sf (2 + i_n)).1 != (sf (2 + j_n)).1, Qv, ((0 : Nat) : Int))) := by rw [kp, va_up_self, if_pos (Or.inl hQp)]
                rw [hkp] at hP hD hkc ⊢
                dsimp only at hP hD hkc ⊢
                refine lv_istore (lv' := [(9, .int (iZ (-3))), (8, .int (iZ (max (sf (2 + i_n)).2.2 (sf (2 + j_n)).2.2))), (7, .int (nI ((sf (2 + i_n)).1.toNat))), (6, .ref (ad (7 + 3 * (2 + j_n)))), (5, .ref (ad (7 + 3 * (2 + i_n)))), (0, .ref (ad 0)), (1, .int (nI (q_n))), (2, .int (nI (r_n))), (3, .int (nI (i_n))), (4, .int (nI (j_n)))]) hx hb dX2_part_103 hl (by decide) rfl (fun ls hl => ?_)
                refine lv_iload hx hb dX2_part_105 (lv_at hl 0 rfl) ?_
                refine lv_bipush (v := iZ (-3)) hx hb dX2_part_107 (by decide) ?_
                refine lv_icmp_eq (tgt := 129) hx hb dX2_part_109 (by decide) (fun p5 => ?_) (fun p5 => ?_)
                · refine lv_iload hx hb dX2_part_129 (lv_at hl 0 rfl) ?_
                  exact W.iret (v := iZ (-3)) hx hb hr (fun t ht hW => ⟨⟨iZ (-3), _, rfl, ⟨by rw [hsp], _, Rv, Yv, hkc, by rw [hsp, rh_up0], rfl⟩, wd_end hP hK hD ht hW⟩, hS.F ht⟩) hS.2.2 dX2_part_131
                · exact absurd rfl p5
              · rw [if_neg hQp] at hsp
                have hkp : kp (va_up sf 0 ((sf (2 + i_n)).1 != (sf (2 + j_n)).1, Qv, ((0 : Nat) : Int))) q_n = (nI (nd_p Qv), va_up (va_up sf 0 ((sf (2 + i_n)).1 != (sf (2 + j_n)).1, Qv, ((0 : Nat) : Int))) (2 + q_n) (sn ((sf (2 + i_n)).1 != (sf (2 + j_n)).1) Qv, Qv, ((0 : Nat) : Int))) := by rw [kp, va_up_self, if_neg (fun h => h.elim hQp (fun h => h ⟨show (-6 : Int) ≤ ((0 : Nat) : Int) by decide, show ((0 : Nat) : Int) ≤ 6 by decide⟩))]
                rw [hkp] at hP hD hkc ⊢
                dsimp only at hP hD hkc ⊢
                refine lv_istore (lv' := [(9, .int (nI (nd_p Qv))), (8, .int (iZ (max (sf (2 + i_n)).2.2 (sf (2 + j_n)).2.2))), (7, .int (nI ((sf (2 + i_n)).1.toNat))), (6, .ref (ad (7 + 3 * (2 + j_n)))), (5, .ref (ad (7 + 3 * (2 + i_n)))), (0, .ref (ad 0)), (1, .int (nI (q_n))), (2, .int (nI (r_n))), (3, .int (nI (i_n))), (4, .int (nI (j_n)))]) hx hb dX2_part_103 hl (by decide) rfl (fun ls hl => ?_)
                refine lv_iload hx hb dX2_part_105 (lv_at hl 0 rfl) ?_
                refine lv_bipush (v := iZ (-3)) hx hb dX2_part_107 (by decide) ?_
                refine lv_icmp_eq (tgt := 129) hx hb dX2_part_109 (by decide) (fun p5 => ?_) (fun p5 => ?_)
                · exact absurd p5 (nI_m3 (by omega))
                · have hr2 : (va_up (va_up sf 0 ((sf (2 + i_n)).1 != (sf (2 + j_n)).1, Qv, ((0 : Nat) : Int))) (2 + q_n) (sn ((sf (2 + i_n)).1 != (sf (2 + j_n)).1) Qv, Qv, ((0 : Nat) : Int))) (2 + r_n) = sf (2 + r_n) := by rw [va_up_ne _ _ (by omega), va_up_ne _ _ (by omega)]
                  refine lv_aload_n hx hb dX2_part_112 rfl (lv_at hl 5 rfl) ?_
                  refine rg_2_registers hx hb hts in2 hown hK hP 0 (by decide) cg_0 (hts _ (by decide +kernel)) dX2_part_113 ?_
                  refine lv_iload_n hx hb dX2_part_116 rfl (lv_at hl 7 rfl) ?_
                  refine rn_q1 hx hb hK hP 1 (by decide) cg_1 (by omega) (by decide) dX2_part_117 ?_
                  refine tp_v (y := .ref (ad (7 + 3 * (2 + r_n)))) rfl ?_
                  refine lv_aload_n hx hb dX2_part_118 rfl (lv_at hl 5 rfl) ?_
                  refine rg_2_top hx hb hts in2 hown hK hP 0 (by decide) cg_0 (hts _ (by decide +kernel)) dX2_part_119 ?_
                  refine lv_iload hx hb dX2_part_122 (lv_at hl 2 rfl) ?_
                  refine lv_iload hx hb dX2_part_124 (lv_at hl 1 rfl) ?_
                  refine va_callv (va_runV (As := [.ref (ad 3), .int (nI ((sf (2 + i_n)).1.toNat)), .int (iZ (max (sf (2 + i_n)).2.2 (sf (2 + j_n)).2.2))]) (rest := []) ⟨hx, hb, hml, hown, hts⟩ (c_X0_take l D cA tT A 31 ad _ _ (k := 7 + 3 * (2 + r_n)) (q := 3) (n := Rv) (d := (va_up (va_up sf 0 ((sf (2 + i_n)).1 != (sf (2 + j_n)).1, Qv, ((0 : Nat) : Int))) (2 + q_n) (sn ((sf (2 + i_n)).1 != (sf (2 + j_n)).1) Qv, Qv, ((0 : Nat) : Int))) (2 + r_n)) (b := (sf (2 + i_n)).1) (z := max (sf (2 + i_n)).2.2 (sf (2 + j_n)).2.2) (by omega) (by decide) (cg_D _) cg_T (by omega) (by omega) (by omega) (by omega) (by omega) (by rw [hr2]; exact c_r) hR8) (cwV 3 hts gX2_part_X0_take rfl rfl rfl (by decide +kernel) ⟨Nat.le_of_ble_eq_true rfl, Nat.le_of_ble_eq_true rfl⟩) (wd_preV (k := 7 + 3 * (2 + r_n)) hP hK hD hT hS (by omega) (cg_d _) rfl) rfl rfl hl.1 rfl (lv_room (Nat.le_of_ble_eq_true rfl)) dX2_part_126 ⟨Nat.zero_le _, Nat.zero_le _⟩) hS id_2 id_1 (fun u t H locs ht hvm hw hB hz1 hk1 hS => ?_)
                  refine c00 ?_
                  obtain ⟨hP, hD⟩ := wd_back ht hB
                  clear ht hvm hB hz1 hk1
                  rw [hw] at hP hD
                  clear hw
                  rw [cg_upD] at hP hD
                  have hfin : ci (va_up (va_up (va_up sf 0 ((sf (2 + i_n)).1 != (sf (2 + j_n)).1, Qv, ((0 : Nat) : Int))) (2 + q_n) (sn ((sf (2 + i_n)).1 != (sf (2 + j_n)).1) Qv, Qv, ((0 : Nat) : Int))) (2 + r_n) (sn (sf (2 + i_n)).1 Rv, Rv, max (sf (2 + i_n)).2.2 (sf (2 + j_n)).2.2)) Rv Yv := by
                    refine ⟨hkc.1, hkc.2.1, by rw [va_up_ne _ _ (by omega)]; exact hkc.2.2.1, by rw [va_up_ne _ _ (by omega)]; exact hkc.2.2.2.1, ?_⟩
                    rw [rh_upk]
                    intro i9 hi9
                    by_cases h9 : i9 = r_n
                    · subst h9; rw [va_up_self]; exact ⟨hR9, by show -6 ≤ max (sf (2 + i_n)).2.2 (sf (2 + j_n)).2.2; omega, by show max (sf (2 + i_n)).2.2 (sf (2 + j_n)).2.2 ≤ 6; omega, fun h => sn_ok h⟩
                    · rw [va_up_ne _ _ h9]; exact hkc.2.2.2.2 i9 hi9
                  refine lv_iload hx hb dX2_part_129 (lv_at hl 0 rfl) ?_
                  exact W.iret (v := nI (nd_p Qv)) hx hb hr (fun t ht hW => ⟨⟨nI (nd_p Qv), _, rfl, ⟨by rw [hsp], _, Rv, Yv, hfin, by rw [hsp, rh_upk, rh_upk, rh_up0]; rfl, rfl⟩, wd_end hP hK hD ht hW⟩, hS.F ht⟩) hS.2.2 dX2_part_131
            · have q2 := it_ne q1
              refine lv_bipush (v := iZ (-2)) hx hb dX2_part_64 (by decide) ?_
              exact W.iret (v := iZ (-2)) hx hb hr (fun t ht hW => ⟨⟨iZ (-2), _, rfl, ⟨by rw [sp_part, if_pos (by omega), e_j, if_pos q2], sf, x, y, hc, by rw [sp_part, if_pos (by omega), e_j, if_pos q2], rfl⟩, wd_end hP hK hD ht hW⟩, hS.F ht⟩) hS.2.2 dX2_part_66
          · refine lv_iconst (v := iZ (-1)) hx hb dX2_part_34 (by decide) ?_
            exact W.iret (v := iZ (-1)) hx hb hr (fun t ht hW => ⟨⟨iZ (-1), _, rfl, ⟨by rw [sp_part, if_neg (by omega)], sf, x, y, hc, by rw [sp_part, if_neg (by omega)], rfl⟩, wd_end hP hK hD ht hW⟩, hS.F ht⟩) hS.2.2 dX2_part_35
theorem rd_b {b : Bool} {X Y : Nat} {way : Int} : (rdn b X Y way).2 ≤ X / Y + 1 ∧ (rdn b X Y way).1 < 2 := by
  rw [rdn]
  split
  · exact ⟨Nat.le_succ _, show (1 : Nat) < 2 by decide⟩
  · split
    · exact ⟨Nat.le_succ _, show (0 : Nat) < 2 by decide⟩
    · dsimp only
      split
      · exact ⟨Nat.le_refl _, by decide⟩
      · exact ⟨Nat.le_succ _, by decide⟩
theorem rd_10 {n O : Nat} (h : n < 10 ^ 190) (hO : 1 ≤ O) : n / 10 ^ O + 1 < 10 ^ 190 := by
  have h1 : n / 10 ^ O ≤ n / 10 ^ 1 := Nat.div_le_div_left (Nat.pow_le_pow_right (by decide) hO) (by decide)
  rw [Nat.pow_one] at h1
  have h2 : (10 : Nat) ^ 190 = 10 * 10 ^ 189 := by decide +kernel
  have h3 : (2 : Nat) ≤ 10 ^ 189 := by decide +kernel
  omega
set_option maxHeartbeats 4000000 in
set_option maxRecDepth 100000 in
/-- round -/
theorem c_X2_round (l : Launch) (D : va_G) (cA : Nat → ClassId) (tT : Nat) (A : Nat → Prop) (ad : Nat → Nat) (sz : Nat) {sf : Nat → Bool × Nat × Int} {x y : Nat} {tx : Nat → Int32} {tl : Nat} {k i q way : Int} (hc : ci sf x y) (k_1 : -2147483648 ≤ k) (k_2 : k < 2147483648) (i_1 : -2147483648 ≤ i) (i_2 : i < 2147483648) (q_1 : -2147483648 ≤ q) (q_2 : q < 2147483648) (way_1 : -2147483648 ≤ way) (way_2 : way < 2147483648) : Met l yX2_round wsX2_round ({ frames := 5, cells := 0, slots := 0, locals := 124 }) (va_Pc [.ref (ad 0), .int (iZ (k)), .int (iZ (i)), .int (iZ (q)), .int (iZ (way))] (wd_B D cA tT A 31 ad sz (cg cA ad sf x y tx tl))) (va_Qi (fun (r : Int32) (u : Nat → va_E) => r = (sp_round (fun i => sf (2 + i)) k i q way).1 ∧ ∃ sf1 x1 y1, ci sf1 x1 y1 ∧ (fun i => sf1 (2 + i)) = (sp_round (fun i => sf (2 + i)) k i q way).2 ∧ u = cg cA ad sf1 x1 y1 tx tl) (wd_E D cA A 31 ad) A) 0 0 A := by
  refine Met.ofW (cc := cX2_round) (maxL := 7) (ret := (some .int)) (by decide) rfl ?_
  intro p e s m args below meth c s₁ B hml hv
  obtain ⟨rfl, hsz, hP, hK, hD, hT⟩ := hv
  have hx := B.exec
  have hb := B.bytes
  have hr := B.returns
  have hts := atoms_spec (ws := wsX2_round) B.pre
  have hown : s.vm.findClass RX2 = some m.cls := findClass_of_methodNamed B.named
  have hlocks := B.notSynchronized
  subst hsz
  have hS : va_S A s.heap s.heap [] := va_S.rf
  have in0 : ∀ w ∈ wsX00, w ∈ wsX2_round := by decide +kernel
  have in2 : ∀ w ∈ wsX20, w ∈ wsX2_round := by decide +kernel
  have hl := lv_entry ([.ref (ad 0), .int (iZ (k)), .int (iZ (i)), .int (iZ (q)), .int (iZ (way))]) (n := 7) (Nat.le_of_ble_eq_true rfl)
  rw [lg_entry_eq]
  generalize (lg_sl ([.ref (ad 0), .int (iZ (k)), .int (iZ (i)), .int (iZ (q)), .int (iZ (way))]) ++ List.replicate (7 - (lg_sl ([.ref (ad 0), .int (iZ (k)), .int (iZ (i)), .int (iZ (q)), .int (iZ (way))])).length) Slot.unset).toArray = ls at hl ⊢
  have hl : lv_has ls 7 [(0, .ref (ad 0)), (1, .int (iZ (k))), (2, .int (iZ (i))), (3, .int (iZ (q))), (4, .int (iZ (way)))] := hl
  refine lv_iload_n hx hb dX2_round_0 rfl (lv_at hl 1 rfl) ?_
  refine va_calli (va_runS (As := [.int (iZ (k))]) (rest := []) ⟨hx, hb, hml, hown, hts⟩ (c_X2_isRegister l D cA tT A 31 ad _ _ (k := k) (by omega) (by omega)) (va_cwS 1 hts gX2_round_X2_isRegister rfl rfl rfl (by decide +kernel) ⟨Nat.le_of_ble_eq_true rfl, Nat.le_of_ble_eq_true rfl⟩) (wd_preS hP hK hD hT hS) rfl rfl hl.1 rfl (lv_room (Nat.le_of_ble_eq_true rfl)) dX2_round_1 ⟨Nat.zero_le _, Nat.zero_le _⟩) hS id_2 id_1 (fun r_ u t H locs ht hvm hw hB hz1 hk1 hS => ?_)
  refine c00 ?_
  obtain ⟨hP, hD⟩ := wd_back ht hB
  clear ht hvm hB hz1 hk1
  obtain ⟨hr_, hu_⟩ := hw
  subst hr_
  rw [hu_] at hP hD
  clear hu_
  refine bz_eq (tgt := 27) hx hb dX2_round_4 (by decide) it_lt (fun q_k => ?_) (fun q_k => ?_)
  · have g_k := it_eq q_k
    refine lv_iconst (v := iZ (-1)) hx hb dX2_round_27 (by decide) ?_
    exact W.iret (v := iZ (-1)) hx hb hr (fun t ht hW => ⟨⟨iZ (-1), _, rfl, ⟨by rw [sp_round, if_neg (by omega)], sf, x, y, hc, by rw [sp_round, if_neg (by omega)], rfl⟩, wd_end hP hK hD ht hW⟩, hS.F ht⟩) hS.2.2 dX2_round_28
  · have g_k := it_ne q_k
    refine lv_iload_n hx hb dX2_round_7 rfl (lv_at hl 2 rfl) ?_
    refine va_calli (va_runS (As := [.int (iZ (i))]) (rest := []) ⟨hx, hb, hml, hown, hts⟩ (c_X2_isRegister l D cA tT A 31 ad _ _ (k := i) (by omega) (by omega)) (va_cwS 1 hts gX2_round_X2_isRegister rfl rfl rfl (by decide +kernel) ⟨Nat.le_of_ble_eq_true rfl, Nat.le_of_ble_eq_true rfl⟩) (wd_preS hP hK hD hT hS) rfl rfl hl.1 rfl (lv_room (Nat.le_of_ble_eq_true rfl)) dX2_round_8 ⟨Nat.zero_le _, Nat.zero_le _⟩) hS id_2 id_1 (fun r_ u t H locs ht hvm hw hB hz1 hk1 hS => ?_)
    refine c00 ?_
    obtain ⟨hP, hD⟩ := wd_back ht hB
    clear ht hvm hB hz1 hk1
    obtain ⟨hr_, hu_⟩ := hw
    subst hr_
    rw [hu_] at hP hD
    clear hu_
    refine bz_eq (tgt := 27) hx hb dX2_round_11 (by decide) it_lt (fun q_i => ?_) (fun q_i => ?_)
    · have g_i := it_eq q_i
      refine lv_iconst (v := iZ (-1)) hx hb dX2_round_27 (by decide) ?_
      exact W.iret (v := iZ (-1)) hx hb hr (fun t ht hW => ⟨⟨iZ (-1), _, rfl, ⟨by rw [sp_round, if_neg (by omega)], sf, x, y, hc, by rw [sp_round, if_neg (by omega)], rfl⟩, wd_end hP hK hD ht hW⟩, hS.F ht⟩) hS.2.2 dX2_round_28
    · have g_i := it_ne q_i
      refine lv_iload hx hb dX2_round_14 (lv_at hl 4 rfl) ?_
      refine va_calli (va_runS (As := [.int (iZ (way))]) (rest := []) ⟨hx, hb, hml, hown, hts⟩ (c_X2_isWay l D cA tT A 31 ad _ _ (k := way) (by omega) (by omega)) (va_cwS 1 hts gX2_round_X2_isWay rfl rfl rfl (by decide +kernel) ⟨Nat.le_of_ble_eq_true rfl, Nat.le_of_ble_eq_true rfl⟩) (wd_preS hP hK hD hT hS) rfl rfl hl.1 rfl (lv_room (Nat.le_of_ble_eq_true rfl)) dX2_round_16 ⟨Nat.zero_le _, Nat.zero_le _⟩) hS id_2 id_1 (fun r_ u t H locs ht hvm hw hB hz1 hk1 hS => ?_)
      refine c00 ?_
      obtain ⟨hP, hD⟩ := wd_back ht hB
      clear ht hvm hB hz1 hk1
      obtain ⟨hr_, hu_⟩ := hw
      subst hr_
      rw [hu_] at hP hD
      clear hu_
      refine bz_eq (tgt := 27) hx hb dX2_round_19 (by decide) it_lt (fun q_way => ?_) (fun q_way => ?_)
      · have g_way := it_eq q_way
        refine lv_iconst (v := iZ (-1)) hx hb dX2_round_27 (by decide) ?_
        exact W.iret (v := iZ (-1)) hx hb hr (fun t ht hW => ⟨⟨iZ (-1), _, rfl, ⟨by rw [sp_round, if_neg (by omega)], sf, x, y, hc, by rw [sp_round, if_neg (by omega)], rfl⟩, wd_end hP hK hD ht hW⟩, hS.F ht⟩) hS.2.2 dX2_round_28
      · have g_way := it_ne q_way
        refine lv_iload_n hx hb dX2_round_22 rfl (lv_at hl 3 rfl) ?_
        refine lv_iconst (v := nI (1)) hx hb dX2_round_23 (by decide) ?_
        refine tp_i (y := iZ ((1 : Nat) : Int)) (iZ_nat _) ?_
        refine bs_ge (tgt := 29) hx hb dX2_round_24 (by decide) (by omega) (by omega) (by omega) (by omega) (fun p1 => ?_) (fun p1 => ?_)
        · obtain ⟨k_n, h_k, rfl⟩ : ∃ n : Nat, n < 6 ∧ k = (n : Int) := ⟨k.toNat, by omega, by omega⟩
          rw [← iZ_nat k_n] at hl
          have e_k : ((k_n : Nat) : Int).toNat = k_n := Int.toNat_natCast k_n
          have r_k := hc.2.2.2.2 k_n h_k
          have c_k := c64 r_k.1
          simp only [rk] at r_k
          obtain ⟨i_n, h_i, rfl⟩ : ∃ n : Nat, n < 6 ∧ i = (n : Int) := ⟨i.toNat, by omega, by omega⟩
          rw [← iZ_nat i_n] at hl
          have e_i : ((i_n : Nat) : Int).toNat = i_n := Int.toNat_natCast i_n
          have r_i := hc.2.2.2.2 i_n h_i
          have c_i := c64 r_i.1
          simp only [rk] at r_i
          have hp9 := p190 r_i.1
          have hp1 := nd_p_pos (sf (2 + i_n)).2.1
          have h1s := hc.2.2.2.1
          refine lv_aload_n hx hb dX2_round_29 rfl (lv_at hl 0 rfl) ?_
          refine rg_2_registers hx hb hts in2 hown hK hP 0 (by decide) cg_0 (hts _ (by decide +kernel)) dX2_round_30 ?_
          refine lv_iload_n hx hb dX2_round_33 rfl (lv_at hl 2 rfl) ?_
          refine rn_q1 hx hb hK hP 1 (by decide) cg_1 (by omega) (by decide) dX2_round_34 ?_
          refine tp_v (y := .ref (ad (7 + 3 * (2 + i_n)))) rfl ?_
          refine lv_astore (lv' := [(5, .ref (ad (7 + 3 * (2 + i_n)))), (0, .ref (ad 0)), (1, .int (nI (k_n))), (2, .int (nI (i_n))), (3, .int (iZ (q))), (4, .int (iZ (way)))]) hx hb dX2_round_35 hl (by decide) rfl (fun ls hl => ?_)
          refine lv_aload hx hb dX2_round_37 (lv_at hl 0 rfl) ?_
          refine rg_0_digits hx hb hts in0 hown hK hP (7 + 3 * (2 + i_n)) (by omega) (cg_d (2 + i_n)) (hts _ (by decide +kernel)) dX2_round_39 ?_
          refine va_calli (va_runV (As := []) (rest := []) ⟨hx, hb, hml, hown, hts⟩ (c_X1_precision l D cA tT A 31 ad _ _ (a := 7 + 3 * (2 + i_n) + 1) (x := (sf (2 + i_n)).2.1) (by omega) (cg_n _) c_i) (cwV 0 hts gX2_round_X1_precision rfl rfl rfl (by decide +kernel) ⟨Nat.le_of_ble_eq_true rfl, Nat.le_of_ble_eq_true rfl⟩) (wd_preV (k := 7 + 3 * (2 + i_n) + 1) hP hK hD hT hS (by omega) (cg_n _).1 rfl) rfl rfl hl.1 rfl (lv_room (Nat.le_of_ble_eq_true rfl)) dX2_round_42 ⟨Nat.zero_le _, Nat.zero_le _⟩) hS id_2 id_1 (fun r_ u t H locs ht hvm hw hB hz1 hk1 hS => ?_)
          refine c00 ?_
          obtain ⟨hP, hD⟩ := wd_back ht hB
          clear ht hvm hB hz1 hk1
          obtain ⟨hr_, hu_⟩ := hw
          subst hr_
          rw [hu_] at hP hD
          clear hu_
          refine lv_iload_n hx hb dX2_round_45 rfl (lv_at hl 4 rfl) ?_
          refine lv_isub hx hb dX2_round_46 ?_
          refine tp_i (y := iZ (((nd_p (sf (2 + i_n)).2.1 : Nat) : Int) - q)) (iZ_subM _ _) ?_
          refine lv_istore (lv' := [(6, .int (iZ (((nd_p (sf (2 + i_n)).2.1 : Nat) : Int) - q))), (5, .ref (ad (7 + 3 * (2 + i_n)))), (0, .ref (ad 0)), (1, .int (nI (k_n))), (2, .int (nI (i_n))), (3, .int (iZ (q))), (4, .int (iZ (way)))]) hx hb dX2_round_47 hl (by decide) rfl (fun ls hl => ?_)
          refine lv_iload hx hb dX2_round_49 (lv_at hl 0 rfl) ?_
          refine lv_bipush (v := nI (18)) hx hb dX2_round_51 (by decide) ?_
          refine tp_i (y := iZ ((18 : Nat) : Int)) (iZ_nat _) ?_
          refine bs_le (tgt := 58) hx hb dX2_round_53 (by decide) (by omega) (by omega) (by omega) (by omega) (fun p2 => ?_) (fun p2 => ?_)
          · refine lv_aload_n hx hb dX2_round_58 rfl (lv_at hl 2 rfl) ?_
            refine rg_2_result hx hb hts in2 hown hK hP 0 (by decide) cg_0 (hts _ (by decide +kernel)) dX2_round_59 ?_
            refine lv_aload hx hb dX2_round_62 (lv_at hl 1 rfl) ?_
            refine va_callv (va_runV (As := [.ref (ad (7 + 3 * (2 + i_n)))]) (rest := []) ⟨hx, hb, hml, hown, hts⟩ (c_X0_become l D cA tT A 31 ad _ _ (k := 7 + 3 * 0) (k2 := 7 + 3 * (2 + i_n)) (d := sf 0) (d2 := sf (2 + i_n)) (by decide) (by omega) (cg_D 0) (cg_D _) (by omega) hc.2.2.1 c_i) (cwV 1 hts gX2_round_X0_become rfl rfl rfl (by decide +kernel) ⟨Nat.le_of_ble_eq_true rfl, Nat.le_of_ble_eq_true rfl⟩) (wd_preV (k := 7 + 3 * 0) hP hK hD hT hS (by decide) (cg_d 0) rfl) rfl rfl hl.1 rfl (lv_room (Nat.le_of_ble_eq_true rfl)) dX2_round_64 ⟨Nat.zero_le _, Nat.zero_le _⟩) hS id_2 id_1 (fun u t H locs ht hvm hw hB hz1 hk1 hS => ?_)
            refine c00 ?_
            obtain ⟨hP, hD⟩ := wd_back ht hB
            clear ht hvm hB hz1 hk1
            rw [hw] at hP hD
            clear hw
            rw [cg_upD 0] at hP hD
            rw [rk_sn r_i.2.2.2] at hP hD
            have hci := ci_up0 (x1 := x) (y1 := y) (d := (sf (2 + i_n))) hc hc.1 hc.2.1 c_i
            refine lv_iload hx hb dX2_round_67 (lv_at hl 0 rfl) ?_
            refine by_le (tgt := 109) hx hb dX2_round_69 (by decide) (by omega) (by omega) (fun p3 => ?_) (fun p3 => ?_)
            · refine lv_aload_n hx hb dX2_round_109 rfl (lv_at hl 2 rfl) ?_
              refine lv_iload_n hx hb dX2_round_110 rfl (lv_at hl 3 rfl) ?_
              refine va_calli (va_runV (As := [.int (nI (k_n))]) (rest := []) ⟨hx, hb, hml, hown, hts⟩ (c_X2_keep l D cA tT A ad _ (sf := va_up sf 0 (sf (2 + i_n))) (x := x) (y := y) (tx := tx) (tl := tl) (k := k_n) h_k hci.2.2.1 (by rw [va_up_ne _ _ (by omega)]; exact c_k) (by rw [va_up_self]; omega) (by rw [va_up_self]; omega)) (cwV 1 hts gX2_round_X2_keep rfl rfl rfl (by decide +kernel) ⟨Nat.le_of_ble_eq_true rfl, Nat.le_of_ble_eq_true rfl⟩) (wd_preV (k := 0) hP hK hD hT hS (by decide) cg_0 rfl) rfl rfl hl.1 rfl (lv_room (Nat.le_of_ble_eq_true rfl)) dX2_round_111 ⟨Nat.zero_le _, Nat.zero_le _⟩) hS id_2 id_1 (fun r_ u t H locs ht hvm hw hB hz1 hk1 hS => ?_)
              refine c00 ?_
              obtain ⟨hP, hD⟩ := wd_back ht hB
              clear ht hvm hB hz1 hk1
              obtain ⟨hr_, hu_⟩ := hw
              subst hr_
              rw [hu_] at hP hD
              clear hu_
              have hkc := ci_kp (k := k_n) hci hci.1 hci.2.1
              obtain ⟨a1, a2, -, -⟩ := kp_kpr (va_up sf 0 (sf (2 + i_n))) k_n
              rw [va_up_self, rh_up0] at a1 a2
              have hsp : sp_round (fun i => sf (2 + i)) (k_n : Int) (i_n : Int) q way = kpr (fun i => sf (2 + i)) k_n (sf (2 + i_n)) := by rw [sp_round, e_i, if_pos (by omega), if_pos (by omega), e_k]
              exact W.iret (v := (kp (va_up sf 0 (sf (2 + i_n))) k_n).1) hx hb hr (fun t ht hW => ⟨⟨(kp (va_up sf 0 (sf (2 + i_n))) k_n).1, _, rfl, ⟨by rw [hsp, a1], _, x, y, hkc, by rw [hsp, a2], rfl⟩, wd_end hP hK hD ht hW⟩, hS.F ht⟩) hS.2.2 dX2_round_114
            · obtain ⟨O, hO⟩ : ∃ O, O = (((nd_p (sf (2 + i_n)).2.1 : Nat) : Int) - q).toNat := ⟨_, rfl⟩
              have hOe : nd_p (sf (2 + i_n)).2.1 - q.toNat = O := by omega
              have hOi : ((nd_p (sf (2 + i_n)).2.1 : Nat) : Int) - q = (O : Int) := by omega
              have hsp0 : sp_round (fun i => sf (2 + i)) (k_n : Int) (i_n : Int) q way = rnd (fun i => sf (2 + i)) k_n (sf (2 + i_n)) q.toNat way := by rw [sp_round, e_i, if_pos (by omega), if_neg (by omega), e_k]
              rw [rnd, hOe] at hsp0
              refine lv_aload_n hx hb dX2_round_72 rfl (lv_at hl 2 rfl) ?_
              refine lv_iload hx hb dX2_round_73 (lv_at hl 0 rfl) ?_
              refine tp_i (y := nI (O)) (by rw [hOi, ← iZ_nat]) ?_
              refine va_callv (va_runV (As := [.int (nI (O))]) (rest := []) ⟨hx, hb, hml, hown, hts⟩ (c_X2_cutOff l D cA tT A ad _ (sf := va_up sf 0 (sf (2 + i_n))) (x := x) (y := y) (tx := tx) (tl := tl) (P := O) (by rw [va_up_self]; exact r_i.1) hc.1 hc.2.1 (by rw [va_up_self]; omega) (by rw [va_up_self]; omega) (by omega) (by rw [va_up_ne _ _ (show (1 : Nat) ≠ 0 by decide)]; exact h1s)) (cwV 1 hts gX2_round_X2_cutOff rfl rfl rfl (by decide +kernel) ⟨Nat.le_of_ble_eq_true rfl, Nat.le_of_ble_eq_true rfl⟩) (wd_preV (k := 0) hP hK hD hT hS (by decide) cg_0 rfl) rfl rfl hl.1 rfl (lv_room (Nat.le_of_ble_eq_true rfl)) dX2_round_75 ⟨Nat.zero_le _, Nat.zero_le _⟩) hS id_2 id_1 (fun u t H locs ht hvm hw hB hz1 hk1 hS => ?_)
              refine c00 ?_
              obtain ⟨hP, hD⟩ := wd_back ht hB
              clear ht hvm hB hz1 hk1
              rw [hw] at hP hD
              clear hw
              simp only [va_up_self, bx_uu] at hP hD
              have h10 := rd_10 (O := O) r_i.1 (by omega)
              have hm9 : (sf (2 + i_n)).2.1 % 10 ^ O ≤ (sf (2 + i_n)).2.1 := Nat.mod_le _ _
              have hyO : 10 ^ O < 1000000 ^ 64 := Nat.lt_of_le_of_lt (Nat.pow_le_pow_right (by decide) (show O ≤ 18 by omega)) (by decide +kernel)
              have l190 : (2 : Nat) * 10 ^ 190 < 1000000 ^ 64 := by decide +kernel
              have hst := stl_rdn (S := va_up sf 0 ((sf (2 + i_n)).1, (sf (2 + i_n)).2.1 / 10 ^ O, (sf (2 + i_n)).2.2 - (O : Int))) (b := (sf (2 + i_n)).1) (z := (sf (2 + i_n)).2.2 - (O : Int)) (X := (sf (2 + i_n)).2.1) (Y := 10 ^ O) (way := way) (va_up_self _ _ _)
              have hstz := stl_z (va_up sf 0 ((sf (2 + i_n)).1, (sf (2 + i_n)).2.1 / 10 ^ O, (sf (2 + i_n)).2.2 - (O : Int))) ((sf (2 + i_n)).2.1 % 10 ^ O) (10 ^ O) way
              refine lv_aload_n hx hb dX2_round_78 rfl (lv_at hl 2 rfl) ?_
              refine lv_iload hx hb dX2_round_79 (lv_at hl 6 rfl) ?_
              refine va_calli (va_runV (As := [.int (iZ (way))]) (rest := []) ⟨hx, hb, hml, hown, hts⟩ (c_X2_settle l D cA tT A ad _ (sf := va_up sf 0 ((sf (2 + i_n)).1, (sf (2 + i_n)).2.1 / 10 ^ O, (sf (2 + i_n)).2.2 - (O : Int))) (x := (sf (2 + i_n)).2.1 % 10 ^ O) (y := 10 ^ O) (tx := tx) (tl := tl) (way := way) g_way.1 g_way.2 (by omega) hyO (by rw [va_up_self]; show (sf (2 + i_n)).2.1 / 10 ^ O + 1 < 1000000 ^ 64; omega) (by rw [va_up_ne _ _ (show (1 : Nat) ≠ 0 by decide)]; exact h1s)) (cwV 1 hts gX2_round_X2_settle rfl rfl rfl (by decide +kernel) ⟨Nat.le_of_ble_eq_true rfl, Nat.le_of_ble_eq_true rfl⟩) (wd_preV (k := 0) hP hK hD hT hS (by decide) cg_0 rfl) rfl rfl hl.1 rfl (lv_room (Nat.le_of_ble_eq_true rfl)) dX2_round_81 ⟨Nat.zero_le _, Nat.zero_le _⟩) hS id_2 id_1 (fun r_ u t H locs ht hvm hw hB hz1 hk1 hS => ?_)
              refine c00 ?_
              obtain ⟨hP, hD⟩ := wd_back ht hB
              clear ht hvm hB hz1 hk1
              obtain ⟨hr_, hu_⟩ := hw
              subst hr_
              rw [hu_] at hP hD
              clear hu_
              rw [hst.2, bx_uu] at hP hD
              have hx9 : (stl (va_up sf 0 ((sf (2 + i_n)).1, (sf (2 + i_n)).2.1 / 10 ^ O, (sf (2 + i_n)).2.2 - (O : Int))) ((sf (2 + i_n)).2.1 % 10 ^ O) (10 ^ O) way).2.2 < 1000000 ^ 64 := by omega
              generalize (stl (va_up sf 0 ((sf (2 + i_n)).1, (sf (2 + i_n)).2.1 / 10 ^ O, (sf (2 + i_n)).2.2 - (O : Int))) ((sf (2 + i_n)).2.1 % 10 ^ O) (10 ^ O) way).2.2 = x9 at hx9 hP hD
              rw [hst.1]
              have hrb := rd_b (b := (sf (2 + i_n)).1) (X := (sf (2 + i_n)).2.1) (Y := 10 ^ O) (way := way)
              generalize rdn (sf (2 + i_n)).1 (sf (2 + i_n)).2.1 (10 ^ O) way = rr at hsp0 hrb hP hD ⊢
              generalize 10 ^ O = yO at hyO hP hD
              have hr190 : rr.2 < 10 ^ 190 := Nat.lt_of_le_of_lt hrb.1 h10
              have hci := ci_up0 (x1 := x9) (y1 := yO) (d := ((sf (2 + i_n)).1, rr.2, (sf (2 + i_n)).2.2 - (O : Int))) hc hx9 hyO (c64 hr190)
              refine bz_ne (tgt := 90) hx hb dX2_round_84 (by decide) (by omega) (fun p4 => ?_) (fun p4 => ?_)
              · rw [if_neg p4] at hsp0
                have hp8 := p190 hr190
                refine lv_aload_n hx hb dX2_round_90 rfl (lv_at hl 2 rfl) ?_
                refine rg_2_result hx hb hts in2 hown hK hP 0 (by decide) cg_0 (hts _ (by decide +kernel)) dX2_round_91 ?_
                refine rg_0_digits hx hb hts in0 hown hK hP (7 + 3 * 0) (by omega) (cg_d 0) (hts _ (by decide +kernel)) dX2_round_94 ?_
                refine va_calli (va_runV (As := []) (rest := []) ⟨hx, hb, hml, hown, hts⟩ (c_X1_precision l D cA tT A 31 ad _ _ (a := 7 + 3 * 0 + 1) (x := (va_up sf 0 ((sf (2 + i_n)).1, rr.2, (sf (2 + i_n)).2.2 - (O : Int)) 0).2.1) (by decide) (cg_n 0) hci.2.2.1) (cwV 0 hts gX2_round_X1_precision rfl rfl rfl (by decide +kernel) ⟨Nat.le_of_ble_eq_true rfl, Nat.le_of_ble_eq_true rfl⟩) (wd_preV (k := 7 + 3 * 0 + 1) hP hK hD hT hS (by decide) (cg_n 0).1 rfl) rfl rfl hl.1 rfl (lv_room (Nat.le_of_ble_eq_true rfl)) dX2_round_97 ⟨Nat.zero_le _, Nat.zero_le _⟩) hS id_2 id_1 (fun r_ u t H locs ht hvm hw hB hz1 hk1 hS => ?_)
                refine c00 ?_
                obtain ⟨hP, hD⟩ := wd_back ht hB
                clear ht hvm hB hz1 hk1
                obtain ⟨hr_, hu_⟩ := hw
                subst hr_
                rw [hu_] at hP hD
                clear hu_
                refine tp_i (y := nI (nd_p rr.2)) (by rw [va_up_self]) ?_
                refine lv_iload_n hx hb dX2_round_100 rfl (lv_at hl 5 rfl) ?_
                refine tp_i2 (y := iZ ((nd_p rr.2 : Nat) : Int)) (iZ_nat _) ?_
                refine bs_le (tgt := 109) hx hb dX2_round_101 (by decide) (by omega) (by omega) (by omega) (by omega) (fun p5 => ?_) (fun p5 => ?_)
                · rw [if_neg (by omega)] at hsp0
                  refine lv_aload_n hx hb dX2_round_109 rfl (lv_at hl 2 rfl) ?_
                  refine lv_iload_n hx hb dX2_round_110 rfl (lv_at hl 3 rfl) ?_
                  refine va_calli (va_runV (As := [.int (nI (k_n))]) (rest := []) ⟨hx, hb, hml, hown, hts⟩ (c_X2_keep l D cA tT A ad _ (sf := va_up sf 0 ((sf (2 + i_n)).1, rr.2, (sf (2 + i_n)).2.2 - (O : Int))) (x := x9) (y := yO) (tx := tx) (tl := tl) (k := k_n) h_k hci.2.2.1 (by rw [va_up_ne _ _ (by omega)]; exact c_k) (by rw [va_up_self]; show -2147483648 ≤ (sf (2 + i_n)).2.2 - (O : Int); omega) (by rw [va_up_self]; show (sf (2 + i_n)).2.2 - (O : Int) < 2147483648; omega)) (cwV 1 hts gX2_round_X2_keep rfl rfl rfl (by decide +kernel) ⟨Nat.le_of_ble_eq_true rfl, Nat.le_of_ble_eq_true rfl⟩) (wd_preV (k := 0) hP hK hD hT hS (by decide) cg_0 rfl) rfl rfl hl.1 rfl (lv_room (Nat.le_of_ble_eq_true rfl)) dX2_round_111 ⟨Nat.zero_le _, Nat.zero_le _⟩) hS id_2 id_1 (fun r_ u t H locs ht hvm hw hB hz1 hk1 hS => ?_)
                  refine c00 ?_
                  obtain ⟨hP, hD⟩ := wd_back ht hB
                  clear ht hvm hB hz1 hk1
                  obtain ⟨hr_, hu_⟩ := hw
                  subst hr_
                  rw [hu_] at hP hD
                  clear hu_
                  have hkc := ci_kp (k := k_n) hci hci.1 hci.2.1
                  obtain ⟨a1, a2, -, -⟩ := kp_kpr (va_up sf 0 ((sf (2 + i_n)).1, rr.2, (sf (2 + i_n)).2.2 - (O : Int))) k_n
                  rw [va_up_self, rh_up0] at a1 a2
                  have hsp : sp_round (fun i => sf (2 + i)) (k_n : Int) (i_n : Int) q way = kpr (fun i => sf (2 + i)) k_n ((sf (2 + i_n)).1, rr.2, (sf (2 + i_n)).2.2 - (O : Int)) := hsp0
                  exact W.iret (v := (kp (va_up sf 0 ((sf (2 + i_n)).1, rr.2, (sf (2 + i_n)).2.2 - (O : Int))) k_n).1) hx hb hr (fun t ht hW => ⟨⟨(kp (va_up sf 0 ((sf (2 + i_n)).1, rr.2, (sf (2 + i_n)).2.2 - (O : Int))) k_n).1, _, rfl, ⟨by rw [hsp, a1], _, x9, yO, hkc, by rw [hsp, a2], rfl⟩, wd_end hP hK hD ht hW⟩, hS.F ht⟩) hS.2.2 dX2_round_114
                · rw [if_pos (by omega)] at hsp0
                  refine lv_aload_n hx hb dX2_round_104 rfl (lv_at hl 2 rfl) ?_
                  refine lv_iconst (v := nI (1)) hx hb dX2_round_105 (by decide) ?_
                  refine va_callv (va_runV (As := [.int (nI (1))]) (rest := []) ⟨hx, hb, hml, hown, hts⟩ (c_X2_cutOff l D cA tT A ad _ (sf := va_up sf 0 ((sf (2 + i_n)).1, rr.2, (sf (2 + i_n)).2.2 - (O : Int))) (x := x9) (y := yO) (tx := tx) (tl := tl) (P := 1) (by rw [va_up_self]; exact hr190) hx9 hyO (by rw [va_up_self]; show -300 < (sf (2 + i_n)).2.2 - (O : Int); omega) (by rw [va_up_self]; show (sf (2 + i_n)).2.2 - (O : Int) < 300; omega) (by decide) (by rw [va_up_ne _ _ (show (1 : Nat) ≠ 0 by decide)]; exact h1s)) (cwV 1 hts gX2_round_X2_cutOff rfl rfl rfl (by decide +kernel) ⟨Nat.le_of_ble_eq_true rfl, Nat.le_of_ble_eq_true rfl⟩) (wd_preV (k := 0) hP hK hD hT hS (by decide) cg_0 rfl) rfl rfl hl.1 rfl (lv_room (Nat.le_of_ble_eq_true rfl)) dX2_round_106 ⟨Nat.zero_le _, Nat.zero_le _⟩) hS id_2 id_1 (fun u t H locs ht hvm hw hB hz1 hk1 hS => ?_)
                  refine c00 ?_
                  obtain ⟨hP, hD⟩ := wd_back ht hB
                  clear ht hvm hB hz1 hk1
                  rw [hw] at hP hD
                  clear hw
                  simp only [va_up_self, bx_uu, Nat.pow_one] at hP hD
                  have hd10 : rr.2 / 10 ≤ rr.2 := Nat.div_le_self _ _
                  have hm10 : rr.2 % 10 ≤ rr.2 := Nat.mod_le _ _
                  have h64 := c64 hr190
                  have hci := ci_up0 (x1 := (rr.2 % 10)) (y1 := 10) (d := ((sf (2 + i_n)).1, rr.2 / 10, (sf (2 + i_n)).2.2 - (O : Int) - ((1 : Nat) : Int))) hc (by omega) (by decide) (show rr.2 / 10 < 1000000 ^ 64 by omega)
                  refine lv_aload_n hx hb dX2_round_109 rfl (lv_at hl 2 rfl) ?_
                  refine lv_iload_n hx hb dX2_round_110 rfl (lv_at hl 3 rfl) ?_
                  refine va_calli (va_runV (As := [.int (nI (k_n))]) (rest := []) ⟨hx, hb, hml, hown, hts⟩ (c_X2_keep l D cA tT A ad _ (sf := va_up sf 0 ((sf (2 + i_n)).1, rr.2 / 10, (sf (2 + i_n)).2.2 - (O : Int) - ((1 : Nat) : Int))) (x := (rr.2 % 10)) (y := 10) (tx := tx) (tl := tl) (k := k_n) h_k hci.2.2.1 (by rw [va_up_ne _ _ (by omega)]; exact c_k) (by rw [va_up_self]; show -2147483648 ≤ (sf (2 + i_n)).2.2 - (O : Int) - ((1 : Nat) : Int); omega) (by rw [va_up_self]; show (sf (2 + i_n)).2.2 - (O : Int) - ((1 : Nat) : Int) < 2147483648; omega)) (cwV 1 hts gX2_round_X2_keep rfl rfl rfl (by decide +kernel) ⟨Nat.le_of_ble_eq_true rfl, Nat.le_of_ble_eq_true rfl⟩) (wd_preV (k := 0) hP hK hD hT hS (by decide) cg_0 rfl) rfl rfl hl.1 rfl (lv_room (Nat.le_of_ble_eq_true rfl)) dX2_round_111 ⟨Nat.zero_le _, Nat.zero_le _⟩) hS id_2 id_1 (fun r_ u t H locs ht hvm hw hB hz1 hk1 hS => ?_)
                  refine c00 ?_
                  obtain ⟨hP, hD⟩ := wd_back ht hB
                  clear ht hvm hB hz1 hk1
                  obtain ⟨hr_, hu_⟩ := hw
                  subst hr_
                  rw [hu_] at hP hD
                  clear hu_
                  have hkc := ci_kp (k := k_n) hci hci.1 hci.2.1
                  obtain ⟨a1, a2, -, -⟩ := kp_kpr (va_up sf 0 ((sf (2 + i_n)).1, rr.2 / 10, (sf (2 + i_n)).2.2 - (O : Int) - ((1 : Nat) : Int))) k_n
                  rw [va_up_self, rh_up0] at a1 a2
                  have hsp : sp_round (fun i => sf (2 + i)) (k_n : Int) (i_n : Int) q way = kpr (fun i => sf (2 + i)) k_n ((sf (2 + i_n)).1, rr.2 / 10, (sf (2 + i_n)).2.2 - (O : Int) - ((1 : Nat) : Int)) := hsp0
                  exact W.iret (v := (kp (va_up sf 0 ((sf (2 + i_n)).1, rr.2 / 10, (sf (2 + i_n)).2.2 - (O : Int) - ((1 : Nat) : Int))) k_n).1) hx hb hr (fun t ht hW => ⟨⟨(kp (va_up sf 0 ((sf (2 + i_n)).1, rr.2 / 10, (sf (2 + i_n)).2.2 - (O : Int) - ((1 : Nat) : Int))) k_n).1, _, rfl, ⟨by rw [hsp, a1], _, (rr.2 % 10), 10, hkc, by rw [hsp, a2], rfl⟩, wd_end hP hK hD ht hW⟩, hS.F ht⟩) hS.2.2 dX2_round_114
              · rw [if_pos p4] at hsp0
                refine lv_bipush (v := iZ (-4)) hx hb dX2_round_87 (by decide) ?_
                exact W.iret (v := iZ (-4)) hx hb hr (fun t ht hW => ⟨⟨iZ (-4), _, rfl, ⟨by rw [hsp0], _, x9, yO, hci, by rw [hsp0, rh_up0], rfl⟩, wd_end hP hK hD ht hW⟩, hS.F ht⟩) hS.2.2 dX2_round_89
          · refine lv_iconst (v := iZ (-1)) hx hb dX2_round_56 (by decide) ?_
            exact W.iret (v := iZ (-1)) hx hb hr (fun t ht hW => ⟨⟨iZ (-1), _, rfl, ⟨by rw [sp_round, e_i, if_neg (by omega)], sf, x, y, hc, by rw [sp_round, e_i, if_neg (by omega)], rfl⟩, wd_end hP hK hD ht hW⟩, hS.F ht⟩) hS.2.2 dX2_round_57
        · refine lv_iconst (v := iZ (-1)) hx hb dX2_round_27 (by decide) ?_
          exact W.iret (v := iZ (-1)) hx hb hr (fun t ht hW => ⟨⟨iZ (-1), _, rfl, ⟨by rw [sp_round, if_neg (by omega)], sf, x, y, hc, by rw [sp_round, if_neg (by omega)], rfl⟩, wd_end hP hK hD ht hW⟩, hS.F ht⟩) hS.2.2 dX2_round_28
