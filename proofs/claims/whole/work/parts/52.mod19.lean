theorem nd_p_mul (x y : Nat) : nd_p (x * y) ≤ nd_p x + nd_p y := by
  refine (nd_p_le (by have := nd_p_pos x; omega)).mpr ?_
  rw [Nat.pow_add]; exact Nat.mul_lt_mul'' (nd_p_lt x) (nd_p_lt y)
theorem pw_p (d : Bool × Nat × Int) (t : Nat) : nd_p (pw d t).2.1 ≤ t * nd_p d.2.1 + 1 := by
  induction t with
  | zero => rw [pw, nd_p1 (by decide)]; omega
  | succ t ih =>
    have h := nd_p_mul (pw d t).2.1 d.2.1
    rw [Nat.succ_mul]
    show nd_p ((pw d t).2.1 * d.2.1) ≤ _
    omega
theorem pw_zE (d : Bool × Nat × Int) (t : Nat) : (pw d t).2.2 = (t : Int) * d.2.2 := by
  induction t with
  | zero => rw [pw]; simp
  | succ t ih =>
    show (pw d t).2.2 + d.2.2 = _
    rw [ih, Int.natCast_succ, Int.add_mul, Int.one_mul]
theorem pw_b (d : Bool × Nat × Int) (t : Nat) : (pw d t).1 = true → (pw d t).2.1 ≠ 0 := by
  cases t with
  | zero => intro h; exact absurd h (by rw [pw]; decide)
  | succ t => intro h; exact sn_ok h
set_option maxHeartbeats 4000000 in
set_option maxRecDepth 100000 in
theorem lp_X4_power {p : Program} {l : Launch} {e : Env} {R : Room} {s : State} {m : MethodId} {args : Array Value} {below : List Frame} {meth : Method} {c : Code} {Q : State → Prop} {D : va_G} {cA : Nat → ClassId} {tT : Nat} {A : Nat → Prop} {ad : Nat → Nat} {wb we : RWt} {rg : Nat → RWt} {tx : Nat → Int32} {tl : Nat} {rh : Nat → Bool × Nat × Int} {k_n i_n N9 : Nat} (S : CallFix p m c cX4_power 5 s args wsX4_power RX4) (hK : va_K D vwCl (ty_s cA) s) (hT : st_T tT A s s.heap) (hRf : 3 ≤ R.frames) (hRl : 66 ≤ R.locals) (hm : mr rg rh) (hr9 : rks rh) (h_i : i_n < 6) (hN : N9 * nd_p (rh i_n).2.1 ≤ 190) (kk : ∀ (fa : Nat → Int32) (wc : RWt) (H : Heap) (locs : List Loc) (ls : Array Slot), rv fa (nd_p (pw (rh i_n) N9).2.1) (pw (rh i_n) N9).2.1 → va_P D vwCl (wm_W 23 ad (mg cA ad (fa, nd_p (pw (rh i_n) N9).2.1, (pw (rh i_n) N9).1, (pw (rh i_n) N9).2.2) wb wc we rg tx tl)) H → va_D A (wm_W 23 ad (mg cA ad (fa, nd_p (pw (rh i_n) N9).2.1, (pw (rh i_n) N9).1, (pw (rh i_n) N9).2.2) wb wc we rg tx tl)) → va_S A s.heap H locs → lv_has ls 5 [(0, .ref (ad 0)), (1, .int (nI (k_n))), (2, .int (nI (i_n))), (3, .int (nI (N9)))] → W p l e R s m args below meth c H locs 0 0 Q (F0 m 114 ls [])) :
    ∀ (k t9 : Nat) (fa : Nat → Int32) (wc : RWt) (H : Heap) (locs : List Loc) (ls : Array Slot), t9 + k = N9 → N9 ≤ 40 → rv fa (nd_p (pw (rh i_n) t9).2.1) (pw (rh i_n) t9).2.1 → va_P D vwCl (wm_W 23 ad (mg cA ad (fa, nd_p (pw (rh i_n) t9).2.1, (pw (rh i_n) t9).1, (pw (rh i_n) t9).2.2) wb wc we rg tx tl)) H → va_D A (wm_W 23 ad (mg cA ad (fa, nd_p (pw (rh i_n) t9).2.1, (pw (rh i_n) t9).1, (pw (rh i_n) t9).2.2) wb wc we rg tx tl)) → va_S A s.heap H locs → lv_has ls 5 [(4, .int (nI (t9))), (0, .ref (ad 0)), (1, .int (nI (k_n))), (2, .int (nI (i_n))), (3, .int (nI (N9)))] → W p l e R s m args below meth c H locs 0 0 Q (F0 m 74 ls []) := by
  obtain ⟨hx, hb, hml, hown, hts⟩ := S
  have in3 : ∀ w ∈ wsX30, w ∈ wsX4_power := by decide +kernel
  have in4 : ∀ w ∈ wsX40, w ∈ wsX4_power := by decide +kernel
  have m_i := hm i_n h_i
  have n_i : (rg i_n).2.1 = nd_p (rh i_n).2.1 := m_i.1.1
  have b_i : (rg i_n).2.2.1 = (rh i_n).1 := by rw [m_i.2]
  have z_i : (rg i_n).2.2.2 = (rh i_n).2.2 := by rw [m_i.2]
  have r_i := hr9 i_n h_i
  simp only [rk] at r_i
  have p_i := p190 r_i.1
  have t_i := tn_le (rh i_n).1
  intro k
  induction k with
  | zero =>
    intro t9 fa wc H locs ls hn h40 hva hP hD hS hl
    refine lv_iload hx hb dX4_power_74 (lv_at hl 0 rfl) ?_
    refine lv_iload_n hx hb dX4_power_76 rfl (lv_at hl 4 rfl) ?_
    refine bi_ge (tgt := 114) hx hb dX4_power_77 (by decide) (by omega) (by omega) (fun q => ?_) (fun q => ?_)
    · obtain rfl : t9 = N9 := by omega
      exact kk fa wc H locs ls hva hP hD hS (lv_sub hl [1, 2, 3, 4] rfl)
    · exact absurd hn (by omega)
  | succ k ih =>
    intro t9 fa wc H locs ls hn h40 hva hP hD hS hl
    refine lv_iload hx hb dX4_power_74 (lv_at hl 0 rfl) ?_
    refine lv_iload_n hx hb dX4_power_76 rfl (lv_at hl 4 rfl) ?_
    refine bi_ge (tgt := 114) hx hb dX4_power_77 (by decide) (by omega) (by omega) (fun q => ?_) (fun q => ?_)
    · exact absurd hn (by omega)
    · have hp9 := pw_p (rh i_n) t9
      have ht9 : t9 * nd_p (rh i_n).2.1 ≤ N9 * nd_p (rh i_n).2.1 := Nat.mul_le_mul_right _ (by omega)
      refine lv_aload_n hx hb dX4_power_80 rfl (lv_at hl 1 rfl) ?_
      refine rg_4_a hx hb hts in4 hown hK hP 0 (by decide) mg_0 (hts _ (by decide +kernel)) dX4_power_81 ?_
      refine lv_aload_n hx hb dX4_power_84 rfl (lv_at hl 1 rfl) ?_
      refine rg_4_registers hx hb hts in4 hown hK hP 0 (by decide) mg_0 (hts _ (by decide +kernel)) dX4_power_85 ?_
      refine lv_iload_n hx hb dX4_power_88 rfl (lv_at hl 3 rfl) ?_
      refine rn_q4 hx hb hK hP 1 (by decide) mg_1 (by omega) (by decide) dX4_power_89 ?_
      refine tp_v (y := .ref (ad (11 + 2 * i_n))) rfl ?_
      refine lv_aload_n hx hb dX4_power_90 rfl (lv_at hl 1 rfl) ?_
      refine rg_4_c hx hb hts in4 hown hK hP 0 (by decide) mg_0 (hts _ (by decide +kernel)) dX4_power_91 ?_
      refine va_callv (va_runS (As := [.ref (ad 3), .ref (ad (11 + 2 * i_n)), .ref (ad 7)]) (rest := []) ⟨hx, hb, hml, hown, hts⟩ (c_X4_product l D cA tT A 23 ad _ _ (a := 3) (o := 11 + 2 * i_n) (t := 7) (n1 := nd_p (pw (rh i_n) t9).2.1) (n2 := (rg i_n).2.1) (n := wc.2.1) (x := (pw (rh i_n) t9).2.1) (y := (rh i_n).2.1) (f1 := fa) (f2 := (rg i_n).1) (f := wc.1) (b1 := (pw (rh i_n) t9).1) (b2 := (rg i_n).2.2.1) (b := wc.2.2.1) (z1 := (pw (rh i_n) t9).2.2) (z2 := (rg i_n).2.2.2) (z := wc.2.2.2) (by decide) (by decide) (by omega) mg_A (mg_G _) (by omega) (by omega) (by omega) (by omega) (by omega) (by omega) hva m_i.1 (by omega) mg_C) (va_cwS 3 hts gX4_power_X4_product rfl rfl rfl (by decide +kernel) ⟨Nat.le_trans (Nat.le_of_ble_eq_true rfl) hRf, Nat.le_trans (Nat.le_of_ble_eq_true rfl) hRl⟩) (wd_preS hP hK hD hT hS) rfl rfl hl.1 rfl (lv_room (Nat.le_of_ble_eq_true rfl)) dX4_power_94 ⟨Nat.zero_le _, Nat.zero_le _⟩) hS id_2 id_1 (fun u t H locs ht hvm hw hB hz1 hk1 hS => ?_)
      refine c00 ?_
      obtain ⟨hP, hD⟩ := wd_back ht hB
      clear ht hvm hB hz1 hk1
      obtain ⟨fc, hv9, hn9, hu_⟩ := hw
      rw [hu_, b_i, z_i] at hP hD
      clear hu_
      rw [show rw_ cA ad (mg cA ad (fa, nd_p (pw (rh i_n) t9).2.1, (pw (rh i_n) t9).1, (pw (rh i_n) t9).2.2) wb wc we rg tx tl) 7 fc (nd_p ((pw (rh i_n) t9).2.1 * (rh i_n).2.1)) (sn ((pw (rh i_n) t9).1 != (rh i_n).1) ((pw (rh i_n) t9).2.1 * (rh i_n).2.1)) ((pw (rh i_n) t9).2.2 + (rh i_n).2.2) = mg cA ad (fa, nd_p (pw (rh i_n) t9).2.1, (pw (rh i_n) t9).1, (pw (rh i_n) t9).2.2) wb (fc, nd_p ((pw (rh i_n) t9).2.1 * (rh i_n).2.1), sn ((pw (rh i_n) t9).1 != (rh i_n).1) ((pw (rh i_n) t9).2.1 * (rh i_n).2.1), (pw (rh i_n) t9).2.2 + (rh i_n).2.2) we rg tx tl from mg_uc (w' := (fc, nd_p ((pw (rh i_n) t9).2.1 * (rh i_n).2.1), sn ((pw (rh i_n) t9).1 != (rh i_n).1) ((pw (rh i_n) t9).2.1 * (rh i_n).2.1), (pw (rh i_n) t9).2.2 + (rh i_n).2.2))] at hP hD
      refine lv_aload_n hx hb dX4_power_97 rfl (lv_at hl 1 rfl) ?_
      refine rg_4_a hx hb hts in4 hown hK hP 0 (by decide) mg_0 (hts _ (by decide +kernel)) dX4_power_98 ?_
      refine lv_aload_n hx hb dX4_power_101 rfl (lv_at hl 1 rfl) ?_
      refine rg_4_c hx hb hts in4 hown hK hP 0 (by decide) mg_0 (hts _ (by decide +kernel)) dX4_power_102 ?_
      refine va_callv (va_runV (As := [.ref (ad 7)]) (rest := []) ⟨hx, hb, hml, hown, hts⟩ (c_X3_take l D cA tT A 23 ad _ _ (a := 3) (f := fa) (n := nd_p (pw (rh i_n) t9).2.1) (b := (pw (rh i_n) t9).1) (z := (pw (rh i_n) t9).2.2) (o := 7) (f1 := fc) (n1 := nd_p ((pw (rh i_n) t9).2.1 * (rh i_n).2.1)) (b1 := sn ((pw (rh i_n) t9).1 != (rh i_n).1) ((pw (rh i_n) t9).2.1 * (rh i_n).2.1)) (z1 := (pw (rh i_n) t9).2.2 + (rh i_n).2.2) (by decide) mg_A (by decide) mg_C (by decide) (by decide) (by decide) (by omega)) (cwV 1 hts gX4_power_X3_take rfl rfl rfl (by decide +kernel) ⟨Nat.le_trans (Nat.le_of_ble_eq_true rfl) hRf, Nat.le_trans (Nat.le_of_ble_eq_true rfl) hRl⟩) (wd_preV (k := 3) hP hK hD hT hS (by decide) mg_A.1 rfl) rfl rfl hl.1 rfl (lv_room (Nat.le_of_ble_eq_true rfl)) dX4_power_105 ⟨Nat.zero_le _, Nat.zero_le _⟩) hS id_2 id_1 (fun u t H locs ht hvm hw hB hz1 hk1 hS => ?_)
      refine c00 ?_
      obtain ⟨hP, hD⟩ := wd_back ht hB
      clear ht hvm hB hz1 hk1
      rw [hw] at hP hD
      clear hw
      rw [show rw_ cA ad (mg cA ad (fa, nd_p (pw (rh i_n) t9).2.1, (pw (rh i_n) t9).1, (pw (rh i_n) t9).2.2) wb (fc, nd_p ((pw (rh i_n) t9).2.1 * (rh i_n).2.1), sn ((pw (rh i_n) t9).1 != (rh i_n).1) ((pw (rh i_n) t9).2.1 * (rh i_n).2.1), (pw (rh i_n) t9).2.2 + (rh i_n).2.2) we rg tx tl) 3 (tk fc fa (nd_p ((pw (rh i_n) t9).2.1 * (rh i_n).2.1))) (nd_p ((pw (rh i_n) t9).2.1 * (rh i_n).2.1)) (sn ((pw (rh i_n) t9).1 != (rh i_n).1) ((pw (rh i_n) t9).2.1 * (rh i_n).2.1)) ((pw (rh i_n) t9).2.2 + (rh i_n).2.2) = mg cA ad (tk fc fa (nd_p ((pw (rh i_n) t9).2.1 * (rh i_n).2.1)), nd_p ((pw (rh i_n) t9).2.1 * (rh i_n).2.1), sn ((pw (rh i_n) t9).1 != (rh i_n).1) ((pw (rh i_n) t9).2.1 * (rh i_n).2.1), (pw (rh i_n) t9).2.2 + (rh i_n).2.2) wb (fc, nd_p ((pw (rh i_n) t9).2.1 * (rh i_n).2.1), sn ((pw (rh i_n) t9).1 != (rh i_n).1) ((pw (rh i_n) t9).2.1 * (rh i_n).2.1), (pw (rh i_n) t9).2.2 + (rh i_n).2.2) we rg tx tl from mg_ua (w' := (tk fc fa (nd_p ((pw (rh i_n) t9).2.1 * (rh i_n).2.1)), nd_p ((pw (rh i_n) t9).2.1 * (rh i_n).2.1), sn ((pw (rh i_n) t9).1 != (rh i_n).1) ((pw (rh i_n) t9).2.1 * (rh i_n).2.1), (pw (rh i_n) t9).2.2 + (rh i_n).2.2))] at hP hD
      refine lv_iinc (v := nI (t9 + 1)) (lv' := [(4, .int (nI (t9 + 1))), (0, .ref (ad 0)), (1, .int (nI (k_n))), (2, .int (nI (i_n))), (3, .int (nI (N9)))]) hx hb dX4_power_108 hl (k := 0) rfl (nI_inc t9 1) (by decide) rfl (fun ls hl => ?_)
      refine lv_goto (tgt := 74) hx hb dX4_power_111 (by decide) ?_
      refine ih (t9 + 1) (tk fc fa (nd_p ((pw (rh i_n) t9).2.1 * (rh i_n).2.1))) _ H locs ls (by omega) h40 ⟨rfl, fun j hj => ?_⟩ hP hD hS (lv_sub hl [0, 1, 2, 3, 4] rfl)
      have hj9 : j < nd_p ((pw (rh i_n) t9).2.1 * (rh i_n).2.1) := hj
      rw [tk_lt hj9]; exact hv9.2 j hj9
set_option maxHeartbeats 4000000 in
set_option maxRecDepth 100000 in
/-- power -/
theorem c_X4_power (l : Launch) (D : va_G) (cA : Nat → ClassId) (tT : Nat) (A : Nat → Prop) (ad : Nat → Nat) (sz : Nat) {wa wb wc we : RWt} {rg : Nat → RWt} {tx : Nat → Int32} {tl : Nat} {rh : Nat → Bool × Nat × Int} (hm : mr rg rh) (hr9 : rks rh) {k i n : Int} (k_1 : -2147483648 ≤ k) (k_2 : k < 2147483648) (i_1 : -2147483648 ≤ i) (i_2 : i < 2147483648) (n_1 : -2147483648 ≤ n) (n_2 : n < 2147483648) : Met l yX4_power wsX4_power ({ frames := 3, cells := 0, slots := 0, locals := 66 }) (va_Pc [.ref (ad 0), .int (iZ (k)), .int (iZ (i)), .int (iZ (n))] (wd_B D cA tT A 23 ad sz (mg cA ad wa wb wc we rg tx tl))) (va_Qi (fun (r : Int32) (u : Nat → va_E) => r = (sp_power rh k i n).1 ∧ ∃ wa1 wb1 wc1 we1 rg1, mr rg1 (sp_power rh k i n).2 ∧ u = mg cA ad wa1 wb1 wc1 we1 rg1 tx tl) (wd_E D cA A 23 ad) A) 0 0 A := by
  refine Met.ofW (cc := cX4_power) (maxL := 5) (ret := (some .int)) (by decide) rfl ?_
  intro p e s m args below meth c s₁ B hml hv
  obtain ⟨rfl, hsz, hP, hK, hD, hT⟩ := hv
  have hx := B.exec
  have hb := B.bytes
  have hr := B.returns
  have hts := atoms_spec (ws := wsX4_power) B.pre
  have hown : s.vm.findClass RX4 = some m.cls := findClass_of_methodNamed B.named
  have hlocks := B.notSynchronized
  subst hsz
  have hS : va_S A s.heap s.heap [] := va_S.rf
  have in3 : ∀ w ∈ wsX30, w ∈ wsX4_power := by decide +kernel
  have in4 : ∀ w ∈ wsX40, w ∈ wsX4_power := by decide +kernel
  have hl := lv_entry ([.ref (ad 0), .int (iZ (k)), .int (iZ (i)), .int (iZ (n))]) (n := 5) (Nat.le_of_ble_eq_true rfl)
  rw [lg_entry_eq]
  generalize (lg_sl ([.ref (ad 0), .int (iZ (k)), .int (iZ (i)), .int (iZ (n))]) ++ List.replicate (5 - (lg_sl ([.ref (ad 0), .int (iZ (k)), .int (iZ (i)), .int (iZ (n))])).length) Slot.unset).toArray = ls at hl ⊢
  have hl : lv_has ls 5 [(0, .ref (ad 0)), (1, .int (iZ (k))), (2, .int (iZ (i))), (3, .int (iZ (n)))] := hl
  refine lv_iload_n hx hb dX4_power_0 rfl (lv_at hl 1 rfl) ?_
  refine va_calli (va_runS (As := [.int (iZ (k))]) (rest := []) ⟨hx, hb, hml, hown, hts⟩ (c_X4_is l D cA tT A 23 ad _ _ (k := k) (by omega) (by omega)) (va_cwS 1 hts gX4_power_X4_is rfl rfl rfl (by decide +kernel) ⟨Nat.le_of_ble_eq_true rfl, Nat.le_of_ble_eq_true rfl⟩) (wd_preS hP hK hD hT hS) rfl rfl hl.1 rfl (lv_room (Nat.le_of_ble_eq_true rfl)) dX4_power_1 ⟨Nat.zero_le _, Nat.zero_le _⟩) hS id_2 id_1 (fun r_ u t H locs ht hvm hw hB hz1 hk1 hS => ?_)
  refine c00 ?_
  obtain ⟨hP, hD⟩ := wd_back ht hB
  clear ht hvm hB hz1 hk1
  obtain ⟨hr_, hu_⟩ := hw
  subst hr_
  rw [hu_] at hP hD
  clear hu_
  refine bz_eq (tgt := 24) hx hb dX4_power_4 (by decide) it_lt (fun q_k => ?_) (fun q_k => ?_)
  · have g_k := it_eq q_k
    refine lv_iconst (v := iZ (-1)) hx hb dX4_power_24 (by decide) ?_
    exact W.iret (v := iZ (-1)) hx hb hr (fun t ht hW => ⟨⟨iZ (-1), _, rfl, ⟨by rw [sp_power, if_neg (by omega)], _, _, _, _, rg, by rw [sp_power, if_neg (by omega)]; exact hm, rfl⟩, wd_end hP hK hD ht hW⟩, hS.F ht⟩) hS.2.2 dX4_power_25
  · have g_k := it_ne q_k
    refine lv_iload_n hx hb dX4_power_7 rfl (lv_at hl 2 rfl) ?_
    refine va_calli (va_runS (As := [.int (iZ (i))]) (rest := []) ⟨hx, hb, hml, hown, hts⟩ (c_X4_is l D cA tT A 23 ad _ _ (k := i) (by omega) (by omega)) (va_cwS 1 hts gX4_power_X4_is rfl rfl rfl (by decide +kernel) ⟨Nat.le_of_ble_eq_true rfl, Nat.le_of_ble_eq_true rfl⟩) (wd_preS hP hK hD hT hS) rfl rfl hl.1 rfl (lv_room (Nat.le_of_ble_eq_true rfl)) dX4_power_8 ⟨Nat.zero_le _, Nat.zero_le _⟩) hS id_2 id_1 (fun r_ u t H locs ht hvm hw hB hz1 hk1 hS => ?_)
    refine c00 ?_
    obtain ⟨hP, hD⟩ := wd_back ht hB
    clear ht hvm hB hz1 hk1
    obtain ⟨hr_, hu_⟩ := hw
    subst hr_
    rw [hu_] at hP hD
    clear hu_
    refine bz_eq (tgt := 24) hx hb dX4_power_11 (by decide) it_lt (fun q_i => ?_) (fun q_i => ?_)
    · have g_i := it_eq q_i
      refine lv_iconst (v := iZ (-1)) hx hb dX4_power_24 (by decide) ?_
      exact W.iret (v := iZ (-1)) hx hb hr (fun t ht hW => ⟨⟨iZ (-1), _, rfl, ⟨by rw [sp_power, if_neg (by omega)], _, _, _, _, rg, by rw [sp_power, if_neg (by omega)]; exact hm, rfl⟩, wd_end hP hK hD ht hW⟩, hS.F ht⟩) hS.2.2 dX4_power_25
    · have g_i := it_ne q_i
      refine lv_iload_n hx hb dX4_power_14 rfl (lv_at hl 3 rfl) ?_
      refine by_lt (tgt := 24) hx hb dX4_power_15 (by decide) (by omega) (by omega) (fun p1 => ?_) (fun p1 => ?_)
      · refine lv_iconst (v := iZ (-1)) hx hb dX4_power_24 (by decide) ?_
        exact W.iret (v := iZ (-1)) hx hb hr (fun t ht hW => ⟨⟨iZ (-1), _, rfl, ⟨by rw [sp_power, if_neg (by omega)], _, _, _, _, rg, by rw [sp_power, if_neg (by omega)]; exact hm, rfl⟩, wd_end hP hK hD ht hW⟩, hS.F ht⟩) hS.2.2 dX4_power_25
      · refine lv_iload_n hx hb dX4_power_18 rfl (lv_at hl 3 rfl) ?_
        refine lv_bipush (v := nI (40)) hx hb dX4_power_19 (by decide) ?_
        refine tp_i (y := iZ ((40 : Nat) : Int)) (iZ_nat _) ?_
        refine bs_le (tgt := 26) hx hb dX4_power_21 (by decide) (by omega) (by omega) (by omega) (by omega) (fun p2 => ?_) (fun p2 => ?_)
        · obtain ⟨k_n, h_k, rfl⟩ : ∃ n : Nat, n < 6 ∧ k = (n : Int) := ⟨k.toNat, by omega, by omega⟩
          rw [← iZ_nat k_n] at hl
          have e_k : ((k_n : Nat) : Int).toNat = k_n := Int.toNat_natCast k_n
          obtain ⟨i_n, h_i, rfl⟩ : ∃ n : Nat, n < 6 ∧ i = (n : Int) := ⟨i.toNat, by omega, by omega⟩
          rw [← iZ_nat i_n] at hl
          have e_i : ((i_n : Nat) : Int).toNat = i_n := Int.toNat_natCast i_n
          have m_k := hm k_n h_k
          have n_k : (rg k_n).2.1 = nd_p (rh k_n).2.1 := m_k.1.1
          have b_k : (rg k_n).2.2.1 = (rh k_n).1 := by rw [m_k.2]
          have z_k : (rg k_n).2.2.2 = (rh k_n).2.2 := by rw [m_k.2]
          have r_k := hr9 k_n h_k
          simp only [rk] at r_k
          have p_k := p190 r_k.1
          have t_k := tn_le (rh k_n).1
          have m_i := hm i_n h_i
          have n_i : (rg i_n).2.1 = nd_p (rh i_n).2.1 := m_i.1.1
          have b_i : (rg i_n).2.2.1 = (rh i_n).1 := by rw [m_i.2]
          have z_i : (rg i_n).2.2.2 = (rh i_n).2.2 := by rw [m_i.2]
          have r_i := hr9 i_n h_i
          simp only [rk] at r_i
          have p_i := p190 r_i.1
          have t_i := tn_le (rh i_n).1
          obtain ⟨N9, rfl⟩ : ∃ n9 : Nat, n = (n9 : Int) := ⟨n.toNat, by omega⟩
          rw [← iZ_nat N9] at hl
          have e_n : ((N9 : Nat) : Int).toNat = N9 := Int.toNat_natCast N9
          have hmul : N9 * (rg i_n).2.1 ≤ 40 * 190 := Nat.mul_le_mul (by omega) (by omega)
          refine lv_iload_n hx hb dX4_power_26 rfl (lv_at hl 3 rfl) ?_
          refine lv_aload_n hx hb dX4_power_27 rfl (lv_at hl 0 rfl) ?_
          refine rg_4_registers hx hb hts in4 hown hK hP 0 (by decide) mg_0 (hts _ (by decide +kernel)) dX4_power_28 ?_
          refine lv_iload_n hx hb dX4_power_31 rfl (lv_at hl 2 rfl) ?_
          refine rn_q4 hx hb hK hP 1 (by decide) mg_1 (by omega) (by decide) dX4_power_32 ?_
          refine tp_v (y := .ref (ad (11 + 2 * i_n))) rfl ?_
          refine rg_3_n hx hb hts in3 hown hK hP (11 + 2 * i_n) (by omega) (mg_G i_n).1 (hts _ (by decide +kernel)) dX4_power_33 ?_
          refine tp_i (y := nI ((rg i_n).2.1)) rfl ?_
          refine lv_imul hx hb dX4_power_36 ?_
          refine tp_i (y := nI (N9 * ((rg i_n).2.1))) (pk_mul _ _) ?_
          refine lv_sipush (v := nI (190)) hx hb dX4_power_37 (by decide) ?_
          refine bi_le (tgt := 46) hx hb dX4_power_40 (by decide) (by omega) (by omega) (fun p3 => ?_) (fun p3 => ?_)
          · refine lv_aload_n hx hb dX4_power_46 rfl (lv_at hl 0 rfl) ?_
            refine rg_4_a hx hb hts in4 hown hK hP 0 (by decide) mg_0 (hts _ (by decide +kernel)) dX4_power_47 ?_
            refine va_callv (va_runV (As := []) (rest := []) ⟨hx, hb, hml, hown, hts⟩ (c_X3_zero l D cA tT A 23 ad _ _ (a := 3) (f := wa.1) (n := wa.2.1) (b := wa.2.2.1) (z := wa.2.2.2) (by decide) mg_A) (cwV 0 hts gX4_power_X3_zero rfl rfl rfl (by decide +kernel) ⟨Nat.le_of_ble_eq_true rfl, Nat.le_of_ble_eq_true rfl⟩) (wd_preV (k := 3) hP hK hD hT hS (by decide) mg_A.1 rfl) rfl rfl hl.1 rfl (lv_room (Nat.le_of_ble_eq_true rfl)) dX4_power_50 ⟨Nat.zero_le _, Nat.zero_le _⟩) hS id_2 id_1 (fun u t H locs ht hvm hw hB hz1 hk1 hS => ?_)
            refine c00 ?_
            obtain ⟨hP, hD⟩ := wd_back ht hB
            clear ht hvm hB hz1 hk1
            rw [hw] at hP hD
            clear hw
            rw [show rw_ cA ad (mg cA ad wa wb wc we rg tx tl) 3 (upd wa.1 0 (nI 0)) 1 false wa.2.2.2 = mg cA ad (upd wa.1 0 (nI 0), 1, false, wa.2.2.2) wb wc we rg tx tl from mg_ua (w' := (upd wa.1 0 (nI 0), 1, false, wa.2.2.2))] at hP hD
            refine lv_aload_n hx hb dX4_power_53 rfl (lv_at hl 0 rfl) ?_
            refine rg_4_a hx hb hts in4 hown hK hP 0 (by decide) mg_0 (hts _ (by decide +kernel)) dX4_power_54 ?_
            refine rg_3_d hx hb hts in3 hown hK hP 3 (by omega) mg_A.1 (hts _ (by decide +kernel)) dX4_power_57 ?_
            refine lv_iconst (v := nI (0)) hx hb dX4_power_60 (by decide) ?_
            refine lv_iconst (v := nI (1)) hx hb dX4_power_61 (by decide) ?_
            refine rt_i hx hb hK hP hD hS (3 + 1) (by omega) mg_A.2 (by omega) (by decide) dX4_power_62 (fun H locs hP hD hS => ?_)
            rw [mg_sa] at hP hD
            refine lv_aload_n hx hb dX4_power_63 rfl (lv_at hl 0 rfl) ?_
            refine rg_4_a hx hb hts in4 hown hK hP 0 (by decide) mg_0 (hts _ (by decide +kernel)) dX4_power_64 ?_
            refine lv_iconst (v := nI (0)) hx hb dX4_power_67 (by decide) ?_
            refine tp_i (y := iZ ((0 : Nat) : Int)) (iZ_nat _) ?_
            refine rp_3_scale hx hb hts in3 hown hK hP hD hS 3 (by omega) mg_A.1 (hts _ (by decide +kernel)) rfl rfl dX4_power_68 (fun H locs hP hD hS => ?_)
            rw [mg_pa 1 false (((0 : Nat) : Int)) (v := nI (false.toNat)) rfl] at hP hD
            refine lv_iconst (v := nI (0)) hx hb dX4_power_71 (by decide) ?_
            refine lv_istore (lv' := [(4, .int (nI (0))), (0, .ref (ad 0)), (1, .int (nI (k_n))), (2, .int (nI (i_n))), (3, .int (nI (N9)))]) hx hb dX4_power_72 hl (by decide) rfl (fun ls hl => ?_)
            have hr1 : rv (upd (upd wa.1 0 (nI 0)) 0 (nI 1)) (nd_p (pw (rh i_n) 0).2.1) (pw (rh i_n) 0).2.1 := by
              refine ⟨rfl, fun j hj => ?_⟩
              have hj1 : j < nd_p 1 := hj
              rw [nd_p1 (by decide)] at hj1
              obtain rfl : j = 0 := by omega
              rw [pk_us, show (pw (rh i_n) 0).2.1 = 1 from rfl]
            have e1 : nd_p (pw (rh i_n) 0).2.1 = 1 := nd_p1 (show (1 : Nat) < 10 by decide)
            have hP : va_P D vwCl (wm_W 23 ad (mg cA ad ((upd (upd wa.1 0 (nI 0)) 0 (nI 1)), nd_p (pw (rh i_n) 0).2.1, (pw (rh i_n) 0).1, (pw (rh i_n) 0).2.2) wb wc we rg tx tl)) H := by rw [e1]; exact hP
            have hD : va_D A (wm_W 23 ad (mg cA ad ((upd (upd wa.1 0 (nI 0)) 0 (nI 1)), nd_p (pw (rh i_n) 0).2.1, (pw (rh i_n) 0).1, (pw (rh i_n) 0).2.2) wb wc we rg tx tl)) := by rw [e1]; exact hD
            refine lp_X4_power (rh := rh) (k_n := k_n) (i_n := i_n) (N9 := N9) ⟨hx, hb, hml, hown, hts⟩ hK hT (Nat.le_of_ble_eq_true rfl) (Nat.le_of_ble_eq_true rfl) hm hr9 h_i (by rw [← n_i]; exact p3) (fun fa wc H locs ls hva hP hD hS hl => ?_) N9 0 _ wc _ _ ls (by omega) (by omega) hr1 hP hD hS (lv_sub hl [0, 1, 2, 3, 4] rfl)
            have hz1 : ((N9 : Nat) : Int) * (rh i_n).2.2 ≤ ((N9 : Nat) : Int) * 6 := Int.mul_le_mul_of_nonneg_left r_i.2.2.1 (by omega)
            have hz2 : ((N9 : Nat) : Int) * (-6) ≤ ((N9 : Nat) : Int) * (rh i_n).2.2 := Int.mul_le_mul_of_nonneg_left r_i.2.1 (by omega)
            have hp9 := pw_p (rh i_n) N9
            rw [n_i] at p3
            refine lv_aload_n hx hb dX4_power_114 rfl (lv_at hl 0 rfl) ?_
            refine rg_4_a hx hb hts in4 hown hK hP 0 (by decide) mg_0 (hts _ (by decide +kernel)) dX4_power_115 ?_
            refine lv_iload_n hx hb dX4_power_118 rfl (lv_at hl 3 rfl) ?_
            refine lv_aload_n hx hb dX4_power_119 rfl (lv_at hl 0 rfl) ?_
            refine rg_4_registers hx hb hts in4 hown hK hP 0 (by decide) mg_0 (hts _ (by decide +kernel)) dX4_power_120 ?_
            refine lv_iload_n hx hb dX4_power_123 rfl (lv_at hl 2 rfl) ?_
            refine rn_q4 hx hb hK hP 1 (by decide) mg_1 (by omega) (by decide) dX4_power_124 ?_
            refine tp_v (y := .ref (ad (11 + 2 * i_n))) rfl ?_
            refine rg_3_scale hx hb hts in3 hown hK hP (11 + 2 * i_n) (by omega) (mg_G i_n).1 (hts _ (by decide +kernel)) dX4_power_125 ?_
            refine tp_i (y := iZ ((rg i_n).2.2.2)) rfl ?_
            refine tp_i (y := iZ ((rh i_n).2.2)) (by rw [z_i]) ?_
            refine lv_imul hx hb dX4_power_128 ?_
            refine tp_i (y := iZ (((N9 : Nat) : Int) * ((rh i_n).2.2))) (iZ_mulM _ _) ?_
            refine rp_3_scale hx hb hts in3 hown hK hP hD hS 3 (by omega) mg_A.1 (hts _ (by decide +kernel)) rfl rfl dX4_power_129 (fun H locs hP hD hS => ?_)
            rw [mg_pa (nd_p (pw (rh i_n) N9).2.1) ((pw (rh i_n) N9).1) (((N9 : Nat) : Int) * ((rh i_n).2.2)) (v := nI (((pw (rh i_n) N9).1).toNat)) rfl] at hP hD
            refine lv_aload_n hx hb dX4_power_132 rfl (lv_at hl 0 rfl) ?_
            refine lv_iload_n hx hb dX4_power_133 rfl (lv_at hl 1 rfl) ?_
            refine lv_aload_n hx hb dX4_power_134 rfl (lv_at hl 0 rfl) ?_
            refine rg_4_a hx hb hts in4 hown hK hP 0 (by decide) mg_0 (hts _ (by decide +kernel)) dX4_power_135 ?_
            have hk8 : nd_p (pw (rh i_n) N9).2.1 ≤ 800 := (by omega)
            have hkz1 : -2147483648 ≤ ((N9 : Nat) : Int) * ((rh i_n).2.2) := (by omega)
            have hkz2 : ((N9 : Nat) : Int) * ((rh i_n).2.2) < 2147483648 := (by omega)
            have hkb : ((pw (rh i_n) N9).1) = true → ((pw (rh i_n) N9).2.1) ≠ 0 := pw_b _ _
            refine va_calli (va_runV (As := [.int (nI (k_n)), .ref (ad 3)]) (rest := []) ⟨hx, hb, hml, hown, hts⟩ (c_X4_keep_a l D cA tT A ad _ (wa := (fa, nd_p (pw (rh i_n) N9).2.1, (pw (rh i_n) N9).1, ((N9 : Nat) : Int) * ((rh i_n).2.2))) (wb := wb) (wc := wc) (we := we) (rg := rg) (tx := tx) (tl := tl) (rh := rh) (k := k_n) (v := (pw (rh i_n) N9).2.1) hm h_k hva hk8 hkb hkz1 hkz2) (cwV 2 hts gX4_power_X4_keep rfl rfl rfl (by decide +kernel) ⟨Nat.le_of_ble_eq_true rfl, Nat.le_of_ble_eq_true rfl⟩) (wd_preV (k := 0) hP hK hD hT hS (by decide) mg_0 rfl) rfl rfl hl.1 rfl (lv_room (Nat.le_of_ble_eq_true rfl)) dX4_power_138 ⟨Nat.zero_le _, Nat.zero_le _⟩) hS id_2 id_1 (fun r_ u t H locs ht hvm hw hB hz1 hk1 hS => ?_)
            refine c00 ?_
            obtain ⟨hP, hD⟩ := wd_back ht hB
            clear ht hvm hB hz1 hk1
            obtain ⟨hr_, rg1, hmr, hu_⟩ := hw
            rw [hu_] at hP hD
            have hsp : sp_power rh (k_n : Int) (i_n : Int) (N9 : Int) = kpr rh k_n ((pw (rh i_n) N9).1, (pw (rh i_n) N9).2.1, ((N9 : Nat) : Int) * ((rh i_n).2.2)) := by rw [sp_power, if_pos (by omega), e_k, e_i, e_n, if_neg (by omega), ← pw_zE]
            exact W.iret hx hb hr (fun t ht hW => ⟨⟨_, _, rfl, ⟨by rw [hsp]; exact hr_, _, _, _, _, rg1, by rw [hsp]; exact hmr, rfl⟩, wd_end hP hK hD ht hW⟩, hS.F ht⟩) hS.2.2 dX4_power_141
          · refine lv_bipush (v := iZ (-3)) hx hb dX4_power_43 (by decide) ?_
            exact W.iret (v := iZ (-3)) hx hb hr (fun t ht hW => ⟨⟨iZ (-3), _, rfl, ⟨by rw [sp_power, if_pos (by omega), e_k, e_i, e_n, if_pos (by rw [← n_i]; omega)], _, _, _, _, rg, by rw [sp_power, if_pos (by omega), e_k, e_i, e_n, if_pos (by rw [← n_i]; omega)]; exact hm, rfl⟩, wd_end hP hK hD ht hW⟩, hS.F ht⟩) hS.2.2 dX4_power_45
        · refine lv_iconst (v := iZ (-1)) hx hb dX4_power_24 (by decide) ?_
          exact W.iret (v := iZ (-1)) hx hb hr (fun t ht hW => ⟨⟨iZ (-1), _, rfl, ⟨by rw [sp_power, if_neg (by omega)], _, _, _, _, rg, by rw [sp_power, if_neg (by omega)]; exact hm, rfl⟩, wd_end hP hK hD ht hW⟩, hS.F ht⟩) hS.2.2 dX4_power_25
