set_option maxHeartbeats 4000000 in
set_option maxRecDepth 100000 in
theorem lp_X4_write1 {p : Program} {l : Launch} {e : Env} {R : Room} {s : State} {m : MethodId} {args : Array Value} {below : List Frame} {meth : Method} {c : Code} {Q : State → Prop} {D : va_G} {cA : Nat → ClassId} {tT : Nat} {A : Nat → Prop} {ad : Nat → Nat} {wa wb wc we : RWt} {rg : Nat → RWt} {rh : Nat → Bool × Nat × Int} {i_n : Nat} {F : List Nat} (S : CallFix p m c cX4_write 4 s args wsX4_write RX4) (hK : va_K D vwCl (ty_s cA) s) (hT : st_T tT A s s.heap) (hRf : 1 ≤ R.frames) (hRl : 21 ≤ R.locals) (hm : mr rg rh) (hr9 : rks rh) (h_i : i_n < 6) (hF : F.length ≤ 200) (kk : ∀ (tx : Nat → Int32) (H : Heap) (locs : List Loc) (ls : Array Slot), tr tx F → va_P D vwCl (wm_W 23 ad (mg cA ad wa wb wc we rg tx F.length)) H → va_D A (wm_W 23 ad (mg cA ad wa wb wc we rg tx F.length)) → va_S A s.heap H locs → lv_has ls 4 [(0, .ref (ad 0)), (2, .ref (ad (11 + 2 * i_n)))] → W p l e R s m args below meth c H locs 0 0 Q (F0 m 112 ls [])) :
    ∀ (k : Nat) (T : List Nat) (tx : Nat → Int32) (H : Heap) (locs : List Loc) (ls : Array Slot), k < 1000 → T ++ fgs (rh i_n).2.1 (rh i_n).2.2 k = F → tr tx T → va_P D vwCl (wm_W 23 ad (mg cA ad wa wb wc we rg tx T.length)) H → va_D A (wm_W 23 ad (mg cA ad wa wb wc we rg tx T.length)) → va_S A s.heap H locs → lv_has ls 4 [(3, .int (dn k)), (0, .ref (ad 0)), (2, .ref (ad (11 + 2 * i_n)))] → W p l e R s m args below meth c H locs 0 0 Q (F0 m 59 ls []) := by
  obtain ⟨hx, hb, hml, hown, hts⟩ := S
  have in3 : ∀ w ∈ wsX30, w ∈ wsX4_write := by decide +kernel
  have in4 : ∀ w ∈ wsX40, w ∈ wsX4_write := by decide +kernel
  have m_i := hm i_n h_i
  have n_i : (rg i_n).2.1 = nd_p (rh i_n).2.1 := m_i.1.1
  have b_i : (rg i_n).2.2.1 = (rh i_n).1 := by rw [m_i.2]
  have z_i : (rg i_n).2.2.2 = (rh i_n).2.2 := by rw [m_i.2]
  have r_i := hr9 i_n h_i
  simp only [rk] at r_i
  have p_i := p190 r_i.1
  have t_i := tn_le (rh i_n).1
  intro k
  induction k with
  | zero =>
    intro T tx H locs ls hk hTF ht hP hD hS hl
    refine lv_iload_n hx hb dX4_write_59 rfl (lv_at hl 0 rfl) ?_
    refine by_lt (tgt := 112) hx hb dX4_write_60 (by decide) (by omega) (by omega) (fun q1 => ?_) (fun q1 => ?_)
    · rw [fgs, List.append_nil] at hTF
      subst hTF
      exact kk tx H locs ls ht hP hD hS (lv_sub hl [1, 2] rfl)
    · exact absurd (by decide) q1
  | succ k ih =>
    intro T tx H locs ls hk hTF ht hP hD hS hl
    have hd := dg_lt (rh i_n).2.1 k
    have hlen : T.length < 200 ∧ (0 < k ∧ (k : Int) = (rh i_n).2.2 → T.length + 1 < 200) := by
      have h1 := congrArg List.length hTF
      rw [fgs_s] at h1
      constructor
      · split at h1 <;> simp only [List.length_append, List.length_singleton] at h1 <;> omega
      · intro h2; rw [if_pos h2] at h1; simp only [List.length_append, List.length_singleton] at h1; omega
    refine lv_iload_n hx hb dX4_write_59 rfl (lv_at hl 0 rfl) ?_
    refine bz_lt (tgt := 112) hx hb dX4_write_60 (by decide) (by omega) (fun q1 => ?_) (fun q1 => ?_)
    · exact absurd q1 (Nat.not_lt_zero _)
    · refine lv_aload_n hx hb dX4_write_63 rfl (lv_at hl 1 rfl) ?_
      refine lv_bipush (v := nI (48)) hx hb dX4_write_64 (by decide) ?_
      refine lv_iload_n hx hb dX4_write_66 rfl (lv_at hl 0 rfl) ?_
      refine lv_aload_n hx hb dX4_write_67 rfl (lv_at hl 2 rfl) ?_
      refine rg_3_n hx hb hts in3 hown hK hP (11 + 2 * i_n) (by omega) (mg_G i_n).1 (hts _ (by decide +kernel)) dX4_write_68 ?_
      refine tp_i (y := nI ((rg i_n).2.1)) rfl ?_
      refine bi_ge (tgt := 83) hx hb dX4_write_71 (by decide) (by omega) (by omega) (fun q2 => ?_) (fun q2 => ?_)
      · have hz0 : (rh i_n).2.1 / 10 ^ k = 0 := Nat.div_eq_of_lt (Nat.lt_of_lt_of_le (nd_p_lt _) (Nat.pow_le_pow_right (by decide) (by omega)))
        refine lv_iconst (v := nI (0)) hx hb dX4_write_83 (by decide) ?_
        refine tp_i (y := nI ((rh i_n).2.1 / 10 ^ k % 10)) (by rw [hz0]) ?_
        refine lv_iadd hx hb dX4_write_84 ?_
        refine tp_i (y := nI (48 + ((rh i_n).2.1 / 10 ^ k % 10))) (nI_add _ _) ?_
        refine va_callv (va_runV (As := [.int (nI (48 + (rh i_n).2.1 / 10 ^ k % 10))]) (rest := []) ⟨hx, hb, hml, hown, hts⟩ (c_X4_sign l D cA tT A ad _ (wa := wa) (wb := wb) (wc := wc) (we := we) (rg := rg) (tx := tx) (T := T) (q := 48 + (rh i_n).2.1 / 10 ^ k % 10) (by omega)) (cwV 1 hts gX4_write_X4_sign rfl rfl rfl (by decide +kernel) ⟨Nat.le_trans (Nat.le_of_ble_eq_true rfl) hRf, Nat.le_trans (Nat.le_of_ble_eq_true rfl) hRl⟩) (wd_preV (k := 0) hP hK hD hT hS (by decide) mg_0 rfl) rfl rfl hl.1 rfl (lv_room (Nat.le_of_ble_eq_true rfl)) dX4_write_85 ⟨Nat.zero_le _, Nat.zero_le _⟩) hS id_2 id_1 (fun u t H locs ht hvm hw hB hz1 hk1 hS => ?_)
        refine c00 ?_
        obtain ⟨hP, hD⟩ := wd_back ht hB
        clear ht hvm hB hz1 hk1
        rw [hw] at hP hD
        clear hw
        have ht := tr_ap (q := 48 + (rh i_n).2.1 / 10 ^ k % 10) ht
        rw [← len1 (T) (48 + (rh i_n).2.1 / 10 ^ k % 10)] at hP hD
        refine lv_iload_n hx hb dX4_write_88 rfl (lv_at hl 0 rfl) ?_
        refine lv_aload_n hx hb dX4_write_89 rfl (lv_at hl 2 rfl) ?_
        refine rg_3_scale hx hb hts in3 hown hK hP (11 + 2 * i_n) (by omega) (mg_G i_n).1 (hts _ (by decide +kernel)) dX4_write_90 ?_
        refine tp_i (y := iZ ((rg i_n).2.2.2)) rfl ?_
        refine tp_i (y := iZ ((rh i_n).2.2)) (by rw [z_i]) ?_
        refine tp_i2 (y := iZ ((k : Nat) : Int)) (iZ_nat _) ?_
        refine bs_ne (tgt := 106) hx hb dX4_write_93 (by decide) (by omega) (by omega) (by omega) (by omega) (fun q3 => ?_) (fun q3 => ?_)
        · refine lv_iinc (v := dn k) (lv' := [(3, .int (dn k)), (0, .ref (ad 0)), (2, .ref (ad (11 + 2 * i_n)))]) hx hb dX4_write_106 hl (k := 0) rfl (dn_dec k) (by decide) rfl (fun ls hl => ?_)
          refine lv_goto (tgt := 59) hx hb dX4_write_109 (by decide) ?_
          refine ih (T ++ [48 + (rh i_n).2.1 / 10 ^ k % 10]) _ H locs ls (by omega) ?_ ht hP hD hS hl
          rw [fgs_s, if_neg (by omega)] at hTF; exact hTF
        · refine lv_iload_n hx hb dX4_write_96 rfl (lv_at hl 0 rfl) ?_
          refine bz_le (tgt := 106) hx hb dX4_write_97 (by decide) (by omega) (fun q4 => ?_) (fun q4 => ?_)
          · refine lv_iinc (v := dn k) (lv' := [(3, .int (dn k)), (0, .ref (ad 0)), (2, .ref (ad (11 + 2 * i_n)))]) hx hb dX4_write_106 hl (k := 0) rfl (dn_dec k) (by decide) rfl (fun ls hl => ?_)
            refine lv_goto (tgt := 59) hx hb dX4_write_109 (by decide) ?_
            refine ih (T ++ [48 + (rh i_n).2.1 / 10 ^ k % 10]) _ H locs ls (by omega) ?_ ht hP hD hS hl
            rw [fgs_s, if_neg (by omega)] at hTF; exact hTF
          · refine lv_aload_n hx hb dX4_write_100 rfl (lv_at hl 1 rfl) ?_
            refine lv_bipush (v := nI (46)) hx hb dX4_write_101 (by decide) ?_
            refine va_callv (va_runV (As := [.int (nI (46))]) (rest := []) ⟨hx, hb, hml, hown, hts⟩ (c_X4_sign l D cA tT A ad _ (wa := wa) (wb := wb) (wc := wc) (we := we) (rg := rg) (tx := (upd tx (T).length (nI (48 + (rh i_n).2.1 / 10 ^ k % 10)))) (T := T ++ [48 + (rh i_n).2.1 / 10 ^ k % 10]) (q := 46) (by rw [len1]; have := hlen.2 (by omega); omega)) (cwV 1 hts gX4_write_X4_sign rfl rfl rfl (by decide +kernel) ⟨Nat.le_trans (Nat.le_of_ble_eq_true rfl) hRf, Nat.le_trans (Nat.le_of_ble_eq_true rfl) hRl⟩) (wd_preV (k := 0) hP hK hD hT hS (by decide) mg_0 rfl) rfl rfl hl.1 rfl (lv_room (Nat.le_of_ble_eq_true rfl)) dX4_write_103 ⟨Nat.zero_le _, Nat.zero_le _⟩) hS id_2 id_1 (fun u t H locs ht hvm hw hB hz1 hk1 hS => ?_)
            refine c00 ?_
            obtain ⟨hP, hD⟩ := wd_back ht hB
            clear ht hvm hB hz1 hk1
            rw [hw] at hP hD
            clear hw
            have ht := tr_ap (q := 46) ht
            rw [← len1 (T ++ [48 + (rh i_n).2.1 / 10 ^ k % 10]) (46)] at hP hD
            refine lv_iinc (v := dn k) (lv' := [(3, .int (dn k)), (0, .ref (ad 0)), (2, .ref (ad (11 + 2 * i_n)))]) hx hb dX4_write_106 hl (k := 0) rfl (dn_dec k) (by decide) rfl (fun ls hl => ?_)
            refine lv_goto (tgt := 59) hx hb dX4_write_109 (by decide) ?_
            refine ih ((T ++ [48 + (rh i_n).2.1 / 10 ^ k % 10]) ++ [46]) _ H locs ls (by omega) ?_ ht hP hD hS hl
            rw [fgs_s, if_pos (by omega)] at hTF; exact hTF
      · refine lv_aload_n hx hb dX4_write_74 rfl (lv_at hl 2 rfl) ?_
        refine rg_3_d hx hb hts in3 hown hK hP (11 + 2 * i_n) (by omega) (mg_G i_n).1 (hts _ (by decide +kernel)) dX4_write_75 ?_
        refine lv_iload_n hx hb dX4_write_78 rfl (lv_at hl 0 rfl) ?_
        refine rn_i hx hb hK hP (11 + 2 * i_n + 1) (by omega) (mg_G i_n).2 (by omega) (by decide) dX4_write_79 ?_
        refine tp_i (y := nI ((rh i_n).2.1 / 10 ^ k % 10)) (m_i.1.2 k (by omega)) ?_
        refine lv_goto (tgt := 84) hx hb dX4_write_80 (by decide) ?_
        refine lv_iadd hx hb dX4_write_84 ?_
        refine tp_i (y := nI (48 + ((rh i_n).2.1 / 10 ^ k % 10))) (nI_add _ _) ?_
        refine va_callv (va_runV (As := [.int (nI (48 + (rh i_n).2.1 / 10 ^ k % 10))]) (rest := []) ⟨hx, hb, hml, hown, hts⟩ (c_X4_sign l D cA tT A ad _ (wa := wa) (wb := wb) (wc := wc) (we := we) (rg := rg) (tx := tx) (T := T) (q := 48 + (rh i_n).2.1 / 10 ^ k % 10) (by omega)) (cwV 1 hts gX4_write_X4_sign rfl rfl rfl (by decide +kernel) ⟨Nat.le_trans (Nat.le_of_ble_eq_true rfl) hRf, Nat.le_trans (Nat.le_of_ble_eq_true rfl) hRl⟩) (wd_preV (k := 0) hP hK hD hT hS (by decide) mg_0 rfl) rfl rfl hl.1 rfl (lv_room (Nat.le_of_ble_eq_true rfl)) dX4_write_85 ⟨Nat.zero_le _, Nat.zero_le _⟩) hS id_2 id_1 (fun u t H locs ht hvm hw hB hz1 hk1 hS => ?_)
        refine c00 ?_
        obtain ⟨hP, hD⟩ := wd_back ht hB
        clear ht hvm hB hz1 hk1
        rw [hw] at hP hD
        clear hw
        have ht := tr_ap (q := 48 + (rh i_n).2.1 / 10 ^ k % 10) ht
        rw [← len1 (T) (48 + (rh i_n).2.1 / 10 ^ k % 10)] at hP hD
        refine lv_iload_n hx hb dX4_write_88 rfl (lv_at hl 0 rfl) ?_
        refine lv_aload_n hx hb dX4_write_89 rfl (lv_at hl 2 rfl) ?_
        refine rg_3_scale hx hb hts in3 hown hK hP (11 + 2 * i_n) (by omega) (mg_G i_n).1 (hts _ (by decide +kernel)) dX4_write_90 ?_
        refine tp_i (y := iZ ((rg i_n).2.2.2)) rfl ?_
        refine tp_i (y := iZ ((rh i_n).2.2)) (by rw [z_i]) ?_
        refine tp_i2 (y := iZ ((k : Nat) : Int)) (iZ_nat _) ?_
        refine bs_ne (tgt := 106) hx hb dX4_write_93 (by decide) (by omega) (by omega) (by omega) (by omega) (fun q3 => ?_) (fun q3 => ?_)
        · refine lv_iinc (v := dn k) (lv' := [(3, .int (dn k)), (0, .ref (ad 0)), (2, .ref (ad (11 + 2 * i_n)))]) hx hb dX4_write_106 hl (k := 0) rfl (dn_dec k) (by decide) rfl (fun ls hl => ?_)
          refine lv_goto (tgt := 59) hx hb dX4_write_109 (by decide) ?_
          refine ih (T ++ [48 + (rh i_n).2.1 / 10 ^ k % 10]) _ H locs ls (by omega) ?_ ht hP hD hS hl
          rw [fgs_s, if_neg (by omega)] at hTF; exact hTF
        · refine lv_iload_n hx hb dX4_write_96 rfl (lv_at hl 0 rfl) ?_
          refine bz_le (tgt := 106) hx hb dX4_write_97 (by decide) (by omega) (fun q4 => ?_) (fun q4 => ?_)
          · refine lv_iinc (v := dn k) (lv' := [(3, .int (dn k)), (0, .ref (ad 0)), (2, .ref (ad (11 + 2 * i_n)))]) hx hb dX4_write_106 hl (k := 0) rfl (dn_dec k) (by decide) rfl (fun ls hl => ?_)
            refine lv_goto (tgt := 59) hx hb dX4_write_109 (by decide) ?_
            refine ih (T ++ [48 + (rh i_n).2.1 / 10 ^ k % 10]) _ H locs ls (by omega) ?_ ht hP hD hS hl
            rw [fgs_s, if_neg (by omega)] at hTF; exact hTF
          · refine lv_aload_n hx hb dX4_write_100 rfl (lv_at hl 1 rfl) ?_
            refine lv_bipush (v := nI (46)) hx hb dX4_write_101 (by decide) ?_
            refine va_callv (va_runV (As := [.int (nI (46))]) (rest := []) ⟨hx, hb, hml, hown, hts⟩ (c_X4_sign l D cA tT A ad _ (wa := wa) (wb := wb) (wc := wc) (we := we) (rg := rg) (tx := (upd tx (T).length (nI (48 + (rh i_n).2.1 / 10 ^ k % 10)))) (T := T ++ [48 + (rh i_n).2.1 / 10 ^ k % 10]) (q := 46) (by rw [len1]; have := hlen.2 (by omega); omega)) (cwV 1 hts gX4_write_X4_sign rfl rfl rfl (by decide +kernel) ⟨Nat.le_trans (Nat.le_of_ble_eq_true rfl) hRf, Nat.le_trans (Nat.le_of_ble_eq_true rfl) hRl⟩) (wd_preV (k := 0) hP hK hD hT hS (by decide) mg_0 rfl) rfl rfl hl.1 rfl (lv_room (Nat.le_of_ble_eq_true rfl)) dX4_write_103 ⟨Nat.zero_le _, Nat.zero_le _⟩) hS id_2 id_1 (fun u t H locs ht hvm hw hB hz1 hk1 hS => ?_)
            refine c00 ?_
            obtain ⟨hP, hD⟩ := wd_back ht hB
            clear ht hvm hB hz1 hk1
            rw [hw] at hP hD
            clear hw
            have ht := tr_ap (q := 46) ht
            rw [← len1 (T ++ [48 + (rh i_n).2.1 / 10 ^ k % 10]) (46)] at hP hD
            refine lv_iinc (v := dn k) (lv' := [(3, .int (dn k)), (0, .ref (ad 0)), (2, .ref (ad (11 + 2 * i_n)))]) hx hb dX4_write_106 hl (k := 0) rfl (dn_dec k) (by decide) rfl (fun ls hl => ?_)
            refine lv_goto (tgt := 59) hx hb dX4_write_109 (by decide) ?_
            refine ih ((T ++ [48 + (rh i_n).2.1 / 10 ^ k % 10]) ++ [46]) _ H locs ls (by omega) ?_ ht hP hD hS hl
            rw [fgs_s, if_pos (by omega)] at hTF; exact hTF
theorem rep_c (T : List Nat) (r : Nat) : T ++ List.replicate (r + 1) 48 = (T ++ [48]) ++ List.replicate r 48 := by rw [List.replicate_succ]; simp
set_option maxHeartbeats 4000000 in
set_option maxRecDepth 100000 in
theorem lp_X4_write2 {p : Program} {l : Launch} {e : Env} {R : Room} {s : State} {m : MethodId} {args : Array Value} {below : List Frame} {meth : Method} {c : Code} {Q : State → Prop} {D : va_G} {cA : Nat → ClassId} {tT : Nat} {A : Nat → Prop} {ad : Nat → Nat} {wa wb wc we : RWt} {rg : Nat → RWt} {rh : Nat → Bool × Nat × Int} {i_n : Nat} {F : List Nat} (S : CallFix p m c cX4_write 4 s args wsX4_write RX4) (hK : va_K D vwCl (ty_s cA) s) (hT : st_T tT A s s.heap) (hRf : 1 ≤ R.frames) (hRl : 21 ≤ R.locals) (hm : mr rg rh) (hr9 : rks rh) (h_i : i_n < 6) (hv0 : (rh i_n).2.1 ≠ 0) (hF : F.length ≤ 200) (kk : ∀ (tx : Nat → Int32) (H : Heap) (locs : List Loc) (ls : Array Slot), tr tx F → va_P D vwCl (wm_W 23 ad (mg cA ad wa wb wc we rg tx F.length)) H → va_D A (wm_W 23 ad (mg cA ad wa wb wc we rg tx F.length)) → va_S A s.heap H locs → lv_has ls 4 [(0, .ref (ad 0))] → W p l e R s m args below meth c H locs 0 0 Q (F0 m 140 ls [])) :
    ∀ (k : Nat) (T : List Nat) (tx : Nat → Int32) (H : Heap) (locs : List Loc) (ls : Array Slot), k < 1000 → T ++ List.replicate k 48 = F → tr tx T → va_P D vwCl (wm_W 23 ad (mg cA ad wa wb wc we rg tx T.length)) H → va_D A (wm_W 23 ad (mg cA ad wa wb wc we rg tx T.length)) → va_S A s.heap H locs → lv_has ls 4 [(3, .int (iZ (-(k : Int)))), (0, .ref (ad 0)), (2, .ref (ad (11 + 2 * i_n)))] → W p l e R s m args below meth c H locs 0 0 Q (F0 m 117 ls []) := by
  obtain ⟨hx, hb, hml, hown, hts⟩ := S
  have in4 : ∀ w ∈ wsX40, w ∈ wsX4_write := by decide +kernel
  have m_i := hm i_n h_i
  have n_i : (rg i_n).2.1 = nd_p (rh i_n).2.1 := m_i.1.1
  have b_i : (rg i_n).2.2.1 = (rh i_n).1 := by rw [m_i.2]
  have z_i : (rg i_n).2.2.2 = (rh i_n).2.2 := by rw [m_i.2]
  have r_i := hr9 i_n h_i
  simp only [rk] at r_i
  have p_i := p190 r_i.1
  have t_i := tn_le (rh i_n).1
  intro k
  induction k with
  | zero =>
    intro T tx H locs ls hk hTF ht hP hD hS hl
    refine lv_iload_n hx hb dX4_write_117 rfl (lv_at hl 0 rfl) ?_
    refine by_ge (tgt := 140) hx hb dX4_write_118 (by decide) (by omega) (by omega) (fun q1 => ?_) (fun q1 => ?_)
    · rw [List.replicate_zero, List.append_nil] at hTF
      subst hTF
      exact kk tx H locs ls ht hP hD hS (lv_sub hl [1] rfl)
    · exact absurd (by decide) q1
  | succ k ih =>
    intro T tx H locs ls hk hTF ht hP hD hS hl
    rw [rep_c] at hTF
    have hlen : T.length < 200 := by have h1 := congrArg List.length hTF; simp only [List.length_append, List.length_singleton] at h1; omega
    refine lv_iload_n hx hb dX4_write_117 rfl (lv_at hl 0 rfl) ?_
    refine by_ge (tgt := 140) hx hb dX4_write_118 (by decide) (by omega) (by omega) (fun q1 => ?_) (fun q1 => ?_)
    · exact absurd q1 (by omega)
    · refine lv_aload_n hx hb dX4_write_121 rfl (lv_at hl 2 rfl) ?_
      refine va_calli (va_runV (As := []) (rest := []) ⟨hx, hb, hml, hown, hts⟩ (c_X3_isZero l D cA tT A 23 ad _ _ (a := 11 + 2 * i_n) (f := (rg i_n).1) (n := (rg i_n).2.1) (b := (rg i_n).2.2.1) (z := (rg i_n).2.2.2) (v := (rh i_n).2.1) (by omega) (mg_G _) m_i.1 (by omega)) (cwV 0 hts gX4_write_X3_isZero rfl rfl rfl (by decide +kernel) ⟨Nat.le_trans (Nat.le_of_ble_eq_true rfl) hRf, Nat.le_trans (Nat.le_of_ble_eq_true rfl) hRl⟩) (wd_preV (k := 11 + 2 * i_n) hP hK hD hT hS (by omega) (mg_G _).1 rfl) rfl rfl hl.1 rfl (lv_room (Nat.le_of_ble_eq_true rfl)) dX4_write_122 ⟨Nat.zero_le _, Nat.zero_le _⟩) hS id_2 id_1 (fun r_ u t H locs ht hvm hw hB hz1 hk1 hS => ?_)
      refine c00 ?_
      obtain ⟨hP, hD⟩ := wd_back ht hB
      clear ht hvm hB hz1 hk1
      obtain ⟨hr_, hu_⟩ := hw
      subst hr_
      rw [hu_] at hP hD
      clear hu_
      refine bz_ne (tgt := 140) hx hb dX4_write_125 (by decide) it_lt (fun q2 => ?_) (fun q2 => ?_)
      · exact absurd (it_ne q2) hv0
      · refine lv_aload_n hx hb dX4_write_128 rfl (lv_at hl 1 rfl) ?_
        refine lv_bipush (v := nI (48)) hx hb dX4_write_129 (by decide) ?_
        refine va_callv (va_runV (As := [.int (nI (48))]) (rest := []) ⟨hx, hb, hml, hown, hts⟩ (c_X4_sign l D cA tT A ad _ (wa := wa) (wb := wb) (wc := wc) (we := we) (rg := rg) (tx := tx) (T := T) (q := 48) (by omega)) (cwV 1 hts gX4_write_X4_sign rfl rfl rfl (by decide +kernel) ⟨Nat.le_trans (Nat.le_of_ble_eq_true rfl) hRf, Nat.le_trans (Nat.le_of_ble_eq_true rfl) hRl⟩) (wd_preV (k := 0) hP hK hD hT hS (by decide) mg_0 rfl) rfl rfl hl.1 rfl (lv_room (Nat.le_of_ble_eq_true rfl)) dX4_write_131 ⟨Nat.zero_le _, Nat.zero_le _⟩) hS id_2 id_1 (fun u t H locs ht hvm hw hB hz1 hk1 hS => ?_)
        refine c00 ?_
        obtain ⟨hP, hD⟩ := wd_back ht hB
        clear ht hvm hB hz1 hk1
        rw [hw] at hP hD
        clear hw
        have ht := tr_ap (q := 48) ht
        rw [← len1 (T) (48)] at hP hD
        refine lv_iinc (v := iZ ((-((k + 1 : Nat) : Int)) + 1)) (lv' := [(3, .int (iZ ((-((k + 1 : Nat) : Int)) + 1))), (0, .ref (ad 0)), (2, .ref (ad (11 + 2 * i_n)))]) hx hb dX4_write_134 hl (k := 0) rfl (iZ_add (-((k + 1 : Nat) : Int)) (1)) (by decide) rfl (fun ls hl => ?_)
        refine lv_goto (tgt := 117) hx hb dX4_write_137 (by decide) ?_
        rw [show -((k + 1 : Nat) : Int) + 1 = -(k : Int) by omega] at hl
        exact ih (T ++ [48]) _ H locs ls (by omega) hTF ht hP hD hS hl
set_option maxHeartbeats 4000000 in
set_option maxRecDepth 100000 in
/-- write -/
theorem c_X4_write (l : Launch) (D : va_G) (cA : Nat → ClassId) (tT : Nat) (A : Nat → Prop) (ad : Nat → Nat) (sz : Nat) {wa wb wc we : RWt} {rg : Nat → RWt} {tx : Nat → Int32} {T : List Nat} {rh : Nat → Bool × Nat × Int} (hm : mr rg rh) (hr9 : rks rh) {i : Int} (ht9 : tr tx T) (hT9 : T.length ≤ 200) (i_1 : -2147483648 ≤ i) (i_2 : i < 2147483648) : Met l yX4_write wsX4_write ({ frames := 1, cells := 0, slots := 0, locals := 21 }) (va_Pc [.ref (ad 0), .int (iZ (i))] (wd_B D cA tT A 23 ad sz (mg cA ad wa wb wc we rg tx T.length))) (va_Qi (fun (r : Int32) (u : Nat → va_E) => r = (sp_write rh T i).1 ∧ ∃ tx1, tr tx1 (sp_write rh T i).2 ∧ (sp_write rh T i).2.length ≤ 200 ∧ u = mg cA ad wa wb wc we rg tx1 (sp_write rh T i).2.length) (wd_E D cA A 23 ad) A) 0 0 A := by
  refine Met.ofW (cc := cX4_write) (maxL := 4) (ret := (some .int)) (by decide) rfl ?_
  intro p e s m args below meth c s₁ B hml hv
  obtain ⟨rfl, hsz, hP, hK, hD, hT⟩ := hv
  have hx := B.exec
  have hb := B.bytes
  have hr := B.returns
  have hts := atoms_spec (ws := wsX4_write) B.pre
  have hown : s.vm.findClass RX4 = some m.cls := findClass_of_methodNamed B.named
  have hlocks := B.notSynchronized
  subst hsz
  have hS : va_S A s.heap s.heap [] := va_S.rf
  have in3 : ∀ w ∈ wsX30, w ∈ wsX4_write := by decide +kernel
  have in4 : ∀ w ∈ wsX40, w ∈ wsX4_write := by decide +kernel
  have hl := lv_entry ([.ref (ad 0), .int (iZ (i))]) (n := 4) (Nat.le_of_ble_eq_true rfl)
  rw [lg_entry_eq]
  generalize (lg_sl ([.ref (ad 0), .int (iZ (i))]) ++ List.replicate (4 - (lg_sl ([.ref (ad 0), .int (iZ (i))])).length) Slot.unset).toArray = ls at hl ⊢
  have hl : lv_has ls 4 [(0, .ref (ad 0)), (1, .int (iZ (i)))] := hl
  refine lv_iload_n hx hb dX4_write_0 rfl (lv_at hl 1 rfl) ?_
  refine va_calli (va_runS (As := [.int (iZ (i))]) (rest := []) ⟨hx, hb, hml, hown, hts⟩ (c_X4_is l D cA tT A 23 ad _ _ (k := i) (by omega) (by omega)) (va_cwS 1 hts gX4_write_X4_is rfl rfl rfl (by decide +kernel) ⟨Nat.le_of_ble_eq_true rfl, Nat.le_of_ble_eq_true rfl⟩) (wd_preS hP hK hD hT hS) rfl rfl hl.1 rfl (lv_room (Nat.le_of_ble_eq_true rfl)) dX4_write_1 ⟨Nat.zero_le _, Nat.zero_le _⟩) hS id_2 id_1 (fun r_ u t H locs ht hvm hw hB hz1 hk1 hS => ?_)
  refine c00 ?_
  obtain ⟨hP, hD⟩ := wd_back ht hB
  clear ht hvm hB hz1 hk1
  obtain ⟨hr_, hu_⟩ := hw
  subst hr_
  rw [hu_] at hP hD
  clear hu_
  refine bz_ne (tgt := 9) hx hb dX4_write_4 (by decide) it_lt (fun q_i => ?_) (fun q_i => ?_)
  · have g_i := it_ne q_i
    obtain ⟨i_n, h_i, rfl⟩ : ∃ n : Nat, n < 6 ∧ i = (n : Int) := ⟨i.toNat, by omega, by omega⟩
    rw [← iZ_nat i_n] at hl
    have e_i : ((i_n : Nat) : Int).toNat = i_n := Int.toNat_natCast i_n
    have m_i := hm i_n h_i
    have n_i : (rg i_n).2.1 = nd_p (rh i_n).2.1 := m_i.1.1
    have b_i : (rg i_n).2.2.1 = (rh i_n).1 := by rw [m_i.2]
    have z_i : (rg i_n).2.2.2 = (rh i_n).2.2 := by rw [m_i.2]
    have r_i := hr9 i_n h_i
    simp only [rk] at r_i
    have p_i := p190 r_i.1
    have t_i := tn_le (rh i_n).1
    have hwl := wr_len (d := rh i_n) ⟨r_i.1, r_i.2.1, r_i.2.2.1, r_i.2.2.2⟩
    have hsp : sp_write rh T (i_n : Int) = (nI (wr (rh i_n)).length, wr (rh i_n)) := by rw [sp_write, if_pos (by omega), e_i]
    have hpp := nd_p_pos (rh i_n).2.1
    refine lv_aload_n hx hb dX4_write_9 rfl (lv_at hl 0 rfl) ?_
    refine rg_4_registers hx hb hts in4 hown hK hP 0 (by decide) mg_0 (hts _ (by decide +kernel)) dX4_write_10 ?_
    refine lv_iload_n hx hb dX4_write_13 rfl (lv_at hl 1 rfl) ?_
    refine rn_q4 hx hb hK hP 1 (by decide) mg_1 (by omega) (by decide) dX4_write_14 ?_
    refine tp_v (y := .ref (ad (11 + 2 * i_n))) rfl ?_
    refine lv_astore_n (lv' := [(2, .ref (ad (11 + 2 * i_n))), (0, .ref (ad 0)), (1, .int (nI (i_n)))]) hx hb dX4_write_15 rfl hl (by decide) rfl (fun ls hl => ?_)
    refine lv_aload_n hx hb dX4_write_16 rfl (lv_at hl 1 rfl) ?_
    refine lv_iconst (v := nI (0)) hx hb dX4_write_17 (by decide) ?_
    refine rp_4_length hx hb hts in4 hown hK hP hD hS 0 (by decide) mg_0 (hts _ (by decide +kernel)) rfl rfl dX4_write_18 (fun H locs hP hD hS => ?_)
    rw [mg_L] at hP hD
    refine lv_aload_n hx hb dX4_write_21 rfl (lv_at hl 0 rfl) ?_
    refine rg_3_minus hx hb hts in3 hown hK hP (11 + 2 * i_n) (by omega) (mg_G i_n).1 (hts _ (by decide +kernel)) dX4_write_22 ?_
    refine tp_i (y := nI (((rg i_n).2.2.1).toNat)) rfl ?_
    have hP : va_P D vwCl (wm_W 23 ad (mg cA ad wa wb wc we rg tx ([] : List Nat).length)) H := hP
    have hD : va_D A (wm_W 23 ad (mg cA ad wa wb wc we rg tx ([] : List Nat).length)) := hD
    have ht := tr_nil tx
    refine tp_i (y := nI ((rh i_n).1.toNat)) (by rw [b_i]) ?_
    refine bz_eq (tgt := 34) hx hb dX4_write_25 (by decide) (by omega) (fun q1 => ?_) (fun q1 => ?_)
    · have hwr : wr (rh i_n) = (([] : List Nat) ++ fgs (rh i_n).2.1 (rh i_n).2.2 ((max ((nd_p (rh i_n).2.1 : Int) - 1) (rh i_n).2.2).toNat + 1)) ++ (if (rh i_n).2.1 = 0 then [] else List.replicate (-(rh i_n).2.2).toNat 48) := by rw [wr, tn_z q1]; rfl
      have hl2 : (([] : List Nat) ++ fgs (rh i_n).2.1 (rh i_n).2.2 ((max ((nd_p (rh i_n).2.1 : Int) - 1) (rh i_n).2.2).toNat + 1)).length ≤ 194 := by have := hwl.2; rw [tn_z q1] at this; exact this
      rw [hwr] at hwl hsp
      refine lv_aload_n hx hb dX4_write_34 rfl (lv_at hl 0 rfl) ?_
      refine rg_3_n hx hb hts in3 hown hK hP (11 + 2 * i_n) (by omega) (mg_G i_n).1 (hts _ (by decide +kernel)) dX4_write_35 ?_
      refine tp_i (y := nI ((rg i_n).2.1)) rfl ?_
      refine lv_aload_n hx hb dX4_write_38 rfl (lv_at hl 0 rfl) ?_
      refine rg_3_scale hx hb hts in3 hown hK hP (11 + 2 * i_n) (by omega) (mg_G i_n).1 (hts _ (by decide +kernel)) dX4_write_39 ?_
      refine tp_i (y := iZ ((rg i_n).2.2.2)) rfl ?_
      refine tp_i (y := iZ ((rh i_n).2.2)) (by rw [z_i]) ?_
      refine tp_i2 (y := iZ (((rg i_n).2.1 : Nat) : Int)) (iZ_nat _) ?_
      refine bs_le (tgt := 54) hx hb dX4_write_42 (by decide) (by omega) (by omega) (by omega) (by omega) (fun q2 => ?_) (fun q2 => ?_)
      · refine lv_aload_n hx hb dX4_write_54 rfl (lv_at hl 0 rfl) ?_
        refine rg_3_scale hx hb hts in3 hown hK hP (11 + 2 * i_n) (by omega) (mg_G i_n).1 (hts _ (by decide +kernel)) dX4_write_55 ?_
        refine tp_i (y := iZ ((rg i_n).2.2.2)) rfl ?_
        refine tp_i (y := nI (max ((nd_p (rh i_n).2.1 : Int) - 1) (rh i_n).2.2).toNat) (by rw [z_i, iZ_tn (by omega)]; congr 1; omega) ?_
        refine lv_istore_n (lv' := [(3, .int (nI ((max ((nd_p (rh i_n).2.1 : Int) - 1) (rh i_n).2.2).toNat))), (2, .ref (ad (11 + 2 * i_n))), (0, .ref (ad 0)), (1, .int (nI (i_n)))]) hx hb dX4_write_58 rfl hl (by decide) rfl (fun ls hl => ?_)
        refine lp_X4_write1 (rh := rh) (i_n := i_n) (F := ([] : List Nat) ++ fgs (rh i_n).2.1 (rh i_n).2.2 ((max ((nd_p (rh i_n).2.1 : Int) - 1) (rh i_n).2.2).toNat + 1)) ⟨hx, hb, hml, hown, hts⟩ hK hT (Nat.le_of_ble_eq_true rfl) (Nat.le_of_ble_eq_true rfl) hm hr9 h_i (by omega) (fun tx H locs ls ht hP hD hS hl => ?_) ((max ((nd_p (rh i_n).2.1 : Int) - 1) (rh i_n).2.2).toNat + 1) (([] : List Nat)) _ _ _ ls (by omega) rfl ht hP hD hS (lv_sub hl [0, 2, 1] rfl)
        refine lv_aload_n hx hb dX4_write_112 rfl (lv_at hl 1 rfl) ?_
        refine rg_3_scale hx hb hts in3 hown hK hP (11 + 2 * i_n) (by omega) (mg_G i_n).1 (hts _ (by decide +kernel)) dX4_write_113 ?_
        refine tp_i (y := iZ ((rg i_n).2.2.2)) rfl ?_
        refine tp_i (y := iZ ((rh i_n).2.2)) (by rw [z_i]) ?_
        by_cases hv0 : (rh i_n).2.1 = 0
        · rw [if_pos hv0, List.append_nil] at hsp hwl
          have htr := ht
          refine lv_istore_n (lv' := [(3, .int (iZ ((rh i_n).2.2))), (0, .ref (ad 0)), (2, .ref (ad (11 + 2 * i_n)))]) hx hb dX4_write_116 rfl hl (by decide) rfl (fun ls hl => ?_)
          refine lv_iload_n hx hb dX4_write_117 rfl (lv_at hl 0 rfl) ?_
          refine by_ge (tgt := 140) hx hb dX4_write_118 (by decide) (by omega) (by omega) (fun q5 => ?_) (fun q5 => ?_)
          · refine lv_aload_n hx hb dX4_write_140 rfl (lv_at hl 1 rfl) ?_
            refine rg_4_length hx hb hts in4 hown hK hP 0 (by decide) mg_0 (hts _ (by decide +kernel)) dX4_write_141 ?_
            exact W.iret hx hb hr (fun t ht hW => ⟨⟨_, _, rfl, ⟨by rw [hsp], tx, by rw [hsp]; exact htr, by rw [hsp]; exact hwl.1, by rw [hsp]⟩, wd_end hP hK hD ht hW⟩, hS.F ht⟩) hS.2.2 dX4_write_144
          · refine lv_aload_n hx hb dX4_write_121 rfl (lv_at hl 2 rfl) ?_
            refine va_calli (va_runV (As := []) (rest := []) ⟨hx, hb, hml, hown, hts⟩ (c_X3_isZero l D cA tT A 23 ad _ _ (a := 11 + 2 * i_n) (f := (rg i_n).1) (n := (rg i_n).2.1) (b := (rg i_n).2.2.1) (z := (rg i_n).2.2.2) (v := (rh i_n).2.1) (by omega) (mg_G _) m_i.1 (by omega)) (cwV 0 hts gX4_write_X3_isZero rfl rfl rfl (by decide +kernel) ⟨Nat.le_of_ble_eq_true rfl, Nat.le_of_ble_eq_true rfl⟩) (wd_preV (k := 11 + 2 * i_n) hP hK hD hT hS (by omega) (mg_G _).1 rfl) rfl rfl hl.1 rfl (lv_room (Nat.le_of_ble_eq_true rfl)) dX4_write_122 ⟨Nat.zero_le _, Nat.zero_le _⟩) hS id_2 id_1 (fun r_ u t H locs ht hvm hw hB hz1 hk1 hS => ?_)
            refine c00 ?_
            obtain ⟨hP, hD⟩ := wd_back ht hB
            clear ht hvm hB hz1 hk1
            obtain ⟨hr_, hu_⟩ := hw
            subst hr_
            rw [hu_] at hP hD
            clear hu_
            refine bz_ne (tgt := 140) hx hb dX4_write_125 (by decide) it_lt (fun q6 => ?_) (fun q6 => ?_)
            · refine lv_aload_n hx hb dX4_write_140 rfl (lv_at hl 1 rfl) ?_
              refine rg_4_length hx hb hts in4 hown hK hP 0 (by decide) mg_0 (hts _ (by decide +kernel)) dX4_write_141 ?_
              exact W.iret hx hb hr (fun t ht hW => ⟨⟨_, _, rfl, ⟨by rw [hsp], tx, by rw [hsp]; exact htr, by rw [hsp]; exact hwl.1, by rw [hsp]⟩, wd_end hP hK hD ht hW⟩, hS.F ht⟩) hS.2.2 dX4_write_144
            · exact absurd hv0 (it_eq q6)
        · rw [if_neg hv0] at hsp hwl
          refine lv_istore_n (lv' := [(3, .int (iZ ((rh i_n).2.2))), (0, .ref (ad 0)), (2, .ref (ad (11 + 2 * i_n)))]) hx hb dX4_write_116 rfl hl (by decide) rfl (fun ls hl => ?_)
          by_cases hzn : (rh i_n).2.2 < 0
          · rw [show (rh i_n).2.2 = -(((-(rh i_n).2.2).toNat : Nat) : Int) by omega] at hl
            refine lp_X4_write2 (rh := rh) (i_n := i_n) (F := ([] : List Nat) ++ fgs (rh i_n).2.1 (rh i_n).2.2 ((max ((nd_p (rh i_n).2.1 : Int) - 1) (rh i_n).2.2).toNat + 1) ++ List.replicate (-(rh i_n).2.2).toNat 48) ⟨hx, hb, hml, hown, hts⟩ hK hT (Nat.le_of_ble_eq_true rfl) (Nat.le_of_ble_eq_true rfl) hm hr9 h_i hv0 hwl.1 (fun tx H locs ls htr hP hD hS hl => ?_) (-(rh i_n).2.2).toNat (([] : List Nat) ++ fgs (rh i_n).2.1 (rh i_n).2.2 ((max ((nd_p (rh i_n).2.1 : Int) - 1) (rh i_n).2.2).toNat + 1)) _ _ _ ls (by omega) rfl ht hP hD hS (lv_sub hl [0, 1, 2] rfl)
            refine lv_aload_n hx hb dX4_write_140 rfl (lv_at hl 0 rfl) ?_
            refine rg_4_length hx hb hts in4 hown hK hP 0 (by decide) mg_0 (hts _ (by decide +kernel)) dX4_write_141 ?_
            exact W.iret hx hb hr (fun t ht hW => ⟨⟨_, _, rfl, ⟨by rw [hsp], tx, by rw [hsp]; exact htr, by rw [hsp]; exact hwl.1, by rw [hsp]⟩, wd_end hP hK hD ht hW⟩, hS.F ht⟩) hS.2.2 dX4_write_144
          · rw [show (-(rh i_n).2.2).toNat = 0 by omega, List.replicate_zero, List.append_nil] at hsp hwl
            have htr := ht
            refine lv_iload_n hx hb dX4_write_117 rfl (lv_at hl 0 rfl) ?_
            refine by_ge (tgt := 140) hx hb dX4_write_118 (by decide) (by omega) (by omega) (fun q5 => ?_) (fun q5 => ?_)
            · refine lv_aload_n hx hb dX4_write_140 rfl (lv_at hl 1 rfl) ?_
              refine rg_4_length hx hb hts in4 hown hK hP 0 (by decide) mg_0 (hts _ (by decide +kernel)) dX4_write_141 ?_
              exact W.iret hx hb hr (fun t ht hW => ⟨⟨_, _, rfl, ⟨by rw [hsp], tx, by rw [hsp]; exact htr, by rw [hsp]; exact hwl.1, by rw [hsp]⟩, wd_end hP hK hD ht hW⟩, hS.F ht⟩) hS.2.2 dX4_write_144
            · exact absurd hzn (by omega)
      · refine lv_aload_n hx hb dX4_write_45 rfl (lv_at hl 0 rfl) ?_
        refine rg_3_n hx hb hts in3 hown hK hP (11 + 2 * i_n) (by omega) (mg_G i_n).1 (hts _ (by decide +kernel)) dX4_write_46 ?_
        refine tp_i (y := nI ((rg i_n).2.1)) rfl ?_
        refine lv_iconst (v := nI (1)) hx hb dX4_write_49 (by decide) ?_
        refine lv_isub hx hb dX4_write_50 ?_
        refine tp_i (y := nI (((rg i_n).2.1) - 1)) (pk_sub (by omega)) ?_
        refine lv_goto (tgt := 58) hx hb dX4_write_51 (by decide) ?_
        refine tp_i (y := nI (max ((nd_p (rh i_n).2.1 : Int) - 1) (rh i_n).2.2).toNat) (by congr 1; omega) ?_
        refine lv_istore_n (lv' := [(3, .int (nI ((max ((nd_p (rh i_n).2.1 : Int) - 1) (rh i_n).2.2).toNat))), (2, .ref (ad (11 + 2 * i_n))), (0, .ref (ad 0)), (1, .int (nI (i_n)))]) hx hb dX4_write_58 rfl hl (by decide) rfl (fun ls hl => ?_)
        refine lp_X4_write1 (rh := rh) (i_n := i_n) (F := ([] : List Nat) ++ fgs (rh i_n).2.1 (rh i_n).2.2 ((max ((nd_p (rh i_n).2.1 : Int) - 1) (rh i_n).2.2).toNat + 1)) ⟨hx, hb, hml, hown, hts⟩ hK hT (Nat.le_of_ble_eq_true rfl) (Nat.le_of_ble_eq_true rfl) hm hr9 h_i (by omega) (fun tx H locs ls ht hP hD hS hl => ?_) ((max ((nd_p (rh i_n).2.1 : Int) - 1) (rh i_n).2.2).toNat + 1) (([] : List Nat)) _ _ _ ls (by omega) rfl ht hP hD hS (lv_sub hl [0, 2, 1] rfl)
        refine lv_aload_n hx hb dX4_write_112 rfl (lv_at hl 1 rfl) ?_
        refine rg_3_scale hx hb hts in3 hown hK hP (11 + 2 * i_n) (by omega) (mg_G i_n).1 (hts _ (by decide +kernel)) dX4_write_113 ?_
        refine tp_i (y := iZ ((rg i_n).2.2.2)) rfl ?_
        refine tp_i (y := iZ ((rh i_n).2.2)) (by rw [z_i]) ?_
        by_cases hv0 : (rh i_n).2.1 = 0
        · rw [if_pos hv0, List.append_nil] at hsp hwl
          have htr := ht
          refine lv_istore_n (lv' := [(3, .int (iZ ((rh i_n).2.2))), (0, .ref (ad 0)), (2, .ref (ad (11 + 2 * i_n)))]) hx hb dX4_write_116 rfl hl (by decide) rfl (fun ls hl => ?_)
          refine lv_iload_n hx hb dX4_write_117 rfl (lv_at hl 0 rfl) ?_
          refine by_ge (tgt := 140) hx hb dX4_write_118 (by decide) (by omega) (by omega) (fun q5 => ?_) (fun q5 => ?_)
          · refine lv_aload_n hx hb dX4_write_140 rfl (lv_at hl 1 rfl) ?_
            refine rg_4_length hx hb hts in4 hown hK hP 0 (by decide) mg_0 (hts _ (by decide +kernel)) dX4_write_141 ?_
            exact W.iret hx hb hr (fun t ht hW => ⟨⟨_, _, rfl, ⟨by rw [hsp], tx, by rw [hsp]; exact htr, by rw [hsp]; exact hwl.1, by rw [hsp]⟩, wd_end hP hK hD ht hW⟩, hS.F ht⟩) hS.2.2 dX4_write_144
          · refine lv_aload_n hx hb dX4_write_121 rfl (lv_at hl 2 rfl) ?_
            refine va_calli (va_runV (As := []) (rest := []) ⟨hx, hb, hml, hown, hts⟩ (c_X3_isZero l D cA tT A 23 ad _ _ (a := 11 + 2 * i_n) (f := (rg i_n).1) (n := (rg i_n).2.1) (b := (rg i_n).2.2.1) (z := (rg i_n).2.2.2) (v := (rh i_n).2.1) (by omega) (mg_G _) m_i.1 (by omega)) (cwV 0 hts gX4_write_X3_isZero rfl rfl rfl (by decide +kernel) ⟨Nat.le_of_ble_eq_true rfl, Nat.le_of_ble_eq_true rfl⟩) (wd_preV (k := 11 + 2 * i_n) hP hK hD hT hS (by omega) (mg_G _).1 rfl) rfl rfl hl.1 rfl (lv_room (Nat.le_of_ble_eq_true rfl)) dX4_write_122 ⟨Nat.zero_le _, Nat.zero_le _⟩) hS id_2 id_1 (fun r_ u t H locs ht hvm hw hB hz1 hk1 hS => ?_)
            refine c00 ?_
            obtain ⟨hP, hD⟩ := wd_back ht hB
            clear ht hvm hB hz1 hk1
            obtain ⟨hr_, hu_⟩ := hw
            subst hr_
            rw [hu_] at hP hD
            clear hu_
            refine bz_ne (tgt := 140) hx hb dX4_write_125 (by decide) it_lt (fun q6 => ?_) (fun q6 => ?_)
            · refine lv_aload_n hx hb dX4_write_140 rfl (lv_at hl 1 rfl) ?_
              refine rg_4_length hx hb hts in4 hown hK hP 0 (by decide) mg_0 (hts _ (by decide +kernel)) dX4_write_141 ?_
              exact W.iret hx hb hr (fun t ht hW => ⟨⟨_, _, rfl, ⟨by rw [hsp], tx, by rw [hsp]; exact htr, by rw [hsp]; exact hwl.1, by rw [hsp]⟩, wd_end hP hK hD ht hW⟩, hS.F ht⟩) hS.2.2 dX4_write_144
            · exact absurd hv0 (it_eq q6)
        · rw [if_neg hv0] at hsp hwl
          refine lv_istore_n (lv' := [(3, .int (iZ ((rh i_n).2.2))), (0, .ref (ad 0)), (2, .ref (ad (11 + 2 * i_n)))]) hx hb dX4_write_116 rfl hl (by decide) rfl (fun ls hl => ?_)
          by_cases hzn : (rh i_n).2.2 < 0
          · rw [show (rh i_n).2.2 = -(((-(rh i_n).2.2).toNat : Nat) : Int) by omega] at hl
            refine lp_X4_write2 (rh := rh) (i_n := i_n) (F := ([] : List Nat) ++ fgs (rh i_n).2.1 (rh i_n).2.2 ((max ((nd_p (rh i_n).2.1 : Int) - 1) (rh i_n).2.2).toNat + 1) ++ List.replicate (-(rh i_n).2.2).toNat 48) ⟨hx, hb, hml, hown, hts⟩ hK hT (Nat.le_of_ble_eq_true rfl) (Nat.le_of_ble_eq_true rfl) hm hr9 h_i hv0 hwl.1 (fun tx H locs ls htr hP hD hS hl => ?_) (-(rh i_n).2.2).toNat (([] : List Nat) ++ fgs (rh i_n).2.1 (rh i_n).2.2 ((max ((nd_p (rh i_n).2.1 : Int) - 1) (rh i_n).2.2).toNat + 1)) _ _ _ ls (by omega) rfl ht hP hD hS (lv_sub hl [0, 1, 2] rfl)
            refine lv_aload_n hx hb dX4_write_140 rfl (lv_at hl 0 rfl) ?_
            refine rg_4_length hx hb hts in4 hown hK hP 0 (by decide) mg_0 (hts _ (by decide +kernel)) dX4_write_141 ?_
            exact W.iret hx hb hr (fun t ht hW => ⟨⟨_, _, rfl, ⟨by rw [hsp], tx, by rw [hsp]; exact htr, by rw [hsp]; exact hwl.1, by rw [hsp]⟩, wd_end hP hK hD ht hW⟩, hS.F ht⟩) hS.2.2 dX4_write_144
          · rw [show (-(rh i_n).2.2).toNat = 0 by omega, List.replicate_zero, List.append_nil] at hsp hwl
            have htr := ht
            refine lv_iload_n hx hb dX4_write_117 rfl (lv_at hl 0 rfl) ?_
            refine by_ge (tgt := 140) hx hb dX4_write_118 (by decide) (by omega) (by omega) (fun q5 => ?_) (fun q5 => ?_)
            · refine lv_aload_n hx hb dX4_write_140 rfl (lv_at hl 1 rfl) ?_
              refine rg_4_length hx hb hts in4 hown hK hP 0 (by decide) mg_0 (hts _ (by decide +kernel)) dX4_write_141 ?_
              exact W.iret hx hb hr (fun t ht hW => ⟨⟨_, _, rfl, ⟨by rw [hsp], tx, by rw [hsp]; exact htr, by rw [hsp]; exact hwl.1, by rw [hsp]⟩, wd_end hP hK hD ht hW⟩, hS.F ht⟩) hS.2.2 dX4_write_144
            · exact absurd hzn (by omega)
    · refine lv_aload_n hx hb dX4_write_28 rfl (lv_at hl 1 rfl) ?_
      refine lv_bipush (v := nI (45)) hx hb dX4_write_29 (by decide) ?_
      refine va_callv (va_runV (As := [.int (nI (45))]) (rest := []) ⟨hx, hb, hml, hown, hts⟩ (c_X4_sign l D cA tT A ad _ (wa := wa) (wb := wb) (wc := wc) (we := we) (rg := rg) (tx := tx) (T := ([] : List Nat)) (q := 45) (by decide)) (cwV 1 hts gX4_write_X4_sign rfl rfl rfl (by decide +kernel) ⟨Nat.le_of_ble_eq_true rfl, Nat.le_of_ble_eq_true rfl⟩) (wd_preV (k := 0) hP hK hD hT hS (by decide) mg_0 rfl) rfl rfl hl.1 rfl (lv_room (Nat.le_of_ble_eq_true rfl)) dX4_write_31 ⟨Nat.zero_le _, Nat.zero_le _⟩) hS id_2 id_1 (fun u t H locs ht hvm hw hB hz1 hk1 hS => ?_)
      refine c00 ?_
      obtain ⟨hP, hD⟩ := wd_back ht hB
      clear ht hvm hB hz1 hk1
      rw [hw] at hP hD
      clear hw
      have ht := tr_ap (q := 45) ht
      rw [← len1 (([] : List Nat)) (45)] at hP hD
      have hwr : wr (rh i_n) = ((([] : List Nat) ++ [45]) ++ fgs (rh i_n).2.1 (rh i_n).2.2 ((max ((nd_p (rh i_n).2.1 : Int) - 1) (rh i_n).2.2).toNat + 1)) ++ (if (rh i_n).2.1 = 0 then [] else List.replicate (-(rh i_n).2.2).toNat 48) := by rw [wr, tn_nz q1]; rfl
      have hl2 : ((([] : List Nat) ++ [45]) ++ fgs (rh i_n).2.1 (rh i_n).2.2 ((max ((nd_p (rh i_n).2.1 : Int) - 1) (rh i_n).2.2).toNat + 1)).length ≤ 194 := by have := hwl.2; rw [tn_nz q1] at this; exact this
      rw [hwr] at hwl hsp
      refine lv_aload_n hx hb dX4_write_34 rfl (lv_at hl 0 rfl) ?_
      refine rg_3_n hx hb hts in3 hown hK hP (11 + 2 * i_n) (by omega) (mg_G i_n).1 (hts _ (by decide +kernel)) dX4_write_35 ?_
      refine tp_i (y := nI ((rg i_n).2.1)) rfl ?_
      refine lv_aload_n hx hb dX4_write_38 rfl (lv_at hl 0 rfl) ?_
      refine rg_3_scale hx hb hts in3 hown hK hP (11 + 2 * i_n) (by omega) (mg_G i_n).1 (hts _ (by decide +kernel)) dX4_write_39 ?_
      refine tp_i (y := iZ ((rg i_n).2.2.2)) rfl ?_
      refine tp_i (y := iZ ((rh i_n).2.2)) (by rw [z_i]) ?_
      refine tp_i2 (y := iZ (((rg i_n).2.1 : Nat) : Int)) (iZ_nat _) ?_
      refine bs_le (tgt := 54) hx hb dX4_write_42 (by decide) (by omega) (by omega) (by omega) (by omega) (fun q2 => ?_) (fun q2 => ?_)
      · refine lv_aload_n hx hb dX4_write_54 rfl (lv_at hl 0 rfl) ?_
        refine rg_3_scale hx hb hts in3 hown hK hP (11 + 2 * i_n) (by omega) (mg_G i_n).1 (hts _ (by decide +kernel)) dX4_write_55 ?_
        refine tp_i (y := iZ ((rg i_n).2.2.2)) rfl ?_
        refine tp_i (y := nI (max ((nd_p (rh i_n).2.1 : Int) - 1) (rh i_n).2.2).toNat) (by rw [z_i, iZ_tn (by omega)]; congr 1; omega) ?_
        refine lv_istore_n (lv' := [(3, .int (nI ((max ((nd_p (rh i_n).2.1 : Int) - 1) (rh i_n).2.2).toNat))), (2, .ref (ad (11 + 2 * i_n))), (0, .ref (ad 0)), (1, .int (nI (i_n)))]) hx hb dX4_write_58 rfl hl (by decide) rfl (fun ls hl => ?_)
        refine lp_X4_write1 (rh := rh) (i_n := i_n) (F := (([] : List Nat) ++ [45]) ++ fgs (rh i_n).2.1 (rh i_n).2.2 ((max ((nd_p (rh i_n).2.1 : Int) - 1) (rh i_n).2.2).toNat + 1)) ⟨hx, hb, hml, hown, hts⟩ hK hT (Nat.le_of_ble_eq_true rfl) (Nat.le_of_ble_eq_true rfl) hm hr9 h_i (by omega) (fun tx H locs ls ht hP hD hS hl => ?_) ((max ((nd_p (rh i_n).2.1 : Int) - 1) (rh i_n).2.2).toNat + 1) ((([] : List Nat) ++ [45])) _ _ _ ls (by omega) rfl ht hP hD hS (lv_sub hl [0, 2, 1] rfl)
        refine lv_aload_n hx hb dX4_write_112 rfl (lv_at hl 1 rfl) ?_
        refine rg_3_scale hx hb hts in3 hown hK hP (11 + 2 * i_n) (by omega) (mg_G i_n).1 (hts _ (by decide +kernel)) dX4_write_113 ?_
        refine tp_i (y := iZ ((rg i_n).2.2.2)) rfl ?_
        refine tp_i (y := iZ ((rh i_n).2.2)) (by rw [z_i]) ?_
        by_cases hv0 : (rh i_n).2.1 = 0
        · rw [if_pos hv0, List.append_nil] at hsp hwl
          have htr := ht
          refine lv_istore_n (lv' := [(3, .int (iZ ((rh i_n).2.2))), (0, .ref (ad 0)), (2, .ref (ad (11 + 2 * i_n)))]) hx hb dX4_write_116 rfl hl (by decide) rfl (fun ls hl => ?_)
          refine lv_iload_n hx hb dX4_write_117 rfl (lv_at hl 0 rfl) ?_
          refine by_ge (tgt := 140) hx hb dX4_write_118 (by decide) (by omega) (by omega) (fun q5 => ?_) (fun q5 => ?_)
          · refine lv_aload_n hx hb dX4_write_140 rfl (lv_at hl 1 rfl) ?_
            refine rg_4_length hx hb hts in4 hown hK hP 0 (by decide) mg_0 (hts _ (by decide +kernel)) dX4_write_141 ?_
            exact W.iret hx hb hr (fun t ht hW => ⟨⟨_, _, rfl, ⟨by rw [hsp], tx, by rw [hsp]; exact htr, by rw [hsp]; exact hwl.1, by rw [hsp]⟩, wd_end hP hK hD ht hW⟩, hS.F ht⟩) hS.2.2 dX4_write_144
          · refine lv_aload_n hx hb dX4_write_121 rfl (lv_at hl 2 rfl) ?_
            refine va_calli (va_runV (As := []) (rest := []) ⟨hx, hb, hml, hown, hts⟩ (c_X3_isZero l D cA tT A 23 ad _ _ (a := 11 + 2 * i_n) (f := (rg i_n).1) (n := (rg i_n).2.1) (b := (rg i_n).2.2.1) (z := (rg i_n).2.2.2) (v := (rh i_n).2.1) (by omega) (mg_G _) m_i.1 (by omega)) (cwV 0 hts gX4_write_X3_isZero rfl rfl rfl (by decide +kernel) ⟨Nat.le_of_ble_eq_true rfl, Nat.le_of_ble_eq_true rfl⟩) (wd_preV (k := 11 + 2 * i_n) hP hK hD hT hS (by omega) (mg_G _).1 rfl) rfl rfl hl.1 rfl (lv_room (Nat.le_of_ble_eq_true rfl)) dX4_write_122 ⟨Nat.zero_le _, Nat.zero_le _⟩) hS id_2 id_1 (fun r_ u t H locs ht hvm hw hB hz1 hk1 hS => ?_)
            refine c00 ?_
            obtain ⟨hP, hD⟩ := wd_back ht hB
            clear ht hvm hB hz1 hk1
            obtain ⟨hr_, hu_⟩ := hw
            subst hr_
            rw [hu_] at hP hD
            clear hu_
            refine bz_ne (tgt := 140) hx hb dX4_write_125 (by decide) it_lt (fun q6 => ?_) (fun q6 => ?_)
            · refine lv_aload_n hx hb dX4_write_140 rfl (lv_at hl 1 rfl) ?_
              refine rg_4_length hx hb hts in4 hown hK hP 0 (by decide) mg_0 (hts _ (by decide +kernel)) dX4_write_141 ?_
              exact W.iret hx hb hr (fun t ht hW => ⟨⟨_, _, rfl, ⟨by rw [hsp], tx, by rw [hsp]; exact htr, by rw [hsp]; exact hwl.1, by rw [hsp]⟩, wd_end hP hK hD ht hW⟩, hS.F ht⟩) hS.2.2 dX4_write_144
            · exact absurd hv0 (it_eq q6)
        · rw [if_neg hv0] at hsp hwl
          refine lv_istore_n (lv' := [(3, .int (iZ ((rh i_n).2.2))), (0, .ref (ad 0)), (2, .ref (ad (11 + 2 * i_n)))]) hx hb dX4_write_116 rfl hl (by decide) rfl (fun ls hl => ?_)
          by_cases hzn : (rh i_n).2.2 < 0
          · rw [show (rh i_n).2.2 = -(((-(rh i_n).2.2).toNat : Nat) : Int) by omega] at hl
            refine lp_X4_write2 (rh := rh) (i_n := i_n) (F := (([] : List Nat) ++ [45]) ++ fgs (rh i_n).2.1 (rh i_n).2.2 ((max ((nd_p (rh i_n).2.1 : Int) - 1) (rh i_n).2.2).toNat + 1) ++ List.replicate (-(rh i_n).2.2).toNat 48) ⟨hx, hb, hml, hown, hts⟩ hK hT (Nat.le_of_ble_eq_true rfl) (Nat.le_of_ble_eq_true rfl) hm hr9 h_i hv0 hwl.1 (fun tx H locs ls htr hP hD hS hl => ?_) (-(rh i_n).2.2).toNat ((([] : List Nat) ++ [45]) ++ fgs (rh i_n).2.1 (rh i_n).2.2 ((max ((nd_p (rh i_n).2.1 : Int) - 1) (rh i_n).2.2).toNat + 1)) _ _ _ ls (by omega) rfl ht hP hD hS (lv_sub hl [0, 1, 2] rfl)
            refine lv_aload_n hx hb dX4_write_140 rfl (lv_at hl 0 rfl) ?_
            refine rg_4_length hx hb hts in4 hown hK hP 0 (by decide) mg_0 (hts _ (by decide +kernel)) dX4_write_141 ?_
            exact W.iret hx hb hr (fun t ht hW => ⟨⟨_, _, rfl, ⟨by rw [hsp], tx, by rw [hsp]; exact htr, by rw [hsp]; exact hwl.1, by rw [hsp]⟩, wd_end hP hK hD ht hW⟩, hS.F ht⟩) hS.2.2 dX4_write_144
          · rw [show (-(rh i_n).2.2).toNat = 0 by omega, List.replicate_zero, List.append_nil] at hsp hwl
            have htr := ht
            refine lv_iload_n hx hb dX4_write_117 rfl (lv_at hl 0 rfl) ?_
            refine by_ge (tgt := 140) hx hb dX4_write_118 (by decide) (by omega) (by omega) (fun q5 => ?_) (fun q5 => ?_)
            · refine lv_aload_n hx hb dX4_write_140 rfl (lv_at hl 1 rfl) ?_
              refine rg_4_length hx hb hts in4 hown hK hP 0 (by decide) mg_0 (hts _ (by decide +kernel)) dX4_write_141 ?_
              exact W.iret hx hb hr (fun t ht hW => ⟨⟨_, _, rfl, ⟨by rw [hsp], tx, by rw [hsp]; exact htr, by rw [hsp]; exact hwl.1, by rw [hsp]⟩, wd_end hP hK hD ht hW⟩, hS.F ht⟩) hS.2.2 dX4_write_144
            · exact absurd hzn (by omega)
      · refine lv_aload_n hx hb dX4_write_45 rfl (lv_at hl 0 rfl) ?_
        refine rg_3_n hx hb hts in3 hown hK hP (11 + 2 * i_n) (by omega) (mg_G i_n).1 (hts _ (by decide +kernel)) dX4_write_46 ?_
        refine tp_i (y := nI ((rg i_n).2.1)) rfl ?_
        refine lv_iconst (v := nI (1)) hx hb dX4_write_49 (by decide) ?_
        refine lv_isub hx hb dX4_write_50 ?_
        refine tp_i (y := nI (((rg i_n).2.1) - 1)) (pk_sub (by omega)) ?_
        refine lv_goto (tgt := 58) hx hb dX4_write_51 (by decide) ?_
        refine tp_i (y := nI (max ((nd_p (rh i_n).2.1 : Int) - 1) (rh i_n).2.2).toNat) (by congr 1; omega) ?_
        refine lv_istore_n (lv' := [(3, .int (nI ((max ((nd_p (rh i_n).2.1 : Int) - 1) (rh i_n).2.2).toNat))), (2, .ref (ad (11 + 2 * i_n))), (0, .ref (ad 0)), (1, .int (nI (i_n)))]) hx hb dX4_write_58 rfl hl (by decide) rfl (fun ls hl => ?_)
        refine lp_X4_write1 (rh := rh) (i_n := i_n) (F := (([] : List Nat) ++ [45]) ++ fgs (rh i_n).2.1 (rh i_n).2.2 ((max ((nd_p (rh i_n).2.1 : Int) - 1) (rh i_n).2.2).toNat + 1)) ⟨hx, hb, hml, hown, hts⟩ hK hT (Nat.le_of_ble_eq_true rfl) (Nat.le_of_ble_eq_true rfl) hm hr9 h_i (by omega) (fun tx H locs ls ht hP hD hS hl => ?_) ((max ((nd_p (rh i_n).2.1 : Int) - 1) (rh i_n).2.2).toNat + 1) ((([] : List Nat) ++ [45])) _ _ _ ls (by omega) rfl ht hP hD hS (lv_sub hl [0, 2, 1] rfl)
        refine lv_aload_n hx hb dX4_write_112 rfl (lv_at hl 1 rfl) ?_
        refine rg_3_scale hx hb hts in3 hown hK hP (11 + 2 * i_n) (by omega) (mg_G i_n).1 (hts _ (by decide +kernel)) dX4_write_113 ?_
        refine tp_i (y := iZ ((rg i_n).2.2.2)) rfl ?_
        refine tp_i (y := iZ ((rh i_n).2.2)) (by rw [z_i]) ?_
        by_cases hv0 : (rh i_n).2.1 = 0
        · rw [if_pos hv0, List.append_nil] at hsp hwl
          have htr := ht
          refine lv_istore_n (lv' := [(3, .int (iZ ((rh i_n).2.2))), (0, .ref (ad 0)), (2, .ref (ad (11 + 2 * i_n)))]) hx hb dX4_write_116 rfl hl (by decide) rfl (fun ls hl => ?_)
          refine lv_iload_n hx hb dX4_write_117 rfl (lv_at hl 0 rfl) ?_
          refine by_ge (tgt := 140) hx hb dX4_write_118 (by decide) (by omega) (by omega) (fun q5 => ?_) (fun q5 => ?_)
          · refine lv_aload_n hx hb dX4_write_140 rfl (lv_at hl 1 rfl) ?_
            refine rg_4_length hx hb hts in4 hown hK hP 0 (by decide) mg_0 (hts _ (by decide +kernel)) dX4_write_141 ?_
            exact W.iret hx hb hr (fun t ht hW => ⟨⟨_, _, rfl, ⟨by rw [hsp], tx, by rw [hsp]; exact htr, by rw [hsp]; exact hwl.1, by rw [hsp]⟩, wd_end hP hK hD ht hW⟩, hS.F ht⟩) hS.2.2 dX4_write_144
          · refine lv_aload_n hx hb dX4_write_121 rfl (lv_at hl 2 rfl) ?_
            refine va_calli (va_runV (As := []) (rest := []) ⟨hx, hb, hml, hown, hts⟩ (c_X3_isZero l D cA tT A 23 ad _ _ (a := 11 + 2 * i_n) (f := (rg i_n).1) (n := (rg i_n).2.1) (b := (rg i_n).2.2.1) (z := (rg i_n).2.2.2) (v := (rh i_n).2.1) (by omega) (mg_G _) m_i.1 (by omega)) (cwV 0 hts gX4_write_X3_isZero rfl rfl rfl (by decide +kernel) ⟨Nat.le_of_ble_eq_true rfl, Nat.le_of_ble_eq_true rfl⟩) (wd_preV (k := 11 + 2 * i_n) hP hK hD hT hS (by omega) (mg_G _).1 rfl) rfl rfl hl.1 rfl (lv_room (Nat.le_of_ble_eq_true rfl)) dX4_write_122 ⟨Nat.zero_le _, Nat.zero_le _⟩) hS id_2 id_1 (fun r_ u t H locs ht hvm hw hB hz1 hk1 hS => ?_)
            refine c00 ?_
            obtain ⟨hP, hD⟩ := wd_back ht hB
            clear ht hvm hB hz1 hk1
            obtain ⟨hr_, hu_⟩ := hw
            subst hr_
            rw [hu_] at hP hD
            clear hu_
            refine bz_ne (tgt := 140) hx hb dX4_write_125 (by decide) it_lt (fun q6 => ?_) (fun q6 => ?_)
            · refine lv_aload_n hx hb dX4_write_140 rfl (lv_at hl 1 rfl) ?_
              refine rg_4_length hx hb hts in4 hown hK hP 0 (by decide) mg_0 (hts _ (by decide +kernel)) dX4_write_141 ?_
              exact W.iret hx hb hr (fun t ht hW => ⟨⟨_, _, rfl, ⟨by rw [hsp], tx, by rw [hsp]; exact htr, by rw [hsp]; exact hwl.1, by rw [hsp]⟩, wd_end hP hK hD ht hW⟩, hS.F ht⟩) hS.2.2 dX4_write_144
            · exact absurd hv0 (it_eq q6)
        · rw [if_neg hv0] at hsp hwl
          refine lv_istore_n (lv' := [(3, .int (iZ ((rh i_n).2.2))), (0, .ref (ad 0)), (2, .ref (ad (11 + 2 * i_n)))]) hx hb dX4_write_116 rfl hl (by decide) rfl (fun ls hl => ?_)
          by_cases hzn : (rh i_n).2.2 < 0
          · rw [show (rh i_n).2.2 = -(((-(rh i_n).2.2).toNat : Nat) : Int) by omega] at hl
            refine lp_X4_write2 (rh := rh) (i_n := i_n) (F := (([] : List Nat) ++ [45]) ++ fgs (rh i_n).2.1 (rh i_n).2.2 ((max ((nd_p (rh i_n).2.1 : Int) - 1) (rh i_n).2.2).toNat + 1) ++ List.replicate (-(rh i_n).2.2).toNat 48) ⟨hx, hb, hml, hown, hts⟩ hK hT (Nat.le_of_ble_eq_true rfl) (Nat.le_of_ble_eq_true rfl) hm hr9 h_i hv0 hwl.1 (fun tx H locs ls htr hP hD hS hl => ?_) (-(rh i_n).2.2).toNat ((([] : List Nat) ++ [45]) ++ fgs (rh i_n).2.1 (rh i_n).2.2 ((max ((nd_p (rh i_n).2.1 : Int) - 1) (rh i_n).2.2).toNat + 1)) _ _ _ ls (by omega) rfl ht hP hD hS (lv_sub hl [0, 1, 2] rfl)
            refine lv_aload_n hx hb dX4_write_140 rfl (lv_at hl 0 rfl) ?_
            refine rg_4_length hx hb hts in4 hown hK hP 0 (by decide) mg_0 (hts _ (by decide +kernel)) dX4_write_141 ?_
            exact W.iret hx hb hr (fun t ht hW => ⟨⟨_, _, rfl, ⟨by rw [hsp], tx, by rw [hsp]; exact htr, by rw [hsp]; exact hwl.1, by rw [hsp]⟩, wd_end hP hK hD ht hW⟩, hS.F ht⟩) hS.2.2 dX4_write_144
          · rw [show (-(rh i_n).2.2).toNat = 0 by omega, List.replicate_zero, List.append_nil] at hsp hwl
            have htr := ht
            refine lv_iload_n hx hb dX4_write_117 rfl (lv_at hl 0 rfl) ?_
            refine by_ge (tgt := 140) hx hb dX4_write_118 (by decide) (by omega) (by omega) (fun q5 => ?_) (fun q5 => ?_)
            · refine lv_aload_n hx hb dX4_write_140 rfl (lv_at hl 1 rfl) ?_
              refine rg_4_length hx hb hts in4 hown hK hP 0 (by decide) mg_0 (hts _ (by decide +kernel)) dX4_write_141 ?_
              exact W.iret hx hb hr (fun t ht hW => ⟨⟨_, _, rfl, ⟨by rw [hsp], tx, by rw [hsp]; exact htr, by rw [hsp]; exact hwl.1, by rw [hsp]⟩, wd_end hP hK hD ht hW⟩, hS.F ht⟩) hS.2.2 dX4_write_144
            · exact absurd hzn (by omega)
  · have g_i := it_eq q_i
    refine lv_iconst (v := iZ (-1)) hx hb dX4_write_7 (by decide) ?_
    exact W.iret (v := iZ (-1)) hx hb hr (fun t ht hW => ⟨⟨iZ (-1), _, rfl, ⟨by rw [sp_write, if_neg (by omega)], tx, by rw [sp_write, if_neg (by omega)]; exact ht9, by rw [sp_write, if_neg (by omega)]; exact hT9, by rw [sp_write, if_neg (by omega)]⟩, wd_end hP hK hD ht hW⟩, hS.F ht⟩) hS.2.2 dX4_write_8
