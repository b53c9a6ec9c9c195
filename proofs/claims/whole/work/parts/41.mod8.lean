set_option maxHeartbeats 4000000 in
set_option maxRecDepth 100000 in
theorem lp_X4_push1 {p : Program} {l : Launch} {e : Env} {R : Room} {s : State} {m : MethodId} {args : Array Value} {below : List Frame} {meth : Method} {c : Code} {Q : State → Prop} {D : va_G} {cA : Nat → ClassId} {tT : Nat} {A : Nat → Prop} {ad : Nat → Nat} {wb wc we : RWt} {rg : Nat → RWt} {tx : Nat → Int32} {tl : Nat} {f9 : Nat → Int32} {n9 k_n V : Nat} {b9 : Bool} {z9 : Int} {nn : Bool} (S : CallFix p m c cX4_push 9 s args wsX4_push RX4) (hK : va_K D vwCl (ty_s cA) s) (hT : st_T tT A s s.heap) (hF : n9 + 18 ≤ 800) (kk : ∀ (f' : Nat → Int32) (H : Heap) (locs : List Loc) (ls : Array Slot), (∀ j, 18 ≤ j → j < n9 + 18 → f' j = f9 (j - 18)) → va_P D vwCl (wm_W 23 ad (mg cA ad (f', n9, b9, z9) wb wc we rg tx tl)) H → va_D A (wm_W 23 ad (mg cA ad (f', n9, b9, z9) wb wc we rg tx tl)) → va_S A s.heap H locs → lv_has ls 9 [(0, .ref (ad 0)), (1, .int (nI (k_n))), (2, .long (lZ (sg nn V)))] → W p l e R s m args below meth c H locs 0 0 Q (F0 m 67 ls [])) :
    ∀ (k : Nat) (f' : Nat → Int32) (H : Heap) (locs : List Loc) (ls : Array Slot), k ≤ n9 → (∀ j, k + 18 ≤ j → j < n9 + 18 → f' j = f9 (j - 18)) → (∀ j, j < k → f' j = f9 j) → va_P D vwCl (wm_W 23 ad (mg cA ad (f', n9, b9, z9) wb wc we rg tx tl)) H → va_D A (wm_W 23 ad (mg cA ad (f', n9, b9, z9) wb wc we rg tx tl)) → va_S A s.heap H locs → lv_has ls 9 [(4, .int (dn k)), (0, .ref (ad 0)), (1, .int (nI (k_n))), (2, .long (lZ (sg nn V)))] → W p l e R s m args below meth c H locs 0 0 Q (F0 m 33 ls []) := by
  obtain ⟨hx, hb, hml, hown, hts⟩ := S
  have in3 : ∀ w ∈ wsX30, w ∈ wsX4_push := by decide +kernel
  have in4 : ∀ w ∈ wsX40, w ∈ wsX4_push := by decide +kernel
  intro k
  induction k with
  | zero =>
    intro f' H locs ls hk h1 h2 hP hD hS hl
    refine lv_iload hx hb dX4_push_33 (lv_at hl 0 rfl) ?_
    refine by_lt (tgt := 67) hx hb dX4_push_35 (by decide) (by omega) (by omega) (fun q => ?_) (fun q => ?_)
    · exact kk f' H locs ls (fun j hj hj2 => h1 j (by omega) hj2) hP hD hS (lv_sub hl [1, 2, 3] rfl)
    · exact absurd (by decide) q
  | succ k ih =>
    intro f' H locs ls hk h1 h2 hP hD hS hl
    refine lv_iload hx hb dX4_push_33 (lv_at hl 0 rfl) ?_
    refine bz_lt (tgt := 67) hx hb dX4_push_35 (by decide) (by omega) (fun q => ?_) (fun q => ?_)
    · exact absurd q (Nat.not_lt_zero _)
    · refine lv_aload_n hx hb dX4_push_38 rfl (lv_at hl 1 rfl) ?_
      refine rg_4_a hx hb hts in4 hown hK hP 0 (by decide) mg_0 (hts _ (by decide +kernel)) dX4_push_39 ?_
      refine rg_3_d hx hb hts in3 hown hK hP 3 (by omega) mg_A.1 (hts _ (by decide +kernel)) dX4_push_42 ?_
      refine lv_iload hx hb dX4_push_45 (lv_at hl 0 rfl) ?_
      refine lv_bipush (v := nI (18)) hx hb dX4_push_47 (by decide) ?_
      refine lv_iadd hx hb dX4_push_49 ?_
      refine tp_i (y := nI (k + 18)) (nI_add _ _) ?_
      refine lv_aload_n hx hb dX4_push_50 rfl (lv_at hl 1 rfl) ?_
      refine rg_4_a hx hb hts in4 hown hK hP 0 (by decide) mg_0 (hts _ (by decide +kernel)) dX4_push_51 ?_
      refine rg_3_d hx hb hts in3 hown hK hP 3 (by omega) mg_A.1 (hts _ (by decide +kernel)) dX4_push_54 ?_
      refine lv_iload hx hb dX4_push_57 (lv_at hl 0 rfl) ?_
      refine rn_i hx hb hK hP (3 + 1) (by omega) mg_A.2 (by omega) (by decide) dX4_push_59 ?_
      refine tp_i (y := f9 k) (h2 k (by omega)) ?_
      refine rt_i hx hb hK hP hD hS (3 + 1) (by omega) mg_A.2 (by omega) (by decide) dX4_push_60 (fun H locs hP hD hS => ?_)
      rw [mg_sa] at hP hD
      refine lv_iinc (v := dn k) (lv' := [(4, .int (dn k)), (0, .ref (ad 0)), (1, .int (nI (k_n))), (2, .long (lZ (sg nn V)))]) hx hb dX4_push_61 hl (k := 0) rfl (dn_dec k) (by decide) rfl (fun ls hl => ?_)
      refine lv_goto (tgt := 33) hx hb dX4_push_64 (by decide) ?_
      refine ih _ H locs ls (by omega) (fun j hj hj2 => ?_) (fun j hj => ?_) hP hD hS hl
      · rcases Nat.lt_or_ge (k + 18) j with r | r
        · rw [pk_un (by omega)]; exact h1 j (by omega) hj2
        · obtain rfl : j = k + 18 := by omega
          rw [pk_us, show k + 18 - 18 = k by omega]
      · rw [pk_un (by omega)]; exact h2 j (by omega)
set_option maxHeartbeats 4000000 in
set_option maxRecDepth 100000 in
theorem lp_X4_push2 {p : Program} {l : Launch} {e : Env} {R : Room} {s : State} {m : MethodId} {args : Array Value} {below : List Frame} {meth : Method} {c : Code} {Q : State → Prop} {D : va_G} {cA : Nat → ClassId} {tT : Nat} {A : Nat → Prop} {ad : Nat → Nat} {wb wc we : RWt} {rg : Nat → RWt} {tx : Nat → Int32} {tl : Nat} {f9 : Nat → Int32} {n9 k_n V : Nat} {b9 : Bool} {z9 : Int} {nn : Bool} (S : CallFix p m c cX4_push 9 s args wsX4_push RX4) (hK : va_K D vwCl (ty_s cA) s) (hT : st_T tT A s s.heap) (hF : n9 + 18 ≤ 800) (hV1 : -9223372036854775808 ≤ sg nn V) (hV2 : sg nn V < 9223372036854775808) (kk : ∀ (f' : Nat → Int32) (H : Heap) (locs : List Loc) (ls : Array Slot), (∀ j, 18 ≤ j → j < n9 + 18 → f' j = f9 (j - 18)) → (∀ j, j < 18 → f' j = nI (V / 10 ^ j % 10)) → va_P D vwCl (wm_W 23 ad (mg cA ad (f', n9 + 18, b9, z9) wb wc we rg tx tl)) H → va_D A (wm_W 23 ad (mg cA ad (f', n9 + 18, b9, z9) wb wc we rg tx tl)) → va_S A s.heap H locs → lv_has ls 9 [(0, .ref (ad 0)), (1, .int (nI (k_n)))] → W p l e R s m args below meth c H locs 0 0 Q (F0 m 142 ls [])) :
    ∀ (k c9 : Nat) (f' : Nat → Int32) (H : Heap) (locs : List Loc) (ls : Array Slot), c9 + k = 18 → (∀ j, 18 ≤ j → j < n9 + 18 → f' j = f9 (j - 18)) → (∀ j, j < c9 → f' j = nI (V / 10 ^ j % 10)) → va_P D vwCl (wm_W 23 ad (mg cA ad (f', n9 + 18, b9, z9) wb wc we rg tx tl)) H → va_D A (wm_W 23 ad (mg cA ad (f', n9 + 18, b9, z9) wb wc we rg tx tl)) → va_S A s.heap H locs → lv_has ls 9 [(6, .int (nI (c9))), (4, .long (lZ (sg nn (V / 10 ^ c9)))), (0, .ref (ad 0)), (1, .int (nI (k_n)))] → W p l e R s m args below meth c H locs 0 0 Q (F0 m 87 ls []) := by
  obtain ⟨hx, hb, hml, hown, hts⟩ := S
  have in3 : ∀ w ∈ wsX30, w ∈ wsX4_push := by decide +kernel
  have in4 : ∀ w ∈ wsX40, w ∈ wsX4_push := by decide +kernel
  intro k
  induction k with
  | zero =>
    intro c9 f' H locs ls hn h1 h2 hP hD hS hl
    refine lv_iload hx hb dX4_push_87 (lv_at hl 0 rfl) ?_
    refine lv_bipush (v := nI (18)) hx hb dX4_push_89 (by decide) ?_
    refine bi_ge (tgt := 142) hx hb dX4_push_91 (by decide) (by omega) (by omega) (fun q => ?_) (fun q => ?_)
    · exact kk f' H locs ls h1 (fun j hj => h2 j (by omega)) hP hD hS (lv_sub hl [2, 3] rfl)
    · exact absurd hn (by omega)
  | succ k ih =>
    intro c9 f' H locs ls hn h1 h2 hP hD hS hl
    refine lv_iload hx hb dX4_push_87 (lv_at hl 0 rfl) ?_
    refine lv_bipush (v := nI (18)) hx hb dX4_push_89 (by decide) ?_
    refine bi_ge (tgt := 142) hx hb dX4_push_91 (by decide) (by omega) (by omega) (fun q => ?_) (fun q => ?_)
    · exact absurd hn (by omega)
    · have hs := sg_le (n := nn) (Nat.div_le_self V (10 ^ c9)) hV1 hV2
      have hd := dg_lt V c9
      have hc9 := sg_c nn (V / 10 ^ c9 % 10)
      refine lv_lload hx hb dX4_push_94 (lv_at hl 1 rfl) ?_
      refine lv_ldc2 (v := lN (10)) hx hb hown (hts _ (by decide +kernel)) dX4_push_96 ?_
      refine lv_lrem hx hb dX4_push_99 (lN_ne0 (by omega) (by omega)) ?_
      refine tp_l (y := lZ (sg nn (V / 10 ^ c9 % 10))) (lZ_rem hs.1 hs.2 (by decide)) ?_
      refine lv_lstore (lv' := [(7, .long (lZ (sg nn (V / 10 ^ c9 % 10)))), (6, .int (nI (c9))), (4, .long (lZ (sg nn (V / 10 ^ c9)))), (0, .ref (ad 0)), (1, .int (nI (k_n)))]) hx hb dX4_push_100 hl (by decide) rfl (fun ls hl => ?_)
      refine lv_aload_n hx hb dX4_push_102 rfl (lv_at hl 3 rfl) ?_
      refine rg_4_a hx hb hts in4 hown hK hP 0 (by decide) mg_0 (hts _ (by decide +kernel)) dX4_push_103 ?_
      refine rg_3_d hx hb hts in3 hown hK hP 3 (by omega) mg_A.1 (hts _ (by decide +kernel)) dX4_push_106 ?_
      refine lv_iload hx hb dX4_push_109 (lv_at hl 1 rfl) ?_
      refine lv_lload hx hb dX4_push_111 (lv_at hl 0 rfl) ?_
      refine lv_lconst (v := lN (0)) hx hb dX4_push_113 rfl ?_
      refine tp_l (y := lZ ((0 : Nat) : Int)) (lZ_nat _) ?_
      refine bk_ge (tgt := 124) hx hb dX4_push_114 dX4_push_115 (by decide) (by omega) (by omega) (by omega) (by omega) (fun q1 => ?_) (fun q1 => ?_)
      · refine lv_lload hx hb dX4_push_124 (lv_at hl 0 rfl) ?_
        refine tp_l (y := lN (V / 10 ^ c9 % 10)) (by rw [lZ_nat]; congr 1; omega) ?_
        refine lv_l2i (v := nI (V / 10 ^ c9 % 10)) hx hb dX4_push_126 (lN_i _) ?_
        refine rt_i hx hb hK hP hD hS (3 + 1) (by omega) mg_A.2 (by omega) (by decide) dX4_push_127 (fun H locs hP hD hS => ?_)
        rw [mg_sa] at hP hD
        refine lv_lload hx hb dX4_push_128 (lv_at hl 2 rfl) ?_
        refine lv_ldc2 (v := lN (10)) hx hb hown (hts _ (by decide +kernel)) dX4_push_130 ?_
        refine lv_ldiv hx hb dX4_push_133 (lN_ne0 (by omega) (by omega)) ?_
        refine tp_l (y := lZ (sg nn (V / 10 ^ (c9 + 1)))) (by rw [lZ_div hs.1 hs.2 (by decide), tp_q]) ?_
        refine lv_lstore (lv' := [(4, .long (lZ (sg nn (V / 10 ^ (c9 + 1))))), (7, .long (lZ (sg nn (V / 10 ^ c9 % 10)))), (6, .int (nI (c9))), (0, .ref (ad 0)), (1, .int (nI (k_n)))]) hx hb dX4_push_134 hl (by decide) rfl (fun ls hl => ?_)
        refine lv_iinc (v := nI (c9 + 1)) (lv' := [(6, .int (nI (c9 + 1))), (4, .long (lZ (sg nn (V / 10 ^ (c9 + 1))))), (7, .long (lZ (sg nn (V / 10 ^ c9 % 10)))), (0, .ref (ad 0)), (1, .int (nI (k_n)))]) hx hb dX4_push_136 hl (k := 2) rfl (nI_inc c9 1) (by decide) rfl (fun ls hl => ?_)
        refine lv_goto (tgt := 87) hx hb dX4_push_139 (by decide) ?_
        refine ih (c9 + 1) _ H locs ls (by omega) (fun j hj hj2 => ?_) (fun j hj => ?_) hP hD hS (lv_sub hl [0, 1, 3, 4] rfl)
        · rw [pk_un (by omega)]; exact h1 j hj hj2
        · rcases Nat.lt_or_ge j c9 with r | r
          · rw [pk_un (by omega)]; exact h2 j r
          · obtain rfl : j = c9 := by omega
            exact pk_us
      · refine lv_lload hx hb dX4_push_118 (lv_at hl 0 rfl) ?_
        refine lv_lneg hx hb dX4_push_120 ?_
        refine tp_l (y := lZ (-(sg nn (V / 10 ^ c9 % 10)))) (lZ_neg _) ?_
        refine lv_goto (tgt := 126) hx hb dX4_push_121 (by decide) ?_
        refine tp_l (y := lN (V / 10 ^ c9 % 10)) (by rw [lZ_nat]; congr 1; omega) ?_
        refine lv_l2i (v := nI (V / 10 ^ c9 % 10)) hx hb dX4_push_126 (lN_i _) ?_
        refine rt_i hx hb hK hP hD hS (3 + 1) (by omega) mg_A.2 (by omega) (by decide) dX4_push_127 (fun H locs hP hD hS => ?_)
        rw [mg_sa] at hP hD
        refine lv_lload hx hb dX4_push_128 (lv_at hl 2 rfl) ?_
        refine lv_ldc2 (v := lN (10)) hx hb hown (hts _ (by decide +kernel)) dX4_push_130 ?_
        refine lv_ldiv hx hb dX4_push_133 (lN_ne0 (by omega) (by omega)) ?_
        refine tp_l (y := lZ (sg nn (V / 10 ^ (c9 + 1)))) (by rw [lZ_div hs.1 hs.2 (by decide), tp_q]) ?_
        refine lv_lstore (lv' := [(4, .long (lZ (sg nn (V / 10 ^ (c9 + 1))))), (7, .long (lZ (sg nn (V / 10 ^ c9 % 10)))), (6, .int (nI (c9))), (0, .ref (ad 0)), (1, .int (nI (k_n)))]) hx hb dX4_push_134 hl (by decide) rfl (fun ls hl => ?_)
        refine lv_iinc (v := nI (c9 + 1)) (lv' := [(6, .int (nI (c9 + 1))), (4, .long (lZ (sg nn (V / 10 ^ (c9 + 1))))), (7, .long (lZ (sg nn (V / 10 ^ c9 % 10)))), (0, .ref (ad 0)), (1, .int (nI (k_n)))]) hx hb dX4_push_136 hl (k := 2) rfl (nI_inc c9 1) (by decide) rfl (fun ls hl => ?_)
        refine lv_goto (tgt := 87) hx hb dX4_push_139 (by decide) ?_
        refine ih (c9 + 1) _ H locs ls (by omega) (fun j hj hj2 => ?_) (fun j hj => ?_) hP hD hS (lv_sub hl [0, 1, 3, 4] rfl)
        · rw [pk_un (by omega)]; exact h1 j hj hj2
        · rcases Nat.lt_or_ge j c9 with r | r
          · rw [pk_un (by omega)]; exact h2 j r
          · obtain rfl : j = c9 := by omega
            exact pk_us
set_option maxHeartbeats 4000000 in
set_option maxRecDepth 100000 in
/-- push -/
theorem c_X4_push (l : Launch) (D : va_G) (cA : Nat → ClassId) (tT : Nat) (A : Nat → Prop) (ad : Nat → Nat) (sz : Nat) {wa wb wc we : RWt} {rg : Nat → RWt} {tx : Nat → Int32} {tl : Nat} {rh : Nat → Bool × Nat × Int} (hm : mr rg rh) (hr9 : rks rh) {k : Int} {v : Int64} (k_1 : -2147483648 ≤ k) (k_2 : k < 2147483648) : Met l yX4_push wsX4_push ({ frames := 2, cells := 0, slots := 0, locals := 44 }) (va_Pc [.ref (ad 0), .int (iZ (k)), .long (v)] (wd_B D cA tT A 23 ad sz (mg cA ad wa wb wc we rg tx tl))) (va_Qi (fun (r : Int32) (u : Nat → va_E) => r = (sp_push rh k v).1 ∧ ∃ wa1 wb1 wc1 we1 rg1, mr rg1 (sp_push rh k v).2 ∧ u = mg cA ad wa1 wb1 wc1 we1 rg1 tx tl) (wd_E D cA A 23 ad) A) 0 0 A := by
  obtain ⟨v9, hv1, hv2, rfl⟩ : ∃ z : Int, -9223372036854775808 ≤ z ∧ z < 9223372036854775808 ∧ v = lZ z := ⟨v.toInt, v.le_toInt, v.toInt_lt, (lZ_self v).symm⟩
  refine Met.ofW (cc := cX4_push) (maxL := 9) (ret := (some .int)) (by decide) rfl ?_
  intro p e s m args below meth c s₁ B hml hv
  obtain ⟨rfl, hsz, hP, hK, hD, hT⟩ := hv
  have hx := B.exec
  have hb := B.bytes
  have hr := B.returns
  have hts := atoms_spec (ws := wsX4_push) B.pre
  have hown : s.vm.findClass RX4 = some m.cls := findClass_of_methodNamed B.named
  have hlocks := B.notSynchronized
  subst hsz
  have hS : va_S A s.heap s.heap [] := va_S.rf
  have in3 : ∀ w ∈ wsX30, w ∈ wsX4_push := by decide +kernel
  have in4 : ∀ w ∈ wsX40, w ∈ wsX4_push := by decide +kernel
  have hl := lv_entry ([.ref (ad 0), .int (iZ (k)), .long (lZ (v9))]) (n := 9) (Nat.le_of_ble_eq_true rfl)
  rw [lg_entry_eq]
  generalize (lg_sl ([.ref (ad 0), .int (iZ (k)), .long (lZ (v9))]) ++ List.replicate (9 - (lg_sl ([.ref (ad 0), .int (iZ (k)), .long (lZ (v9))])).length) Slot.unset).toArray = ls at hl ⊢
  have hl : lv_has ls 9 [(0, .ref (ad 0)), (1, .int (iZ (k))), (2, .long (lZ (v9)))] := hl
  have hsg := sg_of v9
  rw [← hsg] at hl
  rw [← hsg] at hv1 hv2
  refine lv_iload_n hx hb dX4_push_0 rfl (lv_at hl 1 rfl) ?_
  refine va_calli (va_runS (As := [.int (iZ (k))]) (rest := []) ⟨hx, hb, hml, hown, hts⟩ (c_X4_is l D cA tT A 23 ad _ _ (k := k) (by omega) (by omega)) (va_cwS 1 hts gX4_push_X4_is rfl rfl rfl (by decide +kernel) ⟨Nat.le_of_ble_eq_true rfl, Nat.le_of_ble_eq_true rfl⟩) (wd_preS hP hK hD hT hS) rfl rfl hl.1 rfl (lv_room (Nat.le_of_ble_eq_true rfl)) dX4_push_1 ⟨Nat.zero_le _, Nat.zero_le _⟩) hS id_2 id_1 (fun r_ u t H locs ht hvm hw hB hz1 hk1 hS => ?_)
  refine c00 ?_
  obtain ⟨hP, hD⟩ := wd_back ht hB
  clear ht hvm hB hz1 hk1
  obtain ⟨hr_, hu_⟩ := hw
  subst hr_
  rw [hu_] at hP hD
  clear hu_
  refine bz_ne (tgt := 9) hx hb dX4_push_4 (by decide) it_lt (fun q_k => ?_) (fun q_k => ?_)
  · have g_k := it_ne q_k
    obtain ⟨k_n, h_k, rfl⟩ : ∃ n : Nat, n < 6 ∧ k = (n : Int) := ⟨k.toNat, by omega, by omega⟩
    rw [← iZ_nat k_n] at hl
    have e_k : ((k_n : Nat) : Int).toNat = k_n := Int.toNat_natCast k_n
    have m_k := hm k_n h_k
    have n_k : (rg k_n).2.1 = nd_p (rh k_n).2.1 := m_k.1.1
    have b_k : (rg k_n).2.2.1 = (rh k_n).1 := by rw [m_k.2]
    have z_k : (rg k_n).2.2.2 = (rh k_n).2.2 := by rw [m_k.2]
    have r_k := hr9 k_n h_k
    simp only [rk] at r_k
    have p_k := p190 r_k.1
    have t_k := tn_le (rh k_n).1
    refine lv_aload_n hx hb dX4_push_9 rfl (lv_at hl 0 rfl) ?_
    refine rg_4_a hx hb hts in4 hown hK hP 0 (by decide) mg_0 (hts _ (by decide +kernel)) dX4_push_10 ?_
    refine lv_aload_n hx hb dX4_push_13 rfl (lv_at hl 0 rfl) ?_
    refine rg_4_registers hx hb hts in4 hown hK hP 0 (by decide) mg_0 (hts _ (by decide +kernel)) dX4_push_14 ?_
    refine lv_iload_n hx hb dX4_push_17 rfl (lv_at hl 1 rfl) ?_
    refine rn_q4 hx hb hK hP 1 (by decide) mg_1 (by omega) (by decide) dX4_push_18 ?_
    refine tp_v (y := .ref (ad (11 + 2 * k_n))) rfl ?_
    refine va_callv (va_runV (As := [.ref (ad (11 + 2 * k_n))]) (rest := []) ⟨hx, hb, hml, hown, hts⟩ (c_X3_take l D cA tT A 23 ad _ _ (a := 3) (f := wa.1) (n := wa.2.1) (b := wa.2.2.1) (z := wa.2.2.2) (o := 11 + 2 * k_n) (f1 := (rg k_n).1) (n1 := (rg k_n).2.1) (b1 := (rg k_n).2.2.1) (z1 := (rg k_n).2.2.2) (by decide) mg_A (by omega) (mg_G _) (by omega) (by omega) (by omega) (by omega)) (cwV 1 hts gX4_push_X3_take rfl rfl rfl (by decide +kernel) ⟨Nat.le_of_ble_eq_true rfl, Nat.le_of_ble_eq_true rfl⟩) (wd_preV (k := 3) hP hK hD hT hS (by decide) mg_A.1 rfl) rfl rfl hl.1 rfl (lv_room (Nat.le_of_ble_eq_true rfl)) dX4_push_19 ⟨Nat.zero_le _, Nat.zero_le _⟩) hS id_2 id_1 (fun u t H locs ht hvm hw hB hz1 hk1 hS => ?_)
    refine c00 ?_
    obtain ⟨hP, hD⟩ := wd_back ht hB
    clear ht hvm hB hz1 hk1
    rw [hw] at hP hD
    clear hw
    obtain ⟨f1, hf1⟩ : ∃ f9 : Nat → Int32, f9 = tk (rg k_n).1 wa.1 (rg k_n).2.1 := ⟨_, rfl⟩
    rw [← hf1, b_k, z_k] at hP hD
    have vf1 : rv f1 (rg k_n).2.1 (rh k_n).2.1 := ⟨n_k, fun j hj => by rw [hf1, tk_lt hj]; exact m_k.1.2 j hj⟩
    rw [show rw_ cA ad (mg cA ad wa wb wc we rg tx tl) 3 f1 ((rg k_n).2.1) ((rh k_n).1) ((rh k_n).2.2) = mg cA ad (f1, (rg k_n).2.1, (rh k_n).1, (rh k_n).2.2) wb wc we rg tx tl from mg_ua (w' := (f1, (rg k_n).2.1, (rh k_n).1, (rh k_n).2.2))] at hP hD
    refine lv_aload_n hx hb dX4_push_22 rfl (lv_at hl 0 rfl) ?_
    refine rg_4_a hx hb hts in4 hown hK hP 0 (by decide) mg_0 (hts _ (by decide +kernel)) dX4_push_23 ?_
    refine rg_3_n hx hb hts in3 hown hK hP 3 (by omega) mg_A.1 (hts _ (by decide +kernel)) dX4_push_26 ?_
    refine tp_i (y := nI ((rg k_n).2.1)) rfl ?_
    refine lv_iconst (v := nI (1)) hx hb dX4_push_29 (by decide) ?_
    refine lv_isub hx hb dX4_push_30 ?_
    refine tp_i (y := dn (rg k_n).2.1) (dn_sub _) ?_
    refine lv_istore (lv' := [(4, .int (dn (rg k_n).2.1)), (0, .ref (ad 0)), (1, .int (nI (k_n))), (2, .long (lZ (sg (decide (v9 < 0)) v9.natAbs)))]) hx hb dX4_push_31 hl (by decide) rfl (fun ls hl => ?_)
    refine lp_X4_push1 (f9 := f1) (n9 := (rg k_n).2.1) (k_n := k_n) (V := v9.natAbs) (b9 := (rh k_n).1) (z9 := (rh k_n).2.2) (nn := decide (v9 < 0)) ⟨hx, hb, hml, hown, hts⟩ hK hT (by omega) (fun f2 H locs ls h2 hP hD hS hl => ?_) (rg k_n).2.1 f1 _ _ ls (Nat.le_refl _) (fun j hj hj2 => absurd hj2 (by omega)) (fun _ _ => rfl) hP hD hS (lv_sub hl [0, 1, 2, 3] rfl)
    refine lv_aload_n hx hb dX4_push_67 rfl (lv_at hl 0 rfl) ?_
    refine rg_4_a hx hb hts in4 hown hK hP 0 (by decide) mg_0 (hts _ (by decide +kernel)) dX4_push_68 ?_
    refine lv_dup hx hb dX4_push_71 rfl ?_
    refine rg_3_n hx hb hts in3 hown hK hP 3 (by omega) mg_A.1 (hts _ (by decide +kernel)) dX4_push_72 ?_
    refine tp_i (y := nI ((rg k_n).2.1)) rfl ?_
    refine lv_bipush (v := nI (18)) hx hb dX4_push_75 (by decide) ?_
    refine lv_iadd hx hb dX4_push_77 ?_
    refine tp_i (y := nI (((rg k_n).2.1) + 18)) (nI_add _ _) ?_
    refine rp_3_n hx hb hts in3 hown hK hP hD hS 3 (by omega) mg_A.1 (hts _ (by decide +kernel)) rfl rfl dX4_push_78 (fun H locs hP hD hS => ?_)
    rw [mg_pa (((rg k_n).2.1) + 18) ((rh k_n).1) ((rh k_n).2.2) (v := nI (((rh k_n).1).toNat)) rfl] at hP hD
    refine lv_lload_n hx hb dX4_push_81 rfl (lv_at hl 2 rfl) ?_
    refine lv_lstore (lv' := [(4, .long (lZ (sg (decide (v9 < 0)) v9.natAbs))), (0, .ref (ad 0)), (1, .int (nI (k_n))), (2, .long (lZ (sg (decide (v9 < 0)) v9.natAbs)))]) hx hb dX4_push_82 hl (by decide) rfl (fun ls hl => ?_)
    refine lv_iconst (v := nI (0)) hx hb dX4_push_84 (by decide) ?_
    refine lv_istore (lv' := [(6, .int (nI (0))), (4, .long (lZ (sg (decide (v9 < 0)) v9.natAbs))), (0, .ref (ad 0)), (1, .int (nI (k_n))), (2, .long (lZ (sg (decide (v9 < 0)) v9.natAbs)))]) hx hb dX4_push_85 hl (by decide) rfl (fun ls hl => ?_)
    have hdv : v9.natAbs = v9.natAbs / 10 ^ 0 := by rw [Nat.pow_zero, Nat.div_one]
    have hl := lv_sub hl [0, 1, 2, 3] rfl
    have hl : lv_has ls 9 [(6, .int (nI (0))), (4, .long (lZ (sg (decide (v9 < 0)) (v9.natAbs / 10 ^ 0)))), (0, .ref (ad 0)), (1, .int (nI (k_n)))] := by rw [← hdv]; exact hl
    refine lp_X4_push2 (f9 := f1) (n9 := (rg k_n).2.1) (k_n := k_n) (V := v9.natAbs) (b9 := (rh k_n).1) (z9 := (rh k_n).2.2) (nn := decide (v9 < 0)) ⟨hx, hb, hml, hown, hts⟩ hK hT (by omega) hv1 hv2 (fun f3 H locs ls h3 h4 hP hD hS hl => ?_) 18 0 f2 _ _ ls (by omega) h2 (fun j hj => absurd hj (Nat.not_lt_zero _)) hP hD hS hl
    obtain ⟨F, hF⟩ : ∃ F, F = 18 := ⟨_, rfl⟩
    obtain ⟨r9, hr99⟩ : ∃ r9, r9 = v9.natAbs % 10 ^ F := ⟨_, rfl⟩
    have hrl : r9 < 10 ^ F := by rw [hr99]; exact Nat.mod_lt _ (Nat.pow_pos (by decide))
    have hdv9 : dv f3 ((rg k_n).2.1 + 18) ((rh k_n).2.1 * 10 ^ F + r9) := by
      refine ⟨?_, fun j hj => ?_⟩
      · rw [← hF, n_k, Nat.pow_add]
        have h5 := nd_p_lt (rh k_n).2.1
        have h6 := Nat.mul_le_mul_right (10 ^ F) (Nat.succ_le_of_lt h5)
        rw [Nat.succ_mul] at h6; omega
      · rw [tp_cat hrl]
        by_cases r : j < F
        · rw [if_pos r, h4 j (by omega), hr99, tp_md r]
        · rw [if_neg r, h3 j (by omega) hj, hF]; exact vf1.2 (j - 18) (by omega)
    refine lv_aload_n hx hb dX4_push_142 rfl (lv_at hl 0 rfl) ?_
    refine rg_4_a hx hb hts in4 hown hK hP 0 (by decide) mg_0 (hts _ (by decide +kernel)) dX4_push_143 ?_
    refine va_callv (va_runV (As := []) (rest := []) ⟨hx, hb, hml, hown, hts⟩ (c_X3_trim l D cA tT A 23 ad _ _ (a := 3) (f := f3) (n := (rg k_n).2.1 + 18) (b := (rh k_n).1) (z := (rh k_n).2.2) (v := (rh k_n).2.1 * 10 ^ F + r9) (by decide) mg_A (by omega) (by omega) hdv9) (cwV 0 hts gX4_push_X3_trim rfl rfl rfl (by decide +kernel) ⟨Nat.le_of_ble_eq_true rfl, Nat.le_of_ble_eq_true rfl⟩) (wd_preV (k := 3) hP hK hD hT hS (by decide) mg_A.1 rfl) rfl rfl hl.1 rfl (lv_room (Nat.le_of_ble_eq_true rfl)) dX4_push_146 ⟨Nat.zero_le _, Nat.zero_le _⟩) hS id_2 id_1 (fun u t H locs ht hvm hw hB hz1 hk1 hS => ?_)
    refine c00 ?_
    obtain ⟨hP, hD⟩ := wd_back ht hB
    clear ht hvm hB hz1 hk1
    obtain ⟨hv9, hu_⟩ := hw
    rw [hu_] at hP hD
    clear hu_
    rw [show rw_ cA ad (mg cA ad (f3, (rg k_n).2.1 + 18, (rh k_n).1, (rh k_n).2.2) wb wc we rg tx tl) 3 f3 (nd_p ((rh k_n).2.1 * 10 ^ F + r9)) (sn ((rh k_n).1) ((rh k_n).2.1 * 10 ^ F + r9)) ((rh k_n).2.2) = mg cA ad (f3, nd_p ((rh k_n).2.1 * 10 ^ F + r9), sn ((rh k_n).1) ((rh k_n).2.1 * 10 ^ F + r9), (rh k_n).2.2) wb wc we rg tx tl from mg_ua (w' := (f3, nd_p ((rh k_n).2.1 * 10 ^ F + r9), sn ((rh k_n).1) ((rh k_n).2.1 * 10 ^ F + r9), (rh k_n).2.2))] at hP hD
    have hp8 : nd_p ((rh k_n).2.1 * 10 ^ F + r9) ≤ 800 := Nat.le_trans ((nd_p_le (by omega)).mpr hdv9.1) (by omega)
    refine lv_aload_n hx hb dX4_push_149 rfl (lv_at hl 0 rfl) ?_
    refine lv_iload_n hx hb dX4_push_150 rfl (lv_at hl 1 rfl) ?_
    refine lv_aload_n hx hb dX4_push_151 rfl (lv_at hl 0 rfl) ?_
    refine rg_4_a hx hb hts in4 hown hK hP 0 (by decide) mg_0 (hts _ (by decide +kernel)) dX4_push_152 ?_
    have hk8 : nd_p ((rh k_n).2.1 * 10 ^ F + r9) ≤ 800 := hp8
    have hkz1 : -2147483648 ≤ ((rh k_n).2.2) := (by omega)
    have hkz2 : ((rh k_n).2.2) < 2147483648 := (by omega)
    have hkb : (sn ((rh k_n).1) ((rh k_n).2.1 * 10 ^ F + r9)) = true → ((rh k_n).2.1 * 10 ^ F + r9) ≠ 0 := fun h => sn_ok h
    refine va_calli (va_runV (As := [.int (nI (k_n)), .ref (ad 3)]) (rest := []) ⟨hx, hb, hml, hown, hts⟩ (c_X4_keep_a l D cA tT A ad _ (wa := (f3, nd_p ((rh k_n).2.1 * 10 ^ F + r9), sn ((rh k_n).1) ((rh k_n).2.1 * 10 ^ F + r9), (rh k_n).2.2)) (wb := wb) (wc := wc) (we := we) (rg := rg) (tx := tx) (tl := tl) (rh := rh) (k := k_n) (v := (rh k_n).2.1 * 10 ^ F + r9) hm h_k hv9 hk8 hkb hkz1 hkz2) (cwV 2 hts gX4_push_X4_keep rfl rfl rfl (by decide +kernel) ⟨Nat.le_of_ble_eq_true rfl, Nat.le_of_ble_eq_true rfl⟩) (wd_preV (k := 0) hP hK hD hT hS (by decide) mg_0 rfl) rfl rfl hl.1 rfl (lv_room (Nat.le_of_ble_eq_true rfl)) dX4_push_155 ⟨Nat.zero_le _, Nat.zero_le _⟩) hS id_2 id_1 (fun r_ u t H locs ht hvm hw hB hz1 hk1 hS => ?_)
    refine c00 ?_
    obtain ⟨hP, hD⟩ := wd_back ht hB
    clear ht hvm hB hz1 hk1
    obtain ⟨hr_, rg1, hmr, hu_⟩ := hw
    rw [hu_] at hP hD
    have hsp : sp_push rh (k_n : Int) (lZ v9) = kpr rh k_n (sn ((rh k_n).1) ((rh k_n).2.1 * 10 ^ F + r9), (rh k_n).2.1 * 10 ^ F + r9, (rh k_n).2.2) := by rw [sp_push, if_pos (by omega), e_k, lZ_toInt (by omega) (by omega), kpr_sn, ← hF, ← hr99]
    exact W.iret hx hb hr (fun t ht hW => ⟨⟨_, _, rfl, ⟨by rw [hsp]; exact hr_, _, _, _, _, rg1, by rw [hsp]; exact hmr, rfl⟩, wd_end hP hK hD ht hW⟩, hS.F ht⟩) hS.2.2 dX4_push_158
  · have g_k := it_eq q_k
    refine lv_iconst (v := iZ (-1)) hx hb dX4_push_7 (by decide) ?_
    exact W.iret (v := iZ (-1)) hx hb hr (fun t ht hW => ⟨⟨iZ (-1), _, rfl, ⟨by rw [sp_push, if_neg (by omega)], _, _, _, _, rg, by rw [sp_push, if_neg (by omega)]; exact hm, rfl⟩, wd_end hP hK hD ht hW⟩, hS.F ht⟩) hS.2.2 dX4_push_8
