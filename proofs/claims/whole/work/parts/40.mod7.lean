theorem sg_c (n : Bool) (q : Nat) : sg n q = (q : Int) ∨ sg n q = -(q : Int) := by
  cases n
  · exact Or.inl rfl
  · exact Or.inr rfl
theorem kpr_sn {rh : Nat → Bool × Nat × Int} {k n : Nat} {b : Bool} {z : Int} : kpr rh k (sn b n, n, z) = kpr rh k (b, n, z) := by
  have h : sn (sn b n) n = sn b n := sn_rk (d := (sn b n, n, z)) (fun h => sn_ok h)
  rw [kpr, kpr]
  dsimp only
  rw [h]
theorem tp_cat {X r F : Nat} (hr : r < 10 ^ F) (j : Nat) : (X * 10 ^ F + r) / 10 ^ j % 10 = if j < F then r / 10 ^ j % 10 else X / 10 ^ (j - F) % 10 := by
  by_cases h : j < F
  · rw [if_pos h]
    obtain ⟨d, rfl⟩ : ∃ d, F = j + (d + 1) := ⟨F - j - 1, by omega⟩
    have e3 : X * 10 ^ (j + (d + 1)) + r = r + 10 ^ j * (X * 10 ^ d * 10) := by
      rw [Nat.pow_add, Nat.pow_succ, Nat.add_comm]; congr 1; simp only [Nat.mul_comm, Nat.mul_left_comm]
    rw [e3, Nat.add_mul_div_left _ _ (Nat.pow_pos (by decide))]
    omega
  · rw [if_neg h]
    obtain ⟨d, rfl⟩ : ∃ d, j = F + d := ⟨j - F, by omega⟩
    rw [Nat.pow_add, ← Nat.div_div_eq_div_mul, Nat.mul_comm X, Nat.mul_add_div (Nat.pow_pos (by decide)), Nat.div_eq_of_lt hr, Nat.add_zero, show F + d - F = d by omega]
theorem tp_md {V F j : Nat} (h : j < F) : V % 10 ^ F / 10 ^ j % 10 = V / 10 ^ j % 10 := by
  obtain ⟨d, rfl⟩ : ∃ d, F = j + (d + 1) := ⟨F - j - 1, by omega⟩
  have e := Nat.div_add_mod V (10 ^ (j + (d + 1)))
  have e2 : V = V % 10 ^ (j + (d + 1)) + 10 ^ j * (10 ^ d * (V / 10 ^ (j + (d + 1))) * 10) := by
    conv => lhs; rw [← e]
    rw [Nat.add_comm]; congr 1
    rw [show (10 : Nat) ^ (j + (d + 1)) = 10 ^ j * (10 ^ d * 10) by rw [Nat.pow_add, Nat.pow_succ]]
    generalize V / _ = y
    simp only [Nat.mul_comm, Nat.mul_left_comm]
  have e4 : V / 10 ^ j = V % 10 ^ (j + (d + 1)) / 10 ^ j + 10 ^ d * (V / 10 ^ (j + (d + 1))) * 10 := by
    conv => lhs; rw [e2]
    rw [Nat.add_mul_div_left _ _ (Nat.pow_pos (by decide))]
  rw [e4]; omega
set_option maxHeartbeats 4000000 in
set_option maxRecDepth 100000 in
theorem lp_X4_load {p : Program} {l : Launch} {e : Env} {R : Room} {s : State} {m : MethodId} {args : Array Value} {below : List Frame} {meth : Method} {c : Code} {Q : State → Prop} {D : va_G} {cA : Nat → ClassId} {tT : Nat} {A : Nat → Prop} {ad : Nat → Nat} {wa wb wc we : RWt} {rg : Nat → RWt} {tx : Nat → Int32} {tl : Nat} {k_n V : Nat} {nn : Bool} {sc : Int} (S : CallFix p m c cX4_load 10 s args wsX4_load RX4) (hK : va_K D vwCl (ty_s cA) s) (hT : st_T tT A s s.heap) (h_k : k_n < 6) (hV1 : -9223372036854775808 ≤ sg nn V) (hV2 : sg nn V < 9223372036854775808) (kk : ∀ (f : Nat → Int32) (H : Heap) (locs : List Loc) (ls : Array Slot), rv f (nd_p V) V → va_P D vwCl (wm_W 23 ad (mg cA ad wa wb wc we (va_up rg k_n (f, nd_p V, (rg k_n).2.2.1, (rg k_n).2.2.2)) tx tl)) H → va_D A (wm_W 23 ad (mg cA ad wa wb wc we (va_up rg k_n (f, nd_p V, (rg k_n).2.2.1, (rg k_n).2.2.2)) tx tl)) → va_S A s.heap H locs → lv_has ls 10 [(2, .long (lZ (sg nn V))), (4, .int (iZ (sc))), (5, .ref (ad (11 + 2 * k_n)))] → W p l e R s m args below meth c H locs 0 0 Q (F0 m 99 ls [])) :
    ∀ (q9 c9 : Nat) (f : Nat → Int32) (H : Heap) (locs : List Loc) (ls : Array Slot), q9 + c9 < 30 → V / 10 ^ c9 < 10 ^ (q9 + 1) → (c9 = 0 ∨ V / 10 ^ c9 ≠ 0) → (∀ j, j < c9 → f j = nI (V / 10 ^ j % 10)) → va_P D vwCl (wm_W 23 ad (mg cA ad wa wb wc we (va_up rg k_n (f, c9, (rg k_n).2.2.1, (rg k_n).2.2.2)) tx tl)) H → va_D A (wm_W 23 ad (mg cA ad wa wb wc we (va_up rg k_n (f, c9, (rg k_n).2.2.1, (rg k_n).2.2.2)) tx tl)) → va_S A s.heap H locs → lv_has ls 10 [(6, .long (lZ (sg nn (V / 10 ^ c9)))), (2, .long (lZ (sg nn V))), (4, .int (iZ (sc))), (5, .ref (ad (11 + 2 * k_n)))] → W p l e R s m args below meth c H locs 0 0 Q (F0 m 38 ls []) := by
  obtain ⟨hx, hb, hml, hown, hts⟩ := S
  have in3 : ∀ w ∈ wsX30, w ∈ wsX4_load := by decide +kernel
  have in4 : ∀ w ∈ wsX40, w ∈ wsX4_load := by decide +kernel
  intro q9
  induction q9 with
  | zero =>
    intro c9 f H locs ls hn hV hc h1 hP hD hS hl
    have hs := sg_le (n := nn) (Nat.div_le_self V (10 ^ c9)) hV1 hV2
    have hs2 := sg_le (n := nn) (Nat.div_le_self V (10 ^ (c9 + 1))) hV1 hV2
    have hd := dg_lt V c9
    have hc9 := sg_c nn (V / 10 ^ c9 % 10)
    have hcz := sg_c nn (V / 10 ^ (c9 + 1))
    refine lv_lload hx hb dX4_load_38 (lv_at hl 0 rfl) ?_
    refine lv_ldc2 (v := lN (10)) hx hb hown (hts _ (by decide +kernel)) dX4_load_40 ?_
    refine lv_lrem hx hb dX4_load_43 (lN_ne0 (by omega) (by omega)) ?_
    refine tp_l (y := lZ (sg nn (V / 10 ^ c9 % 10))) (lZ_rem hs.1 hs.2 (by decide)) ?_
    refine lv_lstore (lv' := [(8, .long (lZ (sg nn (V / 10 ^ c9 % 10)))), (6, .long (lZ (sg nn (V / 10 ^ c9)))), (2, .long (lZ (sg nn V))), (4, .int (iZ (sc))), (5, .ref (ad (11 + 2 * k_n)))]) hx hb dX4_load_44 hl (by decide) rfl (fun ls hl => ?_)
    refine lv_aload hx hb dX4_load_46 (lv_at hl 4 rfl) ?_
    refine rg_3_d hx hb hts in3 hown hK hP (11 + 2 * k_n) (by omega) (mg_GS k_n).1 (hts _ (by decide +kernel)) dX4_load_48 ?_
    refine lv_aload hx hb dX4_load_51 (lv_at hl 4 rfl) ?_
    refine rg_3_n hx hb hts in3 hown hK hP (11 + 2 * k_n) (by omega) (mg_GS k_n).1 (hts _ (by decide +kernel)) dX4_load_53 ?_
    refine tp_i (y := nI (c9)) rfl ?_
    refine lv_lload hx hb dX4_load_56 (lv_at hl 0 rfl) ?_
    refine lv_lconst (v := lN (0)) hx hb dX4_load_58 rfl ?_
    refine tp_l (y := lZ ((0 : Nat) : Int)) (lZ_nat _) ?_
    refine bk_ge (tgt := 69) hx hb dX4_load_59 dX4_load_60 (by decide) (by omega) (by omega) (by omega) (by omega) (fun q1 => ?_) (fun q1 => ?_)
    · refine lv_lload hx hb dX4_load_69 (lv_at hl 0 rfl) ?_
      refine tp_l (y := lN (V / 10 ^ c9 % 10)) (by rw [lZ_nat]; congr 1; omega) ?_
      refine lv_l2i (v := nI (V / 10 ^ c9 % 10)) hx hb dX4_load_71 (lN_i _) ?_
      refine rt_i hx hb hK hP hD hS (11 + 2 * k_n + 1) (by omega) (mg_GS k_n).2 (by omega) (by decide) dX4_load_72 (fun H locs hP hD hS => ?_)
      rw [mg_sgS k_n] at hP hD
      refine lv_aload hx hb dX4_load_73 (lv_at hl 4 rfl) ?_
      refine lv_dup hx hb dX4_load_75 rfl ?_
      refine rg_3_n hx hb hts in3 hown hK hP (11 + 2 * k_n) (by omega) (mg_GS k_n).1 (hts _ (by decide +kernel)) dX4_load_76 ?_
      refine tp_i (y := nI (c9)) rfl ?_
      refine lv_iconst (v := nI (1)) hx hb dX4_load_79 (by decide) ?_
      refine lv_iadd hx hb dX4_load_80 ?_
      refine tp_i (y := nI (c9 + 1)) (nI_add _ _) ?_
      refine rp_3_n hx hb hts in3 hown hK hP hD hS (11 + 2 * k_n) (by omega) (mg_GS k_n).1 (hts _ (by decide +kernel)) rfl rfl dX4_load_81 (fun H locs hP hD hS => ?_)
      rw [mg_pgS k_n (c9 + 1) ((rg k_n).2.2.1) ((rg k_n).2.2.2) (v := nI (((rg k_n).2.2.1).toNat)) rfl] at hP hD
      refine lv_lload hx hb dX4_load_84 (lv_at hl 1 rfl) ?_
      refine lv_ldc2 (v := lN (10)) hx hb hown (hts _ (by decide +kernel)) dX4_load_86 ?_
      refine lv_ldiv hx hb dX4_load_89 (lN_ne0 (by omega) (by omega)) ?_
      refine tp_l (y := lZ (sg nn (V / 10 ^ (c9 + 1)))) (by rw [lZ_div hs.1 hs.2 (by decide), tp_q]) ?_
      refine lv_lstore (lv' := [(6, .long (lZ (sg nn (V / 10 ^ (c9 + 1))))), (8, .long (lZ (sg nn (V / 10 ^ c9 % 10)))), (2, .long (lZ (sg nn V))), (4, .int (iZ (sc))), (5, .ref (ad (11 + 2 * k_n)))]) hx hb dX4_load_90 hl (by decide) rfl (fun ls hl => ?_)
      refine lv_lload hx hb dX4_load_92 (lv_at hl 0 rfl) ?_
      refine lv_lconst (v := lN (0)) hx hb dX4_load_94 rfl ?_
      refine tp_l (y := lZ ((0 : Nat) : Int)) (lZ_nat _) ?_
      refine bk_ne (tgt := 38) hx hb dX4_load_95 dX4_load_96 (by decide) (by omega) (by omega) (by omega) (by omega) (fun q2 => ?_) (fun q2 => ?_)
      · have hne : V / 10 ^ (c9 + 1) ≠ 0 := by omega
        rw [tp_q] at hne
        exact absurd (Nat.div_eq_of_lt (by simpa using hV)) hne
      · have h0 : V / 10 ^ (c9 + 1) = 0 := by omega
        have hf : ∀ j, j < c9 + 1 → upd f c9 (nI (V / 10 ^ c9 % 10)) j = nI (V / 10 ^ j % 10) := by
          intro j hj
          rcases Nat.lt_or_ge j c9 with r | r
          · rw [pk_un (by omega)]; exact h1 j r
          · obtain rfl : j = c9 := by omega
            exact pk_us
        have hlt : V < 10 ^ (c9 + 1) := by
          rcases Nat.lt_or_ge V (10 ^ (c9 + 1)) with r | r
          · exact r
          · exact absurd h0 (Nat.pos_iff_ne_zero.mp (Nat.div_pos r (Nat.pow_pos (by decide))))
        have hp : nd_p V = c9 + 1 := by
          rcases hc with hc | hc
          · subst hc; exact nd_p1 (by simpa using hlt)
          · refine nd_p_eq hlt ?_
            rw [tp_q] at h0; omega
        exact kk _ H locs ls ⟨rfl, fun j hj => hf j (by omega)⟩ (by rw [hp]; exact hP) (by rw [hp]; exact hD) hS (lv_sub hl [2, 3, 4] rfl)
    · refine lv_lload hx hb dX4_load_63 (lv_at hl 0 rfl) ?_
      refine lv_lneg hx hb dX4_load_65 ?_
      refine tp_l (y := lZ (-(sg nn (V / 10 ^ c9 % 10)))) (lZ_neg _) ?_
      refine lv_goto (tgt := 71) hx hb dX4_load_66 (by decide) ?_
      refine tp_l (y := lN (V / 10 ^ c9 % 10)) (by rw [lZ_nat]; congr 1; omega) ?_
      refine lv_l2i (v := nI (V / 10 ^ c9 % 10)) hx hb dX4_load_71 (lN_i _) ?_
      refine rt_i hx hb hK hP hD hS (11 + 2 * k_n + 1) (by omega) (mg_GS k_n).2 (by omega) (by decide) dX4_load_72 (fun H locs hP hD hS => ?_)
      rw [mg_sgS k_n] at hP hD
      refine lv_aload hx hb dX4_load_73 (lv_at hl 4 rfl) ?_
      refine lv_dup hx hb dX4_load_75 rfl ?_
      refine rg_3_n hx hb hts in3 hown hK hP (11 + 2 * k_n) (by omega) (mg_GS k_n).1 (hts _ (by decide +kernel)) dX4_load_76 ?_
      refine tp_i (y := nI (c9)) rfl ?_
      refine lv_iconst (v := nI (1)) hx hb dX4_load_79 (by decide) ?_
      refine lv_iadd hx hb dX4_load_80 ?_
      refine tp_i (y := nI (c9 + 1)) (nI_add _ _) ?_
      refine rp_3_n hx hb hts in3 hown hK hP hD hS (11 + 2 * k_n) (by omega) (mg_GS k_n).1 (hts _ (by decide +kernel)) rfl rfl dX4_load_81 (fun H locs hP hD hS => ?_)
      rw [mg_pgS k_n (c9 + 1) ((rg k_n).2.2.1) ((rg k_n).2.2.2) (v := nI (((rg k_n).2.2.1).toNat)) rfl] at hP hD
      refine lv_lload hx hb dX4_load_84 (lv_at hl 1 rfl) ?_
      refine lv_ldc2 (v := lN (10)) hx hb hown (hts _ (by decide +kernel)) dX4_load_86 ?_
      refine lv_ldiv hx hb dX4_load_89 (lN_ne0 (by omega) (by omega)) ?_
      refine tp_l (y := lZ (sg nn (V / 10 ^ (c9 + 1)))) (by rw [lZ_div hs.1 hs.2 (by decide), tp_q]) ?_
      refine lv_lstore (lv' := [(6, .long (lZ (sg nn (V / 10 ^ (c9 + 1))))), (8, .long (lZ (sg nn (V / 10 ^ c9 % 10)))), (2, .long (lZ (sg nn V))), (4, .int (iZ (sc))), (5, .ref (ad (11 + 2 * k_n)))]) hx hb dX4_load_90 hl (by decide) rfl (fun ls hl => ?_)
      refine lv_lload hx hb dX4_load_92 (lv_at hl 0 rfl) ?_
      refine lv_lconst (v := lN (0)) hx hb dX4_load_94 rfl ?_
      refine tp_l (y := lZ ((0 : Nat) : Int)) (lZ_nat _) ?_
      refine bk_ne (tgt := 38) hx hb dX4_load_95 dX4_load_96 (by decide) (by omega) (by omega) (by omega) (by omega) (fun q2 => ?_) (fun q2 => ?_)
      · have hne : V / 10 ^ (c9 + 1) ≠ 0 := by omega
        rw [tp_q] at hne
        exact absurd (Nat.div_eq_of_lt (by simpa using hV)) hne
      · have h0 : V / 10 ^ (c9 + 1) = 0 := by omega
        have hf : ∀ j, j < c9 + 1 → upd f c9 (nI (V / 10 ^ c9 % 10)) j = nI (V / 10 ^ j % 10) := by
          intro j hj
          rcases Nat.lt_or_ge j c9 with r | r
          · rw [pk_un (by omega)]; exact h1 j r
          · obtain rfl : j = c9 := by omega
            exact pk_us
        have hlt : V < 10 ^ (c9 + 1) := by
          rcases Nat.lt_or_ge V (10 ^ (c9 + 1)) with r | r
          · exact r
          · exact absurd h0 (Nat.pos_iff_ne_zero.mp (Nat.div_pos r (Nat.pow_pos (by decide))))
        have hp : nd_p V = c9 + 1 := by
          rcases hc with hc | hc
          · subst hc; exact nd_p1 (by simpa using hlt)
          · refine nd_p_eq hlt ?_
            rw [tp_q] at h0; omega
        exact kk _ H locs ls ⟨rfl, fun j hj => hf j (by omega)⟩ (by rw [hp]; exact hP) (by rw [hp]; exact hD) hS (lv_sub hl [2, 3, 4] rfl)
  | succ q9 ih =>
    intro c9 f H locs ls hn hV hc h1 hP hD hS hl
    have hs := sg_le (n := nn) (Nat.div_le_self V (10 ^ c9)) hV1 hV2
    have hs2 := sg_le (n := nn) (Nat.div_le_self V (10 ^ (c9 + 1))) hV1 hV2
    have hd := dg_lt V c9
    have hc9 := sg_c nn (V / 10 ^ c9 % 10)
    have hcz := sg_c nn (V / 10 ^ (c9 + 1))
    refine lv_lload hx hb dX4_load_38 (lv_at hl 0 rfl) ?_
    refine lv_ldc2 (v := lN (10)) hx hb hown (hts _ (by decide +kernel)) dX4_load_40 ?_
    refine lv_lrem hx hb dX4_load_43 (lN_ne0 (by omega) (by omega)) ?_
    refine tp_l (y := lZ (sg nn (V / 10 ^ c9 % 10))) (lZ_rem hs.1 hs.2 (by decide)) ?_
    refine lv_lstore (lv' := [(8, .long (lZ (sg nn (V / 10 ^ c9 % 10)))), (6, .long (lZ (sg nn (V / 10 ^ c9)))), (2, .long (lZ (sg nn V))), (4, .int (iZ (sc))), (5, .ref (ad (11 + 2 * k_n)))]) hx hb dX4_load_44 hl (by decide) rfl (fun ls hl => ?_)
    refine lv_aload hx hb dX4_load_46 (lv_at hl 4 rfl) ?_
    refine rg_3_d hx hb hts in3 hown hK hP (11 + 2 * k_n) (by omega) (mg_GS k_n).1 (hts _ (by decide +kernel)) dX4_load_48 ?_
    refine lv_aload hx hb dX4_load_51 (lv_at hl 4 rfl) ?_
    refine rg_3_n hx hb hts in3 hown hK hP (11 + 2 * k_n) (by omega) (mg_GS k_n).1 (hts _ (by decide +kernel)) dX4_load_53 ?_
    refine tp_i (y := nI (c9)) rfl ?_
    refine lv_lload hx hb dX4_load_56 (lv_at hl 0 rfl) ?_
    refine lv_lconst (v := lN (0)) hx hb dX4_load_58 rfl ?_
    refine tp_l (y := lZ ((0 : Nat) : Int)) (lZ_nat _) ?_
    refine bk_ge (tgt := 69) hx hb dX4_load_59 dX4_load_60 (by decide) (by omega) (by omega) (by omega) (by omega) (fun q1 => ?_) (fun q1 => ?_)
    · refine lv_lload hx hb dX4_load_69 (lv_at hl 0 rfl) ?_
      refine tp_l (y := lN (V / 10 ^ c9 % 10)) (by rw [lZ_nat]; congr 1; omega) ?_
      refine lv_l2i (v := nI (V / 10 ^ c9 % 10)) hx hb dX4_load_71 (lN_i _) ?_
      refine rt_i hx hb hK hP hD hS (11 + 2 * k_n + 1) (by omega) (mg_GS k_n).2 (by omega) (by decide) dX4_load_72 (fun H locs hP hD hS => ?_)
      rw [mg_sgS k_n] at hP hD
      refine lv_aload hx hb dX4_load_73 (lv_at hl 4 rfl) ?_
      refine lv_dup hx hb dX4_load_75 rfl ?_
      refine rg_3_n hx hb hts in3 hown hK hP (11 + 2 * k_n) (by omega) (mg_GS k_n).1 (hts _ (by decide +kernel)) dX4_load_76 ?_
      refine tp_i (y := nI (c9)) rfl ?_
      refine lv_iconst (v := nI (1)) hx hb dX4_load_79 (by decide) ?_
      refine lv_iadd hx hb dX4_load_80 ?_
      refine tp_i (y := nI (c9 + 1)) (nI_add _ _) ?_
      refine rp_3_n hx hb hts in3 hown hK hP hD hS (11 + 2 * k_n) (by omega) (mg_GS k_n).1 (hts _ (by decide +kernel)) rfl rfl dX4_load_81 (fun H locs hP hD hS => ?_)
      rw [mg_pgS k_n (c9 + 1) ((rg k_n).2.2.1) ((rg k_n).2.2.2) (v := nI (((rg k_n).2.2.1).toNat)) rfl] at hP hD
      refine lv_lload hx hb dX4_load_84 (lv_at hl 1 rfl) ?_
      refine lv_ldc2 (v := lN (10)) hx hb hown (hts _ (by decide +kernel)) dX4_load_86 ?_
      refine lv_ldiv hx hb dX4_load_89 (lN_ne0 (by omega) (by omega)) ?_
      refine tp_l (y := lZ (sg nn (V / 10 ^ (c9 + 1)))) (by rw [lZ_div hs.1 hs.2 (by decide), tp_q]) ?_
      refine lv_lstore (lv' := [(6, .long (lZ (sg nn (V / 10 ^ (c9 + 1))))), (8, .long (lZ (sg nn (V / 10 ^ c9 % 10)))), (2, .long (lZ (sg nn V))), (4, .int (iZ (sc))), (5, .ref (ad (11 + 2 * k_n)))]) hx hb dX4_load_90 hl (by decide) rfl (fun ls hl => ?_)
      refine lv_lload hx hb dX4_load_92 (lv_at hl 0 rfl) ?_
      refine lv_lconst (v := lN (0)) hx hb dX4_load_94 rfl ?_
      refine tp_l (y := lZ ((0 : Nat) : Int)) (lZ_nat _) ?_
      refine bk_ne (tgt := 38) hx hb dX4_load_95 dX4_load_96 (by decide) (by omega) (by omega) (by omega) (by omega) (fun q2 => ?_) (fun q2 => ?_)
      · have hne : V / 10 ^ (c9 + 1) ≠ 0 := by omega
        have hf : ∀ j, j < c9 + 1 → upd f c9 (nI (V / 10 ^ c9 % 10)) j = nI (V / 10 ^ j % 10) := by
          intro j hj
          rcases Nat.lt_or_ge j c9 with r | r
          · rw [pk_un (by omega)]; exact h1 j r
          · obtain rfl : j = c9 := by omega
            exact pk_us
        exact ih (c9 + 1) _ H locs ls (by omega) (by rw [tp_q]; rw [Nat.pow_succ 10 (q9 + 1)] at hV; omega) (Or.inr hne) hf hP hD hS (lv_sub hl [0, 2, 3, 4] rfl)
      · have h0 : V / 10 ^ (c9 + 1) = 0 := by omega
        have hf : ∀ j, j < c9 + 1 → upd f c9 (nI (V / 10 ^ c9 % 10)) j = nI (V / 10 ^ j % 10) := by
          intro j hj
          rcases Nat.lt_or_ge j c9 with r | r
          · rw [pk_un (by omega)]; exact h1 j r
          · obtain rfl : j = c9 := by omega
            exact pk_us
        have hlt : V < 10 ^ (c9 + 1) := by
          rcases Nat.lt_or_ge V (10 ^ (c9 + 1)) with r | r
          · exact r
          · exact absurd h0 (Nat.pos_iff_ne_zero.mp (Nat.div_pos r (Nat.pow_pos (by decide))))
        have hp : nd_p V = c9 + 1 := by
          rcases hc with hc | hc
          · subst hc; exact nd_p1 (by simpa using hlt)
          · refine nd_p_eq hlt ?_
            rw [tp_q] at h0; omega
        exact kk _ H locs ls ⟨rfl, fun j hj => hf j (by omega)⟩ (by rw [hp]; exact hP) (by rw [hp]; exact hD) hS (lv_sub hl [2, 3, 4] rfl)
    · refine lv_lload hx hb dX4_load_63 (lv_at hl 0 rfl) ?_
      refine lv_lneg hx hb dX4_load_65 ?_
      refine tp_l (y := lZ (-(sg nn (V / 10 ^ c9 % 10)))) (lZ_neg _) ?_
      refine lv_goto (tgt := 71) hx hb dX4_load_66 (by decide) ?_
      refine tp_l (y := lN (V / 10 ^ c9 % 10)) (by rw [lZ_nat]; congr 1; omega) ?_
      refine lv_l2i (v := nI (V / 10 ^ c9 % 10)) hx hb dX4_load_71 (lN_i _) ?_
      refine rt_i hx hb hK hP hD hS (11 + 2 * k_n + 1) (by omega) (mg_GS k_n).2 (by omega) (by decide) dX4_load_72 (fun H locs hP hD hS => ?_)
      rw [mg_sgS k_n] at hP hD
      refine lv_aload hx hb dX4_load_73 (lv_at hl 4 rfl) ?_
      refine lv_dup hx hb dX4_load_75 rfl ?_
      refine rg_3_n hx hb hts in3 hown hK hP (11 + 2 * k_n) (by omega) (mg_GS k_n).1 (hts _ (by decide +kernel)) dX4_load_76 ?_
      refine tp_i (y := nI (c9)) rfl ?_
      refine lv_iconst (v := nI (1)) hx hb dX4_load_79 (by decide) ?_
      refine lv_iadd hx hb dX4_load_80 ?_
      refine tp_i (y := nI (c9 + 1)) (nI_add _ _) ?_
      refine rp_3_n hx hb hts in3 hown hK hP hD hS (11 + 2 * k_n) (by omega) (mg_GS k_n).1 (hts _ (by decide +kernel)) rfl rfl dX4_load_81 (fun H locs hP hD hS => ?_)
      rw [mg_pgS k_n (c9 + 1) ((rg k_n).2.2.1) ((rg k_n).2.2.2) (v := nI (((rg k_n).2.2.1).toNat)) rfl] at hP hD
      refine lv_lload hx hb dX4_load_84 (lv_at hl 1 rfl) ?_
      refine lv_ldc2 (v := lN (10)) hx hb hown (hts _ (by decide +kernel)) dX4_load_86 ?_
      refine lv_ldiv hx hb dX4_load_89 (lN_ne0 (by omega) (by omega)) ?_
      refine tp_l (y := lZ (sg nn (V / 10 ^ (c9 + 1)))) (by rw [lZ_div hs.1 hs.2 (by decide), tp_q]) ?_
      refine lv_lstore (lv' := [(6, .long (lZ (sg nn (V / 10 ^ (c9 + 1))))), (8, .long (lZ (sg nn (V / 10 ^ c9 % 10)))), (2, .long (lZ (sg nn V))), (4, .int (iZ (sc))), (5, .ref (ad (11 + 2 * k_n)))]) hx hb dX4_load_90 hl (by decide) rfl (fun ls hl => ?_)
      refine lv_lload hx hb dX4_load_92 (lv_at hl 0 rfl) ?_
      refine lv_lconst (v := lN (0)) hx hb dX4_load_94 rfl ?_
      refine tp_l (y := lZ ((0 : Nat) : Int)) (lZ_nat _) ?_
      refine bk_ne (tgt := 38) hx hb dX4_load_95 dX4_load_96 (by decide) (by omega) (by omega) (by omega) (by omega) (fun q2 => ?_) (fun q2 => ?_)
      · have hne : V / 10 ^ (c9 + 1) ≠ 0 := by omega
        have hf : ∀ j, j < c9 + 1 → upd f c9 (nI (V / 10 ^ c9 % 10)) j = nI (V / 10 ^ j % 10) := by
          intro j hj
          rcases Nat.lt_or_ge j c9 with r | r
          · rw [pk_un (by omega)]; exact h1 j r
          · obtain rfl : j = c9 := by omega
            exact pk_us
        exact ih (c9 + 1) _ H locs ls (by omega) (by rw [tp_q]; rw [Nat.pow_succ 10 (q9 + 1)] at hV; omega) (Or.inr hne) hf hP hD hS (lv_sub hl [0, 2, 3, 4] rfl)
      · have h0 : V / 10 ^ (c9 + 1) = 0 := by omega
        have hf : ∀ j, j < c9 + 1 → upd f c9 (nI (V / 10 ^ c9 % 10)) j = nI (V / 10 ^ j % 10) := by
          intro j hj
          rcases Nat.lt_or_ge j c9 with r | r
          · rw [pk_un (by omega)]; exact h1 j r
          · obtain rfl : j = c9 := by omega
            exact pk_us
        have hlt : V < 10 ^ (c9 + 1) := by
          rcases Nat.lt_or_ge V (10 ^ (c9 + 1)) with r | r
          · exact r
          · exact absurd h0 (Nat.pos_iff_ne_zero.mp (Nat.div_pos r (Nat.pow_pos (by decide))))
        have hp : nd_p V = c9 + 1 := by
          rcases hc with hc | hc
          · subst hc; exact nd_p1 (by simpa using hlt)
          · refine nd_p_eq hlt ?_
            rw [tp_q] at h0; omega
        exact kk _ H locs ls ⟨rfl, fun j hj => hf j (by omega)⟩ (by rw [hp]; exact hP) (by rw [hp]; exact hD) hS (lv_sub hl [2, 3, 4] rfl)
set_option maxHeartbeats 4000000 in
set_option maxRecDepth 100000 in
/-- load -/
theorem c_X4_load (l : Launch) (D : va_G) (cA : Nat → ClassId) (tT : Nat) (A : Nat → Prop) (ad : Nat → Nat) (sz : Nat) {wa wb wc we : RWt} {rg : Nat → RWt} {tx : Nat → Int32} {tl : Nat} {rh : Nat → Bool × Nat × Int} (hm : mr rg rh) (hr9 : rks rh) {k sc : Int} {v : Int64} (k_1 : -2147483648 ≤ k) (k_2 : k < 2147483648) (sc_1 : -2147483648 ≤ sc) (sc_2 : sc < 2147483648) : Met l yX4_load wsX4_load ({ frames := 1, cells := 0, slots := 0, locals := 21 }) (va_Pc [.ref (ad 0), .int (iZ (k)), .long (v), .int (iZ (sc))] (wd_B D cA tT A 23 ad sz (mg cA ad wa wb wc we rg tx tl))) (va_Qi (fun (r : Int32) (u : Nat → va_E) => r = (sp_load rh k v sc).1 ∧ ∃ wa1 wb1 wc1 we1 rg1, mr rg1 (sp_load rh k v sc).2 ∧ u = mg cA ad wa1 wb1 wc1 we1 rg1 tx tl) (wd_E D cA A 23 ad) A) 0 0 A := by
  obtain ⟨v9, hv1, hv2, rfl⟩ : ∃ z : Int, -9223372036854775808 ≤ z ∧ z < 9223372036854775808 ∧ v = lZ z := ⟨v.toInt, v.le_toInt, v.toInt_lt, (lZ_self v).symm⟩
  refine Met.ofW (cc := cX4_load) (maxL := 10) (ret := (some .int)) (by decide) rfl ?_
  intro p e s m args below meth c s₁ B hml hv
  obtain ⟨rfl, hsz, hP, hK, hD, hT⟩ := hv
  have hx := B.exec
  have hb := B.bytes
  have hr := B.returns
  have hts := atoms_spec (ws := wsX4_load) B.pre
  have hown : s.vm.findClass RX4 = some m.cls := findClass_of_methodNamed B.named
  have hlocks := B.notSynchronized
  subst hsz
  have hS : va_S A s.heap s.heap [] := va_S.rf
  have in3 : ∀ w ∈ wsX30, w ∈ wsX4_load := by decide +kernel
  have in4 : ∀ w ∈ wsX40, w ∈ wsX4_load := by decide +kernel
  have hl := lv_entry ([.ref (ad 0), .int (iZ (k)), .long (lZ (v9)), .int (iZ (sc))]) (n := 10) (Nat.le_of_ble_eq_true rfl)
  rw [lg_entry_eq]
  generalize (lg_sl ([.ref (ad 0), .int (iZ (k)), .long (lZ (v9)), .int (iZ (sc))]) ++ List.replicate (10 - (lg_sl ([.ref (ad 0), .int (iZ (k)), .long (lZ (v9)), .int (iZ (sc))])).length) Slot.unset).toArray = ls at hl ⊢
  have hl : lv_has ls 10 [(0, .ref (ad 0)), (1, .int (iZ (k))), (2, .long (lZ (v9))), (4, .int (iZ (sc)))] := hl
  have hsg := sg_of v9
  rw [← hsg] at hl
  rw [← hsg] at hv1 hv2
  refine lv_iload_n hx hb dX4_load_0 rfl (lv_at hl 1 rfl) ?_
  refine va_calli (va_runS (As := [.int (iZ (k))]) (rest := []) ⟨hx, hb, hml, hown, hts⟩ (c_X4_is l D cA tT A 23 ad _ _ (k := k) (by omega) (by omega)) (va_cwS 1 hts gX4_load_X4_is rfl rfl rfl (by decide +kernel) ⟨Nat.le_of_ble_eq_true rfl, Nat.le_of_ble_eq_true rfl⟩) (wd_preS hP hK hD hT hS) rfl rfl hl.1 rfl (lv_room (Nat.le_of_ble_eq_true rfl)) dX4_load_1 ⟨Nat.zero_le _, Nat.zero_le _⟩) hS id_2 id_1 (fun r_ u t H locs ht hvm hw hB hz1 hk1 hS => ?_)
  refine c00 ?_
  obtain ⟨hP, hD⟩ := wd_back ht hB
  clear ht hvm hB hz1 hk1
  obtain ⟨hr_, hu_⟩ := hw
  subst hr_
  rw [hu_] at hP hD
  clear hu_
  refine bz_ne (tgt := 9) hx hb dX4_load_4 (by decide) it_lt (fun q_k => ?_) (fun q_k => ?_)
  · have g_k := it_ne q_k
    obtain ⟨k_n, h_k, rfl⟩ : ∃ n : Nat, n < 6 ∧ k = (n : Int) := ⟨k.toNat, by omega, by omega⟩
    rw [← iZ_nat k_n] at hl
    have e_k : ((k_n : Nat) : Int).toNat = k_n := Int.toNat_natCast k_n
    have m_k := hm k_n h_k
    have n_k : (rg k_n).2.1 = nd_p (rh k_n).2.1 := m_k.1.1
    have b_k : (rg k_n).2.2.1 = (rh k_n).1 := by rw [m_k.2]
    have z_k : (rg k_n).2.2.2 = (rh k_n).2.2 := by rw [m_k.2]
    have r_k := hr9 k_n h_k
    simp only [rk] at r_k
    have p_k := p190 r_k.1
    have t_k := tn_le (rh k_n).1
    refine lv_iload hx hb dX4_load_9 (lv_at hl 3 rfl) ?_
    refine lv_i2l (v := lZ (sc)) hx hb dX4_load_11 (iZ_l (by omega) (by omega)) ?_
    refine va_calli (va_runS (As := [.long (lZ (sc))]) (rest := []) ⟨hx, hb, hml, hown, hts⟩ (c_X4_isScale l D cA tT A 23 ad _ _ (k := sc) (by omega) (by omega)) (va_cwS 1 hts gX4_load_X4_isScale rfl rfl rfl (by decide +kernel) ⟨Nat.le_of_ble_eq_true rfl, Nat.le_of_ble_eq_true rfl⟩) (wd_preS hP hK hD hT hS) rfl rfl hl.1 rfl (lv_room (Nat.le_of_ble_eq_true rfl)) dX4_load_12 ⟨Nat.zero_le _, Nat.zero_le _⟩) hS id_2 id_1 (fun r_ u t H locs ht hvm hw hB hz1 hk1 hS => ?_)
    refine c00 ?_
    obtain ⟨hP, hD⟩ := wd_back ht hB
    clear ht hvm hB hz1 hk1
    obtain ⟨hr_, hu_⟩ := hw
    subst hr_
    rw [hu_] at hP hD
    clear hu_
    refine bz_ne (tgt := 21) hx hb dX4_load_15 (by decide) it_lt (fun q2 => ?_) (fun q2 => ?_)
    · have q3 := it_ne q2
      refine lv_aload_n hx hb dX4_load_21 rfl (lv_at hl 0 rfl) ?_
      refine rg_4_registers hx hb hts in4 hown hK hP 0 (by decide) mg_0 (hts _ (by decide +kernel)) dX4_load_22 ?_
      refine lv_iload_n hx hb dX4_load_25 rfl (lv_at hl 1 rfl) ?_
      refine rn_q4 hx hb hK hP 1 (by decide) mg_1 (by omega) (by decide) dX4_load_26 ?_
      refine tp_v (y := .ref (ad (11 + 2 * k_n))) rfl ?_
      refine lv_astore (lv' := [(5, .ref (ad (11 + 2 * k_n))), (0, .ref (ad 0)), (1, .int (nI (k_n))), (2, .long (lZ (sg (decide (v9 < 0)) v9.natAbs))), (4, .int (iZ (sc)))]) hx hb dX4_load_27 hl (by decide) rfl (fun ls hl => ?_)
      refine lv_aload hx hb dX4_load_29 (lv_at hl 0 rfl) ?_
      refine lv_iconst (v := nI (0)) hx hb dX4_load_31 (by decide) ?_
      refine rp_3_n hx hb hts in3 hown hK hP hD hS (11 + 2 * k_n) (by omega) (mg_G k_n).1 (hts _ (by decide +kernel)) rfl rfl dX4_load_32 (fun H locs hP hD hS => ?_)
      rw [mg_pg k_n 0 ((rg k_n).2.2.1) ((rg k_n).2.2.2) (v := nI (((rg k_n).2.2.1).toNat)) rfl] at hP hD
      refine lv_lload_n hx hb dX4_load_35 rfl (lv_at hl 3 rfl) ?_
      refine lv_lstore (lv' := [(6, .long (lZ (sg (decide (v9 < 0)) v9.natAbs))), (5, .ref (ad (11 + 2 * k_n))), (0, .ref (ad 0)), (1, .int (nI (k_n))), (2, .long (lZ (sg (decide (v9 < 0)) v9.natAbs))), (4, .int (iZ (sc)))]) hx hb dX4_load_36 hl (by decide) rfl (fun ls hl => ?_)
      have hdv : v9.natAbs = v9.natAbs / 10 ^ 0 := by rw [Nat.pow_zero, Nat.div_one]
      have hl := lv_sub hl [0, 4, 5, 1] rfl
      have hl : lv_has ls 10 [(6, .long (lZ (sg (decide (v9 < 0)) (v9.natAbs / 10 ^ 0)))), (2, .long (lZ (sg (decide (v9 < 0)) v9.natAbs))), (4, .int (iZ (sc))), (5, .ref (ad (11 + 2 * k_n)))] := by rw [← hdv]; exact hl
      refine lp_X4_load (k_n := k_n) (V := v9.natAbs) (nn := decide (v9 < 0)) ⟨hx, hb, hml, hown, hts⟩ hK hT h_k hv1 hv2 (fun f H locs ls hrv hP hD hS hl => ?_) 20 0 _ _ _ ls (by omega) (by rw [← hdv]; omega) (Or.inl rfl) (fun j hj => absurd hj (Nat.not_lt_zero _)) hP hD hS hl
      refine lv_aload hx hb dX4_load_99 (lv_at hl 2 rfl) ?_
      refine lv_lload_n hx hb dX4_load_101 rfl (lv_at hl 0 rfl) ?_
      refine lv_lconst (v := lN (0)) hx hb dX4_load_102 rfl ?_
      refine tp_l (y := lZ ((0 : Nat) : Int)) (lZ_nat _) ?_
      refine bk_ge (tgt := 111) hx hb dX4_load_103 dX4_load_104 (by decide) (by omega) (by omega) (by omega) (by omega) (fun q5 => ?_) (fun q5 => ?_)
      · rw [hsg] at q5
        have hdc : decide (v9 < 0) = false := decide_eq_false (by omega)
        refine lv_iconst (v := nI (0)) hx hb dX4_load_111 (by decide) ?_
        refine rp_3_minus hx hb hts in3 hown hK hP hD hS (11 + 2 * k_n) (by omega) (mg_GS k_n).1 (hts _ (by decide +kernel)) rfl rfl dX4_load_112 (fun H locs hP hD hS => ?_)
        rw [mg_pgS k_n (nd_p v9.natAbs) false ((rg k_n).2.2.2) (v := nI (0)) rfl] at hP hD
        refine lv_aload hx hb dX4_load_115 (lv_at hl 2 rfl) ?_
        refine lv_iload hx hb dX4_load_117 (lv_at hl 1 rfl) ?_
        refine rp_3_scale hx hb hts in3 hown hK hP hD hS (11 + 2 * k_n) (by omega) (mg_GS k_n).1 (hts _ (by decide +kernel)) rfl rfl dX4_load_119 (fun H locs hP hD hS => ?_)
        rw [mg_pgS k_n (nd_p v9.natAbs) false sc (v := nI (false.toNat)) rfl] at hP hD
        refine lv_iconst (v := nI (0)) hx hb dX4_load_122 (by decide) ?_
        have hsp : sp_load rh (k_n : Int) (lZ v9) sc = (nI 0, va_up rh k_n (false, v9.natAbs, sc)) := by rw [sp_load, if_pos (by omega), if_pos q3, e_k, lZ_toInt (by omega) (by omega), hdc]
        have hmr : mr (va_up rg k_n (f, nd_p v9.natAbs, false, sc)) (va_up rh k_n (false, v9.natAbs, sc)) := mr_up hm hrv rfl
        exact W.iret (v := nI (0)) hx hb hr (fun t ht hW => ⟨⟨nI (0), _, rfl, ⟨by rw [hsp], _, _, _, _, _, by rw [hsp]; exact hmr, rfl⟩, wd_end hP hK hD ht hW⟩, hS.F ht⟩) hS.2.2 dX4_load_123
      · rw [hsg] at q5
        have hdc : decide (v9 < 0) = true := decide_eq_true (by omega)
        refine lv_iconst (v := nI (1)) hx hb dX4_load_107 (by decide) ?_
        refine lv_goto (tgt := 112) hx hb dX4_load_108 (by decide) ?_
        refine rp_3_minus hx hb hts in3 hown hK hP hD hS (11 + 2 * k_n) (by omega) (mg_GS k_n).1 (hts _ (by decide +kernel)) rfl rfl dX4_load_112 (fun H locs hP hD hS => ?_)
        rw [mg_pgS k_n (nd_p v9.natAbs) true ((rg k_n).2.2.2) (v := nI (1)) rfl] at hP hD
        refine lv_aload hx hb dX4_load_115 (lv_at hl 2 rfl) ?_
        refine lv_iload hx hb dX4_load_117 (lv_at hl 1 rfl) ?_
        refine rp_3_scale hx hb hts in3 hown hK hP hD hS (11 + 2 * k_n) (by omega) (mg_GS k_n).1 (hts _ (by decide +kernel)) rfl rfl dX4_load_119 (fun H locs hP hD hS => ?_)
        rw [mg_pgS k_n (nd_p v9.natAbs) true sc (v := nI (true.toNat)) rfl] at hP hD
        refine lv_iconst (v := nI (0)) hx hb dX4_load_122 (by decide) ?_
        have hsp : sp_load rh (k_n : Int) (lZ v9) sc = (nI 0, va_up rh k_n (true, v9.natAbs, sc)) := by rw [sp_load, if_pos (by omega), if_pos q3, e_k, lZ_toInt (by omega) (by omega), hdc]
        have hmr : mr (va_up rg k_n (f, nd_p v9.natAbs, true, sc)) (va_up rh k_n (true, v9.natAbs, sc)) := mr_up hm hrv rfl
        exact W.iret (v := nI (0)) hx hb hr (fun t ht hW => ⟨⟨nI (0), _, rfl, ⟨by rw [hsp], _, _, _, _, _, by rw [hsp]; exact hmr, rfl⟩, wd_end hP hK hD ht hW⟩, hS.F ht⟩) hS.2.2 dX4_load_123
    · have q3 := it_eq q2
      refine lv_bipush (v := iZ (-3)) hx hb dX4_load_18 (by decide) ?_
      exact W.iret (v := iZ (-3)) hx hb hr (fun t ht hW => ⟨⟨iZ (-3), _, rfl, ⟨by rw [sp_load, if_pos (by omega), if_neg q3], _, _, _, _, rg, by rw [sp_load, if_pos (by omega), if_neg q3]; exact hm, rfl⟩, wd_end hP hK hD ht hW⟩, hS.F ht⟩) hS.2.2 dX4_load_20
  · have g_k := it_eq q_k
    refine lv_iconst (v := iZ (-1)) hx hb dX4_load_7 (by decide) ?_
    exact W.iret (v := iZ (-1)) hx hb hr (fun t ht hW => ⟨⟨iZ (-1), _, rfl, ⟨by rw [sp_load, if_neg (by omega)], _, _, _, _, rg, by rw [sp_load, if_neg (by omega)]; exact hm, rfl⟩, wd_end hP hK hD ht hW⟩, hS.F ht⟩) hS.2.2 dX4_load_8
