theorem nw_sl2 {cA : Nat → ClassId} {ad : Nat → Nat} {g : Nat → va_E} {a w : Nat} {f fq fq' : Nat → Int64} {sv sq : Int32} (h1 : w ≠ a) (h2 : w ≠ a + 1) (h3 : w + 1 ≠ a) : va_up (nw_ cA ad (nw_ cA ad g w fq sq) a f sv) (w + 1) (.inl (cA 0, 64, .inr (.inl fq'))) = nw_ cA ad (nw_ cA ad g w fq' sq) a f sv := by
  rw [nw_comm h1 h2 h3, nw_sl, nw_comm h1 h2 h3]
theorem nw_so2 {cA : Nat → ClassId} {ad : Nat → Nat} {g : Nat → va_E} {a w : Nat} {f fq : Nat → Int64} {sv sq v : Int32} (h1 : w ≠ a) (h2 : w ≠ a + 1) (h3 : w + 1 ≠ a) : va_up (nw_ cA ad (nw_ cA ad g w fq sq) a f sv) w (.inr (1, [.ref (ad (w + 1)), .int v])) = nw_ cA ad (nw_ cA ad g w fq v) a f sv := by
  rw [nw_comm h1 h2 h3, nw_so, nw_comm h1 h2 h3]
/-- the quotient's limbs from a place on -/
def qd (Q k : Nat) : Nat → Nat := fun j => if k ≤ j then nd_d Q j else 0
theorem qd_up (Q k : Nat) : va_up (qd Q (k + 1)) k (nd_d Q k) = qd Q k := by
  funext j
  simp only [va_up, qd]
  by_cases h : j = k
  · subst h; simp
  · rw [if_neg h]
    by_cases h2 : k ≤ j
    · rw [if_pos h2, if_pos (by omega)]
    · rw [if_neg h2, if_neg (by omega)]
theorem qd_0 (Q : Nat) : nf (qd Q 0) = nd_A Q := by funext j; simp [nf, qd, nd_A]
theorem qd_hi {Q k : Nat} (h : Q < 1000000 ^ k) : qd Q k = fun _ => 0 := by
  funext j
  simp only [qd]
  by_cases h2 : k ≤ j
  · rw [if_pos h2, nd_dz h h2]
  · rw [if_neg h2]
theorem to_lt {x y : Nat} (h : nd_s y ≤ nd_s x) (hy : y ≠ 0) : x < y * 1000000 ^ (nd_s x - nd_s y + 1) := by
  have h0 : 0 < nd_s y := by
    rcases Nat.eq_zero_or_pos (nd_s y) with q | q
    · exact absurd (nd_s_z.mp q) hy
    · exact q
  have h1 : 1000000 ^ (nd_s y - 1) ≤ y := nd_s_gt.mp (by omega)
  have h2 : 1000000 ^ nd_s x ≤ y * 1000000 ^ (nd_s x - nd_s y + 1) := by
    rw [show nd_s x = (nd_s y - 1) + (nd_s x - nd_s y + 1) by omega, Nat.pow_add]
    rw [show nd_s y - 1 + (nd_s x - nd_s y + 1) - nd_s y + 1 = nd_s x - nd_s y + 1 by omega]
    exact Nat.mul_le_mul_right _ h1
  exact Nat.lt_of_lt_of_le (nd_s_lt x) h2
set_option maxHeartbeats 4000000 in
set_option maxRecDepth 100000 in
theorem lp_X1_takeOut {p : Program} {l : Launch} {e : Env} {R : Room} {s : State} {m : MethodId} {args : Array Value} {below : List Frame} {meth : Method} {c : Code} {Q : State → Prop} {D : va_G} {cA : Nat → ClassId} {tT : Nat} {A : Nat → Prop} {N : Nat} {ad : Nat → Nat} {g : Nat → va_E} {a o w x y M : Nat} (S : CallFix p m c cX1_takeOut 7 s args wsX1_takeOut RX1) (hK : va_K D vwCl (ty_s cA) s) (hT : st_T tT A s s.heap) (hRf : 2 ≤ R.frames) (hRl : 54 ≤ R.locals) (ha1 : a + 1 < N) (ho1 : o + 1 < N) (hw1 : w + 1 < N) (ho : is_N cA ad g o y) (n1 : a ≠ o) (n2 : a ≠ o + 1) (n3 : a + 1 ≠ o) (m1 : w ≠ a) (m2 : w ≠ a + 1) (m3 : w + 1 ≠ a) (p1 : w ≠ o) (p2 : w ≠ o + 1) (p3 : w + 1 ≠ o) (hx64 : nd_s x < 64) (hy0 : y ≠ 0) (kk : ∀ (H : Heap) (locs : List Loc) (ls : Array Slot), va_P D vwCl (wm_W N ad (nw_ cA ad (nw_ cA ad g w (nf (qd (x / y) 0)) (nI 0)) a (nd_A (x % (y * 1000000 ^ 0))) (nI (nd_s x)))) H → va_D A (wm_W N ad (nw_ cA ad (nw_ cA ad g w (nf (qd (x / y) 0)) (nI 0)) a (nd_A (x % (y * 1000000 ^ 0))) (nI (nd_s x)))) → va_S A s.heap H locs → lv_has ls 7 [(3, .int (nI M)), (0, .ref (ad a)), (1, .ref (ad o)), (2, .ref (ad w))] → W p l e R s m args below meth c H locs 0 0 Q (F0 m 116 ls [])) :
    ∀ (k : Nat) (H : Heap) (locs : List Loc) (ls : Array Slot), k + nd_s y ≤ nd_s x + 1 → va_P D vwCl (wm_W N ad (nw_ cA ad (nw_ cA ad g w (nf (qd (x / y) k)) (nI 0)) a (nd_A (x % (y * 1000000 ^ k))) (nI (nd_s x)))) H → va_D A (wm_W N ad (nw_ cA ad (nw_ cA ad g w (nf (qd (x / y) k)) (nI 0)) a (nd_A (x % (y * 1000000 ^ k))) (nI (nd_s x)))) → va_S A s.heap H locs → lv_has ls 7 [(4, .int (dn k)), (3, .int (nI (M))), (0, .ref (ad a)), (1, .ref (ad o)), (2, .ref (ad w))] → W p l e R s m args below meth c H locs 0 0 Q (F0 m 45 ls []) := by
  obtain ⟨hx, hb, hml, hown, hts⟩ := S
  have in1 : ∀ w ∈ wsX10, w ∈ wsX1_takeOut := by decide +kernel
  have hsy : 0 < nd_s y := by
    rcases Nat.eq_zero_or_pos (nd_s y) with q | q
    · exact absurd (nd_s_z.mp q) hy0
    · exact q
  obtain ⟨L, hL⟩ : ∃ L, nd_s y = L + 1 := ⟨nd_s y - 1, by omega⟩
  intro k
  induction k with
  | zero =>
    intro H locs ls hk hP hD hS hl
    refine lv_iload hx hb dX1_takeOut_45 (lv_at hl 0 rfl) ?_
    refine by_lt (tgt := 116) hx hb dX1_takeOut_47 (by decide) (by omega) (by omega) (fun q9 => ?_) (fun q9 => ?_)
    · exact kk H locs ls hP hD hS (lv_sub hl [1, 2, 3, 4] rfl)
    · exact absurd (by decide) q9
  | succ k ih =>
    intro H locs ls hk hP hD hS hl
    generalize hRe : x % (y * 1000000 ^ (k + 1)) = Rv at hP hD
    have hy00 : 0 < y := Nat.pos_of_ne_zero hy0
    have hRv : Rv < y * 1000000 ^ (k + 1) := by rw [← hRe]; exact Nat.mod_lt _ (Nat.mul_pos hy00 (Nat.pow_pos (by decide)))
    have hQt : Rv / 1000000 ^ k / y = nd_d (x / y) k := by rw [← hRe]; exact td_q x y k
    have hRm : Rv % (y * 1000000 ^ k) = x % (y * 1000000 ^ k) := by rw [← hRe]; exact td_m x y k
    have hgs := gs_ok hL hRv
    have hoB := is_nw (f := nf (qd (x / y) (k + 1))) (sv := nI 0) p1 p2 p3 ho
    have hyb := nd_s_lt y
    have hWb : Rv / 1000000 ^ k < 1000000 ^ (nd_s y + 1) := by
      rw [Nat.div_lt_iff_lt_mul (Nat.pow_pos (by decide)), ← Nat.pow_add, show nd_s y + 1 + k = nd_s y + (k + 1) by omega, Nat.pow_add 1000000 (nd_s y) (k + 1)]
      exact Nat.lt_trans hRv (Nat.mul_lt_mul_of_pos_right hyb (Nat.pow_pos (n := k + 1) (show 0 < 1000000 by decide)))
    have hWz : zv (fun j => (nd_d Rv j : Int)) k (nd_s y + 1) = ((Rv / 1000000 ^ k : Nat) : Int) := by rw [zv_nd, Nat.mod_eq_of_lt hWb]
    refine lv_iload hx hb dX1_takeOut_45 (lv_at hl 0 rfl) ?_
    refine bz_lt (tgt := 116) hx hb dX1_takeOut_47 (by decide) (by omega) (fun q9 => ?_) (fun q9 => ?_)
    · exact absurd q9 (Nat.not_lt_zero _)
    · refine lv_aload_n hx hb dX1_takeOut_50 rfl (lv_at hl 2 rfl) ?_
      refine lv_aload_n hx hb dX1_takeOut_51 rfl (lv_at hl 3 rfl) ?_
      refine lv_iload hx hb dX1_takeOut_52 (lv_at hl 0 rfl) ?_
      refine va_calll (va_runV (As := [.ref (ad o), .int (nI (k))]) (rest := []) ⟨hx, hb, hml, hown, hts⟩ (c_X1_guess l D cA tT A N ad _ (nw_ cA ad g w (nf (qd (x / y) (k + 1))) (nI 0)) (a := a) (o := o) (y := y) (q := k) (Rv := Rv) (L := L) (sv := nI (nd_s x)) ha1 ho1 hoB n1 n2 n3 (by omega) hL) (cwV 2 hts gX1_takeOut_X1_guess rfl rfl rfl (by decide +kernel) ⟨Nat.le_trans (Nat.le_of_ble_eq_true rfl) hRf, Nat.le_trans (Nat.le_of_ble_eq_true rfl) hRl⟩) (wd_preV (k := a) hP hK hD hT hS (by omega) nw_o rfl) rfl rfl hl.1 rfl (lv_room (Nat.le_of_ble_eq_true rfl)) dX1_takeOut_54 ⟨Nat.zero_le _, Nat.zero_le _⟩) hS id_2 id_1 (fun r_ u t H locs ht hvm hw hB hz1 hk1 hS => ?_)
      obtain ⟨hP, hD⟩ := wd_back ht hB
      clear ht hvm hB hz1 hk1
      obtain ⟨hr_, hu_⟩ := hw
      subst hr_
      rw [hu_] at hP hD
      clear hu_
      generalize hT9 : gs Rv y k L = Tv at hgs ⊢
      refine lv_lstore (lv' := [(5, .long (lN (Tv))), (4, .int (nI (k))), (3, .int (nI (M))), (0, .ref (ad a)), (1, .ref (ad o)), (2, .ref (ad w))]) hx hb dX1_takeOut_57 hl (by decide) rfl (fun ls hl => ?_)
      refine lv_aload_n hx hb dX1_takeOut_59 rfl (lv_at hl 3 rfl) ?_
      refine lv_aload_n hx hb dX1_takeOut_60 rfl (lv_at hl 4 rfl) ?_
      refine lv_lload hx hb dX1_takeOut_61 (lv_at hl 0 rfl) ?_
      refine lv_iload hx hb dX1_takeOut_63 (lv_at hl 1 rfl) ?_
      have hdm := Nat.div_add_mod (Rv / 1000000 ^ k) y
      have hml9 : y * (Rv / 1000000 ^ k / y) = Rv / 1000000 ^ k / y * y := Nat.mul_comm _ _
      have hr9 := Nat.mod_lt (Rv / 1000000 ^ k) hy00
      rw [zf_nd] at hP hD
      rw [lZ_nat Tv] at hl ⊢
      refine va_callv (va_runV (As := [.ref (ad o), .long (lZ ((Tv : Int))), .int (nI (k))]) (rest := []) ⟨hx, hb, hml, hown, hts⟩ (c_X1_takeAway l D cA tT A N ad _ (nw_ cA ad g w (nf (qd (x / y) (k + 1))) (nI 0)) (a := a) (o := o) (y := y) (q := k) (sv := nI (nd_s x)) (T := (Tv : Int)) (F := fun j => (nd_d Rv j : Int)) ha1 ho1 hoB n1 n2 n3 (by omega) (by omega) (by omega) (fun j _ => ⟨Int.natCast_nonneg _, by have := nd_lt Rv (k + j); omega⟩)) (cwV 3 hts gX1_takeOut_X1_takeAway rfl rfl rfl (by decide +kernel) ⟨Nat.le_trans (Nat.le_of_ble_eq_true rfl) hRf, Nat.le_trans (Nat.le_of_ble_eq_true rfl) hRl⟩) (wd_preV (k := a) hP hK hD hT hS (by omega) nw_o rfl) rfl rfl hl.1 rfl (lv_room (Nat.le_of_ble_eq_true rfl)) dX1_takeOut_65 ⟨Nat.zero_le _, Nat.zero_le _⟩) hS id_2 id_1 (fun u t H locs ht hvm hw hB hz1 hk1 hS => ?_)
      obtain ⟨hP, hD⟩ := wd_back ht hB
      clear ht hvm hB hz1 hk1
      obtain ⟨G, hu_, hG1, hG2, hG3⟩ := hw
      rw [hu_] at hP hD
      clear hu_
      rw [hWz] at hG1
      refine lv_aload_n hx hb dX1_takeOut_68 rfl (lv_at hl 3 rfl) ?_
      refine rg_1_limbs hx hb hts in1 hown hK hP a (by omega) nw_o (hts _ (by decide +kernel)) dX1_takeOut_69 ?_
      refine lv_iload hx hb dX1_takeOut_72 (lv_at hl 1 rfl) ?_
      refine lv_aload_n hx hb dX1_takeOut_74 rfl (lv_at hl 4 rfl) ?_
      refine rg_1_size hx hb hts in1 hown hK hP o (by omega) ((nw_ne (by omega) (by omega)).trans ((nw_ne (by omega) (by omega)).trans ho.1)) (hts _ (by decide +kernel)) dX1_takeOut_75 ?_
      refine lv_iadd hx hb dX1_takeOut_78 ?_
      refine tp_i (y := nI (k + (nd_s y))) (nI_add _ _) ?_
      refine rn_l hx hb hK hP (a + 1) (by omega) nw_l (by omega) (by decide) dX1_takeOut_79 ?_
      refine tp_l (y := lZ (G (k + (nd_s y)))) rfl ?_
      refine lv_lconst (v := lN (0)) hx hb dX1_takeOut_80 rfl ?_
      refine bL_ge (tgt := 101) hx hb dX1_takeOut_81 dX1_takeOut_82 (by decide) (fun q8 => ?_) (fun q8 => ?_)
      · have hTv : Tv = Rv / 1000000 ^ k / y := by
          rcases Nat.lt_or_ge (Rv / 1000000 ^ k / y) Tv with r | r
          · exfalso
            have e1 : Tv = Rv / 1000000 ^ k / y + 1 := by omega
            rw [e1, Int.natCast_add, Int.add_mul, ← Int.natCast_mul, ← hml9] at hG1
            have hneg := (zv_top hG2 hG1).2 (by omega) (by omega)
            rw [show lN 0 = lZ 0 from rfl] at q8
            have hlow := (zv_lo hG2)
            have hbd : -3 ≤ G (k + nd_s y) := by
              rw [zv] at hG1
              rcases Int.lt_or_le (G (k + nd_s y)) (-3) with v | v
              · have := Int.mul_le_mul_of_nonneg_right (show G (k + nd_s y) ≤ -4 by omega) (show (0 : Int) ≤ ((1000000 ^ nd_s y : Nat) : Int) by omega)
                omega
              · exact v
            rw [lZ_le (by decide) (by decide) (by omega) (by omega)] at q8
            omega
          · omega
        rw [hTv, ← Int.natCast_mul, ← hml9] at hG1
        have hfin := td_fin hy00 hRv hG2 hG3 (by omega)
        rw [hRm] at hfin
        rw [hfin] at hP hD
        rw [hTv, hQt, ← lZ_nat] at hl
        refine lv_aload_n hx hb dX1_takeOut_101 rfl (lv_at hl 5 rfl) ?_
        refine rg_1_limbs hx hb hts in1 hown hK hP w (by omega) ((nw_ne (by omega) (by omega)).trans nw_o) (hts _ (by decide +kernel)) dX1_takeOut_102 ?_
        refine lv_iload hx hb dX1_takeOut_105 (lv_at hl 1 rfl) ?_
        refine lv_lload hx hb dX1_takeOut_107 (lv_at hl 0 rfl) ?_
        refine rt_l hx hb hK hP hD hS (w + 1) (by omega) ((nw_ne (by omega) (by omega)).trans nw_l) (by omega) (by decide) dX1_takeOut_109 (fun H locs hP hD hS => ?_)
        rw [nw_sl2 m1 m2 m3] at hP hD
        refine lv_iinc (v := dn k) (lv' := [(4, .int (dn k)), (5, .long (lN (nd_d (x / y) k))), (3, .int (nI (M))), (0, .ref (ad a)), (1, .ref (ad o)), (2, .ref (ad w))]) hx hb dX1_takeOut_110 hl (k := 1) rfl (dn_dec k) (by decide) rfl (fun ls hl => ?_)
        refine lv_goto (tgt := 45) hx hb dX1_takeOut_113 (by decide) ?_
        rw [nf_up, qd_up] at hP hD
        exact ih H locs ls (by omega) hP hD hS (lv_sub hl [0, 2, 3, 4, 5] rfl)
      · have hTv : Tv = Rv / 1000000 ^ k / y + 1 := by
          rcases Nat.lt_or_ge (Rv / 1000000 ^ k / y) Tv with r | r
          · omega
          · exfalso
            have e1 : Tv = Rv / 1000000 ^ k / y := by omega
            rw [e1, ← Int.natCast_mul, ← hml9] at hG1
            have h0 := (zv_top hG2 hG1).1 (by omega) (by omega)
            rw [h0] at q8
            exact q8 (by decide)
        rw [hTv, Int.natCast_add, Int.add_mul, ← Int.natCast_mul, ← hml9] at hG1
        refine lv_aload_n hx hb dX1_takeOut_85 rfl (lv_at hl 3 rfl) ?_
        refine lv_aload_n hx hb dX1_takeOut_86 rfl (lv_at hl 4 rfl) ?_
        refine lv_ldc2 (v := (-1)) hx hb hown (hts _ (by decide +kernel)) dX1_takeOut_87 ?_
        refine lv_iload hx hb dX1_takeOut_90 (lv_at hl 1 rfl) ?_
        refine va_callv (va_runV (As := [.ref (ad o), .long ((-1)), .int (nI (k))]) (rest := []) ⟨hx, hb, hml, hown, hts⟩ (c_X1_takeAway l D cA tT A N ad _ (nw_ cA ad g w (nf (qd (x / y) (k + 1))) (nI 0)) (a := a) (o := o) (y := y) (q := k) (sv := nI (nd_s x)) (T := -1) (F := G) ha1 ho1 hoB n1 n2 n3 (by omega) (by decide) (by decide) hG2) (cwV 3 hts gX1_takeOut_X1_takeAway rfl rfl rfl (by decide +kernel) ⟨Nat.le_trans (Nat.le_of_ble_eq_true rfl) hRf, Nat.le_trans (Nat.le_of_ble_eq_true rfl) hRl⟩) (wd_preV (k := a) hP hK hD hT hS (by omega) nw_o rfl) rfl rfl hl.1 rfl (lv_room (Nat.le_of_ble_eq_true rfl)) dX1_takeOut_92 ⟨Nat.zero_le _, Nat.zero_le _⟩) hS id_2 id_1 (fun u t H locs ht hvm hw hB hz1 hk1 hS => ?_)
        obtain ⟨hP, hD⟩ := wd_back ht hB
        clear ht hvm hB hz1 hk1
        obtain ⟨G2, hu_, hH1, hH2, hH3⟩ := hw
        rw [hu_] at hP hD
        clear hu_
        rw [hG1] at hH1
        have hfin := td_fin hy00 hRv hH2 (fun j hj => (hH3 j hj).trans (hG3 j hj)) (by omega)
        rw [hRm] at hfin
        rw [hfin] at hP hD
        refine lv_lload hx hb dX1_takeOut_95 (lv_at hl 0 rfl) ?_
        refine lv_lconst (v := lN (1)) hx hb dX1_takeOut_97 rfl ?_
        refine lv_lsub hx hb dX1_takeOut_98 ?_
        refine tp_l (y := lN (nd_d (x / y) k)) (by rw [← hQt, lZ_nat, lZ_nat, lZ_sub, hTv]; congr 1; omega) ?_
        refine lv_lstore (lv' := [(5, .long (lN (nd_d (x / y) k))), (4, .int (nI (k))), (3, .int (nI (M))), (0, .ref (ad a)), (1, .ref (ad o)), (2, .ref (ad w))]) hx hb dX1_takeOut_99 hl (by decide) rfl (fun ls hl => ?_)
        refine lv_aload_n hx hb dX1_takeOut_101 rfl (lv_at hl 5 rfl) ?_
        refine rg_1_limbs hx hb hts in1 hown hK hP w (by omega) ((nw_ne (by omega) (by omega)).trans nw_o) (hts _ (by decide +kernel)) dX1_takeOut_102 ?_
        refine lv_iload hx hb dX1_takeOut_105 (lv_at hl 1 rfl) ?_
        refine lv_lload hx hb dX1_takeOut_107 (lv_at hl 0 rfl) ?_
        refine rt_l hx hb hK hP hD hS (w + 1) (by omega) ((nw_ne (by omega) (by omega)).trans nw_l) (by omega) (by decide) dX1_takeOut_109 (fun H locs hP hD hS => ?_)
        rw [nw_sl2 m1 m2 m3] at hP hD
        refine lv_iinc (v := dn k) (lv' := [(4, .int (dn k)), (5, .long (lN (nd_d (x / y) k))), (3, .int (nI (M))), (0, .ref (ad a)), (1, .ref (ad o)), (2, .ref (ad w))]) hx hb dX1_takeOut_110 hl (k := 1) rfl (dn_dec k) (by decide) rfl (fun ls hl => ?_)
        refine lv_goto (tgt := 45) hx hb dX1_takeOut_113 (by decide) ?_
        rw [nf_up, qd_up] at hP hD
        exact ih H locs ls (by omega) hP hD hS (lv_sub hl [0, 2, 3, 4, 5] rfl)
set_option maxHeartbeats 4000000 in
set_option maxRecDepth 100000 in
/-- takeOut: quotient and rest -/
theorem c_X1_takeOut (l : Launch) (D : va_G) (cA : Nat → ClassId) (tT : Nat) (A : Nat → Prop) (N : Nat) (ad : Nat → Nat) (sz : Nat) (g : Nat → va_E) {a o w x y z : Nat} (ha1 : a + 1 < N) (ho1 : o + 1 < N) (hw1 : w + 1 < N) (ho : is_N cA ad g o y) (n1 : a ≠ o) (n2 : a ≠ o + 1) (n3 : a + 1 ≠ o) (m1 : w ≠ a) (m2 : w ≠ a + 1) (m3 : w + 1 ≠ a) (p1 : w ≠ o) (p2 : w ≠ o + 1) (p3 : w + 1 ≠ o) (hx64 : nd_s x < 64) (hy0 : y ≠ 0) (ha : is_N cA ad g a x) (hw : is_N cA ad g w z) (hz64 : z < 1000000 ^ 64) (hy64 : nd_s y ≤ 64) : Met l yX1_takeOut wsX1_takeOut ({ frames := 2, cells := 0, slots := 0, locals := 54 }) (va_Pc [.ref (ad a), .ref (ad o), .ref (ad w)] (wd_B D cA tT A N ad sz g)) (va_Qv (fun (u : Nat → va_E) => u = nN cA ad (nN cA ad g w (x / y)) a (x % y)) (wd_E D cA A N ad) A) 0 0 A := by
  refine Met.ofW (cc := cX1_takeOut) (maxL := 7) (ret := none) (by decide) rfl ?_
  intro p e s m args below meth c s₁ B hml hv
  obtain ⟨rfl, hsz, hP, hK, hD, hT⟩ := hv
  have hx := B.exec
  have hb := B.bytes
  have hr := B.returns
  have hts := atoms_spec (ws := wsX1_takeOut) B.pre
  have hown : s.vm.findClass RX1 = some m.cls := findClass_of_methodNamed B.named
  have hlocks := B.notSynchronized
  subst hsz
  have hS : va_S A s.heap s.heap [] := va_S.rf
  have in1 : ∀ w ∈ wsX10, w ∈ wsX1_takeOut := by decide +kernel
  have hl := lv_entry ([.ref (ad a), .ref (ad o), .ref (ad w)]) (n := 7) (Nat.le_of_ble_eq_true rfl)
  rw [lg_entry_eq]
  generalize (lg_sl ([.ref (ad a), .ref (ad o), .ref (ad w)]) ++ List.replicate (7 - (lg_sl ([.ref (ad a), .ref (ad o), .ref (ad w)])).length) Slot.unset).toArray = ls at hl ⊢
  have hl : lv_has ls 7 [(0, .ref (ad a)), (1, .ref (ad o)), (2, .ref (ad w))] := hl
  have hw0 := hw
  refine lv_aload_n hx hb dX1_takeOut_0 rfl (lv_at hl 2 rfl) ?_
  refine va_callv (va_runV (As := []) (rest := []) ⟨hx, hb, hml, hown, hts⟩ (c_X1_clear l D cA tT A N ad _ _ (a := w) (x := z) hw1 hw0 hz64) (cwV 0 hts gX1_takeOut_X1_clear rfl rfl rfl (by decide +kernel) ⟨Nat.le_of_ble_eq_true rfl, Nat.le_of_ble_eq_true rfl⟩) (wd_preV (k := w) hP hK hD hT hS (by omega) hw0.1 rfl) rfl rfl hl.1 rfl (lv_room (Nat.le_of_ble_eq_true rfl)) dX1_takeOut_1 ⟨Nat.zero_le _, Nat.zero_le _⟩) hS id_2 id_1 (fun u t H locs ht hvm hw hB hz1 hk1 hS => ?_)
  obtain ⟨hP, hD⟩ := wd_back ht hB
  clear ht hvm hB hz1 hk1
  rw [hw] at hP hD
  clear hw
  rw [nN, nf_0, nd_s0] at hP hD
  have ha9 := is_nw (f := nf (fun _ => 0)) (sv := nI 0) m1 m2 m3 ha
  rw [← nw_self ha9] at hP hD
  refine lv_aload_n hx hb dX1_takeOut_4 rfl (lv_at hl 1 rfl) ?_
  refine rg_1_size hx hb hts in1 hown hK hP o (by omega) ((nw_ne (by omega) (by omega)).trans ((nw_ne (by omega) (by omega)).trans ho.1)) (hts _ (by decide +kernel)) dX1_takeOut_5 ?_
  refine bz_eq (tgt := 31) hx hb dX1_takeOut_8 (by decide) (by omega) (fun q1 => ?_) (fun q1 => ?_)
  · exact absurd (nd_s_z.mp q1) hy0
  · refine lv_aload_n hx hb dX1_takeOut_11 rfl (lv_at hl 0 rfl) ?_
    refine rg_1_size hx hb hts in1 hown hK hP a (by omega) nw_o (hts _ (by decide +kernel)) dX1_takeOut_12 ?_
    refine lv_aload_n hx hb dX1_takeOut_15 rfl (lv_at hl 1 rfl) ?_
    refine rg_1_size hx hb hts in1 hown hK hP o (by omega) ((nw_ne (by omega) (by omega)).trans ((nw_ne (by omega) (by omega)).trans ho.1)) (hts _ (by decide +kernel)) dX1_takeOut_16 ?_
    refine bi_lt (tgt := 31) hx hb dX1_takeOut_19 (by decide) (by omega) (by omega) (fun q2 => ?_) (fun q2 => ?_)
    · have hlt := nd_sl q2
      exact W.vret hx hb hr (fun t ht hW => ⟨⟨_, rfl, by rw [Nat.div_eq_of_lt hlt, Nat.mod_eq_of_lt hlt, nN, nN, nN, nf_0, nd_s0], wd_end hP hK hD ht hW⟩, hS.F ht⟩) hS.2.2 dX1_takeOut_31
    · refine lv_aload_n hx hb dX1_takeOut_22 rfl (lv_at hl 0 rfl) ?_
      refine rg_1_size hx hb hts in1 hown hK hP a (by omega) nw_o (hts _ (by decide +kernel)) dX1_takeOut_23 ?_
      refine lv_bipush (v := nI (64)) hx hb dX1_takeOut_26 (by decide) ?_
      refine bi_lt (tgt := 32) hx hb dX1_takeOut_28 (by decide) (by omega) (by omega) (fun q3 => ?_) (fun q3 => ?_)
      · have hxl := to_lt (x := x) (y := y) (by omega) hy0
        have hsy : 0 < nd_s y := Nat.pos_of_ne_zero q1
        have hQb : x / y < 1000000 ^ (nd_s x - nd_s y + 1) := by rw [Nat.div_lt_iff_lt_mul (Nat.pos_of_ne_zero hy0), Nat.mul_comm]; exact hxl
        have hW9 : nN cA ad (nw_ cA ad g w (nf (fun _ => 0)) (nI 0)) a x = nw_ cA ad (nw_ cA ad g w (nf (qd (x / y) (nd_s x - nd_s y + 1))) (nI 0)) a (nd_A (x % (y * 1000000 ^ (nd_s x - nd_s y + 1)))) (nI (nd_s x)) := by rw [Nat.mod_eq_of_lt hxl, qd_hi hQb]
        rw [hW9] at hP hD
        refine lv_aload_n hx hb dX1_takeOut_32 rfl (lv_at hl 0 rfl) ?_
        refine rg_1_size hx hb hts in1 hown hK hP a (by omega) nw_o (hts _ (by decide +kernel)) dX1_takeOut_33 ?_
        refine lv_aload_n hx hb dX1_takeOut_36 rfl (lv_at hl 1 rfl) ?_
        refine rg_1_size hx hb hts in1 hown hK hP o (by omega) ((nw_ne (by omega) (by omega)).trans ((nw_ne (by omega) (by omega)).trans ho.1)) (hts _ (by decide +kernel)) dX1_takeOut_37 ?_
        refine lv_isub hx hb dX1_takeOut_40 ?_
        refine tp_i (y := nI ((nd_s x) - (nd_s y))) (pk_sub (by omega)) ?_
        refine lv_istore_n (lv' := [(3, .int (nI ((nd_s x) - (nd_s y)))), (0, .ref (ad a)), (1, .ref (ad o)), (2, .ref (ad w))]) hx hb dX1_takeOut_41 rfl hl (by decide) rfl (fun ls hl => ?_)
        refine lv_iload_n hx hb dX1_takeOut_42 rfl (lv_at hl 0 rfl) ?_
        refine lv_istore (lv' := [(4, .int (nI ((nd_s x) - (nd_s y)))), (3, .int (nI ((nd_s x) - (nd_s y)))), (0, .ref (ad a)), (1, .ref (ad o)), (2, .ref (ad w))]) hx hb dX1_takeOut_43 hl (by decide) rfl (fun ls hl => ?_)
        refine lp_X1_takeOut (M := nd_s x - nd_s y) ⟨hx, hb, hml, hown, hts⟩ hK hT (Nat.le_of_ble_eq_true rfl) (Nat.le_of_ble_eq_true rfl) ha1 ho1 hw1 ho n1 n2 n3 m1 m2 m3 p1 p2 p3 hx64 hy0 (fun H locs ls hP hD hS hl => ?_) (nd_s x - nd_s y + 1) _ _ ls (by omega) hP hD hS (lv_sub hl [0, 1, 2, 3, 4] rfl)
        rw [qd_0, Nat.pow_zero, Nat.mul_one] at hP hD
        refine lv_aload_n hx hb dX1_takeOut_116 rfl (lv_at hl 3 rfl) ?_
        refine lv_iload_n hx hb dX1_takeOut_117 rfl (lv_at hl 0 rfl) ?_
        refine lv_iconst (v := nI (1)) hx hb dX1_takeOut_118 (by decide) ?_
        refine lv_iadd hx hb dX1_takeOut_119 ?_
        refine tp_i (y := nI ((nd_s x - nd_s y) + 1)) (nI_add _ _) ?_
        refine rp_1_size hx hb hts in1 hown hK hP hD hS w (by omega) ((nw_ne (by omega) (by omega)).trans nw_o) (hts _ (by decide +kernel)) rfl rfl dX1_takeOut_120 (fun H locs hP hD hS => ?_)
        rw [nw_so2 m1 m2 m3] at hP hD
        refine lv_aload_n hx hb dX1_takeOut_123 rfl (lv_at hl 3 rfl) ?_
        rw [nw_comm m1 m2 m3] at hP hD
        refine va_callv (va_runV (As := []) (rest := []) ⟨hx, hb, hml, hown, hts⟩ (c_X1_shrink l D cA tT A N ad _ (nw_ cA ad g a (nd_A (x % y)) (nI (nd_s x))) (a := w) (V := x / y) (k := nd_s x - nd_s y + 1) hw1 (by omega) hQb) (cwV 0 hts gX1_takeOut_X1_shrink rfl rfl rfl (by decide +kernel) ⟨Nat.le_of_ble_eq_true rfl, Nat.le_of_ble_eq_true rfl⟩) (wd_preV (k := w) hP hK hD hT hS (by omega) nw_o rfl) rfl rfl hl.1 rfl (lv_room (Nat.le_of_ble_eq_true rfl)) dX1_takeOut_124 ⟨Nat.zero_le _, Nat.zero_le _⟩) hS id_2 id_1 (fun u t H locs ht hvm hw hB hz1 hk1 hS => ?_)
        obtain ⟨hP, hD⟩ := wd_back ht hB
        clear ht hvm hB hz1 hk1
        rw [hw] at hP hD
        clear hw
        rw [nN, ← nw_comm m1 m2 m3] at hP hD
        refine lv_aload_n hx hb dX1_takeOut_127 rfl (lv_at hl 1 rfl) ?_
        refine va_callv (va_runV (As := []) (rest := []) ⟨hx, hb, hml, hown, hts⟩ (c_X1_shrink l D cA tT A N ad _ (nN cA ad g w (x / y)) (a := a) (V := x % y) (k := nd_s x) ha1 (by omega) (Nat.lt_of_le_of_lt (Nat.mod_le x y) (nd_s_lt x))) (cwV 0 hts gX1_takeOut_X1_shrink rfl rfl rfl (by decide +kernel) ⟨Nat.le_of_ble_eq_true rfl, Nat.le_of_ble_eq_true rfl⟩) (wd_preV (k := a) hP hK hD hT hS (by omega) nw_o rfl) rfl rfl hl.1 rfl (lv_room (Nat.le_of_ble_eq_true rfl)) dX1_takeOut_128 ⟨Nat.zero_le _, Nat.zero_le _⟩) hS id_2 id_1 (fun u t H locs ht hvm hw hB hz1 hk1 hS => ?_)
        obtain ⟨hP, hD⟩ := wd_back ht hB
        clear ht hvm hB hz1 hk1
        rw [hw] at hP hD
        clear hw
        exact W.vret hx hb hr (fun t ht hW => ⟨⟨_, rfl, rfl, wd_end hP hK hD ht hW⟩, hS.F ht⟩) hS.2.2 dX1_takeOut_131
      · exact absurd hx64 q3
