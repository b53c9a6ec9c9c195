/-- a number with a sign -/
def sg (n : Bool) (q : Nat) : Int := if n then -(q : Int) else (q : Int)
theorem sg_t (q : Nat) : sg true q = -(q : Int) := rfl
theorem sg_f (q : Nat) : sg false q = (q : Int) := rfl
theorem sg_abs (n : Bool) (q : Nat) : (sg n q).natAbs = q := by
  cases n
  · rw [sg_f]; omega
  · rw [sg_t]; omega
theorem sg_of (z : Int) : sg (decide (z < 0)) z.natAbs = z := by
  by_cases h : z < 0
  · rw [decide_eq_true h, sg_t]; omega
  · rw [decide_eq_false h, sg_f]; omega
theorem sg_tdiv (n : Bool) (q b : Nat) : (sg n q).tdiv (b : Int) = sg n (q / b) := by
  cases n
  · rw [sg_f, sg_f, ← Int.ofNat_tdiv]
  · rw [sg_t, sg_t, Int.neg_tdiv, ← Int.ofNat_tdiv]
theorem sg_le {n : Bool} {q r : Nat} (h : r ≤ q) (h1 : -9223372036854775808 ≤ sg n q) (h2 : sg n q < 9223372036854775808) : -9223372036854775808 ≤ sg n r ∧ sg n r < 9223372036854775808 := by
  cases n
  · rw [sg_f] at *; omega
  · rw [sg_t] at *; omega
theorem lZ_div {n : Bool} {q b : Nat} (h1 : -9223372036854775808 ≤ sg n q) (h2 : sg n q < 9223372036854775808) (b2 : b < 2 ^ 63) : lZ (sg n q) / lN b = lZ (sg n (q / b)) := by
  apply Int64.toInt_inj.mp
  have hb : (lN b).toInt = (b : Int) := pk_lT b2
  have hne : lN b ≠ -1 := by
    intro h
    rw [h] at hb
    have : (-1 : Int64).toInt = -1 := by decide
    omega
  have h3 := sg_le (Nat.div_le_self q b) h1 h2
  rw [Int64.toInt_div_of_ne_right _ _ hne, lZ_toInt h1 h2, hb, sg_tdiv, lZ_toInt h3.1 h3.2]
theorem sg_sub (n : Bool) (q b : Nat) : sg n q - sg n (q / b) * (b : Int) = sg n (q % b) := by
  have e : ((q / b * b : Nat) : Int) + ((q % b : Nat) : Int) = (q : Int) := by
    have := Nat.div_add_mod q b
    rw [Nat.mul_comm] at this
    omega
  rw [Int.natCast_mul] at e
  cases n
  · rw [sg_f, sg_f, sg_f]; omega
  · rw [sg_t, sg_t, sg_t, Int.neg_mul]; omega
theorem lZ_rem {n : Bool} {q b : Nat} (h1 : -9223372036854775808 ≤ sg n q) (h2 : sg n q < 9223372036854775808) (b2 : b < 2 ^ 63) : lZ (sg n q) - lZ (sg n q) / lN b * lN b = lZ (sg n (q % b)) := by
  rw [lZ_div h1 h2 b2, lZ_nat b, lZ_mul, lZ_sub, sg_sub]
theorem lZ_abs {n : Bool} {r : Nat} (h : r < 9223372036854775808) : (if 0 < lZ (sg n r) then lZ (sg n r) else -lZ (sg n r)) = lN r := by
  rw [show (0 : Int64) = lZ 0 by decide]
  cases n
  · rw [sg_f]
    by_cases q : 0 < (r : Int)
    · rw [if_pos ((lZ_lt (by decide) (by decide) (by omega) (by omega)).mpr q), lZ_nat]
    · rw [if_neg (fun z => q ((lZ_lt (by decide) (by decide) (by omega) (by omega)).mp z)), lZ_neg, lZ_nat]
      congr 1; omega
  · rw [sg_t, if_neg (fun z => absurd ((lZ_lt (by decide) (by decide) (by omega) (by omega)).mp z) (by omega)), lZ_neg, lZ_nat]
    congr 1; omega
theorem nd_dsh (V F j : Nat) : nd_d (V * 1000000 ^ F) j = if j < F then 0 else nd_d V (j - F) := by
  by_cases h : j < F
  · rw [if_pos h, nd_d]
    obtain ⟨d, rfl⟩ : ∃ d, F = j + (d + 1) := ⟨F - j - 1, by omega⟩
    rw [Nat.pow_add, Nat.pow_succ, show V * (1000000 ^ j * (1000000 ^ d * 1000000)) = 1000000 ^ j * (V * 1000000 ^ d * 1000000) by
      simp only [Nat.mul_comm, Nat.mul_left_comm], Nat.mul_div_cancel_left _ (Nat.pow_pos (by decide))]
    omega
  · rw [if_neg h, nd_d, nd_d]
    obtain ⟨d, rfl⟩ : ∃ d, j = F + d := ⟨j - F, by omega⟩
    rw [Nat.pow_add, ← Nat.div_div_eq_div_mul, Nat.mul_div_cancel _ (Nat.pow_pos (by decide)), show F + d - F = d by omega]
theorem nd_ssh {V F : Nat} (h : V ≠ 0) : nd_s (V * 1000000 ^ F) = nd_s V + F := by
  have h1 : nd_s (V * 1000000 ^ F) ≤ nd_s V + F := nd_s_iff.mpr (by
    rw [Nat.pow_add]; exact (Nat.mul_lt_mul_right (Nat.pow_pos (by decide))).mpr (nd_s_lt V))
  have h0 : 0 < nd_s V := by
    rcases Nat.eq_zero_or_pos (nd_s V) with q | q
    · exact absurd (nd_s_z.mp q) h
    · exact q
  have h2 : nd_s V + F - 1 < nd_s (V * 1000000 ^ F) := nd_s_gt.mpr (by
    rw [show nd_s V + F - 1 = (nd_s V - 1) + F by omega, Nat.pow_add]
    exact Nat.mul_le_mul_right _ (nd_s_gt.mp (by omega)))
  omega
theorem nd_ssub {x k : Nat} (h : x < 1000000 ^ k) (y : Nat) : x - y < 1000000 ^ k := by omega
set_option maxHeartbeats 4000000 in
set_option maxRecDepth 100000 in
theorem lp_X1_subtract {p : Program} {l : Launch} {e : Env} {R : Room} {s : State} {m : MethodId} {args : Array Value} {below : List Frame} {meth : Method} {c : Code} {Q : State → Prop} {D : va_G} {cA : Nat → ClassId} {tT : Nat} {A : Nat → Prop} {N : Nat} {ad : Nat → Nat} {g : Nat → va_E} {a o x y : Nat} (S : CallFix p m c cX1_subtract 7 s args wsX1_subtract RX1) (hK : va_K D vwCl (ty_s cA) s) (hT : st_T tT A s s.heap) (ha1 : a + 1 < N) (ho1 : o + 1 < N) (ho : is_N cA ad g o y) (n1 : a ≠ o) (n2 : a ≠ o + 1) (n3 : a + 1 ≠ o) (hs64 : nd_s x ≤ 64) (kk : ∀ (H : Heap) (locs : List Loc) (ls : Array Slot), va_P D vwCl (wm_W N ad (nw_ cA ad g a (nd_A (x - y)) (nI (nd_s x)))) H → va_D A (wm_W N ad (nw_ cA ad g a (nd_A (x - y)) (nI (nd_s x)))) → va_S A s.heap H locs → lv_has ls 7 [(0, .ref (ad a))] → W p l e R s m args below meth c H locs 0 0 Q (F0 m 67 ls [])) :
    ∀ (n i bv : Nat) (f : Nat → Int64) (H : Heap) (locs : List Loc) (ls : Array Slot), i + n = nd_s x → x / 1000000 ^ i = y / 1000000 ^ i + bv + (x - y) / 1000000 ^ i → bv ≤ 1 → (∀ j, j < i → f j = nd_A (x - y) j) → (∀ j, i ≤ j → f j = nd_A x j) → va_P D vwCl (wm_W N ad (nw_ cA ad g a f (nI (nd_s x)))) H → va_D A (wm_W N ad (nw_ cA ad g a f (nI (nd_s x)))) → va_S A s.heap H locs → lv_has ls 7 [(4, .int (nI (i))), (2, .long (lN (bv))), (0, .ref (ad a)), (1, .ref (ad o))] → W p l e R s m args below meth c H locs 0 0 Q (F0 m 5 ls []) := by
  obtain ⟨hx, hb, hml, hown, hts⟩ := S
  have in1 : ∀ w ∈ wsX10, w ∈ wsX1_subtract := by decide +kernel
  intro n
  induction n with
  | zero =>
    intro i bv f H locs ls hn hi hc h1 h2 hP hD hS hl
    refine lv_iload hx hb dX1_subtract_5 (lv_at hl 0 rfl) ?_
    refine lv_aload_n hx hb dX1_subtract_7 rfl (lv_at hl 2 rfl) ?_
    refine rg_1_size hx hb hts in1 hown hK hP a (by omega) nw_o (hts _ (by decide +kernel)) dX1_subtract_8 ?_
    refine bi_ge (tgt := 67) hx hb dX1_subtract_11 (by decide) (by omega) (by omega) (fun q => ?_) (fun q => ?_)
    · have hfe : f = nd_A (x - y) := by
        funext j
        rcases Nat.lt_or_ge j i with r | r
        · exact h1 j r
        · rw [h2 j r, nd_A, nd_A, nd_dz (nd_s_lt x) (by omega), nd_dz (nd_ssub (nd_s_lt x) y) (by omega)]
      subst hfe
      exact kk H locs ls hP hD hS (lv_sub hl [2] rfl)
    · exact absurd hn (by omega)
  | succ n ih =>
    intro i bv f H locs ls hn hi hc h1 h2 hP hD hS hl
    refine lv_iload hx hb dX1_subtract_5 (lv_at hl 0 rfl) ?_
    refine lv_aload_n hx hb dX1_subtract_7 rfl (lv_at hl 2 rfl) ?_
    refine rg_1_size hx hb hts in1 hown hK hP a (by omega) nw_o (hts _ (by decide +kernel)) dX1_subtract_8 ?_
    refine bi_ge (tgt := 67) hx hb dX1_subtract_11 (by decide) (by omega) (by omega) (fun q => ?_) (fun q => ?_)
    · exact absurd hn (by omega)
    · have hd1 := nd_lt x i
      have hd2 := nd_lt y i
      rcases Nat.lt_or_ge (nd_d x i) (nd_d y i + bv) with hlt | hge
      · refine lv_aload_n hx hb dX1_subtract_14 rfl (lv_at hl 2 rfl) ?_
        refine rg_1_limbs hx hb hts in1 hown hK hP a (by omega) nw_o (hts _ (by decide +kernel)) dX1_subtract_15 ?_
        refine lv_iload hx hb dX1_subtract_18 (lv_at hl 0 rfl) ?_
        refine rn_l hx hb hK hP (a + 1) (by omega) nw_l (by omega) (by decide) dX1_subtract_20 ?_
        refine tp_l (y := lN (nd_d x i)) (h2 i (Nat.le_refl i)) ?_
        refine lv_aload_n hx hb dX1_subtract_21 rfl (lv_at hl 3 rfl) ?_
        refine rg_1_limbs hx hb hts in1 hown hK hP o (by omega) ((nw_ne (by omega) (by omega)).trans ho.1) (hts _ (by decide +kernel)) dX1_subtract_22 ?_
        refine lv_iload hx hb dX1_subtract_25 (lv_at hl 0 rfl) ?_
        refine rn_l hx hb hK hP (o + 1) (by omega) ((nw_ne (by omega) (by omega)).trans ho.2) (by omega) (by decide) dX1_subtract_27 ?_
        refine tp_l (y := lN (nd_d y i)) rfl ?_
        refine lv_lsub hx hb dX1_subtract_28 ?_
        refine tp_l (y := lZ ((nd_d x i : Int) - nd_d y i)) (by rw [lZ_nat, lZ_nat, lZ_sub]) ?_
        refine lv_lload_n hx hb dX1_subtract_29 rfl (lv_at hl 1 rfl) ?_
        refine lv_lsub hx hb dX1_subtract_30 ?_
        refine tp_l (y := lZ ((nd_d x i : Int) - nd_d y i - bv)) (by rw [lZ_nat bv, lZ_sub]) ?_
        refine lv_lstore (lv' := [(5, .long (lZ ((nd_d x i : Int) - nd_d y i - bv))), (4, .int (nI (i))), (2, .long (lN (bv))), (0, .ref (ad a)), (1, .ref (ad o))]) hx hb dX1_subtract_31 hl (by decide) rfl (fun ls hl => ?_)
        refine lv_lload hx hb dX1_subtract_33 (lv_at hl 0 rfl) ?_
        refine lv_lconst (v := lN (0)) hx hb dX1_subtract_35 rfl ?_
        refine bL_ge (tgt := 44) hx hb dX1_subtract_36 dX1_subtract_37 (by decide) (fun q4 => ?_) (fun q4 => ?_)
        · rw [lZ_nat, lZ_le (by decide) (by decide) (by omega) (by omega)] at q4
          exact absurd q4 (by omega)
        · refine lv_lconst (v := lN (1)) hx hb dX1_subtract_40 rfl ?_
          refine lv_goto (tgt := 45) hx hb dX1_subtract_41 (by decide) ?_
          refine lv_lstore_n (lv' := [(2, .long (lN (1))), (5, .long (lZ ((nd_d x i : Int) - nd_d y i - bv))), (4, .int (nI (i))), (0, .ref (ad a)), (1, .ref (ad o))]) hx hb dX1_subtract_45 rfl hl (by decide) rfl (fun ls hl => ?_)
          refine lv_aload_n hx hb dX1_subtract_46 rfl (lv_at hl 3 rfl) ?_
          refine rg_1_limbs hx hb hts in1 hown hK hP a (by omega) nw_o (hts _ (by decide +kernel)) dX1_subtract_47 ?_
          refine lv_iload hx hb dX1_subtract_50 (lv_at hl 2 rfl) ?_
          refine lv_lload hx hb dX1_subtract_52 (lv_at hl 1 rfl) ?_
          refine lv_lload_n hx hb dX1_subtract_54 rfl (lv_at hl 0 rfl) ?_
          refine lv_ldc2 (v := lN (1000000)) hx hb hown (hts _ (by decide +kernel)) dX1_subtract_55 ?_
          refine lv_lmul hx hb dX1_subtract_58 ?_
          refine tp_l (y := lN (1 * 1000000)) (lN_mul _ _) ?_
          refine lv_ladd hx hb dX1_subtract_59 ?_
          refine tp_l (y := lN (nd_d x i + 1000000 - nd_d y i - bv)) (by rw [lZ_nat, lZ_add, lZ_nat]; congr 1; omega) ?_
          refine rt_l hx hb hK hP hD hS (a + 1) (by omega) nw_l (by omega) (by decide) dX1_subtract_60 (fun H locs hP hD hS => ?_)
          rw [nw_sl] at hP hD
          refine lv_iinc (v := nI (i + 1)) (lv' := [(4, .int (nI (i + 1))), (2, .long (lN (1))), (5, .long (lZ ((nd_d x i : Int) - nd_d y i - bv))), (0, .ref (ad a)), (1, .ref (ad o))]) hx hb dX1_subtract_61 hl (k := 2) rfl (nI_inc i 1) (by decide) rfl (fun ls hl => ?_)
          refine lv_goto (tgt := 5) hx hb dX1_subtract_64 (by decide) ?_
          refine ih (i + 1) 1 _ H locs ls (by omega) (by simp only [nd_q]; simp only [nd_d] at hlt hd1 hd2; omega) (by omega) (fun j hj => ?_) (fun j hj => ?_) hP hD hS (lv_sub hl [0, 1, 3, 4] rfl)
          · rcases Nat.lt_or_ge j i with r | r
            · rw [pk_uLn (by omega)]; exact h1 j r
            · obtain rfl : j = i := by omega
              rw [pk_uLs, nd_A]; congr 1
              simp only [nd_d] at hlt hd1 hd2 ⊢; omega
          · rw [pk_uLn (by omega)]; exact h2 j (by omega)
      · refine lv_aload_n hx hb dX1_subtract_14 rfl (lv_at hl 2 rfl) ?_
        refine rg_1_limbs hx hb hts in1 hown hK hP a (by omega) nw_o (hts _ (by decide +kernel)) dX1_subtract_15 ?_
        refine lv_iload hx hb dX1_subtract_18 (lv_at hl 0 rfl) ?_
        refine rn_l hx hb hK hP (a + 1) (by omega) nw_l (by omega) (by decide) dX1_subtract_20 ?_
        refine tp_l (y := lN (nd_d x i)) (h2 i (Nat.le_refl i)) ?_
        refine lv_aload_n hx hb dX1_subtract_21 rfl (lv_at hl 3 rfl) ?_
        refine rg_1_limbs hx hb hts in1 hown hK hP o (by omega) ((nw_ne (by omega) (by omega)).trans ho.1) (hts _ (by decide +kernel)) dX1_subtract_22 ?_
        refine lv_iload hx hb dX1_subtract_25 (lv_at hl 0 rfl) ?_
        refine rn_l hx hb hK hP (o + 1) (by omega) ((nw_ne (by omega) (by omega)).trans ho.2) (by omega) (by decide) dX1_subtract_27 ?_
        refine tp_l (y := lN (nd_d y i)) rfl ?_
        refine lv_lsub hx hb dX1_subtract_28 ?_
        refine tp_l (y := lN ((nd_d x i) - (nd_d y i))) (lN_sub (by omega)) ?_
        refine lv_lload_n hx hb dX1_subtract_29 rfl (lv_at hl 1 rfl) ?_
        refine lv_lsub hx hb dX1_subtract_30 ?_
        refine tp_l (y := lN (((nd_d x i) - (nd_d y i)) - bv)) (lN_sub (by omega)) ?_
        refine lv_lstore (lv' := [(5, .long (lN (((nd_d x i) - (nd_d y i)) - bv))), (4, .int (nI (i))), (2, .long (lN (bv))), (0, .ref (ad a)), (1, .ref (ad o))]) hx hb dX1_subtract_31 hl (by decide) rfl (fun ls hl => ?_)
        refine lv_lload hx hb dX1_subtract_33 (lv_at hl 0 rfl) ?_
        refine lv_lconst (v := lN (0)) hx hb dX1_subtract_35 rfl ?_
        refine bl_ge (tgt := 44) hx hb dX1_subtract_36 dX1_subtract_37 (by decide) (by omega) (by omega) (fun q4 => ?_) (fun q4 => ?_)
        · refine lv_lconst (v := lN (0)) hx hb dX1_subtract_44 rfl ?_
          refine lv_lstore_n (lv' := [(2, .long (lN (0))), (5, .long (lN (((nd_d x i) - (nd_d y i)) - bv))), (4, .int (nI (i))), (0, .ref (ad a)), (1, .ref (ad o))]) hx hb dX1_subtract_45 rfl hl (by decide) rfl (fun ls hl => ?_)
          refine lv_aload_n hx hb dX1_subtract_46 rfl (lv_at hl 3 rfl) ?_
          refine rg_1_limbs hx hb hts in1 hown hK hP a (by omega) nw_o (hts _ (by decide +kernel)) dX1_subtract_47 ?_
          refine lv_iload hx hb dX1_subtract_50 (lv_at hl 2 rfl) ?_
          refine lv_lload hx hb dX1_subtract_52 (lv_at hl 1 rfl) ?_
          refine lv_lload_n hx hb dX1_subtract_54 rfl (lv_at hl 0 rfl) ?_
          refine lv_ldc2 (v := lN (1000000)) hx hb hown (hts _ (by decide +kernel)) dX1_subtract_55 ?_
          refine lv_lmul hx hb dX1_subtract_58 ?_
          refine tp_l (y := lN (0 * 1000000)) (lN_mul _ _) ?_
          refine lv_ladd hx hb dX1_subtract_59 ?_
          refine tp_l (y := lN ((((nd_d x i) - (nd_d y i)) - bv) + (0 * 1000000))) (lN_add _ _) ?_
          refine rt_l hx hb hK hP hD hS (a + 1) (by omega) nw_l (by omega) (by decide) dX1_subtract_60 (fun H locs hP hD hS => ?_)
          rw [nw_sl] at hP hD
          refine lv_iinc (v := nI (i + 1)) (lv' := [(4, .int (nI (i + 1))), (2, .long (lN (0))), (5, .long (lN (((nd_d x i) - (nd_d y i)) - bv))), (0, .ref (ad a)), (1, .ref (ad o))]) hx hb dX1_subtract_61 hl (k := 2) rfl (nI_inc i 1) (by decide) rfl (fun ls hl => ?_)
          refine lv_goto (tgt := 5) hx hb dX1_subtract_64 (by decide) ?_
          refine ih (i + 1) 0 _ H locs ls (by omega) (by simp only [nd_q]; simp only [nd_d] at hge hd1 hd2; omega) (by omega) (fun j hj => ?_) (fun j hj => ?_) hP hD hS (lv_sub hl [0, 1, 3, 4] rfl)
          · rcases Nat.lt_or_ge j i with r | r
            · rw [pk_uLn (by omega)]; exact h1 j r
            · obtain rfl : j = i := by omega
              rw [pk_uLs, nd_A]; congr 1
              simp only [nd_d] at hge hd1 hd2 ⊢; omega
          · rw [pk_uLn (by omega)]; exact h2 j (by omega)
        · exact absurd (Nat.zero_le _) q4
set_option maxHeartbeats 4000000 in
set_option maxRecDepth 100000 in
/-- subtract -/
theorem c_X1_subtract (l : Launch) (D : va_G) (cA : Nat → ClassId) (tT : Nat) (A : Nat → Prop) (N : Nat) (ad : Nat → Nat) (sz : Nat) (g : Nat → va_E) {a o x y : Nat} (ha1 : a + 1 < N) (ha : is_N cA ad g a x) (ho1 : o + 1 < N) (ho : is_N cA ad g o y) (n1 : a ≠ o) (n2 : a ≠ o + 1) (n3 : a + 1 ≠ o) (hx64 : x < 1000000 ^ 64) (hyx : y ≤ x) : Met l yX1_subtract wsX1_subtract ({ frames := 1, cells := 0, slots := 0, locals := 20 }) (va_Pc [.ref (ad a), .ref (ad o)] (wd_B D cA tT A N ad sz g)) (va_Qv (fun (u : Nat → va_E) => u = nN cA ad g a (x - y)) (wd_E D cA A N ad) A) 0 0 A := by
  refine Met.ofW (cc := cX1_subtract) (maxL := 7) (ret := none) (by decide) rfl ?_
  intro p e s m args below meth c s₁ B hml hv
  obtain ⟨rfl, hsz, hP, hK, hD, hT⟩ := hv
  have hx := B.exec
  have hb := B.bytes
  have hr := B.returns
  have hts := atoms_spec (ws := wsX1_subtract) B.pre
  have hown : s.vm.findClass RX1 = some m.cls := findClass_of_methodNamed B.named
  have hlocks := B.notSynchronized
  subst hsz
  have hS : va_S A s.heap s.heap [] := va_S.rf
  have in1 : ∀ w ∈ wsX10, w ∈ wsX1_subtract := by decide +kernel
  have hl := lv_entry ([.ref (ad a), .ref (ad o)]) (n := 7) (Nat.le_of_ble_eq_true rfl)
  rw [lg_entry_eq]
  generalize (lg_sl ([.ref (ad a), .ref (ad o)]) ++ List.replicate (7 - (lg_sl ([.ref (ad a), .ref (ad o)])).length) Slot.unset).toArray = ls at hl ⊢
  have hl : lv_has ls 7 [(0, .ref (ad a)), (1, .ref (ad o))] := hl
  have hs64 := nd_s64 hx64
  rw [← nw_self ha] at hP hD
  refine lv_lconst (v := lN (0)) hx hb dX1_subtract_0 rfl ?_
  refine lv_lstore_n (lv' := [(2, .long (lN (0))), (0, .ref (ad a)), (1, .ref (ad o))]) hx hb dX1_subtract_1 rfl hl (by decide) rfl (fun ls hl => ?_)
  refine lv_iconst (v := nI (0)) hx hb dX1_subtract_2 (by decide) ?_
  refine lv_istore (lv' := [(4, .int (nI (0))), (2, .long (lN (0))), (0, .ref (ad a)), (1, .ref (ad o))]) hx hb dX1_subtract_3 hl (by decide) rfl (fun ls hl => ?_)
  refine lp_X1_subtract ⟨hx, hb, hml, hown, hts⟩ hK hT ha1 ho1 ho n1 n2 n3 hs64 (fun H locs ls hP hD hS hl => ?_) (nd_s x) 0 0 _ _ _ ls (by omega) (by simp only [nd_q0]; omega) (Nat.zero_le _) (fun j hj => absurd hj (Nat.not_lt_zero _)) (fun j _ => rfl) hP hD hS (lv_sub hl [0, 1, 2, 3] rfl)
  refine lv_aload_n hx hb dX1_subtract_67 rfl (lv_at hl 0 rfl) ?_
  refine va_callv (va_runV (As := []) (rest := []) ⟨hx, hb, hml, hown, hts⟩ (c_X1_shrink l D cA tT A N ad _ g (a := a) (V := x - y) (k := nd_s x) ha1 hs64 (nd_ssub (nd_s_lt x) y)) (cwV 0 hts gX1_subtract_X1_shrink rfl rfl rfl (by decide +kernel) ⟨Nat.le_of_ble_eq_true rfl, Nat.le_of_ble_eq_true rfl⟩) (wd_preV (k := a) hP hK hD hT hS (by omega) nw_o rfl) rfl rfl hl.1 rfl (lv_room (Nat.le_of_ble_eq_true rfl)) dX1_subtract_68 ⟨Nat.zero_le _, Nat.zero_le _⟩) hS id_2 id_1 (fun u t H locs ht hvm hw hB hz1 hk1 hS => ?_)
  obtain ⟨hP, hD⟩ := wd_back ht hB
  clear ht hvm hB hz1 hk1
  rw [hw] at hP hD
  clear hw
  exact W.vret hx hb hr (fun t ht hW => ⟨⟨_, rfl, rfl, wd_end hP hK hD ht hW⟩, hS.F ht⟩) hS.2.2 dX1_subtract_71
set_option maxHeartbeats 4000000 in
set_option maxRecDepth 100000 in
theorem lp_X1_shift1 {p : Program} {l : Launch} {e : Env} {R : Room} {s : State} {m : MethodId} {args : Array Value} {below : List Frame} {meth : Method} {c : Code} {Q : State → Prop} {D : va_G} {cA : Nat → ClassId} {tT : Nat} {A : Nat → Prop} {N : Nat} {ad : Nat → Nat} {g : Nat → va_E} {a V F : Nat} (S : CallFix p m c cX1_shift 3 s args wsX1_shift RX1) (hK : va_K D vwCl (ty_s cA) s) (hT : st_T tT A s s.heap) (ha1 : a + 1 < N) (hF : nd_s V + F ≤ 64) (kk : ∀ (f : Nat → Int64) (H : Heap) (locs : List Loc) (ls : Array Slot), (∀ j, F ≤ j → f j = nd_A V (j - F)) → va_P D vwCl (wm_W N ad (nw_ cA ad g a f (nI (nd_s V)))) H → va_D A (wm_W N ad (nw_ cA ad g a f (nI (nd_s V)))) → va_S A s.heap H locs → lv_has ls 3 [(0, .ref (ad a)), (1, .int (nI F))] → W p l e R s m args below meth c H locs 0 0 Q (F0 m 31 ls [])) :
    ∀ (k : Nat) (f : Nat → Int64) (H : Heap) (locs : List Loc) (ls : Array Slot), k ≤ nd_s V → (∀ j, k + F ≤ j → f j = nd_A V (j - F)) → (∀ j, j < k → f j = nd_A V j) → va_P D vwCl (wm_W N ad (nw_ cA ad g a f (nI (nd_s V)))) H → va_D A (wm_W N ad (nw_ cA ad g a f (nI (nd_s V)))) → va_S A s.heap H locs → lv_has ls 3 [(2, .int (dn k)), (0, .ref (ad a)), (1, .int (nI (F)))] → W p l e R s m args below meth c H locs 0 0 Q (F0 m 7 ls []) := by
  obtain ⟨hx, hb, hml, hown, hts⟩ := S
  have in1 : ∀ w ∈ wsX10, w ∈ wsX1_shift := by decide +kernel
  intro k
  induction k with
  | zero =>
    intro f H locs ls hk h1 h2 hP hD hS hl
    refine lv_iload_n hx hb dX1_shift_7 rfl (lv_at hl 0 rfl) ?_
    refine by_lt (tgt := 31) hx hb dX1_shift_8 (by decide) (by omega) (by omega) (fun q => ?_) (fun q => ?_)
    · exact kk f H locs ls (fun j hj => h1 j (by omega)) hP hD hS (lv_sub hl [1, 2] rfl)
    · exact absurd (by decide) q
  | succ k ih =>
    intro f H locs ls hk h1 h2 hP hD hS hl
    refine lv_iload_n hx hb dX1_shift_7 rfl (lv_at hl 0 rfl) ?_
    refine bz_lt (tgt := 31) hx hb dX1_shift_8 (by decide) (by omega) (fun q => ?_) (fun q => ?_)
    · exact absurd q (Nat.not_lt_zero _)
    · refine lv_aload_n hx hb dX1_shift_11 rfl (lv_at hl 1 rfl) ?_
      refine rg_1_limbs hx hb hts in1 hown hK hP a (by omega) nw_o (hts _ (by decide +kernel)) dX1_shift_12 ?_
      refine lv_iload_n hx hb dX1_shift_15 rfl (lv_at hl 0 rfl) ?_
      refine lv_iload_n hx hb dX1_shift_16 rfl (lv_at hl 2 rfl) ?_
      refine lv_iadd hx hb dX1_shift_17 ?_
      refine tp_i (y := nI (k + F)) (nI_add _ _) ?_
      refine lv_aload_n hx hb dX1_shift_18 rfl (lv_at hl 1 rfl) ?_
      refine rg_1_limbs hx hb hts in1 hown hK hP a (by omega) nw_o (hts _ (by decide +kernel)) dX1_shift_19 ?_
      refine lv_iload_n hx hb dX1_shift_22 rfl (lv_at hl 0 rfl) ?_
      refine rn_l hx hb hK hP (a + 1) (by omega) nw_l (by omega) (by decide) dX1_shift_23 ?_
      refine tp_l (y := lN (nd_d V k)) (h2 k (by omega)) ?_
      refine rt_l hx hb hK hP hD hS (a + 1) (by omega) nw_l (by omega) (by decide) dX1_shift_24 (fun H locs hP hD hS => ?_)
      rw [nw_sl] at hP hD
      refine lv_iinc (v := dn k) (lv' := [(2, .int (dn k)), (0, .ref (ad a)), (1, .int (nI (F)))]) hx hb dX1_shift_25 hl (k := 0) rfl (dn_dec k) (by decide) rfl (fun ls hl => ?_)
      refine lv_goto (tgt := 7) hx hb dX1_shift_28 (by decide) ?_
      refine ih _ H locs ls (by omega) (fun j hj => ?_) (fun j hj => ?_) hP hD hS hl
      · rcases Nat.lt_or_ge (k + F) j with r | r
        · rw [pk_uLn (by omega)]; exact h1 j (by omega)
        · obtain rfl : j = k + F := by omega
          rw [pk_uLs, nd_A, show k + F - F = k by omega]
      · rw [pk_uLn (by omega)]; exact h2 j (by omega)
set_option maxHeartbeats 4000000 in
set_option maxRecDepth 100000 in
theorem lp_X1_shift2 {p : Program} {l : Launch} {e : Env} {R : Room} {s : State} {m : MethodId} {args : Array Value} {below : List Frame} {meth : Method} {c : Code} {Q : State → Prop} {D : va_G} {cA : Nat → ClassId} {tT : Nat} {A : Nat → Prop} {N : Nat} {ad : Nat → Nat} {g : Nat → va_E} {a V F : Nat} (S : CallFix p m c cX1_shift 3 s args wsX1_shift RX1) (hK : va_K D vwCl (ty_s cA) s) (hT : st_T tT A s s.heap) (ha1 : a + 1 < N) (hF : nd_s V + F ≤ 64) (kk : ∀ (f : Nat → Int64) (H : Heap) (locs : List Loc) (ls : Array Slot), (∀ j, F ≤ j → f j = nd_A V (j - F)) → (∀ j, j < F → f j = lN 0) → va_P D vwCl (wm_W N ad (nw_ cA ad g a f (nI (nd_s V)))) H → va_D A (wm_W N ad (nw_ cA ad g a f (nI (nd_s V)))) → va_S A s.heap H locs → lv_has ls 3 [(0, .ref (ad a)), (1, .int (nI F))] → W p l e R s m args below meth c H locs 0 0 Q (F0 m 51 ls [])) :
    ∀ (n i : Nat) (f : Nat → Int64) (H : Heap) (locs : List Loc) (ls : Array Slot), i + n = F → (∀ j, F ≤ j → f j = nd_A V (j - F)) → (∀ j, j < i → f j = lN 0) → va_P D vwCl (wm_W N ad (nw_ cA ad g a f (nI (nd_s V)))) H → va_D A (wm_W N ad (nw_ cA ad g a f (nI (nd_s V)))) → va_S A s.heap H locs → lv_has ls 3 [(2, .int (nI (i))), (0, .ref (ad a)), (1, .int (nI (F)))] → W p l e R s m args below meth c H locs 0 0 Q (F0 m 33 ls []) := by
  obtain ⟨hx, hb, hml, hown, hts⟩ := S
  have in1 : ∀ w ∈ wsX10, w ∈ wsX1_shift := by decide +kernel
  intro n
  induction n with
  | zero =>
    intro i f H locs ls hn h1 h2 hP hD hS hl
    refine lv_iload_n hx hb dX1_shift_33 rfl (lv_at hl 0 rfl) ?_
    refine lv_iload_n hx hb dX1_shift_34 rfl (lv_at hl 2 rfl) ?_
    refine bi_ge (tgt := 51) hx hb dX1_shift_35 (by decide) (by omega) (by omega) (fun q => ?_) (fun q => ?_)
    · exact kk f H locs ls h1 (fun j hj => h2 j (by omega)) hP hD hS (lv_sub hl [1, 2] rfl)
    · exact absurd hn (by omega)
  | succ n ih =>
    intro i f H locs ls hn h1 h2 hP hD hS hl
    refine lv_iload_n hx hb dX1_shift_33 rfl (lv_at hl 0 rfl) ?_
    refine lv_iload_n hx hb dX1_shift_34 rfl (lv_at hl 2 rfl) ?_
    refine bi_ge (tgt := 51) hx hb dX1_shift_35 (by decide) (by omega) (by omega) (fun q => ?_) (fun q => ?_)
    · exact absurd hn (by omega)
    · refine lv_aload_n hx hb dX1_shift_38 rfl (lv_at hl 1 rfl) ?_
      refine rg_1_limbs hx hb hts in1 hown hK hP a (by omega) nw_o (hts _ (by decide +kernel)) dX1_shift_39 ?_
      refine lv_iload_n hx hb dX1_shift_42 rfl (lv_at hl 0 rfl) ?_
      refine lv_lconst (v := lN (0)) hx hb dX1_shift_43 rfl ?_
      refine rt_l hx hb hK hP hD hS (a + 1) (by omega) nw_l (by omega) (by decide) dX1_shift_44 (fun H locs hP hD hS => ?_)
      rw [nw_sl] at hP hD
      refine lv_iinc (v := nI (i + 1)) (lv' := [(2, .int (nI (i + 1))), (0, .ref (ad a)), (1, .int (nI (F)))]) hx hb dX1_shift_45 hl (k := 0) rfl (nI_inc i 1) (by decide) rfl (fun ls hl => ?_)
      refine lv_goto (tgt := 33) hx hb dX1_shift_48 (by decide) ?_
      refine ih (i + 1) _ H locs ls (by omega) (fun j hj => ?_) (fun j hj => ?_) hP hD hS hl
      · rw [pk_uLn (by omega)]; exact h1 j hj
      · rcases Nat.lt_or_ge j i with r | r
        · rw [pk_uLn (by omega)]; exact h2 j r
        · obtain rfl : j = i := by omega
          exact pk_uLs
set_option maxHeartbeats 4000000 in
set_option maxRecDepth 100000 in
/-- shift: times a power of the base -/
theorem c_X1_shift (l : Launch) (D : va_G) (cA : Nat → ClassId) (tT : Nat) (A : Nat → Prop) (N : Nat) (ad : Nat → Nat) (sz : Nat) (g : Nat → va_E) {a V F : Nat} (ha1 : a + 1 < N) (ha : is_N cA ad g a V) (hV0 : V ≠ 0) (hF : nd_s V + F ≤ 64) : Met l yX1_shift wsX1_shift ({ frames := 0, cells := 0, slots := 0, locals := 0 }) (va_Pc [.ref (ad a), .int (nI (F))] (wd_B D cA tT A N ad sz g)) (va_Qv (fun (u : Nat → va_E) => u = nN cA ad g a (V * 1000000 ^ F)) (wd_E D cA A N ad) A) 0 0 A := by
  refine Met.ofW (cc := cX1_shift) (maxL := 3) (ret := none) (by decide) rfl ?_
  intro p e s m args below meth c s₁ B hml hv
  obtain ⟨rfl, hsz, hP, hK, hD, hT⟩ := hv
  have hx := B.exec
  have hb := B.bytes
  have hr := B.returns
  have hts := atoms_spec (ws := wsX1_shift) B.pre
  have hown : s.vm.findClass RX1 = some m.cls := findClass_of_methodNamed B.named
  have hlocks := B.notSynchronized
  subst hsz
  have hS : va_S A s.heap s.heap [] := va_S.rf
  have in1 : ∀ w ∈ wsX10, w ∈ wsX1_shift := by decide +kernel
  have hl := lv_entry ([.ref (ad a), .int (nI (F))]) (n := 3) (Nat.le_of_ble_eq_true rfl)
  rw [lg_entry_eq]
  generalize (lg_sl ([.ref (ad a), .int (nI (F))]) ++ List.replicate (3 - (lg_sl ([.ref (ad a), .int (nI (F))])).length) Slot.unset).toArray = ls at hl ⊢
  have hl : lv_has ls 3 [(0, .ref (ad a)), (1, .int (nI (F)))] := hl
  rw [← nw_self ha] at hP hD
  refine lv_aload_n hx hb dX1_shift_0 rfl (lv_at hl 0 rfl) ?_
  refine rg_1_size hx hb hts in1 hown hK hP a (by omega) nw_o (hts _ (by decide +kernel)) dX1_shift_1 ?_
  refine lv_iconst (v := nI (1)) hx hb dX1_shift_4 (by decide) ?_
  refine lv_isub hx hb dX1_shift_5 ?_
  refine tp_i (y := dn (nd_s V)) (dn_sub _) ?_
  refine lv_istore_n (lv' := [(2, .int (dn (nd_s V))), (0, .ref (ad a)), (1, .int (nI (F)))]) hx hb dX1_shift_6 rfl hl (by decide) rfl (fun ls hl => ?_)
  refine lp_X1_shift1 ⟨hx, hb, hml, hown, hts⟩ hK hT ha1 hF (fun f H locs ls h1 hP hD hS hl => ?_) (nd_s V) _ _ _ ls (Nat.le_refl _) (fun j hj => by rw [nd_A, nd_A, nd_dz (nd_s_lt V) (by omega), nd_dz (nd_s_lt V) (by omega)]) (fun j _ => rfl) hP hD hS hl
  refine lv_iconst (v := nI (0)) hx hb dX1_shift_31 (by decide) ?_
  refine lv_istore_n (lv' := [(2, .int (nI (0))), (0, .ref (ad a)), (1, .int (nI (F)))]) hx hb dX1_shift_32 rfl hl (by decide) rfl (fun ls hl => ?_)
  refine lp_X1_shift2 ⟨hx, hb, hml, hown, hts⟩ hK hT ha1 hF (fun f H locs ls h1 h2 hP hD hS hl => ?_) F 0 _ _ _ ls (by omega) h1 (fun j hj => absurd hj (Nat.not_lt_zero _)) hP hD hS hl
  refine lv_aload_n hx hb dX1_shift_51 rfl (lv_at hl 0 rfl) ?_
  refine lv_dup hx hb dX1_shift_52 rfl ?_
  refine rg_1_size hx hb hts in1 hown hK hP a (by omega) nw_o (hts _ (by decide +kernel)) dX1_shift_53 ?_
  refine lv_iload_n hx hb dX1_shift_56 rfl (lv_at hl 1 rfl) ?_
  refine lv_iadd hx hb dX1_shift_57 ?_
  refine tp_i (y := nI ((nd_s V) + F)) (nI_add _ _) ?_
  refine rp_1_size hx hb hts in1 hown hK hP hD hS a (by omega) nw_o (hts _ (by decide +kernel)) rfl rfl dX1_shift_58 (fun H locs hP hD hS => ?_)
  rw [nw_so] at hP hD
  have hfe : f = nd_A (V * 1000000 ^ F) := by
    funext j
    rw [nd_A, nd_dsh]
    by_cases r : j < F
    · rw [if_pos r]; exact h2 j r
    · rw [if_neg r]; exact h1 j (by omega)
  rw [hfe, ← nd_ssh hV0] at hP hD
  exact W.vret hx hb hr (fun t ht hW => ⟨⟨_, rfl, rfl, wd_end hP hK hD ht hW⟩, hS.F ht⟩) hS.2.2 dX1_shift_61
