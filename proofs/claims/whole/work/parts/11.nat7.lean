theorem iZ_addN (a : Int) (b : Nat) : iZ a + nI b = iZ (a + (b : Int)) := by rw [iZ_nat, iZ_add]
theorem iZ_addM (a : Nat) (b : Int) : nI a + iZ b = iZ ((a : Int) + b) := by rw [iZ_nat, iZ_add]
theorem iZ_subN (a : Int) (b : Nat) : iZ a - nI b = iZ (a - (b : Int)) := by rw [iZ_nat, iZ_sub]
theorem iZ_subM (a : Nat) (b : Int) : nI a - iZ b = iZ ((a : Int) - b) := by rw [iZ_nat, iZ_sub]
theorem iZ_mul (a b : Int) : iZ a * iZ b = iZ (a * b) := (Int32.ofInt_mul a b).symm
theorem iZ_mulN (a : Int) (b : Nat) : iZ a * nI b = iZ (a * (b : Int)) := by rw [iZ_nat, iZ_mul]
theorem iZ_mulM (a : Nat) (b : Int) : nI a * iZ b = iZ ((a : Int) * b) := by rw [iZ_nat, iZ_mul]
theorem lZ_addN (a : Int) (b : Nat) : lZ a + lN b = lZ (a + (b : Int)) := by rw [lZ_nat, lZ_add]
theorem lZ_addM (a : Nat) (b : Int) : lN a + lZ b = lZ ((a : Int) + b) := by rw [lZ_nat, lZ_add]
theorem lZ_subN (a : Int) (b : Nat) : lZ a - lN b = lZ (a - (b : Int)) := by rw [lZ_nat, lZ_sub]
theorem lZ_subM (a : Nat) (b : Int) : lN a - lZ b = lZ ((a : Int) - b) := by rw [lZ_nat, lZ_sub]
theorem lZ_mulN (a : Int) (b : Nat) : lZ a * lN b = lZ (a * (b : Int)) := by rw [lZ_nat, lZ_mul]
theorem lZ_mulM (a : Nat) (b : Int) : lN a * lZ b = lZ ((a : Int) * b) := by rw [lZ_nat, lZ_mul]
/-- a quotient cut to 0 -/
def td (w : Int) : Int := sg (decide (w < 0)) (w.natAbs / 1000000)
theorem td_div {w : Int} (h1 : -9223372036854775808 ≤ w) (h2 : w < 9223372036854775808) : lZ w / lN 1000000 = lZ (td w) := by
  have := lZ_div (n := decide (w < 0)) (q := w.natAbs) (b := 1000000) (by rw [sg_of]; exact h1) (by rw [sg_of]; exact h2) (by decide)
  rw [sg_of] at this
  exact this
theorem td_pos {w : Int} (h : 0 ≤ w) : td w = w / 1000000 := by
  rw [td, decide_eq_false (by omega), sg_f]; omega
theorem td_neg {w : Int} (h : w < 0) : td w = -((w.natAbs / 1000000 : Nat) : Int) := by
  rw [td, decide_eq_true h, sg_t]
theorem xr_ge {w : Int} (h1 : -9223372036854775808 ≤ w) (h2 : w < 9223372036854775808) : lN 0 ≤ lZ w ^^^ lN 1000000 ↔ 0 ≤ w := by
  have a1 : ∀ x : Int64, x.toInt < 0 ↔ x.toBitVec.msb = true := fun x => by
    rw [BitVec.msb_eq_toInt, decide_eq_true_iff]; rfl
  have e : (lZ w ^^^ lN 1000000).toInt < 0 ↔ w < 0 := by
    rw [a1, Int64.toBitVec_xor, BitVec.msb_xor, show (lN 1000000).toBitVec.msb = false by decide, Bool.xor_false, ← a1, lZ_toInt h1 h2]
  rw [Int64.le_iff_toInt_le, show (lN 0).toInt = 0 by decide]
  omega
set_option maxHeartbeats 4000000 in
set_option maxRecDepth 100000 in
/-- Math.floorDiv by the base -/
theorem c_J9_floorDiv (l : Launch) (D : va_G) (cA : Nat → ClassId) (tT : Nat) (A : Nat → Prop) (N : Nat) (ad : Nat → Nat) (sz : Nat) (g : Nat → va_E) {w : Int} (h1 : -4611686018427387904 ≤ w) (h2 : w < 4611686018427387904) : Met l yJ9_floorDiv_f86c9 wsJ9_floorDiv_f86c9 ({ frames := 0, cells := 0, slots := 0, locals := 0 }) (va_Pc [.long (lZ (w)), .long (lN (1000000))] (wd_B D cA tT A N ad sz g)) (va_Ql (fun (r : Int64) (u : Nat → va_E) => r = lZ (w / 1000000) ∧ u = g) (wd_E D cA A N ad) A) 0 0 A := by
  refine va_MetF (cc := cJ9_floorDiv_f86c9) (maxL := 6) (ret := (some .long)) (by decide +kernel) rfl ?_
  intro p e s m args below meth c s₁ B hml hv
  obtain ⟨rfl, hsz, hP, hK, hD, hT⟩ := hv
  have hx := B.exec
  have hb := B.bytes
  have hr := B.returns
  have hts := atoms_spec (ws := wsJ9_floorDiv_f86c9) B.pre
  have hown : s.vm.findClass RJ9 = some m.cls := findClass_of_methodNamed B.named
  have hlocks := B.notSynchronized
  subst hsz
  have hS : va_S A s.heap s.heap [] := va_S.rf
  have hl := lv_entry ([.long (lZ (w)), .long (lN (1000000))]) (n := 6) (Nat.le_of_ble_eq_true rfl)
  rw [lg_entry_eq]
  generalize (lg_sl ([.long (lZ (w)), .long (lN (1000000))]) ++ List.replicate (6 - (lg_sl ([.long (lZ (w)), .long (lN (1000000))])).length) Slot.unset).toArray = ls at hl ⊢
  have hl : lv_has ls 6 [(0, .long (lZ (w))), (2, .long (lN (1000000)))] := hl
  refine lv_lload_n hx hb dJ9_floorDiv_f86c9_0 rfl (lv_at hl 0 rfl) ?_
  refine lv_lload_n hx hb dJ9_floorDiv_f86c9_1 rfl (lv_at hl 1 rfl) ?_
  refine lv_ldiv hx hb dJ9_floorDiv_f86c9_2 (lN_ne0 (by omega) (by omega)) ?_
  refine tp_l (y := lZ (td w)) (td_div (by omega) (by omega)) ?_
  refine lv_lstore (lv' := [(4, .long (lZ (td w))), (0, .long (lZ (w))), (2, .long (lN (1000000)))]) hx hb dJ9_floorDiv_f86c9_3 hl (by decide) rfl (fun ls hl => ?_)
  refine lv_lload_n hx hb dJ9_floorDiv_f86c9_5 rfl (lv_at hl 1 rfl) ?_
  refine lv_lload_n hx hb dJ9_floorDiv_f86c9_6 rfl (lv_at hl 2 rfl) ?_
  refine lv_lxor hx hb dJ9_floorDiv_f86c9_7 ?_
  refine lv_lconst (v := lN (0)) hx hb dJ9_floorDiv_f86c9_8 rfl ?_
  refine bL_ge (tgt := 27) hx hb dJ9_floorDiv_f86c9_9 dJ9_floorDiv_f86c9_10 (by decide) (fun q => ?_) (fun q => ?_)
  · rw [xr_ge (by omega) (by omega)] at q
    refine lv_lload hx hb dJ9_floorDiv_f86c9_27 (lv_at hl 0 rfl) ?_
    exact W.lret (v := lZ (td w)) hx hb hr (fun t ht hW => ⟨⟨lZ (td w), g, rfl, ⟨by rw [td_pos q], rfl⟩, wd_end hP hK hD ht hW⟩, hS.F ht⟩) hS.2.2 dJ9_floorDiv_f86c9_29
  · rw [xr_ge (by omega) (by omega)] at q
    have hn := td_neg (w := w) (by omega)
    refine lv_lload hx hb dJ9_floorDiv_f86c9_13 (lv_at hl 0 rfl) ?_
    refine lv_lload_n hx hb dJ9_floorDiv_f86c9_15 rfl (lv_at hl 2 rfl) ?_
    refine lv_lmul hx hb dJ9_floorDiv_f86c9_16 ?_
    refine tp_l (y := lZ ((td w) * ((1000000 : Nat) : Int))) (lZ_mulN _ _) ?_
    refine lv_lload_n hx hb dJ9_floorDiv_f86c9_17 rfl (lv_at hl 1 rfl) ?_
    refine bL_eq (tgt := 27) hx hb dJ9_floorDiv_f86c9_18 dJ9_floorDiv_f86c9_19 (by decide) (fun q2 => ?_) (fun q2 => ?_)
    · rw [lZ_eq (by omega) (by omega) (by omega) (by omega)] at q2
      refine lv_lload hx hb dJ9_floorDiv_f86c9_27 (lv_at hl 0 rfl) ?_
      exact W.lret (v := lZ (td w)) hx hb hr (fun t ht hW => ⟨⟨lZ (td w), g, rfl, ⟨by congr 1; omega, rfl⟩, wd_end hP hK hD ht hW⟩, hS.F ht⟩) hS.2.2 dJ9_floorDiv_f86c9_29
    · rw [lZ_eq (by omega) (by omega) (by omega) (by omega)] at q2
      refine lv_lload hx hb dJ9_floorDiv_f86c9_22 (lv_at hl 0 rfl) ?_
      refine lv_lconst (v := lN (1)) hx hb dJ9_floorDiv_f86c9_24 rfl ?_
      refine lv_lsub hx hb dJ9_floorDiv_f86c9_25 ?_
      refine tp_l (y := lZ ((td w) - ((1 : Nat) : Int))) (lZ_subN _ _) ?_
      exact W.lret (v := lZ ((td w) - ((1 : Nat) : Int))) hx hb hr (fun t ht hW => ⟨⟨lZ ((td w) - ((1 : Nat) : Int)), g, rfl, ⟨by congr 1; omega, rfl⟩, wd_end hP hK hD ht hW⟩, hS.F ht⟩) hS.2.2 dJ9_floorDiv_f86c9_26
/-- limbs that may have a sign -/
def zf (F : Nat → Int) : Nat → Int64 := fun j => lZ (F j)
theorem zf_up (F : Nat → Int) (k : Nat) (v : Int) : vp_updL (zf F) k (lZ v) = zf (va_up F k v) := by
  funext j
  simp only [vp_updL, zf, va_up]
  by_cases h : j = k <;> simp [h]
/-- the window's number -/
def zv (F : Nat → Int) (p : Nat) : Nat → Int
  | 0 => 0
  | k + 1 => zv F p k + F (p + k) * (1000000 ^ k : Nat)
theorem zv_congr {F G : Nat → Int} {p k : Nat} (h : ∀ j, j < k → F (p + j) = G (p + j)) : zv F p k = zv G p k := by
  induction k with
  | zero => rfl
  | succ k ih => rw [zv, zv, ih (fun j hj => h j (by omega)), h k (by omega)]
theorem ta_step {A B c w T Pk d Y Fv : Int} (h : A + c * Pk = B - T * Y) (hw : w = Fv - T * d + c) : A + (w - w / 1000000 * 1000000) * Pk + w / 1000000 * (Pk * 1000000) = B + Fv * Pk - T * (Y + Pk * d) := by
  have e1 : (w - w / 1000000 * 1000000) * Pk + w / 1000000 * (Pk * 1000000) = w * Pk := by
    rw [Int.sub_mul, Int.mul_comm Pk 1000000, ← Int.mul_assoc]; omega
  have e2 : w * Pk = Fv * Pk - T * (Pk * d) + c * Pk := by
    rw [hw, Int.add_mul, Int.sub_mul, Int.mul_assoc T d Pk, Int.mul_comm d Pk]
  have e3 : T * (Y + Pk * d) = T * Y + T * (Pk * d) := Int.mul_add _ _ _
  omega
theorem ta_b {T d : Int} (hT1 : -1000000 ≤ T) (hT2 : T ≤ 1000000) (hd1 : 0 ≤ d) (hd2 : d < 1000000) : -1000000000000 ≤ T * d ∧ T * d ≤ 1000000000000 := by
  constructor
  · have h1 : -1000000 * d ≤ T * d := Int.mul_le_mul_of_nonneg_right hT1 hd1
    omega
  · have h1 : T * d ≤ 1000000 * d := Int.mul_le_mul_of_nonneg_right hT2 hd1
    omega
set_option maxHeartbeats 4000000 in
set_option maxRecDepth 100000 in
theorem lp_X1_takeAway {p : Program} {l : Launch} {e : Env} {R : Room} {s : State} {m : MethodId} {args : Array Value} {below : List Frame} {meth : Method} {c : Code} {Q : State → Prop} {D : va_G} {cA : Nat → ClassId} {tT : Nat} {A : Nat → Prop} {N : Nat} {ad : Nat → Nat} {g : Nat → va_E} {a o y q : Nat} {sv : Int32} {T : Int} {F : Nat → Int} (S : CallFix p m c cX1_takeAway 10 s args wsX1_takeAway RX1) (hK : va_K D vwCl (ty_s cA) s) (hT : st_T tT A s s.heap) (hRf : 1 ≤ R.frames) (hRl : 25 ≤ R.locals) (ha1 : a + 1 < N) (ho1 : o + 1 < N) (ho : is_N cA ad g o y) (n1 : a ≠ o) (n2 : a ≠ o + 1) (n3 : a + 1 ≠ o) (hat : q + nd_s y < 64) (hT1 : -1000000 ≤ T) (hT2 : T ≤ 1000000) (hF : ∀ j, j < nd_s y → 0 ≤ F (q + j) ∧ F (q + j) < 1000000) (kk : ∀ (cv : Int) (G : Nat → Int) (H : Heap) (locs : List Loc) (ls : Array Slot), zv G q (nd_s y) + cv * (1000000 ^ nd_s y : Nat) = zv F q (nd_s y) - T * (y % 1000000 ^ nd_s y : Nat) → -1000002 ≤ cv → cv ≤ 1000002 → (∀ j, j < nd_s y → 0 ≤ G (q + j) ∧ G (q + j) < 1000000) → (∀ j, j < q ∨ q + nd_s y ≤ j → G j = F j) → va_P D vwCl (wm_W N ad (nw_ cA ad g a (zf G) sv)) H → va_D A (wm_W N ad (nw_ cA ad g a (zf G) sv)) → va_S A s.heap H locs → lv_has ls 10 [(5, .long (lZ cv)), (0, .ref (ad a)), (1, .ref (ad o)), (4, .int (nI q))] → W p l e R s m args below meth c H locs 0 0 Q (F0 m 75 ls [])) :
    ∀ (n i : Nat) (cv : Int) (G : Nat → Int) (H : Heap) (locs : List Loc) (ls : Array Slot), i + n = nd_s y → zv G q i + cv * (1000000 ^ i : Nat) = zv F q i - T * (y % 1000000 ^ i : Nat) → -1000002 ≤ cv → cv ≤ 1000002 → (∀ j, j < i → 0 ≤ G (q + j) ∧ G (q + j) < 1000000) → (∀ j, j < q ∨ q + i ≤ j → G j = F j) → va_P D vwCl (wm_W N ad (nw_ cA ad g a (zf G) sv)) H → va_D A (wm_W N ad (nw_ cA ad g a (zf G) sv)) → va_S A s.heap H locs → lv_has ls 10 [(7, .int (nI (i))), (5, .long (lZ (cv))), (0, .ref (ad a)), (1, .ref (ad o)), (2, .long (lZ (T))), (4, .int (nI (q)))] → W p l e R s m args below meth c H locs 0 0 Q (F0 m 6 ls []) := by
  obtain ⟨hx, hb, hml, hown, hts⟩ := S
  have in1 : ∀ w ∈ wsX10, w ∈ wsX1_takeAway := by decide +kernel
  intro n
  induction n with
  | zero =>
    intro i cv G H locs ls hn h1 h2 h3 h4 h5 hP hD hS hl
    refine lv_iload hx hb dX1_takeAway_6 (lv_at hl 0 rfl) ?_
    refine lv_aload_n hx hb dX1_takeAway_8 rfl (lv_at hl 3 rfl) ?_
    refine rg_1_size hx hb hts in1 hown hK hP o (by omega) ((nw_ne (by omega) (by omega)).trans ho.1) (hts _ (by decide +kernel)) dX1_takeAway_9 ?_
    refine bi_ge (tgt := 75) hx hb dX1_takeAway_12 (by decide) (by omega) (by omega) (fun q9 => ?_) (fun q9 => ?_)
    · obtain rfl : i = nd_s y := by omega
      exact kk cv G H locs ls h1 h2 h3 h4 h5 hP hD hS (lv_sub hl [1, 2, 3, 5] rfl)
    · exact absurd hn (by omega)
  | succ n ih =>
    intro i cv G H locs ls hn h1 h2 h3 h4 h5 hP hD hS hl
    refine lv_iload hx hb dX1_takeAway_6 (lv_at hl 0 rfl) ?_
    refine lv_aload_n hx hb dX1_takeAway_8 rfl (lv_at hl 3 rfl) ?_
    refine rg_1_size hx hb hts in1 hown hK hP o (by omega) ((nw_ne (by omega) (by omega)).trans ho.1) (hts _ (by decide +kernel)) dX1_takeAway_9 ?_
    refine bi_ge (tgt := 75) hx hb dX1_takeAway_12 (by decide) (by omega) (by omega) (fun q9 => ?_) (fun q9 => ?_)
    · exact absurd hn (by omega)
    · have hd := nd_lt y i
      have hTd := ta_b (d := (nd_d y i : Int)) hT1 hT2 (by omega) (by omega)
      have hFi := hF i (by omega)
      have hGi : G (q + i) = F (q + i) := h5 _ (Or.inr (Nat.le_refl _))
      refine lv_aload_n hx hb dX1_takeAway_15 rfl (lv_at hl 2 rfl) ?_
      refine rg_1_limbs hx hb hts in1 hown hK hP a (by omega) nw_o (hts _ (by decide +kernel)) dX1_takeAway_16 ?_
      refine lv_iload hx hb dX1_takeAway_19 (lv_at hl 5 rfl) ?_
      refine lv_iload hx hb dX1_takeAway_21 (lv_at hl 0 rfl) ?_
      refine lv_iadd hx hb dX1_takeAway_23 ?_
      refine tp_i (y := nI (q + i)) (nI_add _ _) ?_
      refine rn_l hx hb hK hP (a + 1) (by omega) nw_l (by omega) (by decide) dX1_takeAway_24 ?_
      refine tp_l (y := lZ (G (q + i))) rfl ?_
      refine lv_lload_n hx hb dX1_takeAway_25 rfl (lv_at hl 4 rfl) ?_
      refine lv_aload_n hx hb dX1_takeAway_26 rfl (lv_at hl 3 rfl) ?_
      refine rg_1_limbs hx hb hts in1 hown hK hP o (by omega) ((nw_ne (by omega) (by omega)).trans ho.1) (hts _ (by decide +kernel)) dX1_takeAway_27 ?_
      refine lv_iload hx hb dX1_takeAway_30 (lv_at hl 0 rfl) ?_
      refine rn_l hx hb hK hP (o + 1) (by omega) ((nw_ne (by omega) (by omega)).trans ho.2) (by omega) (by decide) dX1_takeAway_32 ?_
      refine tp_l (y := lN (nd_d y i)) rfl ?_
      refine lv_lmul hx hb dX1_takeAway_33 ?_
      refine tp_l (y := lZ (T * ((nd_d y i : Nat) : Int))) (lZ_mulN _ _) ?_
      refine lv_lsub hx hb dX1_takeAway_34 ?_
      refine tp_l (y := lZ ((G (q + i)) - (T * ((nd_d y i : Nat) : Int)))) (lZ_sub _ _) ?_
      refine lv_lload hx hb dX1_takeAway_35 (lv_at hl 1 rfl) ?_
      refine lv_ladd hx hb dX1_takeAway_37 ?_
      refine tp_l (y := lZ (((G (q + i)) - (T * ((nd_d y i : Nat) : Int))) + cv)) (lZ_add _ _) ?_
      refine lv_lstore (lv' := [(8, .long (lZ (((G (q + i)) - (T * ((nd_d y i : Nat) : Int))) + cv))), (7, .int (nI (i))), (5, .long (lZ (cv))), (0, .ref (ad a)), (1, .ref (ad o)), (2, .long (lZ (T))), (4, .int (nI (q)))]) hx hb dX1_takeAway_38 hl (by decide) rfl (fun ls hl => ?_)
      refine lv_lload hx hb dX1_takeAway_40 (lv_at hl 0 rfl) ?_
      refine lv_ldc2 (v := lN (1000000)) hx hb hown (hts _ (by decide +kernel)) dX1_takeAway_42 ?_
      obtain ⟨w, hw9⟩ : ∃ w : Int, w = G (q + i) - T * ((nd_d y i : Nat) : Int) + cv := ⟨_, rfl⟩
      rw [← hw9] at hl ⊢
      refine va_calll (va_runS (As := [.long (lZ (w)), .long (lN (1000000))]) (rest := []) ⟨hx, hb, hml, hown, hts⟩ (c_J9_floorDiv l D cA tT A N ad _ _ (w := w) (by omega) (by omega)) (va_cwS 2 hts gX1_takeAway_J9_floorDiv_f86c9 rfl rfl rfl (by decide +kernel) ⟨hRf, hRl⟩) (wd_preS hP hK hD hT hS) rfl rfl hl.1 rfl (lv_room (Nat.le_of_ble_eq_true rfl)) dX1_takeAway_45 ⟨Nat.zero_le _, Nat.zero_le _⟩) hS id_2 id_1 (fun r_ u t H locs ht hvm hw hB hz1 hk1 hS => ?_)
      obtain ⟨hP, hD⟩ := wd_back ht hB
      clear ht hvm hB hz1 hk1
      obtain ⟨hr_, hu_⟩ := hw
      subst hr_
      rw [hu_] at hP hD
      clear hu_
      refine lv_lstore (lv' := [(5, .long (lZ (w / 1000000))), (8, .long (lZ (w))), (7, .int (nI (i))), (0, .ref (ad a)), (1, .ref (ad o)), (2, .long (lZ (T))), (4, .int (nI (q)))]) hx hb dX1_takeAway_48 hl (by decide) rfl (fun ls hl => ?_)
      refine lv_aload_n hx hb dX1_takeAway_50 rfl (lv_at hl 3 rfl) ?_
      refine rg_1_limbs hx hb hts in1 hown hK hP a (by omega) nw_o (hts _ (by decide +kernel)) dX1_takeAway_51 ?_
      refine lv_iload hx hb dX1_takeAway_54 (lv_at hl 6 rfl) ?_
      refine lv_iload hx hb dX1_takeAway_56 (lv_at hl 2 rfl) ?_
      refine lv_iadd hx hb dX1_takeAway_58 ?_
      refine tp_i (y := nI (q + i)) (nI_add _ _) ?_
      refine lv_lload hx hb dX1_takeAway_59 (lv_at hl 1 rfl) ?_
      refine lv_lload hx hb dX1_takeAway_61 (lv_at hl 0 rfl) ?_
      refine lv_ldc2 (v := lN (1000000)) hx hb hown (hts _ (by decide +kernel)) dX1_takeAway_63 ?_
      refine lv_lmul hx hb dX1_takeAway_66 ?_
      refine tp_l (y := lZ ((w / 1000000) * ((1000000 : Nat) : Int))) (lZ_mulN _ _) ?_
      refine lv_lsub hx hb dX1_takeAway_67 ?_
      refine tp_l (y := lZ (w - ((w / 1000000) * ((1000000 : Nat) : Int)))) (lZ_sub _ _) ?_
      refine rt_l hx hb hK hP hD hS (a + 1) (by omega) nw_l (by omega) (by decide) dX1_takeAway_68 (fun H locs hP hD hS => ?_)
      rw [nw_sl] at hP hD
      refine lv_iinc (v := nI (i + 1)) (lv' := [(7, .int (nI (i + 1))), (5, .long (lZ (w / 1000000))), (8, .long (lZ (w))), (0, .ref (ad a)), (1, .ref (ad o)), (2, .long (lZ (T))), (4, .int (nI (q)))]) hx hb dX1_takeAway_69 hl (k := 2) rfl (nI_inc i 1) (by decide) rfl (fun ls hl => ?_)
      refine lv_goto (tgt := 6) hx hb dX1_takeAway_72 (by decide) ?_
      rw [zf_up] at hP hD
      refine ih (i + 1) _ _ H locs ls (by omega) ?_ (by omega) (by omega) (fun j hj => ?_) (fun j hj => ?_) hP hD hS (lv_sub hl [0, 1, 3, 4, 5, 6] rfl)
      · rw [zv, zv, va_up_self, zv_congr (G := G) (fun j hj => va_up_ne _ _ (by omega)), nd_ms, Nat.pow_succ, Int.natCast_add, Int.natCast_mul, Int.natCast_mul]
        exact ta_step h1 (by rw [hw9, hGi])
      · rcases Nat.lt_or_ge j i with r | r
        · rw [va_up_ne _ _ (by omega)]; exact h4 j r
        · obtain rfl : j = i := by omega
          rw [va_up_self]; omega
      · rw [va_up_ne _ _ (by omega)]; exact h5 j (by omega)
set_option maxHeartbeats 4000000 in
set_option maxRecDepth 100000 in
/-- takeAway: some times the other one at a place -/
theorem c_X1_takeAway (l : Launch) (D : va_G) (cA : Nat → ClassId) (tT : Nat) (A : Nat → Prop) (N : Nat) (ad : Nat → Nat) (sz : Nat) (g : Nat → va_E) {a o y q : Nat} {sv : Int32} {T : Int} {F : Nat → Int} (ha1 : a + 1 < N) (ho1 : o + 1 < N) (ho : is_N cA ad g o y) (n1 : a ≠ o) (n2 : a ≠ o + 1) (n3 : a + 1 ≠ o) (hat : q + nd_s y < 64) (hT1 : -1000000 ≤ T) (hT2 : T ≤ 1000000) (hF : ∀ j, j < nd_s y → 0 ≤ F (q + j) ∧ F (q + j) < 1000000) : Met l yX1_takeAway wsX1_takeAway ({ frames := 1, cells := 0, slots := 0, locals := 25 }) (va_Pc [.ref (ad a), .ref (ad o), .long (lZ (T)), .int (nI (q))] (wd_B D cA tT A N ad sz (nw_ cA ad g a (zf F) sv))) (va_Qv (fun (u : Nat → va_E) => ∃ G : Nat → Int, u = nw_ cA ad g a (zf G) sv ∧ zv G q (nd_s y + 1) = zv F q (nd_s y + 1) - T * (y : Int) ∧ (∀ j, j < nd_s y → 0 ≤ G (q + j) ∧ G (q + j) < 1000000) ∧ (∀ j, j < q ∨ q + nd_s y + 1 ≤ j → G j = F j)) (wd_E D cA A N ad) A) 0 0 A := by
  refine Met.ofW (cc := cX1_takeAway) (maxL := 10) (ret := none) (by decide) rfl ?_
  intro p e s m args below meth c s₁ B hml hv
  obtain ⟨rfl, hsz, hP, hK, hD, hT⟩ := hv
  have hx := B.exec
  have hb := B.bytes
  have hr := B.returns
  have hts := atoms_spec (ws := wsX1_takeAway) B.pre
  have hown : s.vm.findClass RX1 = some m.cls := findClass_of_methodNamed B.named
  have hlocks := B.notSynchronized
  subst hsz
  have hS : va_S A s.heap s.heap [] := va_S.rf
  have in1 : ∀ w ∈ wsX10, w ∈ wsX1_takeAway := by decide +kernel
  have hl := lv_entry ([.ref (ad a), .ref (ad o), .long (lZ (T)), .int (nI (q))]) (n := 10) (Nat.le_of_ble_eq_true rfl)
  rw [lg_entry_eq]
  generalize (lg_sl ([.ref (ad a), .ref (ad o), .long (lZ (T)), .int (nI (q))]) ++ List.replicate (10 - (lg_sl ([.ref (ad a), .ref (ad o), .long (lZ (T)), .int (nI (q))])).length) Slot.unset).toArray = ls at hl ⊢
  have hl : lv_has ls 10 [(0, .ref (ad a)), (1, .ref (ad o)), (2, .long (lZ (T))), (4, .int (nI (q)))] := hl
  refine lv_lconst (v := lN (0)) hx hb dX1_takeAway_0 rfl ?_
  refine lv_lstore (lv' := [(5, .long (lN (0))), (0, .ref (ad a)), (1, .ref (ad o)), (2, .long (lZ (T))), (4, .int (nI (q)))]) hx hb dX1_takeAway_1 hl (by decide) rfl (fun ls hl => ?_)
  refine lv_iconst (v := nI (0)) hx hb dX1_takeAway_3 (by decide) ?_
  refine lv_istore (lv' := [(7, .int (nI (0))), (5, .long (lN (0))), (0, .ref (ad a)), (1, .ref (ad o)), (2, .long (lZ (T))), (4, .int (nI (q)))]) hx hb dX1_takeAway_4 hl (by decide) rfl (fun ls hl => ?_)
  refine lp_X1_takeAway (T := T) (F := F) ⟨hx, hb, hml, hown, hts⟩ hK hT (Nat.le_of_ble_eq_true rfl) (Nat.le_of_ble_eq_true rfl) ha1 ho1 ho n1 n2 n3 hat hT1 hT2 hF (fun cv G H locs ls h1 h2 h3 h4 h5 hP hD hS hl => ?_) (nd_s y) 0 0 F _ _ ls (by omega) (by rw [zv, Nat.pow_zero, Nat.mod_one]; simp) (by omega) (by omega) (fun j hj => absurd hj (Nat.not_lt_zero _)) (fun _ _ => rfl) hP hD hS (lv_sub hl [0, 1, 2, 3, 4, 5] rfl)
  refine lv_aload_n hx hb dX1_takeAway_75 rfl (lv_at hl 1 rfl) ?_
  refine rg_1_limbs hx hb hts in1 hown hK hP a (by omega) nw_o (hts _ (by decide +kernel)) dX1_takeAway_76 ?_
  refine lv_iload hx hb dX1_takeAway_79 (lv_at hl 3 rfl) ?_
  refine lv_aload_n hx hb dX1_takeAway_81 rfl (lv_at hl 2 rfl) ?_
  refine rg_1_size hx hb hts in1 hown hK hP o (by omega) ((nw_ne (by omega) (by omega)).trans ho.1) (hts _ (by decide +kernel)) dX1_takeAway_82 ?_
  refine lv_iadd hx hb dX1_takeAway_85 ?_
  refine tp_i (y := nI (q + (nd_s y))) (nI_add _ _) ?_
  refine lv_dup2_11 hx hb dX1_takeAway_86 rfl rfl ?_
  refine rn_l hx hb hK hP (a + 1) (by omega) nw_l (by omega) (by decide) dX1_takeAway_87 ?_
  refine tp_l (y := lZ (G (q + (nd_s y)))) rfl ?_
  refine lv_lload hx hb dX1_takeAway_88 (lv_at hl 0 rfl) ?_
  refine lv_ladd hx hb dX1_takeAway_90 ?_
  refine tp_l (y := lZ ((G (q + (nd_s y))) + cv)) (lZ_add _ _) ?_
  refine rt_l hx hb hK hP hD hS (a + 1) (by omega) nw_l (by omega) (by decide) dX1_takeAway_91 (fun H locs hP hD hS => ?_)
  rw [nw_sl] at hP hD
  rw [zf_up] at hP hD
  rw [Nat.mod_eq_of_lt (nd_s_lt y)] at h1
  have h9 : G (q + nd_s y) = F (q + nd_s y) := h5 _ (Or.inr (Nat.le_refl _))
  refine W.vret hx hb hr (fun t ht hW => ⟨⟨_, rfl, ⟨va_up G (q + nd_s y) (G (q + nd_s y) + cv), rfl, ?_, fun j hj => ?_, fun j hj => ?_⟩, wd_end hP hK hD ht hW⟩, hS.F ht⟩) hS.2.2 dX1_takeAway_92
  · rw [zv, zv, va_up_self, zv_congr (G := G) (fun j hj => va_up_ne _ _ (by omega)), h9, Int.add_mul]; omega
  · rw [va_up_ne _ _ (by omega)]; exact h4 j hj
  · rw [va_up_ne _ _ (by omega)]; exact h5 j (by omega)
