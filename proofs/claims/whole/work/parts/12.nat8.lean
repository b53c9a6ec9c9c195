theorem gs_main {W y M : Nat} (hM : 0 < M) (hy : 1000000 ≤ y / M) (hW : W < y * 1000000) : W / y ≤ W / M / (y / M) ∧ W / M / (y / M) ≤ W / y + 1 ∧ W / M / (y / M) ≤ 1000000 := by
  have y0 : 0 < y := by
    rcases Nat.eq_zero_or_pos y with q | q
    · rw [q, Nat.zero_div] at hy; omega
    · exact q
  generalize hl : y / M = l at *
  generalize hh : W / M = h
  generalize hQ : h / l = Q
  have l0 : 0 < l := by omega
  have e1 : l * M ≤ y := by rw [← hl]; exact Nat.div_mul_le_self y M
  have e2 : y < (l + 1) * M := by
    rw [← hl, Nat.add_mul, Nat.one_mul]
    have h5 := Nat.div_add_mod y M
    have h6 := Nat.mod_lt y hM
    rw [Nat.mul_comm] at h5
    omega
  have e3 : h * M ≤ W := by rw [← hh]; exact Nat.div_mul_le_self W M
  have e4 : Q * l ≤ h := by rw [← hQ]; exact Nat.div_mul_le_self h l
  have a1 : W / y ≤ Q := by
    rw [← hQ, Nat.le_div_iff_mul_le l0, ← hh, Nat.le_div_iff_mul_le hM]
    have b1 : W / y * y ≤ W := Nat.div_mul_le_self W y
    have b2 : W / y * (l * M) ≤ W / y * y := Nat.mul_le_mul_left _ e1
    rw [Nat.mul_assoc]; omega
  have a2 : Q ≤ 1000000 := by
    rcases Nat.lt_or_ge 1000000 Q with q | q
    · exfalso
      have b1 : 1000001 * l ≤ Q * l := Nat.mul_le_mul_right _ q
      have b2 : 1000001 * l * M ≤ h * M := Nat.mul_le_mul_right _ (by omega)
      have b3 : y * 1000000 ≤ (l + 1) * M * 1000000 := Nat.mul_le_mul_right _ (by omega)
      have b4 : 1000001 * l * M < (l + 1) * 1000000 * M := by
        rw [Nat.mul_assoc (l + 1) 1000000 M, Nat.mul_comm 1000000 M, ← Nat.mul_assoc]; omega
      have b5 := Nat.lt_of_mul_lt_mul_right b4
      omega
    · exact q
  refine ⟨a1, ?_, a2⟩
  rcases Nat.eq_zero_or_pos Q with q | q
  · rw [q]; exact Nat.zero_le _
  · have : Q - 1 ≤ W / y := by
      rw [Nat.le_div_iff_mul_le y0]
      have b1 : (Q - 1) * y ≤ (Q - 1) * ((l + 1) * M) := Nat.mul_le_mul_left _ (by omega)
      have b2 : (Q - 1) * (l + 1) ≤ Q * l := by
        obtain ⟨k, rfl⟩ : ∃ k, Q = k + 1 := ⟨Q - 1, by omega⟩
        rw [Nat.add_sub_cancel, Nat.mul_add, Nat.add_mul]; omega
      have b3 : (Q - 1) * (l + 1) * M ≤ h * M := Nat.mul_le_mul_right _ (by omega)
      rw [← Nat.mul_assoc] at b1
      omega
    omega
theorem nd_3 {R k : Nat} (h : R / 1000000 ^ (k + 3) = 0) : R / 1000000 ^ k = (nd_d R (k + 2) * 1000000 + nd_d R (k + 1)) * 1000000 + nd_d R k := by
  rw [nd_q, nd_q, nd_q] at h
  simp only [nd_d, nd_q]
  omega
theorem nd_2 {y k : Nat} (h : y / 1000000 ^ (k + 2) = 0) : y / 1000000 ^ k = nd_d y (k + 1) * 1000000 + nd_d y k := by
  rw [nd_q, nd_q] at h
  simp only [nd_d, nd_q]
  omega
/-- the guess of the class -/
def gs (R y q L : Nat) : Nat := if L = 0 then (nd_d R (q + L + 1) * 1000000 + nd_d R (q + L)) * 1000000 / (nd_d y L * 1000000) else ((nd_d R (q + L + 1) * 1000000 + nd_d R (q + L)) * 1000000 + nd_d R (q + L - 1)) / (nd_d y L * 1000000 + nd_d y (L - 1))
theorem gs_ok {R y q L : Nat} (hL : nd_s y = L + 1) (hR : R < y * 1000000 ^ (q + 1)) : R / 1000000 ^ q / y ≤ gs R y q L ∧ gs R y q L ≤ R / 1000000 ^ q / y + 1 ∧ gs R y q L ≤ 1000000 := by
  have hy1 : y < 1000000 ^ (L + 1) := by rw [← hL]; exact nd_s_lt y
  have hy2 : 1000000 ^ L ≤ y := nd_s_gt.mp (by omega)
  have hW : R / 1000000 ^ q < y * 1000000 := by
    rw [Nat.div_lt_iff_lt_mul (Nat.pow_pos (by decide)), Nat.mul_assoc, Nat.mul_comm 1000000, ← Nat.pow_succ]; exact hR
  have hRz : R / 1000000 ^ (q + L + 2) = 0 := Nat.div_eq_of_lt (by
    refine Nat.lt_trans hR ?_
    rw [show q + L + 2 = (L + 1) + (q + 1) by omega, Nat.pow_add 1000000 (L + 1) (q + 1)]
    exact Nat.mul_lt_mul_of_pos_right hy1 (Nat.pow_pos (n := q + 1) (show 0 < 1000000 by decide)))
  rw [gs]
  by_cases h0 : L = 0
  · subst h0
    rw [if_pos rfl, Nat.mul_div_mul_right _ _ (by decide)]
    have e1 : nd_d y 0 = y := by rw [nd_d, nd_q0, Nat.mod_eq_of_lt (by simpa using hy1)]
    have e2 : nd_d R (q + 0 + 1) * 1000000 + nd_d R (q + 0) = R / 1000000 ^ q := (nd_2 (by simpa using hRz)).symm
    rw [e1, e2]
    have : R / 1000000 ^ q / y < 1000000 := by
      rw [Nat.div_lt_iff_lt_mul (by omega), Nat.mul_comm]; exact hW
    omega
  · obtain ⟨k, rfl⟩ : ∃ k, L = k + 1 := ⟨L - 1, by omega⟩
    rw [if_neg h0]
    have e1 : nd_d y (k + 1) * 1000000 + nd_d y (k + 1 - 1) = y / 1000000 ^ k := (nd_2 (Nat.div_eq_of_lt hy1)).symm
    have e2 : (nd_d R (q + (k + 1) + 1) * 1000000 + nd_d R (q + (k + 1))) * 1000000 + nd_d R (q + (k + 1) - 1) = R / 1000000 ^ q / 1000000 ^ k := by
      rw [Nat.div_div_eq_div_mul, ← Nat.pow_add]
      exact (nd_3 (k := q + k) hRz).symm
    rw [e1, e2]
    refine gs_main (Nat.pow_pos (by decide)) ?_ hW
    rw [Nat.le_div_iff_mul_le (Nat.pow_pos (by decide)), Nat.mul_comm, ← Nat.pow_succ]; exact hy2
theorem zf_nd (R : Nat) : nd_A R = zf (fun j => (nd_d R j : Int)) := by
  funext j; rw [nd_A, zf, lZ_nat]
theorem zv_nd (R q : Nat) : ∀ k, zv (fun j => (nd_d R j : Int)) q k = ((R / 1000000 ^ q % 1000000 ^ k : Nat) : Int) := by
  intro k
  induction k with
  | zero => rw [zv, Nat.pow_zero, Nat.mod_one]; rfl
  | succ k ih =>
    rw [zv, ih, nd_ms, nd_d, nd_d, Nat.div_div_eq_div_mul, ← Nat.pow_add, Int.natCast_add, Int.natCast_mul, Int.mul_comm]
theorem zv_lo {G : Nat → Int} {q : Nat} : ∀ {k : Nat}, (∀ j, j < k → 0 ≤ G (q + j) ∧ G (q + j) < 1000000) → 0 ≤ zv G q k ∧ zv G q k < (1000000 ^ k : Nat) := by
  intro k
  induction k with
  | zero => intro _; rw [zv, Nat.pow_zero]; decide
  | succ k ih =>
    intro h
    have h1 := ih (fun j hj => h j (by omega))
    have h2 := h k (by omega)
    rw [zv, Nat.pow_succ, Int.natCast_mul]
    generalize ((1000000 ^ k : Nat) : Int) = p at *
    have e1 : 0 ≤ G (q + k) * p := Int.mul_nonneg h2.1 (by omega)
    have e2 : G (q + k) * p ≤ 999999 * p := Int.mul_le_mul_of_nonneg_right (by omega) (by omega)
    constructor
    · omega
    · show _ < p * 1000000
      omega
/-- the limbs of the window are its number's -/
theorem zv_dig {G : Nat → Int} {q r : Nat} : ∀ {k : Nat}, (∀ j, j < k → 0 ≤ G (q + j) ∧ G (q + j) < 1000000) → zv G q k = ((r % 1000000 ^ k : Nat) : Int) → ∀ j, j < k → G (q + j) = (nd_d r j : Int) := by
  intro k
  induction k with
  | zero => intro _ _ j hj; omega
  | succ k ih =>
    intro h hz
    have h1 := zv_lo (k := k) (fun j hj => h j (by omega))
    have h2 := h k (by omega)
    rw [zv, nd_ms, Int.natCast_add, Int.natCast_mul] at hz
    have h3 : r % 1000000 ^ k < 1000000 ^ k := Nat.mod_lt _ (Nat.pow_pos (by decide))
    have h4 : 0 < 1000000 ^ k := Nat.pow_pos (by decide)
    have h5 : G (q + k) = (nd_d r k : Int) := by
      generalize hp : 1000000 ^ k = p at *
      rcases Int.lt_trichotomy (G (q + k)) (nd_d r k) with w | w | w
      · have := Int.mul_le_mul_of_nonneg_right (show G (q + k) ≤ (nd_d r k : Int) - 1 by omega) (show (0 : Int) ≤ p by omega)
        rw [Int.sub_mul, Int.mul_comm (nd_d r k : Int)] at this
        omega
      · exact w
      · have := Int.mul_le_mul_of_nonneg_right (show (nd_d r k : Int) + 1 ≤ G (q + k) by omega) (show (0 : Int) ≤ p by omega)
        rw [Int.add_mul, Int.mul_comm (nd_d r k : Int)] at this
        omega
    intro j hj
    rcases Nat.lt_or_ge j k with w | w
    · refine ih (fun j hj => h j (by omega)) ?_ j w
      rw [h5, Int.mul_comm] at hz
      omega
    · obtain rfl : j = k := by omega
      exact h5
/-- the window's highest limb, by its number -/
theorem zv_top {G : Nat → Int} {q k : Nat} {t : Int} (h : ∀ j, j < k → 0 ≤ G (q + j) ∧ G (q + j) < 1000000) (hz : zv G q (k + 1) = t) : (0 ≤ t → t < (1000000 ^ k : Nat) → G (q + k) = 0) ∧ (t < 0 → -((1000000 ^ k : Nat) : Int) ≤ t → G (q + k) < 0) := by
  have h1 := zv_lo (k := k) h
  rw [zv] at hz
  generalize ((1000000 ^ k : Nat) : Int) = p at *
  constructor
  · intro a b
    rcases Int.lt_trichotomy (G (q + k)) 0 with w | w | w
    · have := Int.mul_le_mul_of_nonneg_right (show G (q + k) ≤ -1 by omega) (show (0 : Int) ≤ p by omega)
      omega
    · exact w
    · have := Int.mul_le_mul_of_nonneg_right (show 1 ≤ G (q + k) by omega) (show (0 : Int) ≤ p by omega)
      omega
  · intro a b
    rcases Int.lt_or_le (G (q + k)) 0 with w | w
    · exact w
    · have := Int.mul_le_mul_of_nonneg_right w (show (0 : Int) ≤ p by omega)
      omega
/-- one place of the division is done -/
theorem td_fin {G : Nat → Int} {R y q : Nat} (hy : 0 < y) (hR : R < y * 1000000 ^ (q + 1)) (h1 : ∀ j, j < nd_s y → 0 ≤ G (q + j) ∧ G (q + j) < 1000000) (h2 : ∀ j, j < q ∨ q + nd_s y + 1 ≤ j → G j = (nd_d R j : Int)) (hz : zv G q (nd_s y + 1) = ((R / 1000000 ^ q % y : Nat) : Int)) : zf G = nd_A (R % (y * 1000000 ^ q)) := by
  have hr : R / 1000000 ^ q % y < y := Nat.mod_lt _ hy
  have hyb := nd_s_lt y
  have ht : G (q + nd_s y) = 0 := (zv_top h1 hz).1 (by omega) (by omega)
  have hz' : zv G q (nd_s y) = ((R / 1000000 ^ q % y % 1000000 ^ nd_s y : Nat) : Int) := by
    rw [zv, ht] at hz
    rw [Nat.mod_eq_of_lt (by omega : R / 1000000 ^ q % y < 1000000 ^ nd_s y)]
    omega
  have hd := zv_dig h1 hz'
  have hV : R % (y * 1000000 ^ q) = R % 1000000 ^ q + 1000000 ^ q * (R / 1000000 ^ q % y) := by
    rw [Nat.mul_comm y, Nat.mod_mul]
  have hp : 0 < 1000000 ^ q := Nat.pow_pos (by decide)
  have hVq : R % (y * 1000000 ^ q) / 1000000 ^ q = R / 1000000 ^ q % y := by
    rw [hV, Nat.add_mul_div_left _ _ hp, Nat.div_eq_of_lt (Nat.mod_lt _ hp), Nat.zero_add]
  have hdig : ∀ j, nd_d (R % (y * 1000000 ^ q)) (q + j) = nd_d (R / 1000000 ^ q % y) j := fun j => by
    rw [nd_d, Nat.pow_add, ← Nat.div_div_eq_div_mul, hVq, nd_d]
  funext j
  rw [zf, nd_A, lZ_nat]
  congr 1
  rcases Nat.lt_or_ge j q with w | w
  · rw [h2 j (Or.inl w)]
    congr 1
    rw [nd_d, nd_d, hV]
    obtain ⟨e, rfl⟩ : ∃ e, q = j + (e + 1) := ⟨q - j - 1, by omega⟩
    have e3 : ∀ z, 1000000 ^ (j + (e + 1)) * z = 1000000 ^ j * (1000000 * (1000000 ^ e * z)) := fun z => by
      rw [Nat.pow_add, Nat.pow_succ, Nat.mul_assoc, Nat.mul_comm (1000000 ^ e) 1000000, Nat.mul_assoc]
    rw [e3, Nat.add_mul_div_left _ _ (Nat.pow_pos (n := j) (show 0 < 1000000 by decide))]
    have e2 : R % 1000000 ^ (j + (e + 1)) / 1000000 ^ j % 1000000 = R / 1000000 ^ j % 1000000 := by
      rw [Nat.pow_add, Nat.mod_mul_right_div_self, Nat.pow_succ, Nat.mul_comm, Nat.mod_mul_right_mod]
    omega
  · obtain ⟨e, rfl⟩ : ∃ e, j = q + e := ⟨j - q, by omega⟩
    rw [hdig]
    rcases Nat.lt_trichotomy e (nd_s y) with v | v | v
    · exact hd e v
    · subst v
      rw [ht, nd_dz (n := R / 1000000 ^ q % y) (k := nd_s y) (by omega) (Nat.le_refl _)]; rfl
    · rw [h2 (q + e) (Or.inr (by omega)), nd_dz (n := R / 1000000 ^ q % y) (k := nd_s y) (by omega) (by omega)]
      rw [nd_dz (n := R) (k := q + nd_s y + 1) ?_ (by omega)]
      refine Nat.lt_trans hR ?_
      rw [show q + nd_s y + 1 = nd_s y + (q + 1) by omega, Nat.pow_add 1000000 (nd_s y) (q + 1)]
      exact Nat.mul_lt_mul_of_pos_right hyb (Nat.pow_pos (n := q + 1) (show 0 < 1000000 by decide))
theorem td_q (x y q : Nat) : x % (y * 1000000 ^ (q + 1)) / 1000000 ^ q / y = nd_d (x / y) q := by
  rw [nd_d, Nat.div_div_eq_div_mul, Nat.div_div_eq_div_mul, Nat.pow_succ, ← Nat.mul_assoc, Nat.mul_comm (1000000 ^ q) y, Nat.mod_mul_right_div_self]
theorem td_m (x y q : Nat) : x % (y * 1000000 ^ (q + 1)) % (y * 1000000 ^ q) = x % (y * 1000000 ^ q) := by
  rw [Nat.pow_succ, ← Nat.mul_assoc, Nat.mod_mul_right_mod]
theorem nw_comm {cA : Nat → ClassId} {ad : Nat → Nat} {g : Nat → va_E} {a w : Nat} {f fq : Nat → Int64} {sv sq : Int32} (h1 : w ≠ a) (h2 : w ≠ a + 1) (h3 : w + 1 ≠ a) : nw_ cA ad (nw_ cA ad g w fq sq) a f sv = nw_ cA ad (nw_ cA ad g a f sv) w fq sq := by
  funext j
  simp only [nw_]
  by_cases r1 : j = a
  · subst r1; simp [show ¬ j = w by omega, show ¬ j = w + 1 by omega]
  · by_cases r2 : j = a + 1
    · subst r2; simp [show ¬ a + 1 = w by omega, show ¬ a = w by omega]
    · simp [r1, r2]
theorem is_nw {cA : Nat → ClassId} {ad : Nat → Nat} {g : Nat → va_E} {a o y : Nat} {f : Nat → Int64} {sv : Int32} (h1 : a ≠ o) (h2 : a ≠ o + 1) (h3 : a + 1 ≠ o) (h : is_N cA ad g o y) : is_N cA ad (nw_ cA ad g a f sv) o y :=
  ⟨(nw_ne (by omega) (by omega)).trans h.1, (nw_ne (by omega) (by omega)).trans h.2⟩
set_option maxHeartbeats 4000000 in
set_option maxRecDepth 100000 in
/-- guess -/
theorem c_X1_guess (l : Launch) (D : va_G) (cA : Nat → ClassId) (tT : Nat) (A : Nat → Prop) (N : Nat) (ad : Nat → Nat) (sz : Nat) (g : Nat → va_E) {a o y q Rv L : Nat} {sv : Int32} (ha1 : a + 1 < N) (ho1 : o + 1 < N) (ho : is_N cA ad g o y) (n1 : a ≠ o) (n2 : a ≠ o + 1) (n3 : a + 1 ≠ o) (hat : q + nd_s y < 64) (hL : nd_s y = L + 1) : Met l yX1_guess wsX1_guess ({ frames := 0, cells := 0, slots := 0, locals := 0 }) (va_Pc [.ref (ad a), .ref (ad o), .int (nI (q))] (wd_B D cA tT A N ad sz (nw_ cA ad g a (nd_A Rv) sv))) (va_Ql (fun (r : Int64) (u : Nat → va_E) => r = lN (gs Rv y q L) ∧ u = nw_ cA ad g a (nd_A Rv) sv) (wd_E D cA A N ad) A) 0 0 A := by
  refine Met.ofW (cc := cX1_guess) (maxL := 8) (ret := (some .long)) (by decide) rfl ?_
  intro p e s m args below meth c s₁ B hml hv
  obtain ⟨rfl, hsz, hP, hK, hD, hT⟩ := hv
  have hx := B.exec
  have hb := B.bytes
  have hr := B.returns
  have hts := atoms_spec (ws := wsX1_guess) B.pre
  have hown : s.vm.findClass RX1 = some m.cls := findClass_of_methodNamed B.named
  have hlocks := B.notSynchronized
  subst hsz
  have hS : va_S A s.heap s.heap [] := va_S.rf
  have in1 : ∀ w ∈ wsX10, w ∈ wsX1_guess := by decide +kernel
  have hl := lv_entry ([.ref (ad a), .ref (ad o), .int (nI (q))]) (n := 8) (Nat.le_of_ble_eq_true rfl)
  rw [lg_entry_eq]
  generalize (lg_sl ([.ref (ad a), .ref (ad o), .int (nI (q))]) ++ List.replicate (8 - (lg_sl ([.ref (ad a), .ref (ad o), .int (nI (q))])).length) Slot.unset).toArray = ls at hl ⊢
  have hl : lv_has ls 8 [(0, .ref (ad a)), (1, .ref (ad o)), (2, .int (nI (q)))] := hl
  have d1 := nd_lt Rv (q + L + 1)
  have d2 := nd_lt Rv (q + L)
  have d3 := nd_lt Rv (q + L - 1)
  have d4 := nd_lt y L
  have d5 := nd_lt y (L - 1)
  have d6 := nd_top hL
  refine lv_aload_n hx hb dX1_guess_0 rfl (lv_at hl 1 rfl) ?_
  refine rg_1_size hx hb hts in1 hown hK hP o (by omega) ((nw_ne (by omega) (by omega)).trans ho.1) (hts _ (by decide +kernel)) dX1_guess_1 ?_
  refine lv_iconst (v := nI (1)) hx hb dX1_guess_4 (by decide) ?_
  refine lv_isub hx hb dX1_guess_5 ?_
  refine tp_i (y := nI (L)) (by rw [hL]; exact nI_sub1 L) ?_
  refine lv_istore_n (lv' := [(3, .int (nI (L))), (0, .ref (ad a)), (1, .ref (ad o)), (2, .int (nI (q)))]) hx hb dX1_guess_6 rfl hl (by decide) rfl (fun ls hl => ?_)
  refine lv_aload_n hx hb dX1_guess_7 rfl (lv_at hl 1 rfl) ?_
  refine rg_1_limbs hx hb hts in1 hown hK hP a (by omega) nw_o (hts _ (by decide +kernel)) dX1_guess_8 ?_
  refine lv_iload_n hx hb dX1_guess_11 rfl (lv_at hl 3 rfl) ?_
  refine lv_iload_n hx hb dX1_guess_12 rfl (lv_at hl 0 rfl) ?_
  refine lv_iadd hx hb dX1_guess_13 ?_
  refine tp_i (y := nI (q + L)) (nI_add _ _) ?_
  refine lv_iconst (v := nI (1)) hx hb dX1_guess_14 (by decide) ?_
  refine lv_iadd hx hb dX1_guess_15 ?_
  refine tp_i (y := nI ((q + L) + 1)) (nI_add _ _) ?_
  refine rn_l hx hb hK hP (a + 1) (by omega) nw_l (by omega) (by decide) dX1_guess_16 ?_
  refine tp_l (y := lN (nd_d Rv ((q + L) + 1))) rfl ?_
  refine lv_ldc2 (v := lN (1000000)) hx hb hown (hts _ (by decide +kernel)) dX1_guess_17 ?_
  refine lv_lmul hx hb dX1_guess_20 ?_
  refine tp_l (y := lN ((nd_d Rv ((q + L) + 1)) * 1000000)) (lN_mul _ _) ?_
  refine lv_aload_n hx hb dX1_guess_21 rfl (lv_at hl 1 rfl) ?_
  refine rg_1_limbs hx hb hts in1 hown hK hP a (by omega) nw_o (hts _ (by decide +kernel)) dX1_guess_22 ?_
  refine lv_iload_n hx hb dX1_guess_25 rfl (lv_at hl 3 rfl) ?_
  refine lv_iload_n hx hb dX1_guess_26 rfl (lv_at hl 0 rfl) ?_
  refine lv_iadd hx hb dX1_guess_27 ?_
  refine tp_i (y := nI (q + L)) (nI_add _ _) ?_
  refine rn_l hx hb hK hP (a + 1) (by omega) nw_l (by omega) (by decide) dX1_guess_28 ?_
  refine tp_l (y := lN (nd_d Rv (q + L))) rfl ?_
  refine lv_ladd hx hb dX1_guess_29 ?_
  refine tp_l (y := lN (((nd_d Rv ((q + L) + 1)) * 1000000) + (nd_d Rv (q + L)))) (lN_add _ _) ?_
  refine lv_ldc2 (v := lN (1000000)) hx hb hown (hts _ (by decide +kernel)) dX1_guess_30 ?_
  refine lv_lmul hx hb dX1_guess_33 ?_
  refine tp_l (y := lN ((((nd_d Rv ((q + L) + 1)) * 1000000) + (nd_d Rv (q + L))) * 1000000)) (lN_mul _ _) ?_
  refine lv_lstore (lv' := [(4, .long (lN ((((nd_d Rv ((q + L) + 1)) * 1000000) + (nd_d Rv (q + L))) * 1000000))), (3, .int (nI (L))), (0, .ref (ad a)), (1, .ref (ad o)), (2, .int (nI (q)))]) hx hb dX1_guess_34 hl (by decide) rfl (fun ls hl => ?_)
  refine lv_aload_n hx hb dX1_guess_36 rfl (lv_at hl 3 rfl) ?_
  refine rg_1_limbs hx hb hts in1 hown hK hP o (by omega) ((nw_ne (by omega) (by omega)).trans ho.1) (hts _ (by decide +kernel)) dX1_guess_37 ?_
  refine lv_iload_n hx hb dX1_guess_40 rfl (lv_at hl 1 rfl) ?_
  refine rn_l hx hb hK hP (o + 1) (by omega) ((nw_ne (by omega) (by omega)).trans ho.2) (by omega) (by decide) dX1_guess_41 ?_
  refine tp_l (y := lN (nd_d y L)) rfl ?_
  refine lv_ldc2 (v := lN (1000000)) hx hb hown (hts _ (by decide +kernel)) dX1_guess_42 ?_
  refine lv_lmul hx hb dX1_guess_45 ?_
  refine tp_l (y := lN ((nd_d y L) * 1000000)) (lN_mul _ _) ?_
  refine lv_lstore (lv' := [(6, .long (lN ((nd_d y L) * 1000000))), (4, .long (lN ((((nd_d Rv ((q + L) + 1)) * 1000000) + (nd_d Rv (q + L))) * 1000000))), (3, .int (nI (L))), (0, .ref (ad a)), (1, .ref (ad o)), (2, .int (nI (q)))]) hx hb dX1_guess_46 hl (by decide) rfl (fun ls hl => ?_)
  refine lv_iload_n hx hb dX1_guess_48 rfl (lv_at hl 2 rfl) ?_
  refine bz_le (tgt := 80) hx hb dX1_guess_49 (by decide) (by omega) (fun q9 => ?_) (fun q9 => ?_)
  · refine lv_lload hx hb dX1_guess_80 (lv_at hl 0 rfl) ?_
    refine lv_lconst (v := lN (0)) hx hb dX1_guess_82 rfl ?_
    refine bl_ne (tgt := 91) hx hb dX1_guess_83 dX1_guess_84 (by decide) (by omega) (by omega) (fun q8 => ?_) (fun q8 => ?_)
    · refine lv_lload hx hb dX1_guess_91 (lv_at hl 1 rfl) ?_
      refine lv_lload hx hb dX1_guess_93 (lv_at hl 0 rfl) ?_
      refine lv_ldiv hx hb dX1_guess_95 (lN_ne0 (by omega) (by omega)) ?_
      refine tp_l (y := lN (((((nd_d Rv ((q + L) + 1)) * 1000000) + (nd_d Rv (q + L))) * 1000000) / ((nd_d y L) * 1000000))) (pk_lDiv (by omega) (by omega) (by omega)) ?_
      exact W.lret (v := lN (((((nd_d Rv ((q + L) + 1)) * 1000000) + (nd_d Rv (q + L))) * 1000000) / ((nd_d y L) * 1000000))) hx hb hr (fun t ht hW => ⟨⟨lN (((((nd_d Rv ((q + L) + 1)) * 1000000) + (nd_d Rv (q + L))) * 1000000) / ((nd_d y L) * 1000000)), _, rfl, ⟨by rw [gs, if_pos (by omega)], rfl⟩, wd_end hP hK hD ht hW⟩, hS.F ht⟩) hS.2.2 dX1_guess_96
    · exact absurd q8 (by omega)
  · refine lv_lload hx hb dX1_guess_52 (lv_at hl 1 rfl) ?_
    refine lv_aload_n hx hb dX1_guess_54 rfl (lv_at hl 3 rfl) ?_
    refine rg_1_limbs hx hb hts in1 hown hK hP a (by omega) nw_o (hts _ (by decide +kernel)) dX1_guess_55 ?_
    refine lv_iload_n hx hb dX1_guess_58 rfl (lv_at hl 5 rfl) ?_
    refine lv_iload_n hx hb dX1_guess_59 rfl (lv_at hl 2 rfl) ?_
    refine lv_iadd hx hb dX1_guess_60 ?_
    refine tp_i (y := nI (q + L)) (nI_add _ _) ?_
    refine lv_iconst (v := nI (1)) hx hb dX1_guess_61 (by decide) ?_
    refine lv_isub hx hb dX1_guess_62 ?_
    refine tp_i (y := nI ((q + L) - 1)) (pk_sub (by omega)) ?_
    refine rn_l hx hb hK hP (a + 1) (by omega) nw_l (by omega) (by decide) dX1_guess_63 ?_
    refine tp_l (y := lN (nd_d Rv ((q + L) - 1))) rfl ?_
    refine lv_ladd hx hb dX1_guess_64 ?_
    refine tp_l (y := lN (((((nd_d Rv ((q + L) + 1)) * 1000000) + (nd_d Rv (q + L))) * 1000000) + (nd_d Rv ((q + L) - 1)))) (lN_add _ _) ?_
    refine lv_lstore (lv' := [(4, .long (lN (((((nd_d Rv ((q + L) + 1)) * 1000000) + (nd_d Rv (q + L))) * 1000000) + (nd_d Rv ((q + L) - 1))))), (6, .long (lN ((nd_d y L) * 1000000))), (3, .int (nI (L))), (0, .ref (ad a)), (1, .ref (ad o)), (2, .int (nI (q)))]) hx hb dX1_guess_65 hl (by decide) rfl (fun ls hl => ?_)
    refine lv_lload hx hb dX1_guess_67 (lv_at hl 1 rfl) ?_
    refine lv_aload_n hx hb dX1_guess_69 rfl (lv_at hl 4 rfl) ?_
    refine rg_1_limbs hx hb hts in1 hown hK hP o (by omega) ((nw_ne (by omega) (by omega)).trans ho.1) (hts _ (by decide +kernel)) dX1_guess_70 ?_
    refine lv_iload_n hx hb dX1_guess_73 rfl (lv_at hl 2 rfl) ?_
    refine lv_iconst (v := nI (1)) hx hb dX1_guess_74 (by decide) ?_
    refine lv_isub hx hb dX1_guess_75 ?_
    refine tp_i (y := nI (L - 1)) (pk_sub (by omega)) ?_
    refine rn_l hx hb hK hP (o + 1) (by omega) ((nw_ne (by omega) (by omega)).trans ho.2) (by omega) (by decide) dX1_guess_76 ?_
    refine tp_l (y := lN (nd_d y (L - 1))) rfl ?_
    refine lv_ladd hx hb dX1_guess_77 ?_
    refine tp_l (y := lN (((nd_d y L) * 1000000) + (nd_d y (L - 1)))) (lN_add _ _) ?_
    refine lv_lstore (lv' := [(6, .long (lN (((nd_d y L) * 1000000) + (nd_d y (L - 1))))), (4, .long (lN (((((nd_d Rv ((q + L) + 1)) * 1000000) + (nd_d Rv (q + L))) * 1000000) + (nd_d Rv ((q + L) - 1))))), (3, .int (nI (L))), (0, .ref (ad a)), (1, .ref (ad o)), (2, .int (nI (q)))]) hx hb dX1_guess_78 hl (by decide) rfl (fun ls hl => ?_)
    refine lv_lload hx hb dX1_guess_80 (lv_at hl 0 rfl) ?_
    refine lv_lconst (v := lN (0)) hx hb dX1_guess_82 rfl ?_
    refine bl_ne (tgt := 91) hx hb dX1_guess_83 dX1_guess_84 (by decide) (by omega) (by omega) (fun q8 => ?_) (fun q8 => ?_)
    · refine lv_lload hx hb dX1_guess_91 (lv_at hl 1 rfl) ?_
      refine lv_lload hx hb dX1_guess_93 (lv_at hl 0 rfl) ?_
      refine lv_ldiv hx hb dX1_guess_95 (lN_ne0 (by omega) (by omega)) ?_
      refine tp_l (y := lN ((((((nd_d Rv ((q + L) + 1)) * 1000000) + (nd_d Rv (q + L))) * 1000000) + (nd_d Rv ((q + L) - 1))) / (((nd_d y L) * 1000000) + (nd_d y (L - 1))))) (pk_lDiv (by omega) (by omega) (by omega)) ?_
      exact W.lret (v := lN ((((((nd_d Rv ((q + L) + 1)) * 1000000) + (nd_d Rv (q + L))) * 1000000) + (nd_d Rv ((q + L) - 1))) / (((nd_d y L) * 1000000) + (nd_d y (L - 1))))) hx hb hr (fun t ht hW => ⟨⟨lN ((((((nd_d Rv ((q + L) + 1)) * 1000000) + (nd_d Rv (q + L))) * 1000000) + (nd_d Rv ((q + L) - 1))) / (((nd_d y L) * 1000000) + (nd_d y (L - 1)))), _, rfl, ⟨by rw [gs, if_neg (by omega)], rfl⟩, wd_end hP hK hD ht hW⟩, hS.F ht⟩) hS.2.2 dX1_guess_96
    · exact absurd q8 (by omega)
