theorem bn_t {a b : Bool} (h : ¬ a = b) : (a != b) = true := by
  revert h; cases a <;> cases b <;> simp
theorem bn_f {a b : Bool} (h : a = b) : (a != b) = false := by subst h; cases a <;> rfl
/-- the sum of digits -/
def tv (f : Nat → Nat) : Nat → Nat
  | 0 => 0
  | k + 1 => tv f k + f k * 10 ^ k
theorem tv_congr {f g : Nat → Nat} {k : Nat} (h : ∀ j, j < k → f j = g j) : tv f k = tv g k := by
  induction k with
  | zero => rfl
  | succ k ih => rw [tv, tv, ih (fun j hj => h j (by omega)), h k (by omega)]
theorem tv_lt {f : Nat → Nat} {k : Nat} (h : ∀ j, j < k → f j < 10) : tv f k < 10 ^ k := by
  induction k with
  | zero => simp [tv]
  | succ k ih =>
    rw [tv, Nat.pow_succ]
    have h1 := ih (fun j hj => h j (by omega))
    have h2 := Nat.mul_le_mul_right (10 ^ k) (show f k ≤ 9 by have := h k (by omega); omega)
    omega
theorem tv_d {f : Nat → Nat} {k : Nat} (h : ∀ j, j < k → f j < 10) : ∀ j, j < k → tv f k / 10 ^ j % 10 = f j := by
  induction k with
  | zero => intro j hj; omega
  | succ k ih =>
    intro j hj
    have h1 := tv_lt (fun j hj => h j (Nat.lt_succ_of_lt hj)) (k := k)
    rw [tv, Nat.add_comm, tp_cat h1]
    by_cases q : j < k
    · rw [if_pos q]; exact ih (fun j hj => h j (by omega)) j q
    · obtain rfl : j = k := by omega
      rw [if_neg q, Nat.sub_self, Nat.pow_zero, Nat.div_one, Nat.mod_eq_of_lt (h j (by omega))]
theorem tv_up {F : Nat → Nat} {k v : Nat} : ∀ {K : Nat}, k < K → tv (va_up F k v) K + F k * 10 ^ k = tv F K + v * 10 ^ k := by
  intro K
  induction K with
  | zero => intro h; omega
  | succ K ih =>
    intro h
    rcases Nat.lt_or_ge k K with r | r
    · rw [tv, tv, va_up_ne _ _ (by omega)]
      have := ih r
      omega
    · obtain rfl : k = K := by omega
      rw [tv, tv, va_up_self, tv_congr (g := F) (fun j hj => va_up_ne _ _ (by omega))]
      omega
theorem tv_0 (K : Nat) : tv (fun _ => 0) K = 0 := by
  induction K with
  | zero => rfl
  | succ K ih => rw [tv, ih]; simp
theorem tf_up {f : Nat → Int32} {F : Nat → Nat} {K k v : Nat} (h : ∀ j, j < K → f j = nI (F j)) : ∀ j, j < K → upd f k (nI v) j = nI (va_up F k v j) := by
  intro j hj
  by_cases r : j = k
  · subst r; rw [pk_us, va_up_self]
  · rw [pk_un r, va_up_ne _ _ r]; exact h j hj
theorem td_step {VF VF' Av sv p dx dy cv Rv Bi Bm ym yM : Nat} (h1 : VF' + Av * p = VF + sv % 10 * p) (h2 : VF + cv * p = Rv + dx * Bi * ym) (hs : sv = Av + dx * dy + cv) (hp : p = Bi * Bm) (hy : yM = ym + Bm * dy) : VF' + sv / 10 * (p * 10) = Rv + dx * Bi * yM := by
  have e1 : sv / 10 * (p * 10) + sv % 10 * p = sv * p := by
    rw [Nat.mul_comm p 10, ← Nat.mul_assoc, ← Nat.add_mul]
    congr 1; omega
  have e2 : sv * p = Av * p + dx * dy * p + cv * p := by rw [hs, Nat.add_mul, Nat.add_mul]
  have e3 : dx * Bi * yM = dx * Bi * ym + dx * dy * p := by
    rw [hy, Nat.mul_add, hp]; congr 1; simp only [Nat.mul_comm, Nat.mul_left_comm]
  omega
theorem td_b {A dx dy cv : Nat} (hA : A < 10) (hx : dx < 10) (hy : dy < 10) (hc : cv < 10) : A + dx * dy + cv < 100 ∧ (A + dx * dy + cv) / 10 < 10 ∧ dx * dy < 100 := by
  have h1 : dx * dy ≤ 9 * 9 := Nat.mul_le_mul (by omega) (by omega)
  omega
set_option maxHeartbeats 4000000 in
set_option maxRecDepth 100000 in
theorem lp_X4_product0 {p : Program} {l : Launch} {e : Env} {R : Room} {s : State} {m : MethodId} {args : Array Value} {below : List Frame} {meth : Method} {c : Code} {Q : State → Prop} {D : va_G} {cA : Nat → ClassId} {tT : Nat} {A : Nat → Prop} {N : Nat} {ad : Nat → Nat} {g : Nat → va_E} {a o t n1 n2 n x y : Nat} {f1 f2 : Nat → Int32} {b1 b2 b : Bool} {z1 z2 z : Int} (S : CallFix p m c cX4_product 7 s args wsX4_product RX4) (hK : va_K D vwCl (ty_s cA) s) (hT : st_T tT A s s.heap) (ht1 : t + 1 < N) (ha1 : a + 1 < N) (ho1 : o + 1 < N) (ha : is_R cA ad g a f1 n1 b1 z1) (ho : is_R cA ad g o f2 n2 b2 z2) (r1 : t ≠ a) (r2 : t ≠ a + 1) (r3 : t + 1 ≠ a) (m1 : t ≠ o) (m2 : t ≠ o + 1) (m3 : t + 1 ≠ o) (hv : rv f1 n1 x) (hw : rv f2 n2 y) (hK8 : n1 + n2 ≤ 800) (kk : ∀ (f : Nat → Int32) (H : Heap) (locs : List Loc) (ls : Array Slot), (∀ j, j < n1 + n2 → f j = nI 0) → va_P D vwCl (wm_W N ad (rw_ cA ad g t f n b z)) H → va_D A (wm_W N ad (rw_ cA ad g t f n b z)) → va_S A s.heap H locs → lv_has ls 7 [(0, .ref (ad a)), (1, .ref (ad o)), (2, .ref (ad t))] → W p l e R s m args below meth c H locs 0 0 Q (F0 m 28 ls [])) :
    ∀ (k i : Nat) (f : Nat → Int32) (H : Heap) (locs : List Loc) (ls : Array Slot), i + k = n1 + n2 → (∀ j, j < i → f j = nI 0) → va_P D vwCl (wm_W N ad (rw_ cA ad g t f n b z)) H → va_D A (wm_W N ad (rw_ cA ad g t f n b z)) → va_S A s.heap H locs → lv_has ls 7 [(3, .int (nI (i))), (0, .ref (ad a)), (1, .ref (ad o)), (2, .ref (ad t))] → W p l e R s m args below meth c H locs 0 0 Q (F0 m 2 ls []) := by
  obtain ⟨hx, hb, hml, hown, hts⟩ := S
  have in3 : ∀ w ∈ wsX30, w ∈ wsX4_product := by decide +kernel
  intro k
  induction k with
  | zero =>
    intro i f H locs ls hn h1 hP hD hS hl
    refine lv_iload_n hx hb dX4_product_2 rfl (lv_at hl 0 rfl) ?_
    refine lv_aload_n hx hb dX4_product_3 rfl (lv_at hl 1 rfl) ?_
    refine rg_3_n hx hb hts in3 hown hK hP a (by omega) ((rw_ne (by omega) (by omega)).trans ha.1) (hts _ (by decide +kernel)) dX4_product_4 ?_
    refine lv_aload_n hx hb dX4_product_7 rfl (lv_at hl 2 rfl) ?_
    refine rg_3_n hx hb hts in3 hown hK hP o (by omega) ((rw_ne (by omega) (by omega)).trans ho.1) (hts _ (by decide +kernel)) dX4_product_8 ?_
    refine lv_iadd hx hb dX4_product_11 ?_
    refine tp_i (y := nI (n1 + n2)) (nI_add _ _) ?_
    refine bi_ge (tgt := 28) hx hb dX4_product_12 (by decide) (by omega) (by omega) (fun q => ?_) (fun q => ?_)
    · exact kk f H locs ls (fun j hj => h1 j (by omega)) hP hD hS (lv_sub hl [1, 2, 3] rfl)
    · exact absurd hn (by omega)
  | succ k ih =>
    intro i f H locs ls hn h1 hP hD hS hl
    refine lv_iload_n hx hb dX4_product_2 rfl (lv_at hl 0 rfl) ?_
    refine lv_aload_n hx hb dX4_product_3 rfl (lv_at hl 1 rfl) ?_
    refine rg_3_n hx hb hts in3 hown hK hP a (by omega) ((rw_ne (by omega) (by omega)).trans ha.1) (hts _ (by decide +kernel)) dX4_product_4 ?_
    refine lv_aload_n hx hb dX4_product_7 rfl (lv_at hl 2 rfl) ?_
    refine rg_3_n hx hb hts in3 hown hK hP o (by omega) ((rw_ne (by omega) (by omega)).trans ho.1) (hts _ (by decide +kernel)) dX4_product_8 ?_
    refine lv_iadd hx hb dX4_product_11 ?_
    refine tp_i (y := nI (n1 + n2)) (nI_add _ _) ?_
    refine bi_ge (tgt := 28) hx hb dX4_product_12 (by decide) (by omega) (by omega) (fun q => ?_) (fun q => ?_)
    · exact absurd hn (by omega)
    · refine lv_aload_n hx hb dX4_product_15 rfl (lv_at hl 3 rfl) ?_
      refine rg_3_d hx hb hts in3 hown hK hP t (by omega) rw_o (hts _ (by decide +kernel)) dX4_product_16 ?_
      refine lv_iload_n hx hb dX4_product_19 rfl (lv_at hl 0 rfl) ?_
      refine lv_iconst (v := nI (0)) hx hb dX4_product_20 (by decide) ?_
      refine rt_i hx hb hK hP hD hS (t + 1) (by omega) rw_l (by omega) (by decide) dX4_product_21 (fun H locs hP hD hS => ?_)
      rw [rw_sl] at hP hD
      refine lv_iinc (v := nI (i + 1)) (lv' := [(3, .int (nI (i + 1))), (0, .ref (ad a)), (1, .ref (ad o)), (2, .ref (ad t))]) hx hb dX4_product_22 hl (k := 0) rfl (nI_inc i 1) (by decide) rfl (fun ls hl => ?_)
      refine lv_goto (tgt := 2) hx hb dX4_product_25 (by decide) ?_
      refine ih (i + 1) _ H locs ls (by omega) (fun j hj => ?_) hP hD hS hl
      rcases Nat.lt_or_ge j i with r | r
      · rw [pk_un (by omega)]; exact h1 j r
      · obtain rfl : j = i := by omega
        exact pk_us
set_option maxHeartbeats 4000000 in
set_option maxRecDepth 100000 in
theorem lp_X4_product1 {p : Program} {l : Launch} {e : Env} {R : Room} {s : State} {m : MethodId} {args : Array Value} {below : List Frame} {meth : Method} {c : Code} {Q : State → Prop} {D : va_G} {cA : Nat → ClassId} {tT : Nat} {A : Nat → Prop} {N : Nat} {ad : Nat → Nat} {g : Nat → va_E} {a o t n1 n2 n x y : Nat} {f1 f2 : Nat → Int32} {b1 b2 b : Bool} {z1 z2 z : Int} {i : Nat} (S : CallFix p m c cX4_product 7 s args wsX4_product RX4) (hK : va_K D vwCl (ty_s cA) s) (hT : st_T tT A s s.heap) (ht1 : t + 1 < N) (ha1 : a + 1 < N) (ho1 : o + 1 < N) (ha : is_R cA ad g a f1 n1 b1 z1) (ho : is_R cA ad g o f2 n2 b2 z2) (r1 : t ≠ a) (r2 : t ≠ a + 1) (r3 : t + 1 ≠ a) (m1 : t ≠ o) (m2 : t ≠ o + 1) (m3 : t + 1 ≠ o) (hv : rv f1 n1 x) (hw : rv f2 n2 y) (hK8 : n1 + n2 ≤ 800) (hi : i < n1) (kk : ∀ (cv : Nat) (F : Nat → Nat) (f : Nat → Int32) (H : Heap) (locs : List Loc) (ls : Array Slot), (∀ j, j < n1 + n2 → f j = nI (F j)) → (∀ j, F j < 10) → (∀ j, i + n2 ≤ j → F j = 0) → tv F (n1 + n2) + cv * 10 ^ (i + n2) = x % 10 ^ i * y + x / 10 ^ i % 10 * 10 ^ i * (y % 10 ^ n2) → cv < 10 → va_P D vwCl (wm_W N ad (rw_ cA ad g t f n b z)) H → va_D A (wm_W N ad (rw_ cA ad g t f n b z)) → va_S A s.heap H locs → lv_has ls 7 [(4, .int (nI (cv))), (3, .int (nI (i))), (0, .ref (ad a)), (1, .ref (ad o)), (2, .ref (ad t))] → W p l e R s m args below meth c H locs 0 0 Q (F0 m 109 ls [])) :
    ∀ (q9 k cv : Nat) (F : Nat → Nat) (f : Nat → Int32) (H : Heap) (locs : List Loc) (ls : Array Slot), k + q9 = n2 → (∀ j, j < n1 + n2 → f j = nI (F j)) → (∀ j, F j < 10) → (∀ j, i + n2 ≤ j → F j = 0) → tv F (n1 + n2) + cv * 10 ^ (i + k) = x % 10 ^ i * y + x / 10 ^ i % 10 * 10 ^ i * (y % 10 ^ k) → cv < 10 → va_P D vwCl (wm_W N ad (rw_ cA ad g t f n b z)) H → va_D A (wm_W N ad (rw_ cA ad g t f n b z)) → va_S A s.heap H locs → lv_has ls 7 [(5, .int (nI (k))), (4, .int (nI (cv))), (3, .int (nI (i))), (0, .ref (ad a)), (1, .ref (ad o)), (2, .ref (ad t))] → W p l e R s m args below meth c H locs 0 0 Q (F0 m 44 ls []) := by
  obtain ⟨hx, hb, hml, hown, hts⟩ := S
  have in3 : ∀ w ∈ wsX30, w ∈ wsX4_product := by decide +kernel
  intro q9
  induction q9 with
  | zero =>
    intro k cv F f H locs ls hn hf h1 h2 h3 h4 hP hD hS hl
    refine lv_iload hx hb dX4_product_44 (lv_at hl 0 rfl) ?_
    refine lv_aload_n hx hb dX4_product_46 rfl (lv_at hl 4 rfl) ?_
    refine rg_3_n hx hb hts in3 hown hK hP o (by omega) ((rw_ne (by omega) (by omega)).trans ho.1) (hts _ (by decide +kernel)) dX4_product_47 ?_
    refine bi_ge (tgt := 109) hx hb dX4_product_50 (by decide) (by omega) (by omega) (fun q => ?_) (fun q => ?_)
    · obtain rfl : k = n2 := by omega
      exact kk cv F f H locs ls hf h1 h2 h3 h4 hP hD hS (lv_sub hl [1, 2, 3, 4, 5] rfl)
    · exact absurd hn (by omega)
  | succ q9 ih =>
    intro k cv F f H locs ls hn hf h1 h2 h3 h4 hP hD hS hl
    refine lv_iload hx hb dX4_product_44 (lv_at hl 0 rfl) ?_
    refine lv_aload_n hx hb dX4_product_46 rfl (lv_at hl 4 rfl) ?_
    refine rg_3_n hx hb hts in3 hown hK hP o (by omega) ((rw_ne (by omega) (by omega)).trans ho.1) (hts _ (by decide +kernel)) dX4_product_47 ?_
    refine bi_ge (tgt := 109) hx hb dX4_product_50 (by decide) (by omega) (by omega) (fun q => ?_) (fun q => ?_)
    · exact absurd hn (by omega)
    · have hpb := td_b (h1 (i + k)) (dg_lt x i) (dg_lt y k) h4
      have hF9 := h1 (i + k)
      refine lv_aload_n hx hb dX4_product_53 rfl (lv_at hl 5 rfl) ?_
      refine rg_3_d hx hb hts in3 hown hK hP t (by omega) rw_o (hts _ (by decide +kernel)) dX4_product_54 ?_
      refine lv_iload_n hx hb dX4_product_57 rfl (lv_at hl 2 rfl) ?_
      refine lv_iload hx hb dX4_product_58 (lv_at hl 0 rfl) ?_
      refine lv_iadd hx hb dX4_product_60 ?_
      refine tp_i (y := nI (i + k)) (nI_add _ _) ?_
      refine rn_i hx hb hK hP (t + 1) (by omega) rw_l (by omega) (by decide) dX4_product_61 ?_
      refine tp_i (y := nI (F (i + k))) (hf (i + k) (by omega)) ?_
      refine lv_aload_n hx hb dX4_product_62 rfl (lv_at hl 3 rfl) ?_
      refine rg_3_d hx hb hts in3 hown hK hP a (by omega) ((rw_ne (by omega) (by omega)).trans ha.1) (hts _ (by decide +kernel)) dX4_product_63 ?_
      refine lv_iload_n hx hb dX4_product_66 rfl (lv_at hl 2 rfl) ?_
      refine rn_i hx hb hK hP (a + 1) (by omega) ((rw_ne (by omega) (by omega)).trans ha.2) (by omega) (by decide) dX4_product_67 ?_
      refine tp_i (y := nI (x / 10 ^ i % 10)) (hv.2 i hi) ?_
      refine lv_aload_n hx hb dX4_product_68 rfl (lv_at hl 4 rfl) ?_
      refine rg_3_d hx hb hts in3 hown hK hP o (by omega) ((rw_ne (by omega) (by omega)).trans ho.1) (hts _ (by decide +kernel)) dX4_product_69 ?_
      refine lv_iload hx hb dX4_product_72 (lv_at hl 0 rfl) ?_
      refine rn_i hx hb hK hP (o + 1) (by omega) ((rw_ne (by omega) (by omega)).trans ho.2) (by omega) (by decide) dX4_product_74 ?_
      refine tp_i (y := nI (y / 10 ^ k % 10)) (hw.2 k (by omega)) ?_
      refine lv_imul hx hb dX4_product_75 ?_
      refine tp_i (y := nI ((x / 10 ^ i % 10) * (y / 10 ^ k % 10))) (pk_mul _ _) ?_
      refine lv_iadd hx hb dX4_product_76 ?_
      refine tp_i (y := nI ((F (i + k)) + ((x / 10 ^ i % 10) * (y / 10 ^ k % 10)))) (nI_add _ _) ?_
      refine lv_iload hx hb dX4_product_77 (lv_at hl 1 rfl) ?_
      refine lv_iadd hx hb dX4_product_79 ?_
      refine tp_i (y := nI (((F (i + k)) + ((x / 10 ^ i % 10) * (y / 10 ^ k % 10))) + cv)) (nI_add _ _) ?_
      refine lv_istore (lv' := [(6, .int (nI (((F (i + k)) + ((x / 10 ^ i % 10) * (y / 10 ^ k % 10))) + cv))), (5, .int (nI (k))), (4, .int (nI (cv))), (3, .int (nI (i))), (0, .ref (ad a)), (1, .ref (ad o)), (2, .ref (ad t))]) hx hb dX4_product_80 hl (by decide) rfl (fun ls hl => ?_)
      refine lv_aload_n hx hb dX4_product_82 rfl (lv_at hl 6 rfl) ?_
      refine rg_3_d hx hb hts in3 hown hK hP t (by omega) rw_o (hts _ (by decide +kernel)) dX4_product_83 ?_
      refine lv_iload_n hx hb dX4_product_86 rfl (lv_at hl 3 rfl) ?_
      refine lv_iload hx hb dX4_product_87 (lv_at hl 1 rfl) ?_
      refine lv_iadd hx hb dX4_product_89 ?_
      refine tp_i (y := nI (i + k)) (nI_add _ _) ?_
      refine lv_iload hx hb dX4_product_90 (lv_at hl 0 rfl) ?_
      refine lv_bipush (v := nI (10)) hx hb dX4_product_92 (by decide) ?_
      refine lv_irem hx hb dX4_product_94 (nI_ne0 (by omega) (by omega)) ?_
      refine tp_i (y := nI ((((F (i + k)) + ((x / 10 ^ i % 10) * (y / 10 ^ k % 10))) + cv) % 10)) (pk_rem (by omega) (by omega) (by omega)) ?_
      refine rt_i hx hb hK hP hD hS (t + 1) (by omega) rw_l (by omega) (by decide) dX4_product_95 (fun H locs hP hD hS => ?_)
      rw [rw_sl] at hP hD
      refine lv_iload hx hb dX4_product_96 (lv_at hl 0 rfl) ?_
      refine lv_bipush (v := nI (10)) hx hb dX4_product_98 (by decide) ?_
      refine lv_idiv hx hb dX4_product_100 (nI_ne0 (by omega) (by omega)) ?_
      refine tp_i (y := nI ((((F (i + k)) + ((x / 10 ^ i % 10) * (y / 10 ^ k % 10))) + cv) / 10)) (pk_div (by omega) (by omega) (by omega)) ?_
      refine lv_istore (lv' := [(4, .int (nI ((((F (i + k)) + ((x / 10 ^ i % 10) * (y / 10 ^ k % 10))) + cv) / 10))), (6, .int (nI (((F (i + k)) + ((x / 10 ^ i % 10) * (y / 10 ^ k % 10))) + cv))), (5, .int (nI (k))), (3, .int (nI (i))), (0, .ref (ad a)), (1, .ref (ad o)), (2, .ref (ad t))]) hx hb dX4_product_101 hl (by decide) rfl (fun ls hl => ?_)
      refine lv_iinc (v := nI (k + 1)) (lv' := [(5, .int (nI (k + 1))), (4, .int (nI ((((F (i + k)) + ((x / 10 ^ i % 10) * (y / 10 ^ k % 10))) + cv) / 10))), (6, .int (nI (((F (i + k)) + ((x / 10 ^ i % 10) * (y / 10 ^ k % 10))) + cv))), (3, .int (nI (i))), (0, .ref (ad a)), (1, .ref (ad o)), (2, .ref (ad t))]) hx hb dX4_product_103 hl (k := 2) rfl (nI_inc k 1) (by decide) rfl (fun ls hl => ?_)
      refine lv_goto (tgt := 44) hx hb dX4_product_106 (by decide) ?_
      refine ih (k + 1) _ _ _ H locs ls (by omega) (tf_up hf) (fun j => ?_) (fun j hj => ?_) ?_ hpb.2.1 hP hD hS (lv_sub hl [0, 1, 3, 4, 5, 6] rfl)
      · by_cases r : j = i + k
        · subst r; rw [va_up_self]; exact Nat.mod_lt _ (by decide)
        · rw [va_up_ne _ _ r]; exact h1 j
      · rw [va_up_ne _ _ (by omega)]; exact h2 j hj
      · have e := tv_up (F := F) (k := i + k) (v := (F (i + k) + x / 10 ^ i % 10 * (y / 10 ^ k % 10) + cv) % 10) (K := n1 + n2) (by omega)
        have := td_step e h3 rfl (Nat.pow_add 10 i k) (tp_ms y k)
        rw [show i + (k + 1) = i + k + 1 by omega, Nat.pow_succ]; exact this
set_option maxHeartbeats 4000000 in
set_option maxRecDepth 100000 in
theorem lp_X4_product2 {p : Program} {l : Launch} {e : Env} {R : Room} {s : State} {m : MethodId} {args : Array Value} {below : List Frame} {meth : Method} {c : Code} {Q : State → Prop} {D : va_G} {cA : Nat → ClassId} {tT : Nat} {A : Nat → Prop} {N : Nat} {ad : Nat → Nat} {g : Nat → va_E} {a o t n1 n2 n x y : Nat} {f1 f2 : Nat → Int32} {b1 b2 b : Bool} {z1 z2 z : Int} (S : CallFix p m c cX4_product 7 s args wsX4_product RX4) (hK : va_K D vwCl (ty_s cA) s) (hT : st_T tT A s s.heap) (ht1 : t + 1 < N) (ha1 : a + 1 < N) (ho1 : o + 1 < N) (ha : is_R cA ad g a f1 n1 b1 z1) (ho : is_R cA ad g o f2 n2 b2 z2) (r1 : t ≠ a) (r2 : t ≠ a + 1) (r3 : t + 1 ≠ a) (m1 : t ≠ o) (m2 : t ≠ o + 1) (m3 : t + 1 ≠ o) (hv : rv f1 n1 x) (hw : rv f2 n2 y) (hK8 : n1 + n2 ≤ 800) (kk : ∀ (f : Nat → Int32) (H : Heap) (locs : List Loc) (ls : Array Slot), dv f (n1 + n2) (x * y) → va_P D vwCl (wm_W N ad (rw_ cA ad g t f n b z)) H → va_D A (wm_W N ad (rw_ cA ad g t f n b z)) → va_S A s.heap H locs → lv_has ls 7 [(0, .ref (ad a)), (1, .ref (ad o)), (2, .ref (ad t))] → W p l e R s m args below meth c H locs 0 0 Q (F0 m 128 ls [])) :
    ∀ (q9 i : Nat) (F : Nat → Nat) (f : Nat → Int32) (H : Heap) (locs : List Loc) (ls : Array Slot), i + q9 = n1 → (∀ j, j < n1 + n2 → f j = nI (F j)) → (∀ j, F j < 10) → (∀ j, i + n2 ≤ j → F j = 0) → tv F (n1 + n2) = x % 10 ^ i * y → va_P D vwCl (wm_W N ad (rw_ cA ad g t f n b z)) H → va_D A (wm_W N ad (rw_ cA ad g t f n b z)) → va_S A s.heap H locs → lv_has ls 7 [(3, .int (nI (i))), (0, .ref (ad a)), (1, .ref (ad o)), (2, .ref (ad t))] → W p l e R s m args below meth c H locs 0 0 Q (F0 m 30 ls []) := by
  have S9 := S
  obtain ⟨hx, hb, hml, hown, hts⟩ := S
  have in3 : ∀ w ∈ wsX30, w ∈ wsX4_product := by decide +kernel
  intro q9
  induction q9 with
  | zero =>
    intro i F f H locs ls hn hf h1 h2 h3 hP hD hS hl
    refine lv_iload_n hx hb dX4_product_30 rfl (lv_at hl 0 rfl) ?_
    refine lv_aload_n hx hb dX4_product_31 rfl (lv_at hl 1 rfl) ?_
    refine rg_3_n hx hb hts in3 hown hK hP a (by omega) ((rw_ne (by omega) (by omega)).trans ha.1) (hts _ (by decide +kernel)) dX4_product_32 ?_
    refine bi_ge (tgt := 128) hx hb dX4_product_35 (by decide) (by omega) (by omega) (fun q => ?_) (fun q => ?_)
    · obtain rfl : i = n1 := by omega
      rw [Nat.mod_eq_of_lt (rv_dv hv).1] at h3
      have hd9 : dv f (i + n2) (x * y) := by
        rw [← h3]
        exact ⟨tv_lt (fun j _ => h1 j), fun j hj => by rw [tv_d (fun j _ => h1 j) j hj]; exact hf j hj⟩
      exact kk f H locs ls hd9 hP hD hS (lv_sub hl [1, 2, 3] rfl)
    · exact absurd hn (by omega)
  | succ q9 ih =>
    intro i F f H locs ls hn hf h1 h2 h3 hP hD hS hl
    refine lv_iload_n hx hb dX4_product_30 rfl (lv_at hl 0 rfl) ?_
    refine lv_aload_n hx hb dX4_product_31 rfl (lv_at hl 1 rfl) ?_
    refine rg_3_n hx hb hts in3 hown hK hP a (by omega) ((rw_ne (by omega) (by omega)).trans ha.1) (hts _ (by decide +kernel)) dX4_product_32 ?_
    refine bi_ge (tgt := 128) hx hb dX4_product_35 (by decide) (by omega) (by omega) (fun q => ?_) (fun q => ?_)
    · exact absurd hn (by omega)
    · refine lv_iconst (v := nI (0)) hx hb dX4_product_38 (by decide) ?_
      refine lv_istore (lv' := [(4, .int (nI (0))), (3, .int (nI (i))), (0, .ref (ad a)), (1, .ref (ad o)), (2, .ref (ad t))]) hx hb dX4_product_39 hl (by decide) rfl (fun ls hl => ?_)
      refine lv_iconst (v := nI (0)) hx hb dX4_product_41 (by decide) ?_
      refine lv_istore (lv' := [(5, .int (nI (0))), (4, .int (nI (0))), (3, .int (nI (i))), (0, .ref (ad a)), (1, .ref (ad o)), (2, .ref (ad t))]) hx hb dX4_product_42 hl (by decide) rfl (fun ls hl => ?_)
      refine lp_X4_product1 (i := i) S9 hK hT ht1 ha1 ho1 ha ho r1 r2 r3 m1 m2 m3 hv hw hK8 (by omega) (fun cv F f H locs ls hf h1 h2 h3 h4 hP hD hS hl => ?_) n2 0 0 F f _ _ ls (by omega) hf h1 h2 (by rw [h3, Nat.pow_zero, Nat.mod_one]; omega) (by decide) hP hD hS (lv_sub hl [0, 1, 2, 3, 4, 5] rfl)
      refine lv_aload_n hx hb dX4_product_109 rfl (lv_at hl 4 rfl) ?_
      refine rg_3_d hx hb hts in3 hown hK hP t (by omega) rw_o (hts _ (by decide +kernel)) dX4_product_110 ?_
      refine lv_iload_n hx hb dX4_product_113 rfl (lv_at hl 1 rfl) ?_
      refine lv_aload_n hx hb dX4_product_114 rfl (lv_at hl 3 rfl) ?_
      refine rg_3_n hx hb hts in3 hown hK hP o (by omega) ((rw_ne (by omega) (by omega)).trans ho.1) (hts _ (by decide +kernel)) dX4_product_115 ?_
      refine lv_iadd hx hb dX4_product_118 ?_
      refine tp_i (y := nI (i + n2)) (nI_add _ _) ?_
      refine lv_iload hx hb dX4_product_119 (lv_at hl 0 rfl) ?_
      refine rt_i hx hb hK hP hD hS (t + 1) (by omega) rw_l (by omega) (by decide) dX4_product_121 (fun H locs hP hD hS => ?_)
      rw [rw_sl] at hP hD
      refine lv_iinc (v := nI (i + 1)) (lv' := [(3, .int (nI (i + 1))), (4, .int (nI (cv))), (0, .ref (ad a)), (1, .ref (ad o)), (2, .ref (ad t))]) hx hb dX4_product_122 hl (k := 1) rfl (nI_inc i 1) (by decide) rfl (fun ls hl => ?_)
      refine lv_goto (tgt := 30) hx hb dX4_product_125 (by decide) ?_
      refine ih (i + 1) _ _ H locs ls (by omega) (tf_up hf) (fun j => ?_) (fun j hj => ?_) ?_ hP hD hS (lv_sub hl [0, 2, 3, 4] rfl)
      · by_cases r : j = i + n2
        · subst r; rw [va_up_self]; exact h4
        · rw [va_up_ne _ _ r]; exact h1 j
      · rw [va_up_ne _ _ (by omega)]; exact h2 j (by omega)
      · have e := tv_up (F := F) (k := i + n2) (v := cv) (K := n1 + n2) (by omega)
        rw [h2 (i + n2) (Nat.le_refl _), Nat.pow_add] at e
        rw [Nat.pow_add, Nat.mod_eq_of_lt (rv_dv hw).1] at h3
        exact pd_out (p := 0) e h3 (tp_ms x i)
set_option maxHeartbeats 4000000 in
set_option maxRecDepth 100000 in
/-- product -/
theorem c_X4_product (l : Launch) (D : va_G) (cA : Nat → ClassId) (tT : Nat) (A : Nat → Prop) (N : Nat) (ad : Nat → Nat) (sz : Nat) (g : Nat → va_E) {a o t n1 n2 n x y : Nat} {f1 f2 f : Nat → Int32} {b1 b2 b : Bool} {z1 z2 z : Int} (ht1 : t + 1 < N) (ha1 : a + 1 < N) (ho1 : o + 1 < N) (ha : is_R cA ad g a f1 n1 b1 z1) (ho : is_R cA ad g o f2 n2 b2 z2) (r1 : t ≠ a) (r2 : t ≠ a + 1) (r3 : t + 1 ≠ a) (m1 : t ≠ o) (m2 : t ≠ o + 1) (m3 : t + 1 ≠ o) (hv : rv f1 n1 x) (hw : rv f2 n2 y) (hK8 : n1 + n2 ≤ 800) (ht : is_R cA ad g t f n b z) : Met l yX4_product wsX4_product ({ frames := 2, cells := 0, slots := 0, locals := 40 }) (va_Pc [.ref (ad a), .ref (ad o), .ref (ad t)] (wd_B D cA tT A N ad sz g)) (va_Qv (fun (u : Nat → va_E) => ∃ f', rv f' (nd_p (x * y)) (x * y) ∧ nd_p (x * y) ≤ n1 + n2 ∧ u = rw_ cA ad g t (f') (nd_p (x * y)) (sn (b1 != b2) (x * y)) (z1 + z2)) (wd_E D cA A N ad) A) 0 0 A := by
  refine Met.ofW (cc := cX4_product) (maxL := 7) (ret := none) (by decide) rfl ?_
  intro p e s m args below meth c s₁ B hml hv
  obtain ⟨rfl, hsz, hP, hK, hD, hT⟩ := hv
  have hx := B.exec
  have hb := B.bytes
  have hr := B.returns
  have hts := atoms_spec (ws := wsX4_product) B.pre
  have hown : s.vm.findClass RX4 = some m.cls := findClass_of_methodNamed B.named
  have hlocks := B.notSynchronized
  subst hsz
  have hS : va_S A s.heap s.heap [] := va_S.rf
  have in3 : ∀ w ∈ wsX30, w ∈ wsX4_product := by decide +kernel
  have hl := lv_entry ([.ref (ad a), .ref (ad o), .ref (ad t)]) (n := 7) (Nat.le_of_ble_eq_true rfl)
  rw [lg_entry_eq]
  generalize (lg_sl ([.ref (ad a), .ref (ad o), .ref (ad t)]) ++ List.replicate (7 - (lg_sl ([.ref (ad a), .ref (ad o), .ref (ad t)])).length) Slot.unset).toArray = ls at hl ⊢
  have hl : lv_has ls 7 [(0, .ref (ad a)), (1, .ref (ad o)), (2, .ref (ad t))] := hl
  rw [← rw_self ht] at hP hD
  have hp1 : 1 ≤ n1 := by rw [hv.1]; exact nd_p_pos _
  refine lv_iconst (v := nI (0)) hx hb dX4_product_0 (by decide) ?_
  refine lv_istore_n (lv' := [(3, .int (nI (0))), (0, .ref (ad a)), (1, .ref (ad o)), (2, .ref (ad t))]) hx hb dX4_product_1 rfl hl (by decide) rfl (fun ls hl => ?_)
  refine lp_X4_product0 ⟨hx, hb, hml, hown, hts⟩ hK hT ht1 ha1 ho1 ha ho r1 r2 r3 m1 m2 m3 hv hw hK8 (fun f H locs ls h0 hP hD hS hl => ?_) (n1 + n2) 0 f _ _ ls (by omega) (fun j hj => absurd hj (Nat.not_lt_zero _)) hP hD hS (lv_sub hl [0, 1, 2, 3] rfl)
  refine lv_iconst (v := nI (0)) hx hb dX4_product_28 (by decide) ?_
  refine lv_istore_n (lv' := [(3, .int (nI (0))), (0, .ref (ad a)), (1, .ref (ad o)), (2, .ref (ad t))]) hx hb dX4_product_29 rfl hl (by decide) rfl (fun ls hl => ?_)
  refine lp_X4_product2 ⟨hx, hb, hml, hown, hts⟩ hK hT ht1 ha1 ho1 ha ho r1 r2 r3 m1 m2 m3 hv hw hK8 (fun f H locs ls h5 hP hD hS hl => ?_) n1 0 (fun _ => 0) f _ _ ls (by omega) h0 (fun _ => by decide) (fun _ _ => rfl) (by rw [tv_0, Nat.pow_zero, Nat.mod_one, Nat.zero_mul]) hP hD hS (lv_sub hl [0, 1, 2, 3] rfl)
  have t_1 := tn_le b1
  have t_2 := tn_le b2
  refine lv_aload_n hx hb dX4_product_128 rfl (lv_at hl 2 rfl) ?_
  refine lv_aload_n hx hb dX4_product_129 rfl (lv_at hl 0 rfl) ?_
  refine rg_3_n hx hb hts in3 hown hK hP a (by omega) ((rw_ne (by omega) (by omega)).trans ha.1) (hts _ (by decide +kernel)) dX4_product_130 ?_
  refine lv_aload_n hx hb dX4_product_133 rfl (lv_at hl 1 rfl) ?_
  refine rg_3_n hx hb hts in3 hown hK hP o (by omega) ((rw_ne (by omega) (by omega)).trans ho.1) (hts _ (by decide +kernel)) dX4_product_134 ?_
  refine lv_iadd hx hb dX4_product_137 ?_
  refine tp_i (y := nI (n1 + n2)) (nI_add _ _) ?_
  refine rp_3_n hx hb hts in3 hown hK hP hD hS t (by omega) rw_o (hts _ (by decide +kernel)) rfl rfl dX4_product_138 (fun H locs hP hD hS => ?_)
  rw [rw_so] at hP hD
  refine lv_aload_n hx hb dX4_product_141 rfl (lv_at hl 2 rfl) ?_
  refine lv_aload_n hx hb dX4_product_142 rfl (lv_at hl 0 rfl) ?_
  refine rg_3_minus hx hb hts in3 hown hK hP a (by omega) ((rw_ne (by omega) (by omega)).trans ha.1) (hts _ (by decide +kernel)) dX4_product_143 ?_
  refine lv_aload_n hx hb dX4_product_146 rfl (lv_at hl 1 rfl) ?_
  refine rg_3_minus hx hb hts in3 hown hK hP o (by omega) ((rw_ne (by omega) (by omega)).trans ho.1) (hts _ (by decide +kernel)) dX4_product_147 ?_
  refine bi_eq (tgt := 157) hx hb dX4_product_150 (by decide) (by omega) (by omega) (fun q => ?_) (fun q => ?_)
  · have hbb : (b1 != b2) = false := by rw [tn_eq.mp q]; cases b2 <;> rfl
    refine lv_iconst (v := nI (0)) hx hb dX4_product_157 (by decide) ?_
    refine rp_3_minus hx hb hts in3 hown hK hP hD hS t (by omega) rw_o (hts _ (by decide +kernel)) rfl rfl dX4_product_158 (fun H locs hP hD hS => ?_)
    rw [rw_sb false (v := nI (0)) rfl] at hP hD
    refine lv_aload_n hx hb dX4_product_161 rfl (lv_at hl 2 rfl) ?_
    refine lv_aload_n hx hb dX4_product_162 rfl (lv_at hl 0 rfl) ?_
    refine rg_3_scale hx hb hts in3 hown hK hP a (by omega) ((rw_ne (by omega) (by omega)).trans ha.1) (hts _ (by decide +kernel)) dX4_product_163 ?_
    refine lv_aload_n hx hb dX4_product_166 rfl (lv_at hl 1 rfl) ?_
    refine rg_3_scale hx hb hts in3 hown hK hP o (by omega) ((rw_ne (by omega) (by omega)).trans ho.1) (hts _ (by decide +kernel)) dX4_product_167 ?_
    refine lv_iadd hx hb dX4_product_170 ?_
    refine tp_i (y := iZ (z1 + z2)) (iZ_add _ _) ?_
    refine rp_3_scale hx hb hts in3 hown hK hP hD hS t (by omega) rw_o (hts _ (by decide +kernel)) rfl rfl dX4_product_171 (fun H locs hP hD hS => ?_)
    rw [rw_so] at hP hD
    refine lv_aload_n hx hb dX4_product_174 rfl (lv_at hl 2 rfl) ?_
    refine va_callv (va_runV (As := []) (rest := []) ⟨hx, hb, hml, hown, hts⟩ (c_X3_trim l D cA tT A N ad _ _ (a := t) (f := f) (n := n1 + n2) (b := false) (z := z1 + z2) (v := x * y) ht1 rw_is (by omega) hK8 h5) (cwV 0 hts gX4_product_X3_trim rfl rfl rfl (by decide +kernel) ⟨Nat.le_of_ble_eq_true rfl, Nat.le_of_ble_eq_true rfl⟩) (wd_preV (k := t) hP hK hD hT hS (by omega) rw_o rfl) rfl rfl hl.1 rfl (lv_room (Nat.le_of_ble_eq_true rfl)) dX4_product_175 ⟨Nat.zero_le _, Nat.zero_le _⟩) hS id_2 id_1 (fun u t H locs ht hvm hw hB hz1 hk1 hS => ?_)
    refine c00 ?_
    obtain ⟨hP, hD⟩ := wd_back ht hB
    clear ht hvm hB hz1 hk1
    obtain ⟨hv9, hu_⟩ := hw
    rw [hu_, rw_rw] at hP hD
    exact W.vret hx hb hr (fun t ht hW => ⟨⟨_, rfl, ⟨f, hv9, (nd_p_le (by omega)).mpr h5.1, by rw [hbb]⟩, wd_end hP hK hD ht hW⟩, hS.F ht⟩) hS.2.2 dX4_product_178
  · have hbb : (b1 != b2) = true := bn_t (fun h => q (tn_eq.mpr h))
    refine lv_iconst (v := nI (1)) hx hb dX4_product_153 (by decide) ?_
    refine lv_goto (tgt := 158) hx hb dX4_product_154 (by decide) ?_
    refine rp_3_minus hx hb hts in3 hown hK hP hD hS t (by omega) rw_o (hts _ (by decide +kernel)) rfl rfl dX4_product_158 (fun H locs hP hD hS => ?_)
    rw [rw_sb true (v := nI (1)) rfl] at hP hD
    refine lv_aload_n hx hb dX4_product_161 rfl (lv_at hl 2 rfl) ?_
    refine lv_aload_n hx hb dX4_product_162 rfl (lv_at hl 0 rfl) ?_
    refine rg_3_scale hx hb hts in3 hown hK hP a (by omega) ((rw_ne (by omega) (by omega)).trans ha.1) (hts _ (by decide +kernel)) dX4_product_163 ?_
    refine lv_aload_n hx hb dX4_product_166 rfl (lv_at hl 1 rfl) ?_
    refine rg_3_scale hx hb hts in3 hown hK hP o (by omega) ((rw_ne (by omega) (by omega)).trans ho.1) (hts _ (by decide +kernel)) dX4_product_167 ?_
    refine lv_iadd hx hb dX4_product_170 ?_
    refine tp_i (y := iZ (z1 + z2)) (iZ_add _ _) ?_
    refine rp_3_scale hx hb hts in3 hown hK hP hD hS t (by omega) rw_o (hts _ (by decide +kernel)) rfl rfl dX4_product_171 (fun H locs hP hD hS => ?_)
    rw [rw_so] at hP hD
    refine lv_aload_n hx hb dX4_product_174 rfl (lv_at hl 2 rfl) ?_
    refine va_callv (va_runV (As := []) (rest := []) ⟨hx, hb, hml, hown, hts⟩ (c_X3_trim l D cA tT A N ad _ _ (a := t) (f := f) (n := n1 + n2) (b := true) (z := z1 + z2) (v := x * y) ht1 rw_is (by omega) hK8 h5) (cwV 0 hts gX4_product_X3_trim rfl rfl rfl (by decide +kernel) ⟨Nat.le_of_ble_eq_true rfl, Nat.le_of_ble_eq_true rfl⟩) (wd_preV (k := t) hP hK hD hT hS (by omega) rw_o rfl) rfl rfl hl.1 rfl (lv_room (Nat.le_of_ble_eq_true rfl)) dX4_product_175 ⟨Nat.zero_le _, Nat.zero_le _⟩) hS id_2 id_1 (fun u t H locs ht hvm hw hB hz1 hk1 hS => ?_)
    refine c00 ?_
    obtain ⟨hP, hD⟩ := wd_back ht hB
    clear ht hvm hB hz1 hk1
    obtain ⟨hv9, hu_⟩ := hw
    rw [hu_, rw_rw] at hP hD
    exact W.vret hx hb hr (fun t ht hW => ⟨⟨_, rfl, ⟨f, hv9, (nd_p_le (by omega)).mpr h5.1, by rw [hbb]⟩, wd_end hP hK hD ht hW⟩, hS.F ht⟩) hS.2.2 dX4_product_178
