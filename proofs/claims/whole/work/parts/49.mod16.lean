theorem cu_gt {X b : Nat} (h : 5 < X / 10 ^ b % 10) : odI (X % 10 ^ (b + 1) + X % 10 ^ (b + 1)) (10 ^ (b + 1)) = 1 := by
  have h1 : 10 ^ b * 6 ≤ 10 ^ b * (X / 10 ^ b % 10) := Nat.mul_le_mul_left _ h
  have h0 : 0 < 10 ^ b := Nat.pow_pos (by decide)
  rw [tp_ms, Nat.pow_succ]
  exact (odI_gt (by omega)).symm
theorem cu_lt {X b : Nat} (h : X / 10 ^ b % 10 < 5) : odI (X % 10 ^ (b + 1) + X % 10 ^ (b + 1)) (10 ^ (b + 1)) = -1 := by
  have h1 : 10 ^ b * (X / 10 ^ b % 10) ≤ 10 ^ b * 4 := Nat.mul_le_mul_left _ (by omega)
  have h0 : X % 10 ^ b < 10 ^ b := Nat.mod_lt _ (Nat.pow_pos (by decide))
  rw [tp_ms, Nat.pow_succ]
  exact (odI_lt (by omega)).symm
theorem cu_5g {X b : Nat} (h : X / 10 ^ b % 10 = 5) (h2 : ¬ X % 10 ^ b = 0) : odI (X % 10 ^ (b + 1) + X % 10 ^ (b + 1)) (10 ^ (b + 1)) = 1 := by
  rw [tp_ms, h, Nat.pow_succ]
  exact (odI_gt (by omega)).symm
theorem cu_5e {X b : Nat} (h : X / 10 ^ b % 10 = 5) (h2 : X % 10 ^ b = 0) : odI (X % 10 ^ (b + 1) + X % 10 ^ (b + 1)) (10 ^ (b + 1)) = 0 := by
  rw [tp_ms, h, h2, Nat.pow_succ]
  exact (odI_eq (by omega)).symm
theorem nd_p_div {X B : Nat} (h : B < nd_p X) : nd_p (X / 10 ^ B) = nd_p X - B := by
  have h0 : 0 < 10 ^ B := Nat.pow_pos (by decide)
  have h1 : nd_p (X / 10 ^ B) ≤ nd_p X - B := (nd_p_le (by omega)).mpr (by
    rw [Nat.div_lt_iff_lt_mul h0, ← Nat.pow_add, show nd_p X - B + B = nd_p X by omega]; exact nd_p_lt X)
  rcases Nat.eq_zero_or_pos (nd_p X - B - 1) with r | r
  · have := nd_p_pos (X / 10 ^ B); omega
  · have h2 : nd_p X - B - 1 < nd_p (X / 10 ^ B) := (nd_p_ge r).mpr (by
      rw [Nat.le_div_iff_mul_le h0, ← Nat.pow_add]
      exact (nd_p_ge (by omega)).mp (by omega))
    omega
theorem rdn_1 (b : Bool) (X Y : Nat) (way : Int) : (rdn b X Y way).1 < 2 := by
  rw [rdn]; split
  · exact (show (1 : Nat) < 2 by decide)
  · split
    · exact (show (0 : Nat) < 2 by decide)
    · exact (show (1 : Nat) < 2 by decide)
theorem rdn_0 (b : Bool) (X Y : Nat) (way : Int) : ¬ (rdn b X Y way).1 = 0 → rdn b X Y way = (1, (rdn b X Y way).2) := by
  rw [rdn]; split
  · intro _; rfl
  · split
    · intro h; exact absurd rfl h
    · intro _; rfl
set_option maxHeartbeats 4000000 in
set_option maxRecDepth 100000 in
theorem lp_X4_cut_s {p : Program} {l : Launch} {e : Env} {R : Room} {s : State} {m : MethodId} {args : Array Value} {below : List Frame} {meth : Method} {c : Code} {Q : State → Prop} {D : va_G} {cA : Nat → ClassId} {tT : Nat} {A : Nat → Prop} {ad : Nat → Nat} {wb wc we : RWt} {rg : Nat → RWt} {tx : Nat → Int32} {tl : Nat} {fa : Nat → Int32} {na B X : Nat} {ba : Bool} {za way : Int} (S : CallFix p m c cX4_cut 8 s args wsX4_cut RX4) (hK : va_K D vwCl (ty_s cA) s) (hT : st_T tT A s s.heap) (hna : na ≤ 800) (hB : B < na) (kk : ∀ (f' : Nat → Int32) (H : Heap) (locs : List Loc) (ls : Array Slot), (∀ j, j < na - B → f' j = fa (j + B)) → va_P D vwCl (wm_W 23 ad (mg cA ad (f', na, ba, za) wb wc we rg tx tl)) H → va_D A (wm_W 23 ad (mg cA ad (f', na, ba, za) wb wc we rg tx tl)) → va_S A s.heap H locs → lv_has ls 8 [(6, .int (nI (na - B))), (0, .ref (ad 0)), (1, .int (nI (B))), (2, .int (iZ (way))), (3, .int (nI (if X % 10 ^ B = 0 then 1 else 0))), (5, .int (iZ (odI (X % 10 ^ B + X % 10 ^ B) (10 ^ B))))] → W p l e R s m args below meth c H locs 0 0 Q (F0 m 136 ls [])) :
    ∀ (k i : Nat) (f' : Nat → Int32) (H : Heap) (locs : List Loc) (ls : Array Slot), i + k = na - B → (∀ j, j < i → f' j = fa (j + B)) → (∀ j, i ≤ j → f' j = fa j) → va_P D vwCl (wm_W 23 ad (mg cA ad (f', na, ba, za) wb wc we rg tx tl)) H → va_D A (wm_W 23 ad (mg cA ad (f', na, ba, za) wb wc we rg tx tl)) → va_S A s.heap H locs → lv_has ls 8 [(7, .int (nI (i))), (6, .int (nI (na - B))), (0, .ref (ad 0)), (1, .int (nI (B))), (2, .int (iZ (way))), (3, .int (nI (if X % 10 ^ B = 0 then 1 else 0))), (5, .int (iZ (odI (X % 10 ^ B + X % 10 ^ B) (10 ^ B))))] → W p l e R s m args below meth c H locs 0 0 Q (F0 m 101 ls []) := by
  obtain ⟨hx, hb, hml, hown, hts⟩ := S
  have in3 : ∀ w ∈ wsX30, w ∈ wsX4_cut := by decide +kernel
  have in4 : ∀ w ∈ wsX40, w ∈ wsX4_cut := by decide +kernel
  intro k
  induction k with
  | zero =>
    intro i f' H locs ls hn h1 h2 hP hD hS hl
    refine lv_iload hx hb dX4_cut_101 (lv_at hl 0 rfl) ?_
    refine lv_iload hx hb dX4_cut_103 (lv_at hl 1 rfl) ?_
    refine bi_ge (tgt := 136) hx hb dX4_cut_105 (by decide) (by omega) (by omega) (fun q => ?_) (fun q => ?_)
    · obtain rfl : i = na - B := by omega
      exact kk f' H locs ls h1 hP hD hS (lv_sub hl [1, 2, 3, 4, 5, 6] rfl)
    · exact absurd hn (by omega)
  | succ k ih =>
    intro i f' H locs ls hn h1 h2 hP hD hS hl
    refine lv_iload hx hb dX4_cut_101 (lv_at hl 0 rfl) ?_
    refine lv_iload hx hb dX4_cut_103 (lv_at hl 1 rfl) ?_
    refine bi_ge (tgt := 136) hx hb dX4_cut_105 (by decide) (by omega) (by omega) (fun q => ?_) (fun q => ?_)
    · exact absurd hn (by omega)
    · refine lv_aload_n hx hb dX4_cut_108 rfl (lv_at hl 2 rfl) ?_
      refine rg_4_a hx hb hts in4 hown hK hP 0 (by decide) mg_0 (hts _ (by decide +kernel)) dX4_cut_109 ?_
      refine rg_3_d hx hb hts in3 hown hK hP 3 (by omega) mg_A.1 (hts _ (by decide +kernel)) dX4_cut_112 ?_
      refine lv_iload hx hb dX4_cut_115 (lv_at hl 0 rfl) ?_
      refine lv_aload_n hx hb dX4_cut_117 rfl (lv_at hl 2 rfl) ?_
      refine rg_4_a hx hb hts in4 hown hK hP 0 (by decide) mg_0 (hts _ (by decide +kernel)) dX4_cut_118 ?_
      refine rg_3_d hx hb hts in3 hown hK hP 3 (by omega) mg_A.1 (hts _ (by decide +kernel)) dX4_cut_121 ?_
      refine lv_iload hx hb dX4_cut_124 (lv_at hl 0 rfl) ?_
      refine lv_iload_n hx hb dX4_cut_126 rfl (lv_at hl 3 rfl) ?_
      refine lv_iadd hx hb dX4_cut_127 ?_
      refine tp_i (y := nI (i + B)) (nI_add _ _) ?_
      refine rn_i hx hb hK hP (3 + 1) (by omega) mg_A.2 (by omega) (by decide) dX4_cut_128 ?_
      refine tp_i (y := fa (i + B)) (h2 (i + B) (by omega)) ?_
      refine rt_i hx hb hK hP hD hS (3 + 1) (by omega) mg_A.2 (by omega) (by decide) dX4_cut_129 (fun H locs hP hD hS => ?_)
      rw [mg_sa] at hP hD
      refine lv_iinc (v := nI (i + 1)) (lv' := [(7, .int (nI (i + 1))), (6, .int (nI (na - B))), (0, .ref (ad 0)), (1, .int (nI (B))), (2, .int (iZ (way))), (3, .int (nI (if X % 10 ^ B = 0 then 1 else 0))), (5, .int (iZ (odI (X % 10 ^ B + X % 10 ^ B) (10 ^ B))))]) hx hb dX4_cut_130 hl (k := 0) rfl (nI_inc i 1) (by decide) rfl (fun ls hl => ?_)
      refine lv_goto (tgt := 101) hx hb dX4_cut_133 (by decide) ?_
      refine ih (i + 1) _ H locs ls (by omega) (fun j hj => ?_) (fun j hj => ?_) hP hD hS (lv_sub hl [0, 1, 2, 3, 4, 5, 6] rfl)
      · rcases Nat.lt_or_ge j i with r | r
        · rw [pk_un (by omega)]; exact h1 j r
        · obtain rfl : j = i := by omega
          exact pk_us
      · rw [pk_un (by omega)]; exact h2 j (by omega)
set_option maxHeartbeats 4000000 in
set_option maxRecDepth 100000 in
theorem lp_X4_cut171 {p : Program} {l : Launch} {e : Env} {R : Room} {s : State} {m : MethodId} {args : Array Value} {below : List Frame} {meth : Method} {c : Code} {Q : State → Prop} {D : va_G} {cA : Nat → ClassId} {tT : Nat} {A : Nat → Prop} {ad : Nat → Nat} {wb wc we : RWt} {rg : Nat → RWt} {tx : Nat → Int32} {tl : Nat} {B X : Nat} {ba : Bool} {za way : Int} (S : CallFix p m c cX4_cut 8 s args wsX4_cut RX4) (hK : va_K D vwCl (ty_s cA) s) (hT : st_T tT A s s.heap) (hRf : 1 ≤ R.frames) (hRl : 23 ≤ R.locals) (w1 : 0 ≤ way) (w2 : way ≤ 7) (k1 : ∀ (fa : Nat → Int32) (na v9 : Nat) (pc : Nat) (H : Heap) (locs : List Loc) (ls : Array Slot), (pc = 175 ∨ pc = 228) → rdn ba X (10 ^ B) way = (1, v9) → rv fa na v9 → na ≤ 700 → va_P D vwCl (wm_W 23 ad (mg cA ad (fa, na, ba, za) wb wc we rg tx tl)) H → va_D A (wm_W 23 ad (mg cA ad (fa, na, ba, za) wb wc we rg tx tl)) → va_S A s.heap H locs → W p l e R s m args below meth c H locs 0 0 Q (F0 m pc ls [])) (k0 : ∀ (fa : Nat → Int32) (na : Nat) (H : Heap) (locs : List Loc) (ls : Array Slot), (rdn ba X (10 ^ B) way).1 = 0 → va_P D vwCl (wm_W 23 ad (mg cA ad (fa, na, ba, za) wb wc we rg tx tl)) H → va_D A (wm_W 23 ad (mg cA ad (fa, na, ba, za) wb wc we rg tx tl)) → va_S A s.heap H locs → W p l e R s m args below meth c H locs 0 0 Q (F0 m 183 ls [])) (fa : Nat → Int32) (na : Nat) (hva : rv fa na (X / 10 ^ B)) (hna : na ≤ 600) (H : Heap) (locs : List Loc) (ls : Array Slot) (hP : va_P D vwCl (wm_W 23 ad (mg cA ad (fa, na, ba, za) wb wc we rg tx tl)) H) (hD : va_D A (wm_W 23 ad (mg cA ad (fa, na, ba, za) wb wc we rg tx tl))) (hS : va_S A s.heap H locs) (hl : lv_has ls 8 [(0, .ref (ad 0)), (1, .int (nI (B))), (2, .int (iZ (way))), (3, .int (nI (if X % 10 ^ B = 0 then 1 else 0))), (5, .int (iZ (odI (X % 10 ^ B + X % 10 ^ B) (10 ^ B))))]) : W p l e R s m args below meth c H locs 0 0 Q (F0 m 171 ls []) := by
  obtain ⟨hx, hb, hml, hown, hts⟩ := S
  have in3 : ∀ w ∈ wsX30, w ∈ wsX4_cut := by decide +kernel
  have in4 : ∀ w ∈ wsX40, w ∈ wsX4_cut := by decide +kernel
  have t_a := tn_le ba
  have ho := odI_b (X % 10 ^ B + X % 10 ^ B) (10 ^ B)
  have pa : 1 ≤ na := by rw [hva.1]; exact nd_p_pos _
  refine lv_iload_n hx hb dX4_cut_171 rfl (lv_at hl 3 rfl) ?_
  refine bz_eq (tgt := 177) hx hb dX4_cut_172 (by decide) it_lt (fun q1 => ?_) (fun q1 => ?_)
  · have hR := it_eq q1
    refine lv_iload_n hx hb dX4_cut_177 rfl (lv_at hl 2 rfl) ?_
    refine lv_bipush (v := nI (7)) hx hb dX4_cut_178 (by decide) ?_
    refine tp_i (y := iZ ((7 : Nat) : Int)) (iZ_nat _) ?_
    refine bs_ne (tgt := 185) hx hb dX4_cut_180 (by decide) (by omega) (by omega) (by omega) (by omega) (fun q2 => ?_) (fun q2 => ?_)
    · have hrr : rdn ba X (10 ^ B) way = (1, if awB way ba (odI (X % 10 ^ B + X % 10 ^ B) (10 ^ B)) (X / 10 ^ B) = true then X / 10 ^ B + 1 else X / 10 ^ B) := by rw [rdn, if_neg hR, if_neg (by omega : ¬ way = 7)]
      have hd0 := dg_lt (X / 10 ^ B) 0
      have e0 : X / 10 ^ B / 10 ^ 0 = X / 10 ^ B := by rw [Nat.pow_zero, Nat.div_one]
      refine lv_iload_n hx hb dX4_cut_185 rfl (lv_at hl 2 rfl) ?_
      refine lv_aload_n hx hb dX4_cut_186 rfl (lv_at hl 0 rfl) ?_
      refine rg_4_a hx hb hts in4 hown hK hP 0 (by decide) mg_0 (hts _ (by decide +kernel)) dX4_cut_187 ?_
      refine rg_3_minus hx hb hts in3 hown hK hP 3 (by omega) mg_A.1 (hts _ (by decide +kernel)) dX4_cut_190 ?_
      refine tp_i (y := nI (ba.toNat)) rfl ?_
      refine lv_iload hx hb dX4_cut_193 (lv_at hl 4 rfl) ?_
      refine lv_aload_n hx hb dX4_cut_195 rfl (lv_at hl 0 rfl) ?_
      refine rg_4_a hx hb hts in4 hown hK hP 0 (by decide) mg_0 (hts _ (by decide +kernel)) dX4_cut_196 ?_
      refine rg_3_d hx hb hts in3 hown hK hP 3 (by omega) mg_A.1 (hts _ (by decide +kernel)) dX4_cut_199 ?_
      refine lv_iconst (v := nI (0)) hx hb dX4_cut_202 (by decide) ?_
      refine rn_i hx hb hK hP (3 + 1) (by omega) mg_A.2 (by omega) (by decide) dX4_cut_203 ?_
      refine tp_i (y := nI (X / 10 ^ B / 10 ^ 0 % 10)) (hva.2 0 (by omega)) ?_
      refine lv_iconst (v := nI (2)) hx hb dX4_cut_204 (by decide) ?_
      refine lv_irem hx hb dX4_cut_205 (nI_ne0 (by omega) (by omega)) ?_
      refine tp_i (y := nI ((X / 10 ^ B / 10 ^ 0 % 10) % 2)) (pk_rem (by omega) (by omega) (by omega)) ?_
      refine lv_iconst (v := nI (1)) hx hb dX4_cut_206 (by decide) ?_
      refine bi_ne (tgt := 214) hx hb dX4_cut_207 (by decide) (by omega) (by omega) (fun q3 => ?_) (fun q3 => ?_)
      · refine lv_iconst (v := nI (0)) hx hb dX4_cut_214 (by decide) ?_
        refine tp_i (y := nI (if X / 10 ^ B % 2 = 1 then 1 else 0)) (by rw [if_neg (by omega)]) ?_
        refine va_calli (va_runS (As := [.int (iZ (way)), .int (nI (ba.toNat)), .int (iZ (odI (X % 10 ^ B + X % 10 ^ B) (10 ^ B))), .int (nI (if X / 10 ^ B % 2 = 1 then 1 else 0))]) (rest := []) ⟨hx, hb, hml, hown, hts⟩ (c_X4_turns l D cA tT A 23 ad _ _ (way := way) (hf := odI (X % 10 ^ B + X % 10 ^ B) (10 ^ B)) (b := ba) (q := X / 10 ^ B) (by omega) (by omega) ho.1 ho.2) (va_cwS 4 hts gX4_cut_X4_turns rfl rfl rfl (by decide +kernel) ⟨Nat.le_trans (Nat.le_of_ble_eq_true rfl) hRf, Nat.le_trans (Nat.le_of_ble_eq_true rfl) hRl⟩) (wd_preS hP hK hD hT hS) rfl rfl hl.1 rfl (lv_room (Nat.le_of_ble_eq_true rfl)) dX4_cut_215 ⟨Nat.zero_le _, Nat.zero_le _⟩) hS id_2 id_1 (fun r_ u t H locs ht hvm hw hB hz1 hk1 hS => ?_)
        refine c00 ?_
        obtain ⟨hP, hD⟩ := wd_back ht hB
        clear ht hvm hB hz1 hk1
        obtain ⟨hr_, hu_⟩ := hw
        subst hr_
        rw [hu_] at hP hD
        clear hu_
        refine bz_eq (tgt := 228) hx hb dX4_cut_218 (by decide) it_lt (fun q4 => ?_) (fun q4 => ?_)
        · have q5 := it_eq q4
          exact k1 _ _ _ 228 H locs ls (Or.inr rfl) (by rw [hrr, if_neg q5]) hva (by omega) hP hD hS
        · have q5 := it_ne q4
          refine lv_aload_n hx hb dX4_cut_221 rfl (lv_at hl 0 rfl) ?_
          refine rg_4_a hx hb hts in4 hown hK hP 0 (by decide) mg_0 (hts _ (by decide +kernel)) dX4_cut_222 ?_
          refine va_callv (va_runV (As := []) (rest := []) ⟨hx, hb, hml, hown, hts⟩ (c_X3_more l D cA tT A 23 ad _ _ (a := 3) (f := fa) (n := na) (b := ba) (z := za) (v := X / 10 ^ B) (by decide) mg_A hva (by omega)) (cwV 0 hts gX4_cut_X3_more rfl rfl rfl (by decide +kernel) ⟨Nat.le_trans (Nat.le_of_ble_eq_true rfl) hRf, Nat.le_trans (Nat.le_of_ble_eq_true rfl) hRl⟩) (wd_preV (k := 3) hP hK hD hT hS (by decide) mg_A.1 rfl) rfl rfl hl.1 rfl (lv_room (Nat.le_of_ble_eq_true rfl)) dX4_cut_225 ⟨Nat.zero_le _, Nat.zero_le _⟩) hS id_2 id_1 (fun u t H locs ht hvm hw hB hz1 hk1 hS => ?_)
          refine c00 ?_
          obtain ⟨hP, hD⟩ := wd_back ht hB
          clear ht hvm hB hz1 hk1
          obtain ⟨f8, n8, hv8, hl8, hu_⟩ := hw
          rw [hu_] at hP hD
          clear hu_
          rw [show rw_ cA ad (mg cA ad (fa, na, ba, za) wb wc we rg tx tl) 3 f8 n8 ba za = mg cA ad (f8, n8, ba, za) wb wc we rg tx tl from mg_ua (w' := (f8, n8, ba, za))] at hP hD
          exact k1 _ _ _ 228 H locs ls (Or.inr rfl) (by rw [hrr, if_pos q5]) hv8 (by omega) hP hD hS
      · refine lv_iconst (v := nI (1)) hx hb dX4_cut_210 (by decide) ?_
        refine lv_goto (tgt := 215) hx hb dX4_cut_211 (by decide) ?_
        refine tp_i (y := nI (if X / 10 ^ B % 2 = 1 then 1 else 0)) (by rw [if_pos (by omega)]) ?_
        refine va_calli (va_runS (As := [.int (iZ (way)), .int (nI (ba.toNat)), .int (iZ (odI (X % 10 ^ B + X % 10 ^ B) (10 ^ B))), .int (nI (if X / 10 ^ B % 2 = 1 then 1 else 0))]) (rest := []) ⟨hx, hb, hml, hown, hts⟩ (c_X4_turns l D cA tT A 23 ad _ _ (way := way) (hf := odI (X % 10 ^ B + X % 10 ^ B) (10 ^ B)) (b := ba) (q := X / 10 ^ B) (by omega) (by omega) ho.1 ho.2) (va_cwS 4 hts gX4_cut_X4_turns rfl rfl rfl (by decide +kernel) ⟨Nat.le_trans (Nat.le_of_ble_eq_true rfl) hRf, Nat.le_trans (Nat.le_of_ble_eq_true rfl) hRl⟩) (wd_preS hP hK hD hT hS) rfl rfl hl.1 rfl (lv_room (Nat.le_of_ble_eq_true rfl)) dX4_cut_215 ⟨Nat.zero_le _, Nat.zero_le _⟩) hS id_2 id_1 (fun r_ u t H locs ht hvm hw hB hz1 hk1 hS => ?_)
        refine c00 ?_
        obtain ⟨hP, hD⟩ := wd_back ht hB
        clear ht hvm hB hz1 hk1
        obtain ⟨hr_, hu_⟩ := hw
        subst hr_
        rw [hu_] at hP hD
        clear hu_
        refine bz_eq (tgt := 228) hx hb dX4_cut_218 (by decide) it_lt (fun q4 => ?_) (fun q4 => ?_)
        · have q5 := it_eq q4
          exact k1 _ _ _ 228 H locs ls (Or.inr rfl) (by rw [hrr, if_neg q5]) hva (by omega) hP hD hS
        · have q5 := it_ne q4
          refine lv_aload_n hx hb dX4_cut_221 rfl (lv_at hl 0 rfl) ?_
          refine rg_4_a hx hb hts in4 hown hK hP 0 (by decide) mg_0 (hts _ (by decide +kernel)) dX4_cut_222 ?_
          refine va_callv (va_runV (As := []) (rest := []) ⟨hx, hb, hml, hown, hts⟩ (c_X3_more l D cA tT A 23 ad _ _ (a := 3) (f := fa) (n := na) (b := ba) (z := za) (v := X / 10 ^ B) (by decide) mg_A hva (by omega)) (cwV 0 hts gX4_cut_X3_more rfl rfl rfl (by decide +kernel) ⟨Nat.le_trans (Nat.le_of_ble_eq_true rfl) hRf, Nat.le_trans (Nat.le_of_ble_eq_true rfl) hRl⟩) (wd_preV (k := 3) hP hK hD hT hS (by decide) mg_A.1 rfl) rfl rfl hl.1 rfl (lv_room (Nat.le_of_ble_eq_true rfl)) dX4_cut_225 ⟨Nat.zero_le _, Nat.zero_le _⟩) hS id_2 id_1 (fun u t H locs ht hvm hw hB hz1 hk1 hS => ?_)
          refine c00 ?_
          obtain ⟨hP, hD⟩ := wd_back ht hB
          clear ht hvm hB hz1 hk1
          obtain ⟨f8, n8, hv8, hl8, hu_⟩ := hw
          rw [hu_] at hP hD
          clear hu_
          rw [show rw_ cA ad (mg cA ad (fa, na, ba, za) wb wc we rg tx tl) 3 f8 n8 ba za = mg cA ad (f8, n8, ba, za) wb wc we rg tx tl from mg_ua (w' := (f8, n8, ba, za))] at hP hD
          exact k1 _ _ _ 228 H locs ls (Or.inr rfl) (by rw [hrr, if_pos q5]) hv8 (by omega) hP hD hS
    · exact k0 _ _ H locs ls (by rw [rdn, if_neg hR, if_pos (by omega)]) hP hD hS
  · exact k1 _ _ _ 175 H locs ls (Or.inl rfl) (by rw [rdn, if_pos (it_ne q1)]) hva (by omega) hP hD hS
set_option maxHeartbeats 4000000 in
set_option maxRecDepth 100000 in
theorem lp_X4_cut87 {p : Program} {l : Launch} {e : Env} {R : Room} {s : State} {m : MethodId} {args : Array Value} {below : List Frame} {meth : Method} {c : Code} {Q : State → Prop} {D : va_G} {cA : Nat → ClassId} {tT : Nat} {A : Nat → Prop} {ad : Nat → Nat} {wb wc we : RWt} {rg : Nat → RWt} {tx : Nat → Int32} {tl : Nat} {fa : Nat → Int32} {na B X : Nat} {ba : Bool} {za way : Int} (S : CallFix p m c cX4_cut 8 s args wsX4_cut RX4) (hK : va_K D vwCl (ty_s cA) s) (hT : st_T tT A s s.heap) (hRf : 1 ≤ R.frames) (hRl : 23 ≤ R.locals) (w1 : 0 ≤ way) (w2 : way ≤ 7) (k1 : ∀ (fa : Nat → Int32) (na v9 : Nat) (pc : Nat) (H : Heap) (locs : List Loc) (ls : Array Slot), (pc = 175 ∨ pc = 228) → rdn ba X (10 ^ B) way = (1, v9) → rv fa na v9 → na ≤ 700 → va_P D vwCl (wm_W 23 ad (mg cA ad (fa, na, ba, za) wb wc we rg tx tl)) H → va_D A (wm_W 23 ad (mg cA ad (fa, na, ba, za) wb wc we rg tx tl)) → va_S A s.heap H locs → W p l e R s m args below meth c H locs 0 0 Q (F0 m pc ls [])) (k0 : ∀ (fa : Nat → Int32) (na : Nat) (H : Heap) (locs : List Loc) (ls : Array Slot), (rdn ba X (10 ^ B) way).1 = 0 → va_P D vwCl (wm_W 23 ad (mg cA ad (fa, na, ba, za) wb wc we rg tx tl)) H → va_D A (wm_W 23 ad (mg cA ad (fa, na, ba, za) wb wc we rg tx tl)) → va_S A s.heap H locs → W p l e R s m args below meth c H locs 0 0 Q (F0 m 183 ls [])) (hva : rv fa na X) (hna : na ≤ 600) (hB0 : 0 < B) (hB : B < 1000) (H : Heap) (locs : List Loc) (ls : Array Slot) (hP : va_P D vwCl (wm_W 23 ad (mg cA ad (fa, na, ba, za) wb wc we rg tx tl)) H) (hD : va_D A (wm_W 23 ad (mg cA ad (fa, na, ba, za) wb wc we rg tx tl))) (hS : va_S A s.heap H locs) (hl : lv_has ls 8 [(0, .ref (ad 0)), (1, .int (nI (B))), (2, .int (iZ (way))), (3, .int (nI (if X % 10 ^ B = 0 then 1 else 0))), (5, .int (iZ (odI (X % 10 ^ B + X % 10 ^ B) (10 ^ B))))]) : W p l e R s m args below meth c H locs 0 0 Q (F0 m 87 ls []) := by
  have S9 := S
  obtain ⟨hx, hb, hml, hown, hts⟩ := S
  have in3 : ∀ w ∈ wsX30, w ∈ wsX4_cut := by decide +kernel
  have in4 : ∀ w ∈ wsX40, w ∈ wsX4_cut := by decide +kernel
  by_cases hc : B < na
  · refine lv_aload_n hx hb dX4_cut_87 rfl (lv_at hl 0 rfl) ?_
    refine rg_4_a hx hb hts in4 hown hK hP 0 (by decide) mg_0 (hts _ (by decide +kernel)) dX4_cut_88 ?_
    refine rg_3_n hx hb hts in3 hown hK hP 3 (by omega) mg_A.1 (hts _ (by decide +kernel)) dX4_cut_91 ?_
    refine tp_i (y := nI (na)) rfl ?_
    refine lv_iload_n hx hb dX4_cut_94 rfl (lv_at hl 1 rfl) ?_
    refine lv_isub hx hb dX4_cut_95 ?_
    refine tp_i (y := nI (na - B)) (pk_sub (by omega)) ?_
    refine lv_istore (lv' := [(6, .int (nI (na - B))), (0, .ref (ad 0)), (1, .int (nI (B))), (2, .int (iZ (way))), (3, .int (nI (if X % 10 ^ B = 0 then 1 else 0))), (5, .int (iZ (odI (X % 10 ^ B + X % 10 ^ B) (10 ^ B))))]) hx hb dX4_cut_96 hl (by decide) rfl (fun ls hl => ?_)
    refine lv_iconst (v := nI (0)) hx hb dX4_cut_98 (by decide) ?_
    refine lv_istore (lv' := [(7, .int (nI (0))), (6, .int (nI (na - B))), (0, .ref (ad 0)), (1, .int (nI (B))), (2, .int (iZ (way))), (3, .int (nI (if X % 10 ^ B = 0 then 1 else 0))), (5, .int (iZ (odI (X % 10 ^ B + X % 10 ^ B) (10 ^ B))))]) hx hb dX4_cut_99 hl (by decide) rfl (fun ls hl => ?_)
    refine lp_X4_cut_s (X := X) (way := way) S9 hK hT (by omega) hc (fun f1 H locs ls h1 hP hD hS hl => ?_) (na - B) 0 fa _ _ ls (by omega) (fun j hj => absurd hj (Nat.not_lt_zero _)) (fun _ _ => rfl) hP hD hS (lv_sub hl [0, 1, 2, 3, 4, 5, 6] rfl)
    have hv1 : rv f1 (na - B) (X / 10 ^ B) := by
      refine ⟨by rw [hva.1, nd_p_div (by rw [← hva.1]; exact hc)], fun j hj => ?_⟩
      rw [h1 j hj, hva.2 (j + B) (by omega), Nat.div_div_eq_div_mul, ← Nat.pow_add, Nat.add_comm B j]
    refine lv_iload hx hb dX4_cut_136 (lv_at hl 0 rfl) ?_
    refine lv_iconst (v := nI (1)) hx hb dX4_cut_138 (by decide) ?_
    refine bi_ge (tgt := 152) hx hb dX4_cut_139 (by decide) (by omega) (by omega) (fun q1 => ?_) (fun q1 => ?_)
    · refine lv_aload_n hx hb dX4_cut_152 rfl (lv_at hl 1 rfl) ?_
      refine rg_4_a hx hb hts in4 hown hK hP 0 (by decide) mg_0 (hts _ (by decide +kernel)) dX4_cut_153 ?_
      refine lv_iload hx hb dX4_cut_156 (lv_at hl 0 rfl) ?_
      refine lv_iconst (v := nI (1)) hx hb dX4_cut_158 (by decide) ?_
      refine bi_ge (tgt := 166) hx hb dX4_cut_159 (by decide) (by omega) (by omega) (fun q2 => ?_) (fun q2 => ?_)
      · refine lv_iload hx hb dX4_cut_166 (lv_at hl 0 rfl) ?_
        refine rp_3_n hx hb hts in3 hown hK hP hD hS 3 (by omega) mg_A.1 (hts _ (by decide +kernel)) rfl rfl dX4_cut_168 (fun H locs hP hD hS => ?_)
        rw [mg_pa (na - B) ba za (v := nI (ba.toNat)) rfl] at hP hD
        exact lp_X4_cut171 S9 hK hT hRf hRl w1 w2 k1 k0 f1 (na - B) hv1 (by omega) _ _ ls hP hD hS (lv_sub hl [1, 2, 3, 4, 5] rfl)
      · exact absurd q2 (by omega)
    · exact absurd q1 (by omega)
  · have hX0 : X / 10 ^ B = 0 := Nat.div_eq_of_lt (Nat.lt_of_lt_of_le (rv_dv hva).1 (Nat.pow_le_pow_right (by decide) (by omega)))
    refine lv_aload_n hx hb dX4_cut_87 rfl (lv_at hl 0 rfl) ?_
    refine rg_4_a hx hb hts in4 hown hK hP 0 (by decide) mg_0 (hts _ (by decide +kernel)) dX4_cut_88 ?_
    refine rg_3_n hx hb hts in3 hown hK hP 3 (by omega) mg_A.1 (hts _ (by decide +kernel)) dX4_cut_91 ?_
    refine tp_i (y := nI (na)) rfl ?_
    refine lv_iload_n hx hb dX4_cut_94 rfl (lv_at hl 1 rfl) ?_
    refine lv_isub hx hb dX4_cut_95 ?_
    refine tp_i (y := iZ (((na : Nat) : Int) - ((B : Nat) : Int))) (nI_subZ _ _) ?_
    refine lv_istore (lv' := [(6, .int (iZ (((na : Nat) : Int) - ((B : Nat) : Int)))), (0, .ref (ad 0)), (1, .int (nI (B))), (2, .int (iZ (way))), (3, .int (nI (if X % 10 ^ B = 0 then 1 else 0))), (5, .int (iZ (odI (X % 10 ^ B + X % 10 ^ B) (10 ^ B))))]) hx hb dX4_cut_96 hl (by decide) rfl (fun ls hl => ?_)
    refine lv_iconst (v := nI (0)) hx hb dX4_cut_98 (by decide) ?_
    refine lv_istore (lv' := [(7, .int (nI (0))), (6, .int (iZ (((na : Nat) : Int) - ((B : Nat) : Int)))), (0, .ref (ad 0)), (1, .int (nI (B))), (2, .int (iZ (way))), (3, .int (nI (if X % 10 ^ B = 0 then 1 else 0))), (5, .int (iZ (odI (X % 10 ^ B + X % 10 ^ B) (10 ^ B))))]) hx hb dX4_cut_99 hl (by decide) rfl (fun ls hl => ?_)
    refine lv_iload hx hb dX4_cut_101 (lv_at hl 0 rfl) ?_
    refine lv_iload hx hb dX4_cut_103 (lv_at hl 1 rfl) ?_
    refine tp_i2 (y := iZ ((0 : Nat) : Int)) (iZ_nat _) ?_
    refine bs_ge (tgt := 136) hx hb dX4_cut_105 (by decide) (by omega) (by omega) (by omega) (by omega) (fun q1 => ?_) (fun q1 => ?_)
    · refine lv_iload hx hb dX4_cut_136 (lv_at hl 1 rfl) ?_
      refine lv_iconst (v := nI (1)) hx hb dX4_cut_138 (by decide) ?_
      refine tp_i (y := iZ ((1 : Nat) : Int)) (iZ_nat _) ?_
      refine bs_ge (tgt := 152) hx hb dX4_cut_139 (by decide) (by omega) (by omega) (by omega) (by omega) (fun q2 => ?_) (fun q2 => ?_)
      · exact absurd q2 (by omega)
      · refine lv_aload_n hx hb dX4_cut_142 rfl (lv_at hl 2 rfl) ?_
        refine rg_4_a hx hb hts in4 hown hK hP 0 (by decide) mg_0 (hts _ (by decide +kernel)) dX4_cut_143 ?_
        refine rg_3_d hx hb hts in3 hown hK hP 3 (by omega) mg_A.1 (hts _ (by decide +kernel)) dX4_cut_146 ?_
        refine lv_iconst (v := nI (0)) hx hb dX4_cut_149 (by decide) ?_
        refine lv_iconst (v := nI (0)) hx hb dX4_cut_150 (by decide) ?_
        refine rt_i hx hb hK hP hD hS (3 + 1) (by omega) mg_A.2 (by omega) (by decide) dX4_cut_151 (fun H locs hP hD hS => ?_)
        rw [mg_sa] at hP hD
        refine lv_aload_n hx hb dX4_cut_152 rfl (lv_at hl 2 rfl) ?_
        refine rg_4_a hx hb hts in4 hown hK hP 0 (by decide) mg_0 (hts _ (by decide +kernel)) dX4_cut_153 ?_
        refine lv_iload hx hb dX4_cut_156 (lv_at hl 1 rfl) ?_
        refine lv_iconst (v := nI (1)) hx hb dX4_cut_158 (by decide) ?_
        refine tp_i (y := iZ ((1 : Nat) : Int)) (iZ_nat _) ?_
        refine bs_ge (tgt := 166) hx hb dX4_cut_159 (by decide) (by omega) (by omega) (by omega) (by omega) (fun q3 => ?_) (fun q3 => ?_)
        · exact absurd q3 (by omega)
        · refine lv_iconst (v := nI (1)) hx hb dX4_cut_162 (by decide) ?_
          refine lv_goto (tgt := 168) hx hb dX4_cut_163 (by decide) ?_
          refine rp_3_n hx hb hts in3 hown hK hP hD hS 3 (by omega) mg_A.1 (hts _ (by decide +kernel)) rfl rfl dX4_cut_168 (fun H locs hP hD hS => ?_)
          rw [mg_pa 1 ba za (v := nI (ba.toNat)) rfl] at hP hD
          have hv1 : rv (upd fa 0 (nI 0)) 1 (X / 10 ^ B) := by
            rw [hX0]
            refine ⟨(nd_p1 (by decide)).symm, fun j hj => ?_⟩
            obtain rfl : j = 0 := by omega
            rw [pk_us, Nat.zero_div]
          exact lp_X4_cut171 S9 hK hT hRf hRl w1 w2 k1 k0 _ 1 hv1 (by omega) _ _ ls hP hD hS (lv_sub hl [2, 3, 4, 5, 6] rfl)
    · exact absurd q1 (by omega)
set_option maxHeartbeats 4000000 in
set_option maxRecDepth 100000 in
/-- cut -/
theorem c_X4_cut (l : Launch) (D : va_G) (cA : Nat → ClassId) (tT : Nat) (A : Nat → Prop) (ad : Nat → Nat) (sz : Nat) {fa : Nat → Int32} {na X B9 : Nat} {ba : Bool} {za way : Int} {wb wc we : RWt} {rg : Nat → RWt} {tx : Nat → Int32} {tl : Nat} (w1 : 0 ≤ way) (w2 : way ≤ 7) (hva : rv fa na X) (hna : na ≤ 600) (hB : B9 < 1000) : Met l yX4_cut wsX4_cut ({ frames := 1, cells := 0, slots := 0, locals := 23 }) (va_Pc [.ref (ad 0), .int (nI (B9)), .int (iZ (way))] (wd_B D cA tT A 23 ad sz (mg cA ad (fa, na, ba, za) wb wc we rg tx tl))) (va_Qi (fun (r : Int32) (u : Nat → va_E) => r = nI (rdn ba X (10 ^ B9) way).1 ∧ ∃ (fa1 : Nat → Int32) (na1 : Nat), (¬ (rdn ba X (10 ^ B9) way).1 = 0 → rv fa1 na1 (rdn ba X (10 ^ B9) way).2 ∧ na1 ≤ 700) ∧ u = mg cA ad (fa1, na1, ba, za) wb wc we rg tx tl) (wd_E D cA A 23 ad) A) 0 0 A := by
  refine Met.ofW (cc := cX4_cut) (maxL := 8) (ret := (some .boolean)) (by decide) rfl ?_
  intro p e s m args below meth c s₁ B hml hv
  obtain ⟨rfl, hsz, hP, hK, hD, hT⟩ := hv
  have hx := B.exec
  have hb := B.bytes
  have hr := B.returns
  have hts := atoms_spec (ws := wsX4_cut) B.pre
  have hown : s.vm.findClass RX4 = some m.cls := findClass_of_methodNamed B.named
  have hlocks := B.notSynchronized
  subst hsz
  have hS : va_S A s.heap s.heap [] := va_S.rf
  have in3 : ∀ w ∈ wsX30, w ∈ wsX4_cut := by decide +kernel
  have in4 : ∀ w ∈ wsX40, w ∈ wsX4_cut := by decide +kernel
  have hl := lv_entry ([.ref (ad 0), .int (nI (B9)), .int (iZ (way))]) (n := 8) (Nat.le_of_ble_eq_true rfl)
  rw [lg_entry_eq]
  generalize (lg_sl ([.ref (ad 0), .int (nI (B9)), .int (iZ (way))]) ++ List.replicate (8 - (lg_sl ([.ref (ad 0), .int (nI (B9)), .int (iZ (way))])).length) Slot.unset).toArray = ls at hl ⊢
  have hl : lv_has ls 8 [(0, .ref (ad 0)), (1, .int (nI (B9))), (2, .int (iZ (way)))] := hl
  have S9 : CallFix p m c cX4_cut 8 s _ wsX4_cut RX4 := ⟨hx, hb, hml, hown, hts⟩
  have pa : 1 ≤ na := by rw [hva.1]; exact nd_p_pos _
  refine lv_iload_n hx hb dX4_cut_0 rfl (lv_at hl 1 rfl) ?_
  refine bz_gt (tgt := 6) hx hb dX4_cut_1 (by decide) (by omega) (fun q1 => ?_) (fun q1 => ?_)
  · obtain ⟨b, rfl⟩ : ∃ b, B9 = b + 1 := ⟨B9 - 1, by omega⟩
    have hd := dg_lt X b
    refine lv_aload_n hx hb dX4_cut_6 rfl (lv_at hl 0 rfl) ?_
    refine rg_4_a hx hb hts in4 hown hK hP 0 (by decide) mg_0 (hts _ (by decide +kernel)) dX4_cut_7 ?_
    refine lv_iload_n hx hb dX4_cut_10 rfl (lv_at hl 1 rfl) ?_
    refine va_calli (va_runV (As := [.int (nI (b + 1))]) (rest := []) ⟨hx, hb, hml, hown, hts⟩ (c_X3_ends l D cA tT A 23 ad _ _ (a := 3) (f := fa) (n := na) (b := ba) (z := za) (v := X) (F := b + 1) (by decide) mg_A hva (by omega) (by omega)) (cwV 1 hts gX4_cut_X3_ends rfl rfl rfl (by decide +kernel) ⟨Nat.le_of_ble_eq_true rfl, Nat.le_of_ble_eq_true rfl⟩) (wd_preV (k := 3) hP hK hD hT hS (by decide) mg_A.1 rfl) rfl rfl hl.1 rfl (lv_room (Nat.le_of_ble_eq_true rfl)) dX4_cut_11 ⟨Nat.zero_le _, Nat.zero_le _⟩) hS id_2 id_1 (fun r_ u t H locs ht hvm hw hB hz1 hk1 hS => ?_)
    refine c00 ?_
    obtain ⟨hP, hD⟩ := wd_back ht hB
    clear ht hvm hB hz1 hk1
    obtain ⟨hr_, hu_⟩ := hw
    subst hr_
    rw [hu_] at hP hD
    clear hu_
    refine lv_istore_n (lv' := [(3, .int (nI (if X % 10 ^ (b + 1) = 0 then 1 else 0))), (0, .ref (ad 0)), (1, .int (nI (b + 1))), (2, .int (iZ (way)))]) hx hb dX4_cut_14 rfl hl (by decide) rfl (fun ls hl => ?_)
    refine lv_iload_n hx hb dX4_cut_15 rfl (lv_at hl 2 rfl) ?_
    refine lv_iconst (v := nI (1)) hx hb dX4_cut_16 (by decide) ?_
    refine lv_isub hx hb dX4_cut_17 ?_
    refine tp_i (y := nI (b)) (nI_sub1 b) ?_
    refine lv_aload_n hx hb dX4_cut_18 rfl (lv_at hl 1 rfl) ?_
    refine rg_4_a hx hb hts in4 hown hK hP 0 (by decide) mg_0 (hts _ (by decide +kernel)) dX4_cut_19 ?_
    refine rg_3_n hx hb hts in3 hown hK hP 3 (by omega) mg_A.1 (hts _ (by decide +kernel)) dX4_cut_22 ?_
    refine tp_i (y := nI (na)) rfl ?_
    refine bi_ge (tgt := 42) hx hb dX4_cut_25 (by decide) (by omega) (by omega) (fun q2 => ?_) (fun q2 => ?_)
    · refine lv_iconst (v := nI (0)) hx hb dX4_cut_42 (by decide) ?_
      refine tp_i (y := nI (X / 10 ^ b % 10)) (by rw [Nat.div_eq_of_lt (Nat.lt_of_lt_of_le (rv_dv hva).1 (Nat.pow_le_pow_right (by decide) q2))]) ?_
      refine lv_istore (lv' := [(4, .int (nI (X / 10 ^ b % 10))), (3, .int (nI (if X % 10 ^ (b + 1) = 0 then 1 else 0))), (0, .ref (ad 0)), (1, .int (nI (b + 1))), (2, .int (iZ (way)))]) hx hb dX4_cut_43 hl (by decide) rfl (fun ls hl => ?_)
      refine lv_iload hx hb dX4_cut_45 (lv_at hl 0 rfl) ?_
      refine lv_iconst (v := nI (5)) hx hb dX4_cut_47 (by decide) ?_
      refine bi_gt (tgt := 70) hx hb dX4_cut_48 (by decide) (by omega) (by omega) (fun q3 => ?_) (fun q3 => ?_)
      · refine lv_iconst (v := nI (1)) hx hb dX4_cut_70 (by decide) ?_
        refine lv_goto (tgt := 85) hx hb dX4_cut_71 (by decide) ?_
        refine tp_i (y := iZ (1)) rfl ?_
        refine tp_i (y := iZ (odI (X % 10 ^ (b + 1) + X % 10 ^ (b + 1)) (10 ^ (b + 1)))) (by rw [cu_gt q3]) ?_
        refine lv_istore (lv' := [(5, .int (iZ (odI (X % 10 ^ (b + 1) + X % 10 ^ (b + 1)) (10 ^ (b + 1))))), (4, .int (nI (X / 10 ^ b % 10))), (3, .int (nI (if X % 10 ^ (b + 1) = 0 then 1 else 0))), (0, .ref (ad 0)), (1, .int (nI (b + 1))), (2, .int (iZ (way)))]) hx hb dX4_cut_85 hl (by decide) rfl (fun ls hl => ?_)
        refine lp_X4_cut87 (X := X) (B := b + 1) (way := way) S9 hK hT (Nat.le_of_ble_eq_true rfl) (Nat.le_of_ble_eq_true rfl) w1 w2 (fun fa1 na1 v9 pc H locs ls hpc hr9 hv9 hn9 hP hD hS => ?_) (fun fa1 na1 H locs ls h0 hP hD hS => ?_) hva hna (by omega) (by omega) _ _ ls hP hD hS (lv_sub hl [3, 4, 5, 2, 0] rfl)
        · rcases hpc with rfl | rfl
          · refine lv_iconst (v := nI (1)) hx hb dX4_cut_175 (by decide) ?_
            exact W.zret (v := nI (1)) hx hb hr rfl (fun t ht hW => ⟨⟨nI (1), _, rfl, ⟨by rw [hr9], fa1, na1, fun _ => by rw [hr9]; exact ⟨hv9, hn9⟩, rfl⟩, wd_end hP hK hD ht hW⟩, hS.F ht⟩) hS.2.2 dX4_cut_176
          · refine lv_iconst (v := nI (1)) hx hb dX4_cut_228 (by decide) ?_
            exact W.zret (v := nI (1)) hx hb hr rfl (fun t ht hW => ⟨⟨nI (1), _, rfl, ⟨by rw [hr9], fa1, na1, fun _ => by rw [hr9]; exact ⟨hv9, hn9⟩, rfl⟩, wd_end hP hK hD ht hW⟩, hS.F ht⟩) hS.2.2 dX4_cut_229
        · refine lv_iconst (v := nI (0)) hx hb dX4_cut_183 (by decide) ?_
          exact W.zret (v := nI (0)) hx hb hr rfl (fun t ht hW => ⟨⟨nI (0), _, rfl, ⟨by rw [h0], fa1, na1, fun h => absurd h0 h, rfl⟩, wd_end hP hK hD ht hW⟩, hS.F ht⟩) hS.2.2 dX4_cut_184
      · refine lv_iload hx hb dX4_cut_51 (lv_at hl 0 rfl) ?_
        refine lv_iconst (v := nI (5)) hx hb dX4_cut_53 (by decide) ?_
        refine bi_ne (tgt := 74) hx hb dX4_cut_54 (by decide) (by omega) (by omega) (fun q4 => ?_) (fun q4 => ?_)
        · refine lv_iload hx hb dX4_cut_74 (lv_at hl 0 rfl) ?_
          refine lv_iconst (v := nI (5)) hx hb dX4_cut_76 (by decide) ?_
          refine bi_ne (tgt := 84) hx hb dX4_cut_77 (by decide) (by omega) (by omega) (fun q5 => ?_) (fun q5 => ?_)
          · refine lv_iconst (v := iZ (-1)) hx hb dX4_cut_84 (by decide) ?_
            refine tp_i (y := iZ (odI (X % 10 ^ (b + 1) + X % 10 ^ (b + 1)) (10 ^ (b + 1)))) (by rw [cu_lt (by omega)]) ?_
            refine lv_istore (lv' := [(5, .int (iZ (odI (X % 10 ^ (b + 1) + X % 10 ^ (b + 1)) (10 ^ (b + 1))))), (4, .int (nI (X / 10 ^ b % 10))), (3, .int (nI (if X % 10 ^ (b + 1) = 0 then 1 else 0))), (0, .ref (ad 0)), (1, .int (nI (b + 1))), (2, .int (iZ (way)))]) hx hb dX4_cut_85 hl (by decide) rfl (fun ls hl => ?_)
            refine lp_X4_cut87 (X := X) (B := b + 1) (way := way) S9 hK hT (Nat.le_of_ble_eq_true rfl) (Nat.le_of_ble_eq_true rfl) w1 w2 (fun fa1 na1 v9 pc H locs ls hpc hr9 hv9 hn9 hP hD hS => ?_) (fun fa1 na1 H locs ls h0 hP hD hS => ?_) hva hna (by omega) (by omega) _ _ ls hP hD hS (lv_sub hl [3, 4, 5, 2, 0] rfl)
            · rcases hpc with rfl | rfl
              · refine lv_iconst (v := nI (1)) hx hb dX4_cut_175 (by decide) ?_
                exact W.zret (v := nI (1)) hx hb hr rfl (fun t ht hW => ⟨⟨nI (1), _, rfl, ⟨by rw [hr9], fa1, na1, fun _ => by rw [hr9]; exact ⟨hv9, hn9⟩, rfl⟩, wd_end hP hK hD ht hW⟩, hS.F ht⟩) hS.2.2 dX4_cut_176
              · refine lv_iconst (v := nI (1)) hx hb dX4_cut_228 (by decide) ?_
                exact W.zret (v := nI (1)) hx hb hr rfl (fun t ht hW => ⟨⟨nI (1), _, rfl, ⟨by rw [hr9], fa1, na1, fun _ => by rw [hr9]; exact ⟨hv9, hn9⟩, rfl⟩, wd_end hP hK hD ht hW⟩, hS.F ht⟩) hS.2.2 dX4_cut_229
            · refine lv_iconst (v := nI (0)) hx hb dX4_cut_183 (by decide) ?_
              exact W.zret (v := nI (0)) hx hb hr rfl (fun t ht hW => ⟨⟨nI (0), _, rfl, ⟨by rw [h0], fa1, na1, fun h => absurd h0 h, rfl⟩, wd_end hP hK hD ht hW⟩, hS.F ht⟩) hS.2.2 dX4_cut_184
          · exact absurd q5 q4
        · refine lv_aload_n hx hb dX4_cut_57 rfl (lv_at hl 2 rfl) ?_
          refine rg_4_a hx hb hts in4 hown hK hP 0 (by decide) mg_0 (hts _ (by decide +kernel)) dX4_cut_58 ?_
          refine lv_iload_n hx hb dX4_cut_61 rfl (lv_at hl 3 rfl) ?_
          refine lv_iconst (v := nI (1)) hx hb dX4_cut_62 (by decide) ?_
          refine lv_isub hx hb dX4_cut_63 ?_
          refine tp_i (y := nI (b)) (nI_sub1 b) ?_
          refine va_calli (va_runV (As := [.int (nI (b))]) (rest := []) ⟨hx, hb, hml, hown, hts⟩ (c_X3_ends l D cA tT A 23 ad _ _ (a := 3) (f := fa) (n := na) (b := ba) (z := za) (v := X) (F := b) (by decide) mg_A hva (by omega) (by omega)) (cwV 1 hts gX4_cut_X3_ends rfl rfl rfl (by decide +kernel) ⟨Nat.le_of_ble_eq_true rfl, Nat.le_of_ble_eq_true rfl⟩) (wd_preV (k := 3) hP hK hD hT hS (by decide) mg_A.1 rfl) rfl rfl hl.1 rfl (lv_room (Nat.le_of_ble_eq_true rfl)) dX4_cut_64 ⟨Nat.zero_le _, Nat.zero_le _⟩) hS id_2 id_1 (fun r_ u t H locs ht hvm hw hB hz1 hk1 hS => ?_)
          refine c00 ?_
          obtain ⟨hP, hD⟩ := wd_back ht hB
          clear ht hvm hB hz1 hk1
          obtain ⟨hr_, hu_⟩ := hw
          subst hr_
          rw [hu_] at hP hD
          clear hu_
          refine bz_ne (tgt := 74) hx hb dX4_cut_67 (by decide) it_lt (fun q6 => ?_) (fun q6 => ?_)
          · refine lv_iload hx hb dX4_cut_74 (lv_at hl 0 rfl) ?_
            refine lv_iconst (v := nI (5)) hx hb dX4_cut_76 (by decide) ?_
            refine bi_ne (tgt := 84) hx hb dX4_cut_77 (by decide) (by omega) (by omega) (fun q7 => ?_) (fun q7 => ?_)
            · exact absurd q4 q7
            · refine lv_iconst (v := nI (0)) hx hb dX4_cut_80 (by decide) ?_
              refine lv_goto (tgt := 85) hx hb dX4_cut_81 (by decide) ?_
              refine tp_i (y := iZ (0)) rfl ?_
              refine tp_i (y := iZ (odI (X % 10 ^ (b + 1) + X % 10 ^ (b + 1)) (10 ^ (b + 1)))) (by rw [cu_5e q4 (it_ne q6)]) ?_
              refine lv_istore (lv' := [(5, .int (iZ (odI (X % 10 ^ (b + 1) + X % 10 ^ (b + 1)) (10 ^ (b + 1))))), (4, .int (nI (X / 10 ^ b % 10))), (3, .int (nI (if X % 10 ^ (b + 1) = 0 then 1 else 0))), (0, .ref (ad 0)), (1, .int (nI (b + 1))), (2, .int (iZ (way)))]) hx hb dX4_cut_85 hl (by decide) rfl (fun ls hl => ?_)
              refine lp_X4_cut87 (X := X) (B := b + 1) (way := way) S9 hK hT (Nat.le_of_ble_eq_true rfl) (Nat.le_of_ble_eq_true rfl) w1 w2 (fun fa1 na1 v9 pc H locs ls hpc hr9 hv9 hn9 hP hD hS => ?_) (fun fa1 na1 H locs ls h0 hP hD hS => ?_) hva hna (by omega) (by omega) _ _ ls hP hD hS (lv_sub hl [3, 4, 5, 2, 0] rfl)
              · rcases hpc with rfl | rfl
                · refine lv_iconst (v := nI (1)) hx hb dX4_cut_175 (by decide) ?_
                  exact W.zret (v := nI (1)) hx hb hr rfl (fun t ht hW => ⟨⟨nI (1), _, rfl, ⟨by rw [hr9], fa1, na1, fun _ => by rw [hr9]; exact ⟨hv9, hn9⟩, rfl⟩, wd_end hP hK hD ht hW⟩, hS.F ht⟩) hS.2.2 dX4_cut_176
                · refine lv_iconst (v := nI (1)) hx hb dX4_cut_228 (by decide) ?_
                  exact W.zret (v := nI (1)) hx hb hr rfl (fun t ht hW => ⟨⟨nI (1), _, rfl, ⟨by rw [hr9], fa1, na1, fun _ => by rw [hr9]; exact ⟨hv9, hn9⟩, rfl⟩, wd_end hP hK hD ht hW⟩, hS.F ht⟩) hS.2.2 dX4_cut_229
              · refine lv_iconst (v := nI (0)) hx hb dX4_cut_183 (by decide) ?_
                exact W.zret (v := nI (0)) hx hb hr rfl (fun t ht hW => ⟨⟨nI (0), _, rfl, ⟨by rw [h0], fa1, na1, fun h => absurd h0 h, rfl⟩, wd_end hP hK hD ht hW⟩, hS.F ht⟩) hS.2.2 dX4_cut_184
          · refine lv_iconst (v := nI (1)) hx hb dX4_cut_70 (by decide) ?_
            refine lv_goto (tgt := 85) hx hb dX4_cut_71 (by decide) ?_
            refine tp_i (y := iZ (1)) rfl ?_
            refine tp_i (y := iZ (odI (X % 10 ^ (b + 1) + X % 10 ^ (b + 1)) (10 ^ (b + 1)))) (by rw [cu_5g q4 (it_eq q6)]) ?_
            refine lv_istore (lv' := [(5, .int (iZ (odI (X % 10 ^ (b + 1) + X % 10 ^ (b + 1)) (10 ^ (b + 1))))), (4, .int (nI (X / 10 ^ b % 10))), (3, .int (nI (if X % 10 ^ (b + 1) = 0 then 1 else 0))), (0, .ref (ad 0)), (1, .int (nI (b + 1))), (2, .int (iZ (way)))]) hx hb dX4_cut_85 hl (by decide) rfl (fun ls hl => ?_)
            refine lp_X4_cut87 (X := X) (B := b + 1) (way := way) S9 hK hT (Nat.le_of_ble_eq_true rfl) (Nat.le_of_ble_eq_true rfl) w1 w2 (fun fa1 na1 v9 pc H locs ls hpc hr9 hv9 hn9 hP hD hS => ?_) (fun fa1 na1 H locs ls h0 hP hD hS => ?_) hva hna (by omega) (by omega) _ _ ls hP hD hS (lv_sub hl [3, 4, 5, 2, 0] rfl)
            · rcases hpc with rfl | rfl
              · refine lv_iconst (v := nI (1)) hx hb dX4_cut_175 (by decide) ?_
                exact W.zret (v := nI (1)) hx hb hr rfl (fun t ht hW => ⟨⟨nI (1), _, rfl, ⟨by rw [hr9], fa1, na1, fun _ => by rw [hr9]; exact ⟨hv9, hn9⟩, rfl⟩, wd_end hP hK hD ht hW⟩, hS.F ht⟩) hS.2.2 dX4_cut_176
              · refine lv_iconst (v := nI (1)) hx hb dX4_cut_228 (by decide) ?_
                exact W.zret (v := nI (1)) hx hb hr rfl (fun t ht hW => ⟨⟨nI (1), _, rfl, ⟨by rw [hr9], fa1, na1, fun _ => by rw [hr9]; exact ⟨hv9, hn9⟩, rfl⟩, wd_end hP hK hD ht hW⟩, hS.F ht⟩) hS.2.2 dX4_cut_229
            · refine lv_iconst (v := nI (0)) hx hb dX4_cut_183 (by decide) ?_
              exact W.zret (v := nI (0)) hx hb hr rfl (fun t ht hW => ⟨⟨nI (0), _, rfl, ⟨by rw [h0], fa1, na1, fun h => absurd h0 h, rfl⟩, wd_end hP hK hD ht hW⟩, hS.F ht⟩) hS.2.2 dX4_cut_184
    · refine lv_aload_n hx hb dX4_cut_28 rfl (lv_at hl 1 rfl) ?_
      refine rg_4_a hx hb hts in4 hown hK hP 0 (by decide) mg_0 (hts _ (by decide +kernel)) dX4_cut_29 ?_
      refine rg_3_d hx hb hts in3 hown hK hP 3 (by omega) mg_A.1 (hts _ (by decide +kernel)) dX4_cut_32 ?_
      refine lv_iload_n hx hb dX4_cut_35 rfl (lv_at hl 2 rfl) ?_
      refine lv_iconst (v := nI (1)) hx hb dX4_cut_36 (by decide) ?_
      refine lv_isub hx hb dX4_cut_37 ?_
      refine tp_i (y := nI (b)) (nI_sub1 b) ?_
      refine rn_i hx hb hK hP (3 + 1) (by omega) mg_A.2 (by omega) (by decide) dX4_cut_38 ?_
      refine tp_i (y := nI (X / 10 ^ b % 10)) (hva.2 b (by omega)) ?_
      refine lv_goto (tgt := 43) hx hb dX4_cut_39 (by decide) ?_
      refine lv_istore (lv' := [(4, .int (nI (X / 10 ^ b % 10))), (3, .int (nI (if X % 10 ^ (b + 1) = 0 then 1 else 0))), (0, .ref (ad 0)), (1, .int (nI (b + 1))), (2, .int (iZ (way)))]) hx hb dX4_cut_43 hl (by decide) rfl (fun ls hl => ?_)
      refine lv_iload hx hb dX4_cut_45 (lv_at hl 0 rfl) ?_
      refine lv_iconst (v := nI (5)) hx hb dX4_cut_47 (by decide) ?_
      refine bi_gt (tgt := 70) hx hb dX4_cut_48 (by decide) (by omega) (by omega) (fun q3 => ?_) (fun q3 => ?_)
      · refine lv_iconst (v := nI (1)) hx hb dX4_cut_70 (by decide) ?_
        refine lv_goto (tgt := 85) hx hb dX4_cut_71 (by decide) ?_
        refine tp_i (y := iZ (1)) rfl ?_
        refine tp_i (y := iZ (odI (X % 10 ^ (b + 1) + X % 10 ^ (b + 1)) (10 ^ (b + 1)))) (by rw [cu_gt q3]) ?_
        refine lv_istore (lv' := [(5, .int (iZ (odI (X % 10 ^ (b + 1) + X % 10 ^ (b + 1)) (10 ^ (b + 1))))), (4, .int (nI (X / 10 ^ b % 10))), (3, .int (nI (if X % 10 ^ (b + 1) = 0 then 1 else 0))), (0, .ref (ad 0)), (1, .int (nI (b + 1))), (2, .int (iZ (way)))]) hx hb dX4_cut_85 hl (by decide) rfl (fun ls hl => ?_)
        refine lp_X4_cut87 (X := X) (B := b + 1) (way := way) S9 hK hT (Nat.le_of_ble_eq_true rfl) (Nat.le_of_ble_eq_true rfl) w1 w2 (fun fa1 na1 v9 pc H locs ls hpc hr9 hv9 hn9 hP hD hS => ?_) (fun fa1 na1 H locs ls h0 hP hD hS => ?_) hva hna (by omega) (by omega) _ _ ls hP hD hS (lv_sub hl [3, 4, 5, 2, 0] rfl)
        · rcases hpc with rfl | rfl
          · refine lv_iconst (v := nI (1)) hx hb dX4_cut_175 (by decide) ?_
            exact W.zret (v := nI (1)) hx hb hr rfl (fun t ht hW => ⟨⟨nI (1), _, rfl, ⟨by rw [hr9], fa1, na1, fun _ => by rw [hr9]; exact ⟨hv9, hn9⟩, rfl⟩, wd_end hP hK hD ht hW⟩, hS.F ht⟩) hS.2.2 dX4_cut_176
          · refine lv_iconst (v := nI (1)) hx hb dX4_cut_228 (by decide) ?_
            exact W.zret (v := nI (1)) hx hb hr rfl (fun t ht hW => ⟨⟨nI (1), _, rfl, ⟨by rw [hr9], fa1, na1, fun _ => by rw [hr9]; exact ⟨hv9, hn9⟩, rfl⟩, wd_end hP hK hD ht hW⟩, hS.F ht⟩) hS.2.2 dX4_cut_229
        · refine lv_iconst (v := nI (0)) hx hb dX4_cut_183 (by decide) ?_
          exact W.zret (v := nI (0)) hx hb hr rfl (fun t ht hW => ⟨⟨nI (0), _, rfl, ⟨by rw [h0], fa1, na1, fun h => absurd h0 h, rfl⟩, wd_end hP hK hD ht hW⟩, hS.F ht⟩) hS.2.2 dX4_cut_184
      · refine lv_iload hx hb dX4_cut_51 (lv_at hl 0 rfl) ?_
        refine lv_iconst (v := nI (5)) hx hb dX4_cut_53 (by decide) ?_
        refine bi_ne (tgt := 74) hx hb dX4_cut_54 (by decide) (by omega) (by omega) (fun q4 => ?_) (fun q4 => ?_)
        · refine lv_iload hx hb dX4_cut_74 (lv_at hl 0 rfl) ?_
          refine lv_iconst (v := nI (5)) hx hb dX4_cut_76 (by decide) ?_
          refine bi_ne (tgt := 84) hx hb dX4_cut_77 (by decide) (by omega) (by omega) (fun q5 => ?_) (fun q5 => ?_)
          · refine lv_iconst (v := iZ (-1)) hx hb dX4_cut_84 (by decide) ?_
            refine tp_i (y := iZ (odI (X % 10 ^ (b + 1) + X % 10 ^ (b + 1)) (10 ^ (b + 1)))) (by rw [cu_lt (by omega)]) ?_
            refine lv_istore (lv' := [(5, .int (iZ (odI (X % 10 ^ (b + 1) + X % 10 ^ (b + 1)) (10 ^ (b + 1))))), (4, .int (nI (X / 10 ^ b % 10))), (3, .int (nI (if X % 10 ^ (b + 1) = 0 then 1 else 0))), (0, .ref (ad 0)), (1, .int (nI (b + 1))), (2, .int (iZ (way)))]) hx hb dX4_cut_85 hl (by decide) rfl (fun ls hl => ?_)
            refine lp_X4_cut87 (X := X) (B := b + 1) (way := way) S9 hK hT (Nat.le_of_ble_eq_true rfl) (Nat.le_of_ble_eq_true rfl) w1 w2 (fun fa1 na1 v9 pc H locs ls hpc hr9 hv9 hn9 hP hD hS => ?_) (fun fa1 na1 H locs ls h0 hP hD hS => ?_) hva hna (by omega) (by omega) _ _ ls hP hD hS (lv_sub hl [3, 4, 5, 2, 0] rfl)
            · rcases hpc with rfl | rfl
              · refine lv_iconst (v := nI (1)) hx hb dX4_cut_175 (by decide) ?_
                exact W.zret (v := nI (1)) hx hb hr rfl (fun t ht hW => ⟨⟨nI (1), _, rfl, ⟨by rw [hr9], fa1, na1, fun _ => by rw [hr9]; exact ⟨hv9, hn9⟩, rfl⟩, wd_end hP hK hD ht hW⟩, hS.F ht⟩) hS.2.2 dX4_cut_176
              · refine lv_iconst (v := nI (1)) hx hb dX4_cut_228 (by decide) ?_
                exact W.zret (v := nI (1)) hx hb hr rfl (fun t ht hW => ⟨⟨nI (1), _, rfl, ⟨by rw [hr9], fa1, na1, fun _ => by rw [hr9]; exact ⟨hv9, hn9⟩, rfl⟩, wd_end hP hK hD ht hW⟩, hS.F ht⟩) hS.2.2 dX4_cut_229
            · refine lv_iconst (v := nI (0)) hx hb dX4_cut_183 (by decide) ?_
              exact W.zret (v := nI (0)) hx hb hr rfl (fun t ht hW => ⟨⟨nI (0), _, rfl, ⟨by rw [h0], fa1, na1, fun h => absurd h0 h, rfl⟩, wd_end hP hK hD ht hW⟩, hS.F ht⟩) hS.2.2 dX4_cut_184
          · exact absurd q5 q4
        · refine lv_aload_n hx hb dX4_cut_57 rfl (lv_at hl 2 rfl) ?_
          refine rg_4_a hx hb hts in4 hown hK hP 0 (by decide) mg_0 (hts _ (by decide +kernel)) dX4_cut_58 ?_
          refine lv_iload_n hx hb dX4_cut_61 rfl (lv_at hl 3 rfl) ?_
          refine lv_iconst (v := nI (1)) hx hb dX4_cut_62 (by decide) ?_
          refine lv_isub hx hb dX4_cut_63 ?_
          refine tp_i (y := nI (b)) (nI_sub1 b) ?_
          refine va_calli (va_runV (As := [.int (nI (b))]) (rest := []) ⟨hx, hb, hml, hown, hts⟩ (c_X3_ends l D cA tT A 23 ad _ _ (a := 3) (f := fa) (n := na) (b := ba) (z := za) (v := X) (F := b) (by decide) mg_A hva (by omega) (by omega)) (cwV 1 hts gX4_cut_X3_ends rfl rfl rfl (by decide +kernel) ⟨Nat.le_of_ble_eq_true rfl, Nat.le_of_ble_eq_true rfl⟩) (wd_preV (k := 3) hP hK hD hT hS (by decide) mg_A.1 rfl) rfl rfl hl.1 rfl (lv_room (Nat.le_of_ble_eq_true rfl)) dX4_cut_64 ⟨Nat.zero_le _, Nat.zero_le _⟩) hS id_2 id_1 (fun r_ u t H locs ht hvm hw hB hz1 hk1 hS => ?_)
          refine c00 ?_
          obtain ⟨hP, hD⟩ := wd_back ht hB
          clear ht hvm hB hz1 hk1
          obtain ⟨hr_, hu_⟩ := hw
          subst hr_
          rw [hu_] at hP hD
          clear hu_
          refine bz_ne (tgt := 74) hx hb dX4_cut_67 (by decide) it_lt (fun q6 => ?_) (fun q6 => ?_)
          · refine lv_iload hx hb dX4_cut_74 (lv_at hl 0 rfl) ?_
            refine lv_iconst (v := nI (5)) hx hb dX4_cut_76 (by decide) ?_
            refine bi_ne (tgt := 84) hx hb dX4_cut_77 (by decide) (by omega) (by omega) (fun q7 => ?_) (fun q7 => ?_)
            · exact absurd q4 q7
            · refine lv_iconst (v := nI (0)) hx hb dX4_cut_80 (by decide) ?_
              refine lv_goto (tgt := 85) hx hb dX4_cut_81 (by decide) ?_
              refine tp_i (y := iZ (0)) rfl ?_
              refine tp_i (y := iZ (odI (X % 10 ^ (b + 1) + X % 10 ^ (b + 1)) (10 ^ (b + 1)))) (by rw [cu_5e q4 (it_ne q6)]) ?_
              refine lv_istore (lv' := [(5, .int (iZ (odI (X % 10 ^ (b + 1) + X % 10 ^ (b + 1)) (10 ^ (b + 1))))), (4, .int (nI (X / 10 ^ b % 10))), (3, .int (nI (if X % 10 ^ (b + 1) = 0 then 1 else 0))), (0, .ref (ad 0)), (1, .int (nI (b + 1))), (2, .int (iZ (way)))]) hx hb dX4_cut_85 hl (by decide) rfl (fun ls hl => ?_)
              refine lp_X4_cut87 (X := X) (B := b + 1) (way := way) S9 hK hT (Nat.le_of_ble_eq_true rfl) (Nat.le_of_ble_eq_true rfl) w1 w2 (fun fa1 na1 v9 pc H locs ls hpc hr9 hv9 hn9 hP hD hS => ?_) (fun fa1 na1 H locs ls h0 hP hD hS => ?_) hva hna (by omega) (by omega) _ _ ls hP hD hS (lv_sub hl [3, 4, 5, 2, 0] rfl)
              · rcases hpc with rfl | rfl
                · refine lv_iconst (v := nI (1)) hx hb dX4_cut_175 (by decide) ?_
                  exact W.zret (v := nI (1)) hx hb hr rfl (fun t ht hW => ⟨⟨nI (1), _, rfl, ⟨by rw [hr9], fa1, na1, fun _ => by rw [hr9]; exact ⟨hv9, hn9⟩, rfl⟩, wd_end hP hK hD ht hW⟩, hS.F ht⟩) hS.2.2 dX4_cut_176
                · refine lv_iconst (v := nI (1)) hx hb dX4_cut_228 (by decide) ?_
                  exact W.zret (v := nI (1)) hx hb hr rfl (fun t ht hW => ⟨⟨nI (1), _, rfl, ⟨by rw [hr9], fa1, na1, fun _ => by rw [hr9]; exact ⟨hv9, hn9⟩, rfl⟩, wd_end hP hK hD ht hW⟩, hS.F ht⟩) hS.2.2 dX4_cut_229
              · refine lv_iconst (v := nI (0)) hx hb dX4_cut_183 (by decide) ?_
                exact W.zret (v := nI (0)) hx hb hr rfl (fun t ht hW => ⟨⟨nI (0), _, rfl, ⟨by rw [h0], fa1, na1, fun h => absurd h0 h, rfl⟩, wd_end hP hK hD ht hW⟩, hS.F ht⟩) hS.2.2 dX4_cut_184
          · refine lv_iconst (v := nI (1)) hx hb dX4_cut_70 (by decide) ?_
            refine lv_goto (tgt := 85) hx hb dX4_cut_71 (by decide) ?_
            refine tp_i (y := iZ (1)) rfl ?_
            refine tp_i (y := iZ (odI (X % 10 ^ (b + 1) + X % 10 ^ (b + 1)) (10 ^ (b + 1)))) (by rw [cu_5g q4 (it_eq q6)]) ?_
            refine lv_istore (lv' := [(5, .int (iZ (odI (X % 10 ^ (b + 1) + X % 10 ^ (b + 1)) (10 ^ (b + 1))))), (4, .int (nI (X / 10 ^ b % 10))), (3, .int (nI (if X % 10 ^ (b + 1) = 0 then 1 else 0))), (0, .ref (ad 0)), (1, .int (nI (b + 1))), (2, .int (iZ (way)))]) hx hb dX4_cut_85 hl (by decide) rfl (fun ls hl => ?_)
            refine lp_X4_cut87 (X := X) (B := b + 1) (way := way) S9 hK hT (Nat.le_of_ble_eq_true rfl) (Nat.le_of_ble_eq_true rfl) w1 w2 (fun fa1 na1 v9 pc H locs ls hpc hr9 hv9 hn9 hP hD hS => ?_) (fun fa1 na1 H locs ls h0 hP hD hS => ?_) hva hna (by omega) (by omega) _ _ ls hP hD hS (lv_sub hl [3, 4, 5, 2, 0] rfl)
            · rcases hpc with rfl | rfl
              · refine lv_iconst (v := nI (1)) hx hb dX4_cut_175 (by decide) ?_
                exact W.zret (v := nI (1)) hx hb hr rfl (fun t ht hW => ⟨⟨nI (1), _, rfl, ⟨by rw [hr9], fa1, na1, fun _ => by rw [hr9]; exact ⟨hv9, hn9⟩, rfl⟩, wd_end hP hK hD ht hW⟩, hS.F ht⟩) hS.2.2 dX4_cut_176
              · refine lv_iconst (v := nI (1)) hx hb dX4_cut_228 (by decide) ?_
                exact W.zret (v := nI (1)) hx hb hr rfl (fun t ht hW => ⟨⟨nI (1), _, rfl, ⟨by rw [hr9], fa1, na1, fun _ => by rw [hr9]; exact ⟨hv9, hn9⟩, rfl⟩, wd_end hP hK hD ht hW⟩, hS.F ht⟩) hS.2.2 dX4_cut_229
            · refine lv_iconst (v := nI (0)) hx hb dX4_cut_183 (by decide) ?_
              exact W.zret (v := nI (0)) hx hb hr rfl (fun t ht hW => ⟨⟨nI (0), _, rfl, ⟨by rw [h0], fa1, na1, fun h => absurd h0 h, rfl⟩, wd_end hP hK hD ht hW⟩, hS.F ht⟩) hS.2.2 dX4_cut_184
  · obtain rfl : B9 = 0 := by omega
    have hrr : rdn ba X (10 ^ 0) way = (1, X) := by rw [rdn, Nat.pow_zero, Nat.mod_one, if_pos rfl, Nat.div_one]
    refine lv_iconst (v := nI (1)) hx hb dX4_cut_4 (by decide) ?_
    exact W.zret (v := nI (1)) hx hb hr rfl (fun t ht hW => ⟨⟨nI (1), _, rfl, ⟨by rw [hrr], fa, na, fun _ => by rw [hrr]; exact ⟨hva, by omega⟩, rfl⟩, wd_end hP hK hD ht hW⟩, hS.F ht⟩) hS.2.2 dX4_cut_5
