theorem c190 {n : Nat} (h : n < 10 ^ 190) : n < 1000000 ^ 32 := Nat.lt_trans h (by decide +kernel)
theorem s190 {n : Nat} (h : n < 10 ^ 190) : nd_s n ≤ 32 := nd_s_le 32 n (c190 h)
theorem c64 {n : Nat} (h : n < 10 ^ 190) : n < 1000000 ^ 64 := Nat.lt_trans h (by decide +kernel)
set_option maxHeartbeats 4000000 in
set_option maxRecDepth 100000 in
/-- cutOff -/
theorem c_X2_cutOff (l : Launch) (D : va_G) (cA : Nat → ClassId) (tT : Nat) (A : Nat → Prop) (ad : Nat → Nat) (sz : Nat) {sf : Nat → Bool × Nat × Int} {x y : Nat} {tx : Nat → Int32} {tl : Nat} {P : Nat} (h0 : (sf 0).2.1 < 10 ^ 190) (hx64 : x < 1000000 ^ 64) (hy64 : y < 1000000 ^ 64) (b3 : -300 < (sf 0).2.2) (b4 : (sf 0).2.2 < 300) (hP9 : P < 300) (h1s : sf 1 = (false, 1, 0)) : Met l yX2_cutOff wsX2_cutOff ({ frames := 4, cells := 0, slots := 0, locals := 103 }) (va_Pc [.ref (ad 0), .int (nI (P))] (wd_B D cA tT A 31 ad sz (cg cA ad sf x y tx tl))) (va_Qv (fun (u : Nat → va_E) => u = cg cA ad (va_up sf 0 ((sf 0).1, (sf 0).2.1 / 10 ^ P, (sf 0).2.2 - (P : Int))) ((sf 0).2.1 % 10 ^ P) (10 ^ P) tx tl) (wd_E D cA A 31 ad) A) 0 0 A := by
  refine Met.ofW (cc := cX2_cutOff) (maxL := 2) (ret := none) (by decide) rfl ?_
  intro p e s m args below meth c s₁ B hml hv
  obtain ⟨rfl, hsz, hP, hK, hD, hT⟩ := hv
  have hx := B.exec
  have hb := B.bytes
  have hr := B.returns
  have hts := atoms_spec (ws := wsX2_cutOff) B.pre
  have hown : s.vm.findClass RX2 = some m.cls := findClass_of_methodNamed B.named
  have hlocks := B.notSynchronized
  subst hsz
  have hS : va_S A s.heap s.heap [] := va_S.rf
  have in0 : ∀ w ∈ wsX00, w ∈ wsX2_cutOff := by decide +kernel
  have in2 : ∀ w ∈ wsX20, w ∈ wsX2_cutOff := by decide +kernel
  have hl := lv_entry ([.ref (ad 0), .int (nI (P))]) (n := 2) (Nat.le_of_ble_eq_true rfl)
  rw [lg_entry_eq]
  generalize (lg_sl ([.ref (ad 0), .int (nI (P))]) ++ List.replicate (2 - (lg_sl ([.ref (ad 0), .int (nI (P))])).length) Slot.unset).toArray = ls at hl ⊢
  have hl : lv_has ls 2 [(0, .ref (ad 0)), (1, .int (nI (P)))] := hl
  have hs := s190 h0
  have h11 : (sf 1).2.1 = 1 := by rw [h1s]
  have h12 : (sf 1).2.2 = 0 := by rw [h1s]
  have h13 : (sf 1).1 = false := by rw [h1s]
  have hs1 : nd_s (sf 1).2.1 = 1 := by rw [h11]; decide +kernel
  have e1 : ((sf 0).2.2 - ((P : Nat) : Int) + (sf 1).2.2 - (sf 0).2.2).toNat = 0 := by omega
  have e2 : (-((sf 0).2.2 - ((P : Nat) : Int) + (sf 1).2.2 - (sf 0).2.2)).toNat = P := by omega
  refine lv_aload_n hx hb dX2_cutOff_0 rfl (lv_at hl 0 rfl) ?_
  refine lv_aload_n hx hb dX2_cutOff_1 rfl (lv_at hl 0 rfl) ?_
  refine rg_2_result hx hb hts in2 hown hK hP 0 (by decide) cg_0 (hts _ (by decide +kernel)) dX2_cutOff_2 ?_
  refine lv_aload_n hx hb dX2_cutOff_5 rfl (lv_at hl 0 rfl) ?_
  refine rg_2_one hx hb hts in2 hown hK hP 0 (by decide) cg_0 (hts _ (by decide +kernel)) dX2_cutOff_6 ?_
  refine lv_aload_n hx hb dX2_cutOff_9 rfl (lv_at hl 0 rfl) ?_
  refine rg_2_result hx hb hts in2 hown hK hP 0 (by decide) cg_0 (hts _ (by decide +kernel)) dX2_cutOff_10 ?_
  refine rg_0_scale hx hb hts in0 hown hK hP (7 + 3 * 0) (by omega) (cg_d 0) (hts _ (by decide +kernel)) dX2_cutOff_13 ?_
  refine lv_iload_n hx hb dX2_cutOff_16 rfl (lv_at hl 1 rfl) ?_
  refine lv_isub hx hb dX2_cutOff_17 ?_
  refine tp_i (y := iZ (((sf 0).2.2) - ((P : Nat) : Int))) (iZ_subN _ _) ?_
  refine va_callv (va_runV (As := [.ref (ad (7 + 3 * 0)), .ref (ad (7 + 3 * 1)), .int (iZ (((sf 0).2.2) - ((P : Nat) : Int)))]) (rest := []) ⟨hx, hb, hml, hown, hts⟩ (c_X2_split l D cA tT A ad _ (sf := sf) (x := x) (y := y) (tx := tx) (tl := tl) (e1 := 0) (e2 := 1) (sc := (sf 0).2.2 - ((P : Nat) : Int)) (by decide) (by decide) hx64 hy64 (c64 h0) (by rw [h11]; decide) (by omega) (by omega) (by omega) (by omega) (by omega) (by omega) (by omega) (by omega) (by omega) (by omega) (c64 h0) (by rw [h11]; decide) (by omega)) (cwV 3 hts gX2_cutOff_X2_split rfl rfl rfl (by decide +kernel) ⟨Nat.le_of_ble_eq_true rfl, Nat.le_of_ble_eq_true rfl⟩) (wd_preV (k := 0) hP hK hD hT hS (by decide) cg_0 rfl) rfl rfl hl.1 rfl (lv_room (Nat.le_of_ble_eq_true rfl)) dX2_cutOff_18 ⟨Nat.zero_le _, Nat.zero_le _⟩) hS id_2 id_1 (fun u t H locs ht hvm hw hB hz1 hk1 hS => ?_)
  obtain ⟨hP, hD⟩ := wd_back ht hB
  clear ht hvm hB hz1 hk1
  rw [hw] at hP hD
  clear hw
  rw [e1, e2, h11, h13, Nat.pow_zero, Nat.mul_one, Nat.one_mul, Bool.bne_false] at hP hD
  exact W.vret hx hb hr (fun t ht hW => ⟨⟨_, rfl, rfl, wd_end hP hK hD ht hW⟩, hS.F ht⟩) hS.2.2 dX2_cutOff_21
/-- the zeros at the end -/
def zz_ (n : Nat) : Nat := nd_z n (nd_s n * 6) 0
theorem nd_z_le (x : Nat) : ∀ n z, nd_z x n z ≤ z + n := by
  intro n
  induction n with
  | zero => intro z; rw [nd_z]; omega
  | succ n ih =>
    intro z
    rw [nd_z]
    split
    · have := ih (z + 1); omega
    · omega
theorem zz_le {n : Nat} (h : n < 10 ^ 190) : zz_ n ≤ 192 := by
  have := nd_z_le n (nd_s n * 6) 0
  have := s190 h
  rw [zz_]; omega
set_option maxHeartbeats 4000000 in
set_option maxRecDepth 100000 in
/-- cutOffZeros -/
theorem c_X2_cutOffZeros (l : Launch) (D : va_G) (cA : Nat → ClassId) (tT : Nat) (A : Nat → Prop) (ad : Nat → Nat) (sz : Nat) {sf : Nat → Bool × Nat × Int} {x y : Nat} {tx : Nat → Int32} {tl : Nat} (h0 : (sf 0).2.1 < 10 ^ 190) (hx64 : x < 1000000 ^ 64) (hy64 : y < 1000000 ^ 64) (b3 : -300 < (sf 0).2.2) (b4 : (sf 0).2.2 < 300) (h1s : sf 1 = (false, 1, 0)) : Met l yX2_cutOffZeros wsX2_cutOffZeros ({ frames := 5, cells := 0, slots := 0, locals := 124 }) (va_Pc [.ref (ad 0)] (wd_B D cA tT A 31 ad sz (cg cA ad sf x y tx tl))) (va_Qv (fun (u : Nat → va_E) => ∃ x1 y1, x1 < 1000000 ^ 64 ∧ y1 < 1000000 ^ 64 ∧ u = cg cA ad (va_up sf 0 (if (sf 0).2.1 = 0 then ((sf 0).1, (sf 0).2.1, 0) else ((sf 0).1, (sf 0).2.1 / 10 ^ zz_ (sf 0).2.1, (sf 0).2.2 - (zz_ (sf 0).2.1 : Int)))) x1 y1 tx tl) (wd_E D cA A 31 ad) A) 0 0 A := by
  refine Met.ofW (cc := cX2_cutOffZeros) (maxL := 1) (ret := none) (by decide) rfl ?_
  intro p e s m args below meth c s₁ B hml hv
  obtain ⟨rfl, hsz, hP, hK, hD, hT⟩ := hv
  have hx := B.exec
  have hb := B.bytes
  have hr := B.returns
  have hts := atoms_spec (ws := wsX2_cutOffZeros) B.pre
  have hown : s.vm.findClass RX2 = some m.cls := findClass_of_methodNamed B.named
  have hlocks := B.notSynchronized
  subst hsz
  have hS : va_S A s.heap s.heap [] := va_S.rf
  have in0 : ∀ w ∈ wsX00, w ∈ wsX2_cutOffZeros := by decide +kernel
  have in2 : ∀ w ∈ wsX20, w ∈ wsX2_cutOffZeros := by decide +kernel
  have hl := lv_entry ([.ref (ad 0)]) (n := 1) (Nat.le_of_ble_eq_true rfl)
  rw [lg_entry_eq]
  generalize (lg_sl ([.ref (ad 0)]) ++ List.replicate (1 - (lg_sl ([.ref (ad 0)])).length) Slot.unset).toArray = ls at hl ⊢
  have hl : lv_has ls 1 [(0, .ref (ad 0))] := hl
  have hz9 := zz_le h0
  have hc9 := c64 h0
  refine lv_aload_n hx hb dX2_cutOffZeros_0 rfl (lv_at hl 0 rfl) ?_
  refine rg_2_result hx hb hts in2 hown hK hP 0 (by decide) cg_0 (hts _ (by decide +kernel)) dX2_cutOffZeros_1 ?_
  refine rg_0_digits hx hb hts in0 hown hK hP (7 + 3 * 0) (by omega) (cg_d 0) (hts _ (by decide +kernel)) dX2_cutOffZeros_4 ?_
  refine va_calli (va_runV (As := []) (rest := []) ⟨hx, hb, hml, hown, hts⟩ (c_X1_isZero l D cA tT A 31 ad _ _ (a := 7 + 3 * 0 + 1) (x := (sf 0).2.1) (by decide) (cg_n 0) hc9) (cwV 0 hts gX2_cutOffZeros_X1_isZero rfl rfl rfl (by decide +kernel) ⟨Nat.le_of_ble_eq_true rfl, Nat.le_of_ble_eq_true rfl⟩) (wd_preV (k := 7 + 3 * 0 + 1) hP hK hD hT hS (by decide) (cg_n 0).1 rfl) rfl rfl hl.1 rfl (lv_room (Nat.le_of_ble_eq_true rfl)) dX2_cutOffZeros_7 ⟨Nat.zero_le _, Nat.zero_le _⟩) hS id_2 id_1 (fun r_ u t H locs ht hvm hw hB hz1 hk1 hS => ?_)
  obtain ⟨hP, hD⟩ := wd_back ht hB
  clear ht hvm hB hz1 hk1
  obtain ⟨hr_, hu_⟩ := hw
  subst hr_
  rw [hu_] at hP hD
  clear hu_
  refine bz_eq (tgt := 24) hx hb dX2_cutOffZeros_10 (by decide) it_lt (fun q1 => ?_) (fun q1 => ?_)
  · have q2 := it_eq q1
    refine lv_aload_n hx hb dX2_cutOffZeros_24 rfl (lv_at hl 0 rfl) ?_
    refine lv_aload_n hx hb dX2_cutOffZeros_25 rfl (lv_at hl 0 rfl) ?_
    refine rg_2_result hx hb hts in2 hown hK hP 0 (by decide) cg_0 (hts _ (by decide +kernel)) dX2_cutOffZeros_26 ?_
    refine rg_0_digits hx hb hts in0 hown hK hP (7 + 3 * 0) (by omega) (cg_d 0) (hts _ (by decide +kernel)) dX2_cutOffZeros_29 ?_
    refine va_calli (va_runV (As := []) (rest := [.ref (ad 0)]) ⟨hx, hb, hml, hown, hts⟩ (c_X1_zerosAtEnd l D cA tT A 31 ad _ _ (a := 7 + 3 * 0 + 1) (x := (sf 0).2.1) (by decide) (cg_n 0) hc9) (cwV 0 hts gX2_cutOffZeros_X1_zerosAtEnd rfl rfl rfl (by decide +kernel) ⟨Nat.le_of_ble_eq_true rfl, Nat.le_of_ble_eq_true rfl⟩) (wd_preV (k := 7 + 3 * 0 + 1) hP hK hD hT hS (by decide) (cg_n 0).1 rfl) rfl rfl hl.1 rfl (lv_room (Nat.le_of_ble_eq_true rfl)) dX2_cutOffZeros_32 ⟨Nat.zero_le _, Nat.zero_le _⟩) hS id_2 id_1 (fun r_ u t H locs ht hvm hw hB hz1 hk1 hS => ?_)
    obtain ⟨hP, hD⟩ := wd_back ht hB
    clear ht hvm hB hz1 hk1
    obtain ⟨hr_, hu_⟩ := hw
    subst hr_
    rw [hu_] at hP hD
    clear hu_
    refine va_callv (va_runV (As := [.int (nI (zz_ (sf 0).2.1))]) (rest := []) ⟨hx, hb, hml, hown, hts⟩ (c_X2_cutOff l D cA tT A ad _ (sf := sf) (x := x) (y := y) (tx := tx) (tl := tl) (P := zz_ (sf 0).2.1) h0 hx64 hy64 b3 b4 (by omega) h1s) (cwV 1 hts gX2_cutOffZeros_X2_cutOff rfl rfl rfl (by decide +kernel) ⟨Nat.le_of_ble_eq_true rfl, Nat.le_of_ble_eq_true rfl⟩) (wd_preV (k := 0) hP hK hD hT hS (by decide) cg_0 rfl) rfl rfl hl.1 rfl (lv_room (Nat.le_of_ble_eq_true rfl)) dX2_cutOffZeros_35 ⟨Nat.zero_le _, Nat.zero_le _⟩) hS id_2 id_1 (fun u t H locs ht hvm hw hB hz1 hk1 hS => ?_)
    obtain ⟨hP, hD⟩ := wd_back ht hB
    clear ht hvm hB hz1 hk1
    rw [hw] at hP hD
    clear hw
    have hm : (sf 0).2.1 % 10 ^ zz_ (sf 0).2.1 ≤ (sf 0).2.1 := Nat.mod_le _ _
    have hp : 10 ^ zz_ (sf 0).2.1 < 1000000 ^ 64 := Nat.lt_of_le_of_lt (Nat.pow_le_pow_right (by decide) hz9) (by decide +kernel)
    exact W.vret hx hb hr (fun t ht hW => ⟨⟨_, rfl, ⟨(sf 0).2.1 % 10 ^ zz_ (sf 0).2.1, 10 ^ zz_ (sf 0).2.1, by omega, hp, by rw [if_neg q2]⟩, wd_end hP hK hD ht hW⟩, hS.F ht⟩) hS.2.2 dX2_cutOffZeros_38
  · have q2 := it_ne q1
    refine lv_aload_n hx hb dX2_cutOffZeros_13 rfl (lv_at hl 0 rfl) ?_
    refine rg_2_result hx hb hts in2 hown hK hP 0 (by decide) cg_0 (hts _ (by decide +kernel)) dX2_cutOffZeros_14 ?_
    refine lv_iconst (v := nI (0)) hx hb dX2_cutOffZeros_17 (by decide) ?_
    refine tp_i (y := iZ ((0 : Nat) : Int)) (iZ_nat _) ?_
    refine rp_0_scale hx hb hts in0 hown hK hP hD hS (7 + 3 * 0) (by omega) (cg_d 0) (hts _ (by decide +kernel)) rfl rfl dX2_cutOffZeros_18 (fun H locs hP hD hS => ?_)
    rw [cg_upS 0 (((0 : Nat) : Int)) rfl] at hP hD
    refine lv_goto (tgt := 38) hx hb dX2_cutOffZeros_21 (by decide) ?_
    exact W.vret hx hb hr (fun t ht hW => ⟨⟨_, rfl, ⟨x, y, hx64, hy64, by rw [if_pos q2]; rfl⟩, wd_end hP hK hD ht hW⟩, hS.F ht⟩) hS.2.2 dX2_cutOffZeros_38
set_option maxHeartbeats 4000000 in
set_option maxRecDepth 100000 in
/-- multiply -/
theorem c_X2_multiply (l : Launch) (D : va_G) (cA : Nat → ClassId) (tT : Nat) (A : Nat → Prop) (ad : Nat → Nat) (sz : Nat) {sf : Nat → Bool × Nat × Int} {x y : Nat} {tx : Nat → Int32} {tl : Nat} {e1 e2 : Nat} (he1 : e1 < 8) (he2 : e2 < 8) (hx64 : x < 1000000 ^ 64) (h0 : (sf 0).2.1 < 1000000 ^ 64) (hxy : nd_s (sf e1).2.1 + nd_s (sf e2).2.1 ≤ 64) : Met l yX2_multiply wsX2_multiply ({ frames := 3, cells := 0, slots := 0, locals := 62 }) (va_Pc [.ref (ad 0), .ref (ad (7 + 3 * e1)), .ref (ad (7 + 3 * e2))] (wd_B D cA tT A 31 ad sz (cg cA ad sf x y tx tl))) (va_Qv (fun (u : Nat → va_E) => u = cg cA ad (va_up sf 0 (sn ((sf e1).1 != (sf e2).1) ((sf e1).2.1 * (sf e2).2.1), (sf e1).2.1 * (sf e2).2.1, (sf e1).2.2 + (sf e2).2.2)) ((sf e1).2.1 * (sf e2).2.1) y tx tl) (wd_E D cA A 31 ad) A) 0 0 A := by
  refine Met.ofW (cc := cX2_multiply) (maxL := 3) (ret := none) (by decide) rfl ?_
  intro p e s m args below meth c s₁ B hml hv
  obtain ⟨rfl, hsz, hP, hK, hD, hT⟩ := hv
  have hx := B.exec
  have hb := B.bytes
  have hr := B.returns
  have hts := atoms_spec (ws := wsX2_multiply) B.pre
  have hown : s.vm.findClass RX2 = some m.cls := findClass_of_methodNamed B.named
  have hlocks := B.notSynchronized
  subst hsz
  have hS : va_S A s.heap s.heap [] := va_S.rf
  have in0 : ∀ w ∈ wsX00, w ∈ wsX2_multiply := by decide +kernel
  have in2 : ∀ w ∈ wsX20, w ∈ wsX2_multiply := by decide +kernel
  have hl := lv_entry ([.ref (ad 0), .ref (ad (7 + 3 * e1)), .ref (ad (7 + 3 * e2))]) (n := 3) (Nat.le_of_ble_eq_true rfl)
  rw [lg_entry_eq]
  generalize (lg_sl ([.ref (ad 0), .ref (ad (7 + 3 * e1)), .ref (ad (7 + 3 * e2))]) ++ List.replicate (3 - (lg_sl ([.ref (ad 0), .ref (ad (7 + 3 * e1)), .ref (ad (7 + 3 * e2))])).length) Slot.unset).toArray = ls at hl ⊢
  have hl : lv_has ls 3 [(0, .ref (ad 0)), (1, .ref (ad (7 + 3 * e1))), (2, .ref (ad (7 + 3 * e2)))] := hl
  have t1 := tn_le (sf e1).1
  have t2 := tn_le (sf e2).1
  have hpr : (sf e1).2.1 * (sf e2).2.1 < 1000000 ^ 64 := Nat.lt_of_lt_of_le nd_xy (Nat.pow_le_pow_right (by decide) hxy)
  refine lv_aload_n hx hb dX2_multiply_0 rfl (lv_at hl 0 rfl) ?_
  refine rg_2_top hx hb hts in2 hown hK hP 0 (by decide) cg_0 (hts _ (by decide +kernel)) dX2_multiply_1 ?_
  refine lv_aload_n hx hb dX2_multiply_4 rfl (lv_at hl 1 rfl) ?_
  refine rg_0_digits hx hb hts in0 hown hK hP (7 + 3 * e1) (by omega) (cg_d e1) (hts _ (by decide +kernel)) dX2_multiply_5 ?_
  refine lv_aload_n hx hb dX2_multiply_8 rfl (lv_at hl 2 rfl) ?_
  refine rg_0_digits hx hb hts in0 hown hK hP (7 + 3 * e2) (by omega) (cg_d e2) (hts _ (by decide +kernel)) dX2_multiply_9 ?_
  refine va_callv (va_runV (As := [.ref (ad (7 + 3 * e1 + 1)), .ref (ad (7 + 3 * e2 + 1))]) (rest := []) ⟨hx, hb, hml, hown, hts⟩ (c_X1_becomeProduct l D cA tT A 31 ad _ _ (a := 3) (j1 := 7 + 3 * e1 + 1) (j2 := 7 + 3 * e2 + 1) (x := (sf e1).2.1) (y := (sf e2).2.1) (z := x) (by decide) (by omega) (by omega) (cg_n e1) (cg_n e2) (by omega) (by omega) (by omega) (by omega) (by omega) (by omega) hxy cg_T hx64) (cwV 2 hts gX2_multiply_X1_becomeProduct rfl rfl rfl (by decide +kernel) ⟨Nat.le_of_ble_eq_true rfl, Nat.le_of_ble_eq_true rfl⟩) (wd_preV (k := 3) hP hK hD hT hS (by decide) cg_T.1 rfl) rfl rfl hl.1 rfl (lv_room (Nat.le_of_ble_eq_true rfl)) dX2_multiply_12 ⟨Nat.zero_le _, Nat.zero_le _⟩) hS id_2 id_1 (fun u t H locs ht hvm hw hB hz1 hk1 hS => ?_)
  obtain ⟨hP, hD⟩ := wd_back ht hB
  clear ht hvm hB hz1 hk1
  rw [hw] at hP hD
  clear hw
  rw [cg_upT] at hP hD
  refine lv_aload_n hx hb dX2_multiply_15 rfl (lv_at hl 0 rfl) ?_
  refine rg_2_result hx hb hts in2 hown hK hP 0 (by decide) cg_0 (hts _ (by decide +kernel)) dX2_multiply_16 ?_
  refine lv_aload_n hx hb dX2_multiply_19 rfl (lv_at hl 0 rfl) ?_
  refine rg_2_top hx hb hts in2 hown hK hP 0 (by decide) cg_0 (hts _ (by decide +kernel)) dX2_multiply_20 ?_
  refine lv_aload_n hx hb dX2_multiply_23 rfl (lv_at hl 1 rfl) ?_
  refine rg_0_minus hx hb hts in0 hown hK hP (7 + 3 * e1) (by omega) (cg_d e1) (hts _ (by decide +kernel)) dX2_multiply_24 ?_
  refine lv_aload_n hx hb dX2_multiply_27 rfl (lv_at hl 2 rfl) ?_
  refine rg_0_minus hx hb hts in0 hown hK hP (7 + 3 * e2) (by omega) (cg_d e2) (hts _ (by decide +kernel)) dX2_multiply_28 ?_
  refine bi_eq (tgt := 38) hx hb dX2_multiply_31 (by decide) (by omega) (by omega) (fun q1 => ?_) (fun q1 => ?_)
  · refine lv_iconst (v := nI (0)) hx hb dX2_multiply_38 (by decide) ?_
    refine lv_aload_n hx hb dX2_multiply_39 rfl (lv_at hl 1 rfl) ?_
    refine rg_0_scale hx hb hts in0 hown hK hP (7 + 3 * e1) (by omega) (cg_d e1) (hts _ (by decide +kernel)) dX2_multiply_40 ?_
    refine lv_aload_n hx hb dX2_multiply_43 rfl (lv_at hl 2 rfl) ?_
    refine rg_0_scale hx hb hts in0 hown hK hP (7 + 3 * e2) (by omega) (cg_d e2) (hts _ (by decide +kernel)) dX2_multiply_44 ?_
    refine lv_iadd hx hb dX2_multiply_47 ?_
    refine tp_i (y := iZ (((sf e1).2.2) + ((sf e2).2.2))) (iZ_add _ _) ?_
    have hbb : ((sf e1).1 != (sf e2).1) = false := by rw [ne_tn, decide_eq_true q1]; rfl
    refine va_callv (va_runV (As := [.ref (ad 3), .int (nI (0)), .int (iZ (((sf e1).2.2) + ((sf e2).2.2)))]) (rest := []) ⟨hx, hb, hml, hown, hts⟩ (c_X0_take l D cA tT A 31 ad _ _ (k := 7 + 3 * 0) (q := 3) (n := (sf e1).2.1 * (sf e2).2.1) (d := sf 0) (b := false) (z := (sf e1).2.2 + (sf e2).2.2) (by decide) (by decide) (cg_D 0) cg_T (by decide) (by decide) (by decide) (by decide) (by decide) h0 hpr) (cwV 3 hts gX2_multiply_X0_take rfl rfl rfl (by decide +kernel) ⟨Nat.le_of_ble_eq_true rfl, Nat.le_of_ble_eq_true rfl⟩) (wd_preV (k := 7 + 3 * 0) hP hK hD hT hS (by decide) (cg_d 0) rfl) rfl rfl hl.1 rfl (lv_room (Nat.le_of_ble_eq_true rfl)) dX2_multiply_48 ⟨Nat.zero_le _, Nat.zero_le _⟩) hS id_2 id_1 (fun u t H locs ht hvm hw hB hz1 hk1 hS => ?_)
    obtain ⟨hP, hD⟩ := wd_back ht hB
    clear ht hvm hB hz1 hk1
    rw [hw] at hP hD
    clear hw
    rw [cg_upD 0] at hP hD
    exact W.vret hx hb hr (fun t ht hW => ⟨⟨_, rfl, by rw [hbb], wd_end hP hK hD ht hW⟩, hS.F ht⟩) hS.2.2 dX2_multiply_51
  · refine lv_iconst (v := nI (1)) hx hb dX2_multiply_34 (by decide) ?_
    refine lv_goto (tgt := 39) hx hb dX2_multiply_35 (by decide) ?_
    refine lv_aload_n hx hb dX2_multiply_39 rfl (lv_at hl 1 rfl) ?_
    refine rg_0_scale hx hb hts in0 hown hK hP (7 + 3 * e1) (by omega) (cg_d e1) (hts _ (by decide +kernel)) dX2_multiply_40 ?_
    refine lv_aload_n hx hb dX2_multiply_43 rfl (lv_at hl 2 rfl) ?_
    refine rg_0_scale hx hb hts in0 hown hK hP (7 + 3 * e2) (by omega) (cg_d e2) (hts _ (by decide +kernel)) dX2_multiply_44 ?_
    refine lv_iadd hx hb dX2_multiply_47 ?_
    refine tp_i (y := iZ (((sf e1).2.2) + ((sf e2).2.2))) (iZ_add _ _) ?_
    have hbb : ((sf e1).1 != (sf e2).1) = true := by rw [ne_tn, decide_eq_false q1]; rfl
    refine va_callv (va_runV (As := [.ref (ad 3), .int (nI (1)), .int (iZ (((sf e1).2.2) + ((sf e2).2.2)))]) (rest := []) ⟨hx, hb, hml, hown, hts⟩ (c_X0_take l D cA tT A 31 ad _ _ (k := 7 + 3 * 0) (q := 3) (n := (sf e1).2.1 * (sf e2).2.1) (d := sf 0) (b := true) (z := (sf e1).2.2 + (sf e2).2.2) (by decide) (by decide) (cg_D 0) cg_T (by decide) (by decide) (by decide) (by decide) (by decide) h0 hpr) (cwV 3 hts gX2_multiply_X0_take rfl rfl rfl (by decide +kernel) ⟨Nat.le_of_ble_eq_true rfl, Nat.le_of_ble_eq_true rfl⟩) (wd_preV (k := 7 + 3 * 0) hP hK hD hT hS (by decide) (cg_d 0) rfl) rfl rfl hl.1 rfl (lv_room (Nat.le_of_ble_eq_true rfl)) dX2_multiply_48 ⟨Nat.zero_le _, Nat.zero_le _⟩) hS id_2 id_1 (fun u t H locs ht hvm hw hB hz1 hk1 hS => ?_)
    obtain ⟨hP, hD⟩ := wd_back ht hB
    clear ht hvm hB hz1 hk1
    rw [hw] at hP hD
    clear hw
    rw [cg_upD 0] at hP hD
    exact W.vret hx hb hr (fun t ht hW => ⟨⟨_, rfl, by rw [hbb], wd_end hP hK hD ht hW⟩, hS.F ht⟩) hS.2.2 dX2_multiply_51
/-- the two numbers brought to one scale -/
def aX (d1 d2 : Bool × Nat × Int) : Nat := d1.2.1 * 10 ^ (d2.2.2 - d1.2.2).toNat
theorem aX_lt {d1 d2 : Bool × Nat × Int} (h : d1.2.1 < 10 ^ 190) (h1 : (d2.2.2 - d1.2.2).toNat ≤ 20) : aX d1 d2 < 1000000 ^ 36 := by
  rw [aX]
  have h2 : 10 ^ (d2.2.2 - d1.2.2).toNat ≤ 10 ^ 20 := Nat.pow_le_pow_right (by decide) h1
  calc d1.2.1 * 10 ^ (d2.2.2 - d1.2.2).toNat ≤ d1.2.1 * 10 ^ 20 := Nat.mul_le_mul_left _ h2
    _ < 10 ^ 190 * 10 ^ 20 := (Nat.mul_lt_mul_right (by decide)).mpr h
    _ ≤ 1000000 ^ 36 := by decide +kernel
/-- a sum with a sign for the second -/
def sm (d1 d2 : Bool × Nat × Int) (mb : Bool) : Bool × Nat × Int :=
  if d1.1 = mb then (sn d1.1 (aX d1 d2 + aX d2 d1), aX d1 d2 + aX d2 d1, max d1.2.2 d2.2.2)
  else if aX d2 d1 ≤ aX d1 d2 then (sn d1.1 (aX d1 d2 - aX d2 d1), aX d1 d2 - aX d2 d1, max d1.2.2 d2.2.2)
  else (sn mb (aX d2 d1 - aX d1 d2), aX d2 d1 - aX d1 d2, max d1.2.2 d2.2.2)
theorem mx_z {a b : Int} (a1 : -2147483648 ≤ a) (a2 : a < 2147483648) (b1 : -2147483648 ≤ b) (b2 : b < 2147483648) : (if iZ a < iZ b then iZ b else iZ a) = iZ (max a b) := by
  by_cases q : a < b
  · rw [if_pos ((iZ_lt a1 a2 b1 b2).mpr q), Int.max_eq_right (by omega)]
  · rw [if_neg (fun h => q ((iZ_lt a1 a2 b1 b2).mp h)), Int.max_eq_left (by omega)]
theorem odI_ge {x y : Nat} : ¬ odI x y < 0 ↔ y ≤ x := by
  rw [odI]
  by_cases h : x < y
  · rw [if_pos h]; omega
  · rw [if_neg h]
    by_cases h2 : x = y
    · rw [if_pos h2]; omega
    · rw [if_neg h2]; omega
theorem tn_eq {a b : Bool} : a.toNat = b.toNat ↔ a = b := by cases a <;> cases b <;> decide
set_option maxHeartbeats 4000000 in
set_option maxRecDepth 100000 in
/-- addUp -/
theorem c_X2_addUp (l : Launch) (D : va_G) (cA : Nat → ClassId) (tT : Nat) (A : Nat → Prop) (ad : Nat → Nat) (sz : Nat) {sf : Nat → Bool × Nat × Int} {x y : Nat} {tx : Nat → Int32} {tl : Nat} {e1 e2 : Nat} {mb : Bool} (he1 : e1 < 8) (he2 : e2 < 8) (h1 : (sf e1).2.1 < 10 ^ 190) (h2 : (sf e2).2.1 < 10 ^ 190) (b3 : -7 < (sf e1).2.2) (b4 : (sf e1).2.2 < 7) (b5 : -7 < (sf e2).2.2) (b6 : (sf e2).2.2 < 7) (hx64 : x < 1000000 ^ 64) (hy64 : y < 1000000 ^ 64) (h0 : (sf 0).2.1 < 1000000 ^ 64) : Met l yX2_addUp wsX2_addUp ({ frames := 3, cells := 0, slots := 0, locals := 76 }) (va_Pc [.ref (ad 0), .ref (ad (7 + 3 * e1)), .ref (ad (7 + 3 * e2)), .int (nI (mb.toNat))] (wd_B D cA tT A 31 ad sz (cg cA ad sf x y tx tl))) (va_Qv (fun (u : Nat → va_E) => ∃ x1 y1, x1 < 1000000 ^ 64 ∧ y1 < 1000000 ^ 64 ∧ u = cg cA ad (va_up sf 0 (sm (sf e1) (sf e2) mb)) x1 y1 tx tl) (wd_E D cA A 31 ad) A) 0 0 A := by
  refine Met.ofW (cc := cX2_addUp) (maxL := 5) (ret := none) (by decide) rfl ?_
  intro p e s m args below meth c s₁ B hml hv
  obtain ⟨rfl, hsz, hP, hK, hD, hT⟩ := hv
  have hx := B.exec
  have hb := B.bytes
  have hr := B.returns
  have hts := atoms_spec (ws := wsX2_addUp) B.pre
  have hown : s.vm.findClass RX2 = some m.cls := findClass_of_methodNamed B.named
  have hlocks := B.notSynchronized
  subst hsz
  have hS : va_S A s.heap s.heap [] := va_S.rf
  have in0 : ∀ w ∈ wsX00, w ∈ wsX2_addUp := by decide +kernel
  have in2 : ∀ w ∈ wsX20, w ∈ wsX2_addUp := by decide +kernel
  have hl := lv_entry ([.ref (ad 0), .ref (ad (7 + 3 * e1)), .ref (ad (7 + 3 * e2)), .int (nI (mb.toNat))]) (n := 5) (Nat.le_of_ble_eq_true rfl)
  rw [lg_entry_eq]
  generalize (lg_sl ([.ref (ad 0), .ref (ad (7 + 3 * e1)), .ref (ad (7 + 3 * e2)), .int (nI (mb.toNat))]) ++ List.replicate (5 - (lg_sl ([.ref (ad 0), .ref (ad (7 + 3 * e1)), .ref (ad (7 + 3 * e2)), .int (nI (mb.toNat))])).length) Slot.unset).toArray = ls at hl ⊢
  have hl : lv_has ls 5 [(0, .ref (ad 0)), (1, .ref (ad (7 + 3 * e1))), (2, .ref (ad (7 + 3 * e2))), (3, .int (nI (mb.toNat)))] := hl
  have t1 := tn_le (sf e1).1
  have t2 := tn_le mb
  refine lv_aload_n hx hb dX2_addUp_0 rfl (lv_at hl 1 rfl) ?_
  refine rg_0_scale hx hb hts in0 hown hK hP (7 + 3 * e1) (by omega) (cg_d e1) (hts _ (by decide +kernel)) dX2_addUp_1 ?_
  refine lv_aload_n hx hb dX2_addUp_4 rfl (lv_at hl 2 rfl) ?_
  refine rg_0_scale hx hb hts in0 hown hK hP (7 + 3 * e2) (by omega) (cg_d e2) (hts _ (by decide +kernel)) dX2_addUp_5 ?_
  refine va_mmax hx hb (by rw [hml]; exact hl.1.symm) hown (hts _ (by decide +kernel)) (hts _ (by decide +kernel)) (hts _ (by decide +kernel)) (hts _ (by decide +kernel)) (Nat.le_of_ble_eq_true rfl) (Nat.le_of_ble_eq_true rfl) (Nat.zero_le _) (Nat.zero_le _) dX2_addUp_8 ?_
  refine tp_i (y := iZ (max (sf e1).2.2 (sf e2).2.2)) (mx_z (by omega) (by omega) (by omega) (by omega)) ?_
  refine lv_istore (lv' := [(4, .int (iZ (max (sf e1).2.2 (sf e2).2.2))), (0, .ref (ad 0)), (1, .ref (ad (7 + 3 * e1))), (2, .ref (ad (7 + 3 * e2))), (3, .int (nI (mb.toNat)))]) hx hb dX2_addUp_11 hl (by decide) rfl (fun ls hl => ?_)
  refine lv_aload_n hx hb dX2_addUp_13 rfl (lv_at hl 1 rfl) ?_
  refine lv_aload_n hx hb dX2_addUp_14 rfl (lv_at hl 2 rfl) ?_
  refine lv_aload_n hx hb dX2_addUp_15 rfl (lv_at hl 3 rfl) ?_
  refine lv_iconst (v := nI (0)) hx hb dX2_addUp_16 (by decide) ?_
  refine tp_i (y := iZ ((0 : Nat) : Int)) rfl ?_
  refine va_callv (va_runV (As := [.ref (ad (7 + 3 * e1)), .ref (ad (7 + 3 * e2)), .int (iZ (((0 : Nat) : Int)))]) (rest := []) ⟨hx, hb, hml, hown, hts⟩ (c_X2_align l D cA tT A ad _ (sf := sf) (x := x) (y := y) (tx := tx) (tl := tl) (e1 := e1) (e2 := e2) (sc := ((0 : Nat) : Int)) he1 he2 hx64 hy64 (c64 h1) (c64 h2) (by decide) (by decide) (by omega) (by omega) (by omega) (by omega) (by omega) (by omega) (by have := s190 h1; omega) (by have := s190 h2; omega)) (cwV 3 hts gX2_addUp_X2_align rfl rfl rfl (by decide +kernel) ⟨Nat.le_of_ble_eq_true rfl, Nat.le_of_ble_eq_true rfl⟩) (wd_preV (k := 0) hP hK hD hT hS (by decide) cg_0 rfl) rfl rfl hl.1 rfl (lv_room (Nat.le_of_ble_eq_true rfl)) dX2_addUp_17 ⟨Nat.zero_le _, Nat.zero_le _⟩) hS id_2 id_1 (fun u t H locs ht hvm hw hB hz1 hk1 hS => ?_)
  obtain ⟨hP, hD⟩ := wd_back ht hB
  clear ht hvm hB hz1 hk1
  rw [hw] at hP hD
  clear hw
  have eX : (sf e1).2.1 * 10 ^ (((0 : Nat) : Int) + (sf e2).2.2 - (sf e1).2.2).toNat = aX (sf e1) (sf e2) := by rw [aX, show (((0 : Nat) : Int) + (sf e2).2.2 - (sf e1).2.2) = (sf e2).2.2 - (sf e1).2.2 by omega]
  have eY : (sf e2).2.1 * 10 ^ (-(((0 : Nat) : Int) + (sf e2).2.2 - (sf e1).2.2)).toNat = aX (sf e2) (sf e1) := by rw [aX, show -(((0 : Nat) : Int) + (sf e2).2.2 - (sf e1).2.2) = (sf e1).2.2 - (sf e2).2.2 by omega]
  rw [eX, eY] at hP hD
  have lX := aX_lt (d1 := sf e1) (d2 := sf e2) h1 (by omega)
  have lY := aX_lt (d1 := sf e2) (d2 := sf e1) h2 (by omega)
  have l36 : 2 * 1000000 ^ 36 < 1000000 ^ 64 := by decide +kernel
  refine lv_aload_n hx hb dX2_addUp_20 rfl (lv_at hl 2 rfl) ?_
  refine rg_0_minus hx hb hts in0 hown hK hP (7 + 3 * e1) (by omega) (cg_d e1) (hts _ (by decide +kernel)) dX2_addUp_21 ?_
  refine lv_iload_n hx hb dX2_addUp_24 rfl (lv_at hl 4 rfl) ?_
  refine bi_ne (tgt := 59) hx hb dX2_addUp_25 (by decide) (by omega) (by omega) (fun q1 => ?_) (fun q1 => ?_)
  · have q2 : ¬ (sf e1).1 = mb := fun h => q1 (tn_eq.mpr h)
    have ho := odI_b (aX (sf e1) (sf e2)) (aX (sf e2) (sf e1))
    refine lv_aload_n hx hb dX2_addUp_59 rfl (lv_at hl 1 rfl) ?_
    refine rg_2_top hx hb hts in2 hown hK hP 0 (by decide) cg_0 (hts _ (by decide +kernel)) dX2_addUp_60 ?_
    refine lv_aload_n hx hb dX2_addUp_63 rfl (lv_at hl 1 rfl) ?_
    refine rg_2_bottom hx hb hts in2 hown hK hP 0 (by decide) cg_0 (hts _ (by decide +kernel)) dX2_addUp_64 ?_
    refine va_calli (va_runV (As := [.ref (ad 5)]) (rest := []) ⟨hx, hb, hml, hown, hts⟩ (c_X1_order l D cA tT A 31 ad _ _ (a := 3) (o := 5) (x := aX (sf e1) (sf e2)) (y := aX (sf e2) (sf e1)) (by decide) (by decide) cg_T cg_B (by omega) (by omega)) (cwV 1 hts gX2_addUp_X1_order rfl rfl rfl (by decide +kernel) ⟨Nat.le_of_ble_eq_true rfl, Nat.le_of_ble_eq_true rfl⟩) (wd_preV (k := 3) hP hK hD hT hS (by decide) cg_T.1 rfl) rfl rfl hl.1 rfl (lv_room (Nat.le_of_ble_eq_true rfl)) dX2_addUp_67 ⟨Nat.zero_le _, Nat.zero_le _⟩) hS id_2 id_1 (fun r_ u t H locs ht hvm hw hB hz1 hk1 hS => ?_)
    obtain ⟨hP, hD⟩ := wd_back ht hB
    clear ht hvm hB hz1 hk1
    obtain ⟨hr_, hu_⟩ := hw
    subst hr_
    rw [hu_] at hP hD
    clear hu_
    refine tp_i (y := iZ (odI (aX (sf e1) (sf e2)) (aX (sf e2) (sf e1)))) (od_iZ _ _) ?_
    refine by_lt (tgt := 104) hx hb dX2_addUp_70 (by decide) (by omega) (by omega) (fun q3 => ?_) (fun q3 => ?_)
    · have q4 : ¬ aX (sf e2) (sf e1) ≤ aX (sf e1) (sf e2) := fun h => (odI_ge.mpr h) q3
      refine lv_aload_n hx hb dX2_addUp_104 rfl (lv_at hl 1 rfl) ?_
      refine rg_2_bottom hx hb hts in2 hown hK hP 0 (by decide) cg_0 (hts _ (by decide +kernel)) dX2_addUp_105 ?_
      refine lv_aload_n hx hb dX2_addUp_108 rfl (lv_at hl 1 rfl) ?_
      refine rg_2_top hx hb hts in2 hown hK hP 0 (by decide) cg_0 (hts _ (by decide +kernel)) dX2_addUp_109 ?_
      refine va_callv (va_runV (As := [.ref (ad 3)]) (rest := []) ⟨hx, hb, hml, hown, hts⟩ (c_X1_subtract l D cA tT A 31 ad _ _ (a := 5) (o := 3) (x := aX (sf e2) (sf e1)) (y := aX (sf e1) (sf e2)) (by decide) cg_B (by decide) cg_T (by decide) (by decide) (by decide) (by omega) (by omega)) (cwV 1 hts gX2_addUp_X1_subtract rfl rfl rfl (by decide +kernel) ⟨Nat.le_of_ble_eq_true rfl, Nat.le_of_ble_eq_true rfl⟩) (wd_preV (k := 5) hP hK hD hT hS (by decide) cg_B.1 rfl) rfl rfl hl.1 rfl (lv_room (Nat.le_of_ble_eq_true rfl)) dX2_addUp_112 ⟨Nat.zero_le _, Nat.zero_le _⟩) hS id_2 id_1 (fun u t H locs ht hvm hw hB hz1 hk1 hS => ?_)
      obtain ⟨hP, hD⟩ := wd_back ht hB
      clear ht hvm hB hz1 hk1
      rw [hw] at hP hD
      clear hw
      rw [cg_upB] at hP hD
      refine lv_aload_n hx hb dX2_addUp_115 rfl (lv_at hl 1 rfl) ?_
      refine rg_2_result hx hb hts in2 hown hK hP 0 (by decide) cg_0 (hts _ (by decide +kernel)) dX2_addUp_116 ?_
      refine lv_aload_n hx hb dX2_addUp_119 rfl (lv_at hl 1 rfl) ?_
      refine rg_2_bottom hx hb hts in2 hown hK hP 0 (by decide) cg_0 (hts _ (by decide +kernel)) dX2_addUp_120 ?_
      refine lv_iload_n hx hb dX2_addUp_123 rfl (lv_at hl 4 rfl) ?_
      refine lv_iload hx hb dX2_addUp_124 (lv_at hl 0 rfl) ?_
      refine va_callv (va_runV (As := [.ref (ad 5), .int (nI (mb.toNat)), .int (iZ (max (sf e1).2.2 (sf e2).2.2))]) (rest := []) ⟨hx, hb, hml, hown, hts⟩ (c_X0_take l D cA tT A 31 ad _ _ (k := 7 + 3 * 0) (q := 5) (n := aX (sf e2) (sf e1) - aX (sf e1) (sf e2)) (d := sf 0) (b := mb) (z := max (sf e1).2.2 (sf e2).2.2) (by decide) (by decide) (cg_D 0) cg_B (by decide) (by decide) (by decide) (by decide) (by decide) h0 (by omega)) (cwV 3 hts gX2_addUp_X0_take rfl rfl rfl (by decide +kernel) ⟨Nat.le_of_ble_eq_true rfl, Nat.le_of_ble_eq_true rfl⟩) (wd_preV (k := 7 + 3 * 0) hP hK hD hT hS (by decide) (cg_d 0) rfl) rfl rfl hl.1 rfl (lv_room (Nat.le_of_ble_eq_true rfl)) dX2_addUp_126 ⟨Nat.zero_le _, Nat.zero_le _⟩) hS id_2 id_1 (fun u t H locs ht hvm hw hB hz1 hk1 hS => ?_)
      obtain ⟨hP, hD⟩ := wd_back ht hB
      clear ht hvm hB hz1 hk1
      rw [hw] at hP hD
      clear hw
      rw [cg_upD 0] at hP hD
      exact W.vret hx hb hr (fun t ht hW => ⟨⟨_, rfl, ⟨aX (sf e1) (sf e2), aX (sf e2) (sf e1) - aX (sf e1) (sf e2), by omega, by omega, by rw [sm, if_neg q2, if_neg q4]⟩, wd_end hP hK hD ht hW⟩, hS.F ht⟩) hS.2.2 dX2_addUp_129
    · have q4 := odI_ge.mp q3
      refine lv_aload_n hx hb dX2_addUp_73 rfl (lv_at hl 1 rfl) ?_
      refine rg_2_top hx hb hts in2 hown hK hP 0 (by decide) cg_0 (hts _ (by decide +kernel)) dX2_addUp_74 ?_
      refine lv_aload_n hx hb dX2_addUp_77 rfl (lv_at hl 1 rfl) ?_
      refine rg_2_bottom hx hb hts in2 hown hK hP 0 (by decide) cg_0 (hts _ (by decide +kernel)) dX2_addUp_78 ?_
      refine va_callv (va_runV (As := [.ref (ad 5)]) (rest := []) ⟨hx, hb, hml, hown, hts⟩ (c_X1_subtract l D cA tT A 31 ad _ _ (a := 3) (o := 5) (x := aX (sf e1) (sf e2)) (y := aX (sf e2) (sf e1)) (by decide) cg_T (by decide) cg_B (by decide) (by decide) (by decide) (by omega) q4) (cwV 1 hts gX2_addUp_X1_subtract rfl rfl rfl (by decide +kernel) ⟨Nat.le_of_ble_eq_true rfl, Nat.le_of_ble_eq_true rfl⟩) (wd_preV (k := 3) hP hK hD hT hS (by decide) cg_T.1 rfl) rfl rfl hl.1 rfl (lv_room (Nat.le_of_ble_eq_true rfl)) dX2_addUp_81 ⟨Nat.zero_le _, Nat.zero_le _⟩) hS id_2 id_1 (fun u t H locs ht hvm hw hB hz1 hk1 hS => ?_)
      obtain ⟨hP, hD⟩ := wd_back ht hB
      clear ht hvm hB hz1 hk1
      rw [hw] at hP hD
      clear hw
      rw [cg_upT] at hP hD
      refine lv_aload_n hx hb dX2_addUp_84 rfl (lv_at hl 1 rfl) ?_
      refine rg_2_result hx hb hts in2 hown hK hP 0 (by decide) cg_0 (hts _ (by decide +kernel)) dX2_addUp_85 ?_
      refine lv_aload_n hx hb dX2_addUp_88 rfl (lv_at hl 1 rfl) ?_
      refine rg_2_top hx hb hts in2 hown hK hP 0 (by decide) cg_0 (hts _ (by decide +kernel)) dX2_addUp_89 ?_
      refine lv_aload_n hx hb dX2_addUp_92 rfl (lv_at hl 2 rfl) ?_
      refine rg_0_minus hx hb hts in0 hown hK hP (7 + 3 * e1) (by omega) (cg_d e1) (hts _ (by decide +kernel)) dX2_addUp_93 ?_
      refine lv_iload hx hb dX2_addUp_96 (lv_at hl 0 rfl) ?_
      refine va_callv (va_runV (As := [.ref (ad 3), .int (nI ((sf e1).1.toNat)), .int (iZ (max (sf e1).2.2 (sf e2).2.2))]) (rest := []) ⟨hx, hb, hml, hown, hts⟩ (c_X0_take l D cA tT A 31 ad _ _ (k := 7 + 3 * 0) (q := 3) (n := aX (sf e1) (sf e2) - aX (sf e2) (sf e1)) (d := sf 0) (b := (sf e1).1) (z := max (sf e1).2.2 (sf e2).2.2) (by decide) (by decide) (cg_D 0) cg_T (by decide) (by decide) (by decide) (by decide) (by decide) h0 (by omega)) (cwV 3 hts gX2_addUp_X0_take rfl rfl rfl (by decide +kernel) ⟨Nat.le_of_ble_eq_true rfl, Nat.le_of_ble_eq_true rfl⟩) (wd_preV (k := 7 + 3 * 0) hP hK hD hT hS (by decide) (cg_d 0) rfl) rfl rfl hl.1 rfl (lv_room (Nat.le_of_ble_eq_true rfl)) dX2_addUp_98 ⟨Nat.zero_le _, Nat.zero_le _⟩) hS id_2 id_1 (fun u t H locs ht hvm hw hB hz1 hk1 hS => ?_)
      obtain ⟨hP, hD⟩ := wd_back ht hB
      clear ht hvm hB hz1 hk1
      rw [hw] at hP hD
      clear hw
      rw [cg_upD 0] at hP hD
      refine lv_goto (tgt := 129) hx hb dX2_addUp_101 (by decide) ?_
      exact W.vret hx hb hr (fun t ht hW => ⟨⟨_, rfl, ⟨aX (sf e1) (sf e2) - aX (sf e2) (sf e1), aX (sf e2) (sf e1), by omega, by omega, by rw [sm, if_neg q2, if_pos q4]⟩, wd_end hP hK hD ht hW⟩, hS.F ht⟩) hS.2.2 dX2_addUp_129
  · have q2 := tn_eq.mp q1
    refine lv_aload_n hx hb dX2_addUp_28 rfl (lv_at hl 1 rfl) ?_
    refine rg_2_top hx hb hts in2 hown hK hP 0 (by decide) cg_0 (hts _ (by decide +kernel)) dX2_addUp_29 ?_
    refine lv_aload_n hx hb dX2_addUp_32 rfl (lv_at hl 1 rfl) ?_
    refine rg_2_bottom hx hb hts in2 hown hK hP 0 (by decide) cg_0 (hts _ (by decide +kernel)) dX2_addUp_33 ?_
    refine va_callv (va_runV (As := [.ref (ad 5)]) (rest := []) ⟨hx, hb, hml, hown, hts⟩ (c_X1_add l D cA tT A 31 ad _ _ (a := 3) (o := 5) (x := aX (sf e1) (sf e2)) (y := aX (sf e2) (sf e1)) (by decide) cg_T (by decide) cg_B (by decide) (by decide) (by decide) (by omega) (by omega) (by omega)) (cwV 1 hts gX2_addUp_X1_add rfl rfl rfl (by decide +kernel) ⟨Nat.le_of_ble_eq_true rfl, Nat.le_of_ble_eq_true rfl⟩) (wd_preV (k := 3) hP hK hD hT hS (by decide) cg_T.1 rfl) rfl rfl hl.1 rfl (lv_room (Nat.le_of_ble_eq_true rfl)) dX2_addUp_36 ⟨Nat.zero_le _, Nat.zero_le _⟩) hS id_2 id_1 (fun u t H locs ht hvm hw hB hz1 hk1 hS => ?_)
    obtain ⟨hP, hD⟩ := wd_back ht hB
    clear ht hvm hB hz1 hk1
    rw [hw] at hP hD
    clear hw
    rw [cg_upT] at hP hD
    refine lv_aload_n hx hb dX2_addUp_39 rfl (lv_at hl 1 rfl) ?_
    refine rg_2_result hx hb hts in2 hown hK hP 0 (by decide) cg_0 (hts _ (by decide +kernel)) dX2_addUp_40 ?_
    refine lv_aload_n hx hb dX2_addUp_43 rfl (lv_at hl 1 rfl) ?_
    refine rg_2_top hx hb hts in2 hown hK hP 0 (by decide) cg_0 (hts _ (by decide +kernel)) dX2_addUp_44 ?_
    refine lv_aload_n hx hb dX2_addUp_47 rfl (lv_at hl 2 rfl) ?_
    refine rg_0_minus hx hb hts in0 hown hK hP (7 + 3 * e1) (by omega) (cg_d e1) (hts _ (by decide +kernel)) dX2_addUp_48 ?_
    refine lv_iload hx hb dX2_addUp_51 (lv_at hl 0 rfl) ?_
    refine va_callv (va_runV (As := [.ref (ad 3), .int (nI ((sf e1).1.toNat)), .int (iZ (max (sf e1).2.2 (sf e2).2.2))]) (rest := []) ⟨hx, hb, hml, hown, hts⟩ (c_X0_take l D cA tT A 31 ad _ _ (k := 7 + 3 * 0) (q := 3) (n := aX (sf e1) (sf e2) + aX (sf e2) (sf e1)) (d := sf 0) (b := (sf e1).1) (z := max (sf e1).2.2 (sf e2).2.2) (by decide) (by decide) (cg_D 0) cg_T (by decide) (by decide) (by decide) (by decide) (by decide) h0 (by omega)) (cwV 3 hts gX2_addUp_X0_take rfl rfl rfl (by decide +kernel) ⟨Nat.le_of_ble_eq_true rfl, Nat.le_of_ble_eq_true rfl⟩) (wd_preV (k := 7 + 3 * 0) hP hK hD hT hS (by decide) (cg_d 0) rfl) rfl rfl hl.1 rfl (lv_room (Nat.le_of_ble_eq_true rfl)) dX2_addUp_53 ⟨Nat.zero_le _, Nat.zero_le _⟩) hS id_2 id_1 (fun u t H locs ht hvm hw hB hz1 hk1 hS => ?_)
    obtain ⟨hP, hD⟩ := wd_back ht hB
    clear ht hvm hB hz1 hk1
    rw [hw] at hP hD
    clear hw
    rw [cg_upD 0] at hP hD
    refine lv_goto (tgt := 129) hx hb dX2_addUp_56 (by decide) ?_
    exact W.vret hx hb hr (fun t ht hW => ⟨⟨_, rfl, ⟨aX (sf e1) (sf e2) + aX (sf e2) (sf e1), aX (sf e2) (sf e1), by omega, by omega, by rw [sm, if_pos q2]⟩, wd_end hP hK hD ht hW⟩, hS.F ht⟩) hS.2.2 dX2_addUp_129
/-- the order of two decimals -/
def cmpD (d1 d2 : Bool × Nat × Int) : Int :=
  if sI d1 = sI d2 then (if d1.1 then odI (aX d2 d1) (aX d1 d2) else odI (aX d1 d2) (aX d2 d1)) else if sI d1 < sI d2 then -1 else 1
theorem sI_b (d : Bool × Nat × Int) : -2 < sI d ∧ sI d < 2 := by
  rw [sI]; split
  · decide
  · split <;> decide
set_option maxHeartbeats 4000000 in
set_option maxRecDepth 100000 in
/-- order -/
theorem c_X2_order (l : Launch) (D : va_G) (cA : Nat → ClassId) (tT : Nat) (A : Nat → Prop) (ad : Nat → Nat) (sz : Nat) {sf : Nat → Bool × Nat × Int} {x y : Nat} {tx : Nat → Int32} {tl : Nat} {e1 e2 : Nat} (he1 : e1 < 8) (he2 : e2 < 8) (h1 : (sf e1).2.1 < 10 ^ 190) (h2 : (sf e2).2.1 < 10 ^ 190) (b3 : -7 < (sf e1).2.2) (b4 : (sf e1).2.2 < 7) (b5 : -7 < (sf e2).2.2) (b6 : (sf e2).2.2 < 7) (hx64 : x < 1000000 ^ 64) (hy64 : y < 1000000 ^ 64) : Met l yX2_order wsX2_order ({ frames := 3, cells := 0, slots := 0, locals := 76 }) (va_Pc [.ref (ad 0), .ref (ad (7 + 3 * e1)), .ref (ad (7 + 3 * e2))] (wd_B D cA tT A 31 ad sz (cg cA ad sf x y tx tl))) (va_Qi (fun (r : Int32) (u : Nat → va_E) => r = iZ (cmpD (sf e1) (sf e2)) ∧ ∃ x1 y1, x1 < 1000000 ^ 64 ∧ y1 < 1000000 ^ 64 ∧ u = cg cA ad sf x1 y1 tx tl) (wd_E D cA A 31 ad) A) 0 0 A := by
  refine Met.ofW (cc := cX2_order) (maxL := 3) (ret := (some .int)) (by decide) rfl ?_
  intro p e s m args below meth c s₁ B hml hv
  obtain ⟨rfl, hsz, hP, hK, hD, hT⟩ := hv
  have hx := B.exec
  have hb := B.bytes
  have hr := B.returns
  have hts := atoms_spec (ws := wsX2_order) B.pre
  have hown : s.vm.findClass RX2 = some m.cls := findClass_of_methodNamed B.named
  have hlocks := B.notSynchronized
  subst hsz
  have hS : va_S A s.heap s.heap [] := va_S.rf
  have in0 : ∀ w ∈ wsX00, w ∈ wsX2_order := by decide +kernel
  have in2 : ∀ w ∈ wsX20, w ∈ wsX2_order := by decide +kernel
  have hl := lv_entry ([.ref (ad 0), .ref (ad (7 + 3 * e1)), .ref (ad (7 + 3 * e2))]) (n := 3) (Nat.le_of_ble_eq_true rfl)
  rw [lg_entry_eq]
  generalize (lg_sl ([.ref (ad 0), .ref (ad (7 + 3 * e1)), .ref (ad (7 + 3 * e2))]) ++ List.replicate (3 - (lg_sl ([.ref (ad 0), .ref (ad (7 + 3 * e1)), .ref (ad (7 + 3 * e2))])).length) Slot.unset).toArray = ls at hl ⊢
  have hl : lv_has ls 3 [(0, .ref (ad 0)), (1, .ref (ad (7 + 3 * e1))), (2, .ref (ad (7 + 3 * e2)))] := hl
  have t1 := tn_le (sf e1).1
  have i1 := sI_b (sf e1)
  have i2 := sI_b (sf e2)
  refine lv_aload_n hx hb dX2_order_0 rfl (lv_at hl 1 rfl) ?_
  refine va_calli (va_runV (As := []) (rest := []) ⟨hx, hb, hml, hown, hts⟩ (c_X0_sign l D cA tT A 31 ad _ _ (k := 7 + 3 * e1) (d := sf e1) (by omega) (cg_D e1) (c64 h1)) (cwV 0 hts gX2_order_X0_sign rfl rfl rfl (by decide +kernel) ⟨Nat.le_of_ble_eq_true rfl, Nat.le_of_ble_eq_true rfl⟩) (wd_preV (k := 7 + 3 * e1) hP hK hD hT hS (by omega) (cg_d e1) rfl) rfl rfl hl.1 rfl (lv_room (Nat.le_of_ble_eq_true rfl)) dX2_order_1 ⟨Nat.zero_le _, Nat.zero_le _⟩) hS id_2 id_1 (fun r_ u t H locs ht hvm hw hB hz1 hk1 hS => ?_)
  obtain ⟨hP, hD⟩ := wd_back ht hB
  clear ht hvm hB hz1 hk1
  obtain ⟨hr_, hu_⟩ := hw
  subst hr_
  rw [hu_] at hP hD
  clear hu_
  refine lv_aload_n hx hb dX2_order_4 rfl (lv_at hl 2 rfl) ?_
  refine va_calli (va_runV (As := []) (rest := [.int (iZ (sI (sf e1)))]) ⟨hx, hb, hml, hown, hts⟩ (c_X0_sign l D cA tT A 31 ad _ _ (k := 7 + 3 * e2) (d := sf e2) (by omega) (cg_D e2) (c64 h2)) (cwV 0 hts gX2_order_X0_sign rfl rfl rfl (by decide +kernel) ⟨Nat.le_of_ble_eq_true rfl, Nat.le_of_ble_eq_true rfl⟩) (wd_preV (k := 7 + 3 * e2) hP hK hD hT hS (by omega) (cg_d e2) rfl) rfl rfl hl.1 rfl (lv_room (Nat.le_of_ble_eq_true rfl)) dX2_order_5 ⟨Nat.zero_le _, Nat.zero_le _⟩) hS id_2 id_1 (fun r_ u t H locs ht hvm hw hB hz1 hk1 hS => ?_)
  obtain ⟨hP, hD⟩ := wd_back ht hB
  clear ht hvm hB hz1 hk1
  obtain ⟨hr_, hu_⟩ := hw
  subst hr_
  rw [hu_] at hP hD
  clear hu_
  refine bs_eq (tgt := 28) hx hb dX2_order_8 (by decide) (by omega) (by omega) (by omega) (by omega) (fun q1 => ?_) (fun q1 => ?_)
  · refine lv_aload_n hx hb dX2_order_28 rfl (lv_at hl 0 rfl) ?_
    refine lv_aload_n hx hb dX2_order_29 rfl (lv_at hl 1 rfl) ?_
    refine lv_aload_n hx hb dX2_order_30 rfl (lv_at hl 2 rfl) ?_
    refine lv_iconst (v := nI (0)) hx hb dX2_order_31 (by decide) ?_
    refine tp_i (y := iZ ((0 : Nat) : Int)) rfl ?_
    refine va_callv (va_runV (As := [.ref (ad (7 + 3 * e1)), .ref (ad (7 + 3 * e2)), .int (iZ (((0 : Nat) : Int)))]) (rest := []) ⟨hx, hb, hml, hown, hts⟩ (c_X2_align l D cA tT A ad _ (sf := sf) (x := x) (y := y) (tx := tx) (tl := tl) (e1 := e1) (e2 := e2) (sc := ((0 : Nat) : Int)) he1 he2 hx64 hy64 (c64 h1) (c64 h2) (by decide) (by decide) (by omega) (by omega) (by omega) (by omega) (by omega) (by omega) (by have := s190 h1; omega) (by have := s190 h2; omega)) (cwV 3 hts gX2_order_X2_align rfl rfl rfl (by decide +kernel) ⟨Nat.le_of_ble_eq_true rfl, Nat.le_of_ble_eq_true rfl⟩) (wd_preV (k := 0) hP hK hD hT hS (by decide) cg_0 rfl) rfl rfl hl.1 rfl (lv_room (Nat.le_of_ble_eq_true rfl)) dX2_order_32 ⟨Nat.zero_le _, Nat.zero_le _⟩) hS id_2 id_1 (fun u t H locs ht hvm hw hB hz1 hk1 hS => ?_)
    obtain ⟨hP, hD⟩ := wd_back ht hB
    clear ht hvm hB hz1 hk1
    rw [hw] at hP hD
    clear hw
    have eX : (sf e1).2.1 * 10 ^ (((0 : Nat) : Int) + (sf e2).2.2 - (sf e1).2.2).toNat = aX (sf e1) (sf e2) := by rw [aX, show (((0 : Nat) : Int) + (sf e2).2.2 - (sf e1).2.2) = (sf e2).2.2 - (sf e1).2.2 by omega]
    have eY : (sf e2).2.1 * 10 ^ (-(((0 : Nat) : Int) + (sf e2).2.2 - (sf e1).2.2)).toNat = aX (sf e2) (sf e1) := by rw [aX, show -(((0 : Nat) : Int) + (sf e2).2.2 - (sf e1).2.2) = (sf e1).2.2 - (sf e2).2.2 by omega]
    rw [eX, eY] at hP hD
    have lX := aX_lt (d1 := sf e1) (d2 := sf e2) h1 (by omega)
    have lY := aX_lt (d1 := sf e2) (d2 := sf e1) h2 (by omega)
    have l36 : 2 * 1000000 ^ 36 < 1000000 ^ 64 := by decide +kernel
    refine lv_aload_n hx hb dX2_order_35 rfl (lv_at hl 1 rfl) ?_
    refine rg_0_minus hx hb hts in0 hown hK hP (7 + 3 * e1) (by omega) (cg_d e1) (hts _ (by decide +kernel)) dX2_order_36 ?_
    refine bz_eq (tgt := 56) hx hb dX2_order_39 (by decide) (by omega) (fun q3 => ?_) (fun q3 => ?_)
    · refine lv_aload_n hx hb dX2_order_56 rfl (lv_at hl 0 rfl) ?_
      refine rg_2_top hx hb hts in2 hown hK hP 0 (by decide) cg_0 (hts _ (by decide +kernel)) dX2_order_57 ?_
      refine lv_aload_n hx hb dX2_order_60 rfl (lv_at hl 0 rfl) ?_
      refine rg_2_bottom hx hb hts in2 hown hK hP 0 (by decide) cg_0 (hts _ (by decide +kernel)) dX2_order_61 ?_
      refine va_calli (va_runV (As := [.ref (ad 5)]) (rest := []) ⟨hx, hb, hml, hown, hts⟩ (c_X1_order l D cA tT A 31 ad _ _ (a := 3) (o := 5) (x := aX (sf e1) (sf e2)) (y := aX (sf e2) (sf e1)) (by decide) (by decide) cg_T cg_B (by omega) (by omega)) (cwV 1 hts gX2_order_X1_order rfl rfl rfl (by decide +kernel) ⟨Nat.le_of_ble_eq_true rfl, Nat.le_of_ble_eq_true rfl⟩) (wd_preV (k := 3) hP hK hD hT hS (by decide) cg_T.1 rfl) rfl rfl hl.1 rfl (lv_room (Nat.le_of_ble_eq_true rfl)) dX2_order_64 ⟨Nat.zero_le _, Nat.zero_le _⟩) hS id_2 id_1 (fun r_ u t H locs ht hvm hw hB hz1 hk1 hS => ?_)
      obtain ⟨hP, hD⟩ := wd_back ht hB
      clear ht hvm hB hz1 hk1
      obtain ⟨hr_, hu_⟩ := hw
      subst hr_
      rw [hu_] at hP hD
      clear hu_
      refine tp_i (y := iZ (odI (aX (sf e1) (sf e2)) (aX (sf e2) (sf e1)))) (od_iZ _ _) ?_
      exact W.iret (v := iZ (odI (aX (sf e1) (sf e2)) (aX (sf e2) (sf e1)))) hx hb hr (fun t ht hW => ⟨⟨iZ (odI (aX (sf e1) (sf e2)) (aX (sf e2) (sf e1))), _, rfl, ⟨by rw [cmpD, if_pos q1, tn_z q3]; rfl, aX (sf e1) (sf e2), aX (sf e2) (sf e1), by omega, by omega, rfl⟩, wd_end hP hK hD ht hW⟩, hS.F ht⟩) hS.2.2 dX2_order_67
    · refine lv_aload_n hx hb dX2_order_42 rfl (lv_at hl 0 rfl) ?_
      refine rg_2_bottom hx hb hts in2 hown hK hP 0 (by decide) cg_0 (hts _ (by decide +kernel)) dX2_order_43 ?_
      refine lv_aload_n hx hb dX2_order_46 rfl (lv_at hl 0 rfl) ?_
      refine rg_2_top hx hb hts in2 hown hK hP 0 (by decide) cg_0 (hts _ (by decide +kernel)) dX2_order_47 ?_
      refine va_calli (va_runV (As := [.ref (ad 3)]) (rest := []) ⟨hx, hb, hml, hown, hts⟩ (c_X1_order l D cA tT A 31 ad _ _ (a := 5) (o := 3) (x := aX (sf e2) (sf e1)) (y := aX (sf e1) (sf e2)) (by decide) (by decide) cg_B cg_T (by omega) (by omega)) (cwV 1 hts gX2_order_X1_order rfl rfl rfl (by decide +kernel) ⟨Nat.le_of_ble_eq_true rfl, Nat.le_of_ble_eq_true rfl⟩) (wd_preV (k := 5) hP hK hD hT hS (by decide) cg_B.1 rfl) rfl rfl hl.1 rfl (lv_room (Nat.le_of_ble_eq_true rfl)) dX2_order_50 ⟨Nat.zero_le _, Nat.zero_le _⟩) hS id_2 id_1 (fun r_ u t H locs ht hvm hw hB hz1 hk1 hS => ?_)
      obtain ⟨hP, hD⟩ := wd_back ht hB
      clear ht hvm hB hz1 hk1
      obtain ⟨hr_, hu_⟩ := hw
      subst hr_
      rw [hu_] at hP hD
      clear hu_
      refine tp_i (y := iZ (odI (aX (sf e2) (sf e1)) (aX (sf e1) (sf e2)))) (od_iZ _ _) ?_
      refine lv_goto (tgt := 67) hx hb dX2_order_53 (by decide) ?_
      exact W.iret (v := iZ (odI (aX (sf e2) (sf e1)) (aX (sf e1) (sf e2)))) hx hb hr (fun t ht hW => ⟨⟨iZ (odI (aX (sf e2) (sf e1)) (aX (sf e1) (sf e2))), _, rfl, ⟨by rw [cmpD, if_pos q1, tn_nz q3]; rfl, aX (sf e1) (sf e2), aX (sf e2) (sf e1), by omega, by omega, rfl⟩, wd_end hP hK hD ht hW⟩, hS.F ht⟩) hS.2.2 dX2_order_67
  · refine lv_aload_n hx hb dX2_order_11 rfl (lv_at hl 1 rfl) ?_
    refine va_calli (va_runV (As := []) (rest := []) ⟨hx, hb, hml, hown, hts⟩ (c_X0_sign l D cA tT A 31 ad _ _ (k := 7 + 3 * e1) (d := sf e1) (by omega) (cg_D e1) (c64 h1)) (cwV 0 hts gX2_order_X0_sign rfl rfl rfl (by decide +kernel) ⟨Nat.le_of_ble_eq_true rfl, Nat.le_of_ble_eq_true rfl⟩) (wd_preV (k := 7 + 3 * e1) hP hK hD hT hS (by omega) (cg_d e1) rfl) rfl rfl hl.1 rfl (lv_room (Nat.le_of_ble_eq_true rfl)) dX2_order_12 ⟨Nat.zero_le _, Nat.zero_le _⟩) hS id_2 id_1 (fun r_ u t H locs ht hvm hw hB hz1 hk1 hS => ?_)
    obtain ⟨hP, hD⟩ := wd_back ht hB
    clear ht hvm hB hz1 hk1
    obtain ⟨hr_, hu_⟩ := hw
    subst hr_
    rw [hu_] at hP hD
    clear hu_
    refine lv_aload_n hx hb dX2_order_15 rfl (lv_at hl 2 rfl) ?_
    refine va_calli (va_runV (As := []) (rest := [.int (iZ (sI (sf e1)))]) ⟨hx, hb, hml, hown, hts⟩ (c_X0_sign l D cA tT A 31 ad _ _ (k := 7 + 3 * e2) (d := sf e2) (by omega) (cg_D e2) (c64 h2)) (cwV 0 hts gX2_order_X0_sign rfl rfl rfl (by decide +kernel) ⟨Nat.le_of_ble_eq_true rfl, Nat.le_of_ble_eq_true rfl⟩) (wd_preV (k := 7 + 3 * e2) hP hK hD hT hS (by omega) (cg_d e2) rfl) rfl rfl hl.1 rfl (lv_room (Nat.le_of_ble_eq_true rfl)) dX2_order_16 ⟨Nat.zero_le _, Nat.zero_le _⟩) hS id_2 id_1 (fun r_ u t H locs ht hvm hw hB hz1 hk1 hS => ?_)
    obtain ⟨hP, hD⟩ := wd_back ht hB
    clear ht hvm hB hz1 hk1
    obtain ⟨hr_, hu_⟩ := hw
    subst hr_
    rw [hu_] at hP hD
    clear hu_
    refine bs_ge (tgt := 26) hx hb dX2_order_19 (by decide) (by omega) (by omega) (by omega) (by omega) (fun q2 => ?_) (fun q2 => ?_)
    · refine lv_iconst (v := nI (1)) hx hb dX2_order_26 (by decide) ?_
      refine tp_i (y := iZ 1) rfl ?_
      exact W.iret (v := iZ (1)) hx hb hr (fun t ht hW => ⟨⟨iZ (1), _, rfl, ⟨by rw [cmpD, if_neg q1, if_neg (by omega)], x, y, hx64, hy64, rfl⟩, wd_end hP hK hD ht hW⟩, hS.F ht⟩) hS.2.2 dX2_order_27
    · refine lv_iconst (v := iZ (-1)) hx hb dX2_order_22 (by decide) ?_
      refine lv_goto (tgt := 27) hx hb dX2_order_23 (by decide) ?_
      exact W.iret (v := iZ (-1)) hx hb hr (fun t ht hW => ⟨⟨iZ (-1), _, rfl, ⟨by rw [cmpD, if_neg q1, if_pos (by omega)], x, y, hx64, hy64, rfl⟩, wd_end hP hK hD ht hW⟩, hS.F ht⟩) hS.2.2 dX2_order_27
