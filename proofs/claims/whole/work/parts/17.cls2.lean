/-- the order of two numbers -/
def odI (x y : Nat) : Int := if x < y then -1 else if x = y then 0 else 1
theorem od_iZ (x y : Nat) : od x y = iZ (odI x y) := by
  rw [od, odI]
  by_cases h : x < y
  · rw [if_pos h, if_pos h]
  · rw [if_neg h, if_neg h]
    by_cases h2 : x = y
    · rw [if_pos h2, if_pos h2]; rfl
    · rw [if_neg h2, if_neg h2]; rfl
theorem odI_b (x y : Nat) : -2 < odI x y ∧ odI x y < 2 := by
  rw [odI]
  split
  · decide
  · split <;> decide
def awB (way : Int) (b : Bool) (hf : Int) (n : Nat) : Bool := decide (way = 0 ∨ (way = 2 ∧ b = false) ∨ (way = 3 ∧ b = true) ∨ (way = 4 ∧ 0 ≤ hf) ∨ (way = 5 ∧ 0 < hf) ∨ (way = 6 ∧ (0 < hf ∨ (hf = 0 ∧ n % 2 = 1))))
theorem awB_t {way : Int} {b : Bool} {hf : Int} {n : Nat} (h : aw way b hf n) : awB way b hf n = true := by rw [awB]; exact decide_eq_true h
theorem awB_f {way : Int} {b : Bool} {hf : Int} {n : Nat} (h : ¬ aw way b hf n) : awB way b hf n = false := by rw [awB]; exact decide_eq_false h
/-- what settle does: its answer, the decimals, the top -/
def stl (sf : Nat → Bool × Nat × Int) (x y : Nat) (way : Int) : Nat × (Nat → Bool × Nat × Int) × Nat :=
  if x = 0 then (1, sf, x) else if way = 7 then (0, sf, x) else (1, if awB way (sf 0).1 (odI (x + x) y) (sf 0).2.1 then va_up sf 0 ((sf 0).1, (sf 0).2.1 + 1, (sf 0).2.2) else sf, x + x)
set_option maxHeartbeats 4000000 in
set_option maxRecDepth 100000 in
/-- settle -/
theorem c_X2_settle (l : Launch) (D : va_G) (cA : Nat → ClassId) (tT : Nat) (A : Nat → Prop) (ad : Nat → Nat) (sz : Nat) {sf : Nat → Bool × Nat × Int} {x y : Nat} {tx : Nat → Int32} {tl : Nat} {way : Int} (w1 : 0 ≤ way) (w2 : way ≤ 7) (hx2 : x + x < 1000000 ^ 64) (hy64 : y < 1000000 ^ 64) (h0 : (sf 0).2.1 + 1 < 1000000 ^ 64) (h1 : sf 1 = (false, 1, 0)) : Met l yX2_settle wsX2_settle ({ frames := 2, cells := 0, slots := 0, locals := 50 }) (va_Pc [.ref (ad 0), .int (iZ (way))] (wd_B D cA tT A 31 ad sz (cg cA ad sf x y tx tl))) (va_Qi (fun (r : Int32) (u : Nat → va_E) => r = nI (stl sf x y way).1 ∧ u = cg cA ad (stl sf x y way).2.1 (stl sf x y way).2.2 y tx tl) (wd_E D cA A 31 ad) A) 0 0 A := by
  refine Met.ofW (cc := cX2_settle) (maxL := 2) (ret := (some .boolean)) (by decide) rfl ?_
  intro p e s m args below meth c s₁ B hml hv
  obtain ⟨rfl, hsz, hP, hK, hD, hT⟩ := hv
  have hx := B.exec
  have hb := B.bytes
  have hr := B.returns
  have hts := atoms_spec (ws := wsX2_settle) B.pre
  have hown : s.vm.findClass RX2 = some m.cls := findClass_of_methodNamed B.named
  have hlocks := B.notSynchronized
  subst hsz
  have hS : va_S A s.heap s.heap [] := va_S.rf
  have in0 : ∀ w ∈ wsX00, w ∈ wsX2_settle := by decide +kernel
  have in2 : ∀ w ∈ wsX20, w ∈ wsX2_settle := by decide +kernel
  have hl := lv_entry ([.ref (ad 0), .int (iZ (way))]) (n := 2) (Nat.le_of_ble_eq_true rfl)
  rw [lg_entry_eq]
  generalize (lg_sl ([.ref (ad 0), .int (iZ (way))]) ++ List.replicate (2 - (lg_sl ([.ref (ad 0), .int (iZ (way))])).length) Slot.unset).toArray = ls at hl ⊢
  have hl : lv_has ls 2 [(0, .ref (ad 0)), (1, .int (iZ (way)))] := hl
  have hx64 : x < 1000000 ^ 64 := by omega
  have h064 : (sf 0).2.1 < 1000000 ^ 64 := by omega
  refine lv_aload_n hx hb dX2_settle_0 rfl (lv_at hl 0 rfl) ?_
  refine rg_2_top hx hb hts in2 hown hK hP 0 (by decide) cg_0 (hts _ (by decide +kernel)) dX2_settle_1 ?_
  refine va_calli (va_runV (As := []) (rest := []) ⟨hx, hb, hml, hown, hts⟩ (c_X1_isZero l D cA tT A 31 ad _ _ (a := 3) (x := x) (by decide) cg_T hx64) (cwV 0 hts gX2_settle_X1_isZero rfl rfl rfl (by decide +kernel) ⟨Nat.le_of_ble_eq_true rfl, Nat.le_of_ble_eq_true rfl⟩) (wd_preV (k := 3) hP hK hD hT hS (by decide) cg_T.1 rfl) rfl rfl hl.1 rfl (lv_room (Nat.le_of_ble_eq_true rfl)) dX2_settle_4 ⟨Nat.zero_le _, Nat.zero_le _⟩) hS id_2 id_1 (fun r_ u t H locs ht hvm hw hB hz1 hk1 hS => ?_)
  obtain ⟨hP, hD⟩ := wd_back ht hB
  clear ht hvm hB hz1 hk1
  obtain ⟨hr_, hu_⟩ := hw
  subst hr_
  rw [hu_] at hP hD
  clear hu_
  refine bz_eq (tgt := 12) hx hb dX2_settle_7 (by decide) it_lt (fun q1 => ?_) (fun q1 => ?_)
  · have hx0 := it_eq q1
    refine lv_iload_n hx hb dX2_settle_12 rfl (lv_at hl 1 rfl) ?_
    refine lv_bipush (v := nI (7)) hx hb dX2_settle_13 (by decide) ?_
    refine tp_i (y := iZ ((7 : Nat) : Int)) (iZ_nat _) ?_
    refine bs_ne (tgt := 20) hx hb dX2_settle_15 (by decide) (by omega) (by omega) (by omega) (by omega) (fun q2 => ?_) (fun q2 => ?_)
    · have ho := odI_b (x + x) y
      refine lv_aload_n hx hb dX2_settle_20 rfl (lv_at hl 0 rfl) ?_
      refine rg_2_top hx hb hts in2 hown hK hP 0 (by decide) cg_0 (hts _ (by decide +kernel)) dX2_settle_21 ?_
      refine lv_aload_n hx hb dX2_settle_24 rfl (lv_at hl 0 rfl) ?_
      refine rg_2_top hx hb hts in2 hown hK hP 0 (by decide) cg_0 (hts _ (by decide +kernel)) dX2_settle_25 ?_
      refine va_callv (va_runV (As := [.ref (ad 3)]) (rest := []) ⟨hx, hb, hml, hown, hts⟩ (c_X1_addSelf l D cA tT A 31 ad _ _ (a := 3) (x := x) (by decide) cg_T hx64 hx2) (cwV 1 hts gX2_settle_X1_add rfl rfl rfl (by decide +kernel) ⟨Nat.le_of_ble_eq_true rfl, Nat.le_of_ble_eq_true rfl⟩) (wd_preV (k := 3) hP hK hD hT hS (by decide) cg_T.1 rfl) rfl rfl hl.1 rfl (lv_room (Nat.le_of_ble_eq_true rfl)) dX2_settle_28 ⟨Nat.zero_le _, Nat.zero_le _⟩) hS id_2 id_1 (fun u t H locs ht hvm hw hB hz1 hk1 hS => ?_)
      obtain ⟨hP, hD⟩ := wd_back ht hB
      clear ht hvm hB hz1 hk1
      rw [hw] at hP hD
      clear hw
      rw [cg_upT] at hP hD
      refine lv_aload_n hx hb dX2_settle_31 rfl (lv_at hl 0 rfl) ?_
      refine lv_iload_n hx hb dX2_settle_32 rfl (lv_at hl 1 rfl) ?_
      refine lv_aload_n hx hb dX2_settle_33 rfl (lv_at hl 0 rfl) ?_
      refine rg_2_top hx hb hts in2 hown hK hP 0 (by decide) cg_0 (hts _ (by decide +kernel)) dX2_settle_34 ?_
      refine lv_aload_n hx hb dX2_settle_37 rfl (lv_at hl 0 rfl) ?_
      refine rg_2_bottom hx hb hts in2 hown hK hP 0 (by decide) cg_0 (hts _ (by decide +kernel)) dX2_settle_38 ?_
      refine va_calli (va_runV (As := [.ref (ad 5)]) (rest := [.int (iZ (way)), .ref (ad 0)]) ⟨hx, hb, hml, hown, hts⟩ (c_X1_order l D cA tT A 31 ad _ _ (a := 3) (o := 5) (x := x + x) (y := y) (by decide) (by decide) cg_T cg_B hx2 hy64) (cwV 1 hts gX2_settle_X1_order rfl rfl rfl (by decide +kernel) ⟨Nat.le_of_ble_eq_true rfl, Nat.le_of_ble_eq_true rfl⟩) (wd_preV (k := 3) hP hK hD hT hS (by decide) cg_T.1 rfl) rfl rfl hl.1 rfl (lv_room (Nat.le_of_ble_eq_true rfl)) dX2_settle_41 ⟨Nat.zero_le _, Nat.zero_le _⟩) hS id_2 id_1 (fun r_ u t H locs ht hvm hw hB hz1 hk1 hS => ?_)
      obtain ⟨hP, hD⟩ := wd_back ht hB
      clear ht hvm hB hz1 hk1
      obtain ⟨hr_, hu_⟩ := hw
      subst hr_
      rw [hu_] at hP hD
      clear hu_
      refine tp_i (y := iZ (odI (x + x) y)) (od_iZ _ _) ?_
      refine va_calli (va_runV (As := [.int (iZ (way)), .int (iZ (odI (x + x) y))]) (rest := []) ⟨hx, hb, hml, hown, hts⟩ (c_X2_isAwayFromZero l D cA tT A ad _ (sf := sf) (x := x + x) (y := y) (tx := tx) (tl := tl) (way := way) (hf := odI (x + x) y) h064 w1 (by omega) ho.1 ho.2) (cwV 2 hts gX2_settle_X2_isAwayFromZero rfl rfl rfl (by decide +kernel) ⟨Nat.le_of_ble_eq_true rfl, Nat.le_of_ble_eq_true rfl⟩) (wd_preV (k := 0) hP hK hD hT hS (by decide) cg_0 rfl) rfl rfl hl.1 rfl (lv_room (Nat.le_of_ble_eq_true rfl)) dX2_settle_44 ⟨Nat.zero_le _, Nat.zero_le _⟩) hS id_2 id_1 (fun r_ u t H locs ht hvm hw hB hz1 hk1 hS => ?_)
      obtain ⟨hP, hD⟩ := wd_back ht hB
      clear ht hvm hB hz1 hk1
      obtain ⟨hr_, hu_⟩ := hw
      rw [hu_] at hP hD
      clear hu_
      rcases hr_ with ⟨hr1, haw⟩ | ⟨hr1, haw⟩
      · subst hr1
        refine bz_eq (tgt := 67) hx hb dX2_settle_47 (by decide) (by omega) (fun q3 => ?_) (fun q3 => ?_)
        · exact absurd q3 (by decide)
        · have hs : stl sf x y way = (1, va_up sf 0 ((sf 0).1, (sf 0).2.1 + 1, (sf 0).2.2), x + x) := by rw [stl, if_neg hx0, if_neg (by omega), awB_t haw]; rfl
          have h11 : (sf 1).2.1 = 1 := by rw [h1]
          refine lv_aload_n hx hb dX2_settle_50 rfl (lv_at hl 0 rfl) ?_
          refine rg_2_result hx hb hts in2 hown hK hP 0 (by decide) cg_0 (hts _ (by decide +kernel)) dX2_settle_51 ?_
          refine rg_0_digits hx hb hts in0 hown hK hP (7 + 3 * 0) (by omega) (cg_d 0) (hts _ (by decide +kernel)) dX2_settle_54 ?_
          refine lv_aload_n hx hb dX2_settle_57 rfl (lv_at hl 0 rfl) ?_
          refine rg_2_one hx hb hts in2 hown hK hP 0 (by decide) cg_0 (hts _ (by decide +kernel)) dX2_settle_58 ?_
          refine rg_0_digits hx hb hts in0 hown hK hP (7 + 3 * 1) (by omega) (cg_d 1) (hts _ (by decide +kernel)) dX2_settle_61 ?_
          refine va_callv (va_runV (As := [.ref (ad (7 + 3 * 1 + 1))]) (rest := []) ⟨hx, hb, hml, hown, hts⟩ (c_X1_add l D cA tT A 31 ad _ _ (a := 7 + 3 * 0 + 1) (o := 7 + 3 * 1 + 1) (x := (sf 0).2.1) (y := (sf 1).2.1) (by decide) (cg_n 0) (by decide) (cg_n 1) (by decide) (by decide) (by decide) h064 (by rw [h11]; decide) (by rw [h11]; exact h0)) (cwV 1 hts gX2_settle_X1_add rfl rfl rfl (by decide +kernel) ⟨Nat.le_of_ble_eq_true rfl, Nat.le_of_ble_eq_true rfl⟩) (wd_preV (k := 7 + 3 * 0 + 1) hP hK hD hT hS (by decide) (cg_n 0).1 rfl) rfl rfl hl.1 rfl (lv_room (Nat.le_of_ble_eq_true rfl)) dX2_settle_64 ⟨Nat.zero_le _, Nat.zero_le _⟩) hS id_2 id_1 (fun u t H locs ht hvm hw hB hz1 hk1 hS => ?_)
          obtain ⟨hP, hD⟩ := wd_back ht hB
          clear ht hvm hB hz1 hk1
          rw [hw] at hP hD
          clear hw
          rw [cg_upN 0, h11] at hP hD
          refine lv_iconst (v := nI (1)) hx hb dX2_settle_67 (by decide) ?_
          exact W.zret (v := nI (1)) hx hb hr rfl (fun t ht hW => ⟨⟨nI (1), _, rfl, ⟨by rw [hs], by rw [hs]⟩, wd_end hP hK hD ht hW⟩, hS.F ht⟩) hS.2.2 dX2_settle_68
      · subst hr1
        refine bz_eq (tgt := 67) hx hb dX2_settle_47 (by decide) (by omega) (fun q3 => ?_) (fun q3 => ?_)
        · have hs : stl sf x y way = (1, sf, x + x) := by rw [stl, if_neg hx0, if_neg (by omega), awB_f haw]; rfl
          refine lv_iconst (v := nI (1)) hx hb dX2_settle_67 (by decide) ?_
          exact W.zret (v := nI (1)) hx hb hr rfl (fun t ht hW => ⟨⟨nI (1), _, rfl, ⟨by rw [hs], by rw [hs]⟩, wd_end hP hK hD ht hW⟩, hS.F ht⟩) hS.2.2 dX2_settle_68
        · exact absurd rfl q3
    · have hs : stl sf x y way = (0, sf, x) := by rw [stl, if_neg hx0, if_pos (by omega)]
      refine lv_iconst (v := nI (0)) hx hb dX2_settle_18 (by decide) ?_
      exact W.zret (v := nI (0)) hx hb hr rfl (fun t ht hW => ⟨⟨nI (0), _, rfl, ⟨by rw [hs], by rw [hs]⟩, wd_end hP hK hD ht hW⟩, hS.F ht⟩) hS.2.2 dX2_settle_19
  · have hs : stl sf x y way = (1, sf, x) := by rw [stl, if_pos (it_ne q1)]
    refine lv_iconst (v := nI (1)) hx hb dX2_settle_10 (by decide) ?_
    exact W.zret (v := nI (1)) hx hb hr rfl (fun t ht hW => ⟨⟨nI (1), _, rfl, ⟨by rw [hs], by rw [hs]⟩, wd_end hP hK hD ht hW⟩, hS.F ht⟩) hS.2.2 dX2_settle_11
/-- the decimals behind split -/
def spl (sf : Nat → Bool × Nat × Int) (e1 e2 : Nat) (sc : Int) : Nat → Bool × Nat × Int := va_up sf 0 ((sf e1).1 != (sf e2).1, ((sf e1).2.1 * 10 ^ (sc + (sf e2).2.2 - (sf e1).2.2).toNat) / ((sf e2).2.1 * 10 ^ (-(sc + (sf e2).2.2 - (sf e1).2.2)).toNat), sc)
/-- the quotient kept: the answer and the decimals -/
def kq (sf : Nat → Bool × Nat × Int) (k e1 e2 : Nat) (sc way : Int) : Int32 × (Nat → Bool × Nat × Int) :=
  if -6 ≤ sc ∧ sc ≤ 6 then (if (stl (spl sf e1 e2 sc) (((sf e1).2.1 * 10 ^ (sc + (sf e2).2.2 - (sf e1).2.2).toNat) % ((sf e2).2.1 * 10 ^ (-(sc + (sf e2).2.2 - (sf e1).2.2)).toNat)) ((sf e2).2.1 * 10 ^ (-(sc + (sf e2).2.2 - (sf e1).2.2)).toNat) way).1 = 0 then (iZ (-4), (stl (spl sf e1 e2 sc) (((sf e1).2.1 * 10 ^ (sc + (sf e2).2.2 - (sf e1).2.2).toNat) % ((sf e2).2.1 * 10 ^ (-(sc + (sf e2).2.2 - (sf e1).2.2)).toNat)) ((sf e2).2.1 * 10 ^ (-(sc + (sf e2).2.2 - (sf e1).2.2)).toNat) way).2.1) else kp (stl (spl sf e1 e2 sc) (((sf e1).2.1 * 10 ^ (sc + (sf e2).2.2 - (sf e1).2.2).toNat) % ((sf e2).2.1 * 10 ^ (-(sc + (sf e2).2.2 - (sf e1).2.2)).toNat)) ((sf e2).2.1 * 10 ^ (-(sc + (sf e2).2.2 - (sf e1).2.2)).toNat) way).2.1 k) else (iZ (-3), sf)
theorem stl_0 (sf : Nat → Bool × Nat × Int) (x y : Nat) (way : Int) (e : Nat) (he : e ≠ 0) : (stl sf x y way).2.1 e = sf e := by
  rw [stl]
  split
  · rfl
  · split
    · rfl
    · simp only
      split
      · exact va_up_ne _ _ he
      · rfl
theorem stl_z (sf : Nat → Bool × Nat × Int) (x y : Nat) (way : Int) : ((stl sf x y way).2.1 0).2.2 = (sf 0).2.2 ∧ ((stl sf x y way).2.1 0).2.1 ≤ (sf 0).2.1 + 1 ∧ (stl sf x y way).2.2 ≤ x + x ∧ (stl sf x y way).1 < 2 := by
  rw [stl]
  split
  · simp
  · split
    · simp
    · simp only
      split
      · rw [va_up_self]; simp
      · simp
set_option maxHeartbeats 4000000 in
set_option maxRecDepth 100000 in
/-- keepQuotient -/
theorem c_X2_keepQuotient (l : Launch) (D : va_G) (cA : Nat → ClassId) (tT : Nat) (A : Nat → Prop) (ad : Nat → Nat) (sz : Nat) {sf : Nat → Bool × Nat × Int} {x y : Nat} {tx : Nat → Int32} {tl : Nat} {k e1 e2 : Nat} {sc way : Int} (he1 : e1 < 8) (he2 : e2 < 8) (hx64 : x < 1000000 ^ 64) (hy64 : y < 1000000 ^ 64) (h1 : (sf e1).2.1 < 1000000 ^ 64) (h2 : (sf e2).2.1 < 1000000 ^ 64) (b1 : -2147483648 ≤ sc) (b2 : sc < 2147483648) (b3 : -1000 < (sf e1).2.2) (b4 : (sf e1).2.2 < 1000) (b5 : -1000 < (sf e2).2.2) (b6 : (sf e2).2.2 < 1000) (hAB : -6 ≤ sc → sc ≤ 6 → (sc + (sf e2).2.2 - (sf e1).2.2).toNat < 1000 ∧ (-(sc + (sf e2).2.2 - (sf e1).2.2)).toNat < 1000 ∧ nd_s (sf e1).2.1 + (sc + (sf e2).2.2 - (sf e1).2.2).toNat / 6 < 62 ∧ nd_s (sf e2).2.1 + (-(sc + (sf e2).2.2 - (sf e1).2.2)).toNat / 6 < 62) (h0 : (sf 0).2.1 < 1000000 ^ 64) (hn0 : (sf e2).2.1 ≠ 0) (hk : k < 6) (hkk : (sf (2 + k)).2.1 < 1000000 ^ 64) (w1 : 0 ≤ way) (w2 : way ≤ 7) (h1s : sf 1 = (false, 1, 0)) : Met l yX2_keepQuotient wsX2_keepQuotient ({ frames := 5, cells := 0, slots := 0, locals := 105 }) (va_Pc [.ref (ad 0), .int (nI (k)), .ref (ad (7 + 3 * e1)), .ref (ad (7 + 3 * e2)), .int (iZ (sc)), .int (iZ (way))] (wd_B D cA tT A 31 ad sz (cg cA ad sf x y tx tl))) (va_Qi (fun (r : Int32) (u : Nat → va_E) => r = (kq sf k e1 e2 sc way).1 ∧ ∃ x1 y1, x1 < 1000000 ^ 64 ∧ y1 < 1000000 ^ 64 ∧ ((kq sf k e1 e2 sc way).2 0).2.1 < 1000000 ^ 64 ∧ u = cg cA ad (kq sf k e1 e2 sc way).2 x1 y1 tx tl) (wd_E D cA A 31 ad) A) 0 0 A := by
  refine Met.ofW (cc := cX2_keepQuotient) (maxL := 6) (ret := (some .int)) (by decide) rfl ?_
  intro p e s m args below meth c s₁ B hml hv
  obtain ⟨rfl, hsz, hP, hK, hD, hT⟩ := hv
  have hx := B.exec
  have hb := B.bytes
  have hr := B.returns
  have hts := atoms_spec (ws := wsX2_keepQuotient) B.pre
  have hown : s.vm.findClass RX2 = some m.cls := findClass_of_methodNamed B.named
  have hlocks := B.notSynchronized
  subst hsz
  have hS : va_S A s.heap s.heap [] := va_S.rf
  have in0 : ∀ w ∈ wsX00, w ∈ wsX2_keepQuotient := by decide +kernel
  have in2 : ∀ w ∈ wsX20, w ∈ wsX2_keepQuotient := by decide +kernel
  have hl := lv_entry ([.ref (ad 0), .int (nI (k)), .ref (ad (7 + 3 * e1)), .ref (ad (7 + 3 * e2)), .int (iZ (sc)), .int (iZ (way))]) (n := 6) (Nat.le_of_ble_eq_true rfl)
  rw [lg_entry_eq]
  generalize (lg_sl ([.ref (ad 0), .int (nI (k)), .ref (ad (7 + 3 * e1)), .ref (ad (7 + 3 * e2)), .int (iZ (sc)), .int (iZ (way))]) ++ List.replicate (6 - (lg_sl ([.ref (ad 0), .int (nI (k)), .ref (ad (7 + 3 * e1)), .ref (ad (7 + 3 * e2)), .int (iZ (sc)), .int (iZ (way))])).length) Slot.unset).toArray = ls at hl ⊢
  have hl : lv_has ls 6 [(0, .ref (ad 0)), (1, .int (nI (k))), (2, .ref (ad (7 + 3 * e1))), (3, .ref (ad (7 + 3 * e2))), (4, .int (iZ (sc))), (5, .int (iZ (way)))] := hl
  refine lv_iload hx hb dX2_keepQuotient_0 (lv_at hl 4 rfl) ?_
  refine va_calli (va_runS (As := [.int (iZ (sc))]) (rest := []) ⟨hx, hb, hml, hown, hts⟩ (c_X2_isScale l D cA tT A 31 ad _ _ (k := sc) (by omega) (by omega)) (va_cwS 1 hts gX2_keepQuotient_X2_isScale rfl rfl rfl (by decide +kernel) ⟨Nat.le_of_ble_eq_true rfl, Nat.le_of_ble_eq_true rfl⟩) (wd_preS hP hK hD hT hS) rfl rfl hl.1 rfl (lv_room (Nat.le_of_ble_eq_true rfl)) dX2_keepQuotient_2 ⟨Nat.zero_le _, Nat.zero_le _⟩) hS id_2 id_1 (fun r_ u t H locs ht hvm hw hB hz1 hk1 hS => ?_)
  obtain ⟨hP, hD⟩ := wd_back ht hB
  clear ht hvm hB hz1 hk1
  obtain ⟨hr_, hu_⟩ := hw
  subst hr_
  rw [hu_] at hP hD
  clear hu_
  refine bz_ne (tgt := 11) hx hb dX2_keepQuotient_5 (by decide) it_lt (fun q1 => ?_) (fun q1 => ?_)
  · have q2 := it_ne q1
    obtain ⟨hA, hB, hA2, hB2⟩ := hAB q2.1 q2.2
    have hX9 := (nd_r10 (x := (sf e1).2.1) (P := (sc + (sf e2).2.2 - (sf e1).2.2).toNat) (by omega)).2 (by omega)
    have hY9 := (nd_r10 (x := (sf e2).2.1) (P := (-(sc + (sf e2).2.2 - (sf e1).2.2)).toNat) (by omega)).2 (by omega)
    refine lv_aload_n hx hb dX2_keepQuotient_11 rfl (lv_at hl 0 rfl) ?_
    refine lv_aload_n hx hb dX2_keepQuotient_12 rfl (lv_at hl 2 rfl) ?_
    refine lv_aload_n hx hb dX2_keepQuotient_13 rfl (lv_at hl 3 rfl) ?_
    refine lv_iload hx hb dX2_keepQuotient_14 (lv_at hl 4 rfl) ?_
    refine va_callv (va_runV (As := [.ref (ad (7 + 3 * e1)), .ref (ad (7 + 3 * e2)), .int (iZ (sc))]) (rest := []) ⟨hx, hb, hml, hown, hts⟩ (c_X2_split l D cA tT A ad _ (sf := sf) (x := x) (y := y) (tx := tx) (tl := tl) (e1 := e1) (e2 := e2) (sc := sc) he1 he2 hx64 hy64 h1 h2 (by omega) (by omega) b3 b4 b5 b6 hA hB (by omega) (by omega) h0 hn0 (by omega)) (cwV 3 hts gX2_keepQuotient_X2_split rfl rfl rfl (by decide +kernel) ⟨Nat.le_of_ble_eq_true rfl, Nat.le_of_ble_eq_true rfl⟩) (wd_preV (k := 0) hP hK hD hT hS (by decide) cg_0 rfl) rfl rfl hl.1 rfl (lv_room (Nat.le_of_ble_eq_true rfl)) dX2_keepQuotient_16 ⟨Nat.zero_le _, Nat.zero_le _⟩) hS id_2 id_1 (fun u t H locs ht hvm hw hB hz1 hk1 hS => ?_)
    obtain ⟨hP, hD⟩ := wd_back ht hB
    clear ht hvm hB hz1 hk1
    rw [hw] at hP hD
    clear hw
    generalize hXe : ((sf e1).2.1 * 10 ^ (sc + (sf e2).2.2 - (sf e1).2.2).toNat) = Xv at *
    generalize hYe : ((sf e2).2.1 * 10 ^ (-(sc + (sf e2).2.2 - (sf e1).2.2)).toNat) = Yv at *
    have hYp : 0 < Yv := by rw [← hYe]; exact Nat.mul_pos (Nat.pos_of_ne_zero hn0) (Nat.pow_pos (by decide))
    have hXb : Xv < 1000000 ^ 63 := nd_s_iff.mp (by omega)
    have hYb : Yv < 1000000 ^ 63 := nd_s_iff.mp (by omega)
    have hQb : Xv / Yv ≤ Xv := Nat.div_le_self _ _
    have hMb : Xv % Yv < Yv := Nat.mod_lt _ hYp
    have h63 : 2 * 1000000 ^ 63 < 1000000 ^ 64 := by decide +kernel
    have hsp : va_up sf 0 ((sf e1).1 != (sf e2).1, Xv / Yv, sc) = spl sf e1 e2 sc := by rw [spl, hXe, hYe]
    rw [hsp] at hP hD
    have hs0 : spl sf e1 e2 sc 0 = ((sf e1).1 != (sf e2).1, Xv / Yv, sc) := by rw [← hsp, va_up_self]
    have hsn : ∀ e, e ≠ 0 → spl sf e1 e2 sc e = sf e := fun e he => by rw [← hsp, va_up_ne _ _ he]
    refine lv_aload_n hx hb dX2_keepQuotient_19 rfl (lv_at hl 0 rfl) ?_
    refine lv_iload hx hb dX2_keepQuotient_20 (lv_at hl 5 rfl) ?_
    refine va_calli (va_runV (As := [.int (iZ (way))]) (rest := []) ⟨hx, hb, hml, hown, hts⟩ (c_X2_settle l D cA tT A ad _ (sf := spl sf e1 e2 sc) (x := Xv % Yv) (y := Yv) (tx := tx) (tl := tl) (way := way) w1 w2 (by omega) (by omega) (by rw [hs0]; show Xv / Yv + 1 < 1000000 ^ 64; omega) (by rw [hsn 1 (by decide)]; exact h1s)) (cwV 1 hts gX2_keepQuotient_X2_settle rfl rfl rfl (by decide +kernel) ⟨Nat.le_of_ble_eq_true rfl, Nat.le_of_ble_eq_true rfl⟩) (wd_preV (k := 0) hP hK hD hT hS (by decide) cg_0 rfl) rfl rfl hl.1 rfl (lv_room (Nat.le_of_ble_eq_true rfl)) dX2_keepQuotient_22 ⟨Nat.zero_le _, Nat.zero_le _⟩) hS id_2 id_1 (fun r_ u t H locs ht hvm hw hB hz1 hk1 hS => ?_)
    obtain ⟨hP, hD⟩ := wd_back ht hB
    clear ht hvm hB hz1 hk1
    obtain ⟨hr_, hu_⟩ := hw
    subst hr_
    rw [hu_] at hP hD
    clear hu_
    have hz := stl_z (spl sf e1 e2 sc) (Xv % Yv) Yv way
    have hz0 := stl_0 (spl sf e1 e2 sc) (Xv % Yv) Yv way
    rw [hs0] at hz
    simp only at hz
    have hkq : kq sf k e1 e2 sc way = (if (stl (spl sf e1 e2 sc) (Xv % Yv) Yv way).1 = 0 then (iZ (-4), (stl (spl sf e1 e2 sc) (Xv % Yv) Yv way).2.1) else kp (stl (spl sf e1 e2 sc) (Xv % Yv) Yv way).2.1 k) := by rw [kq, if_pos q2, hXe, hYe]
    generalize hS9 : stl (spl sf e1 e2 sc) (Xv % Yv) Yv way = S9 at *
    obtain ⟨a9, s9, x9⟩ := S9
    simp only at *
    refine bz_eq (tgt := 36) hx hb dX2_keepQuotient_25 (by decide) (by omega) (fun q3 => ?_) (fun q3 => ?_)
    · rw [if_pos q3] at hkq
      refine lv_bipush (v := iZ (-4)) hx hb dX2_keepQuotient_36 (by decide) ?_
      exact W.iret (v := iZ (-4)) hx hb hr (fun t ht hW => ⟨⟨iZ (-4), _, rfl, ⟨by rw [hkq], x9, Yv, by omega, by omega, by rw [hkq]; show (s9 0).2.1 < _; omega, by rw [hkq]⟩, wd_end hP hK hD ht hW⟩, hS.F ht⟩) hS.2.2 dX2_keepQuotient_38
    · rw [if_neg q3] at hkq
      refine lv_aload_n hx hb dX2_keepQuotient_28 rfl (lv_at hl 0 rfl) ?_
      refine lv_iload_n hx hb dX2_keepQuotient_29 rfl (lv_at hl 1 rfl) ?_
      refine va_calli (va_runV (As := [.int (nI (k))]) (rest := []) ⟨hx, hb, hml, hown, hts⟩ (c_X2_keep l D cA tT A ad _ (sf := s9) (x := x9) (y := Yv) (tx := tx) (tl := tl) (k := k) hk (by omega) (by rw [hz0 _ (by omega), hsn _ (by omega)]; exact hkk) (by omega) (by omega)) (cwV 1 hts gX2_keepQuotient_X2_keep rfl rfl rfl (by decide +kernel) ⟨Nat.le_of_ble_eq_true rfl, Nat.le_of_ble_eq_true rfl⟩) (wd_preV (k := 0) hP hK hD hT hS (by decide) cg_0 rfl) rfl rfl hl.1 rfl (lv_room (Nat.le_of_ble_eq_true rfl)) dX2_keepQuotient_30 ⟨Nat.zero_le _, Nat.zero_le _⟩) hS id_2 id_1 (fun r_ u t H locs ht hvm hw hB hz1 hk1 hS => ?_)
      obtain ⟨hP, hD⟩ := wd_back ht hB
      clear ht hvm hB hz1 hk1
      obtain ⟨hr_, hu_⟩ := hw
      subst hr_
      rw [hu_] at hP hD
      clear hu_
      have hk0 : ((kp s9 k).2 0).2.1 < 1000000 ^ 64 := by
        rw [kp]
        split
        · show (s9 0).2.1 < _; omega
        · show (va_up s9 (2 + k) _ 0).2.1 < _; rw [va_up_ne _ _ (by omega)]; omega
      refine lv_goto (tgt := 38) hx hb dX2_keepQuotient_33 (by decide) ?_
      exact W.iret (v := (kp s9 k).1) hx hb hr (fun t ht hW => ⟨⟨(kp s9 k).1, _, rfl, ⟨by rw [hkq], x9, Yv, by omega, by omega, by rw [hkq]; exact hk0, by rw [hkq]⟩, wd_end hP hK hD ht hW⟩, hS.F ht⟩) hS.2.2 dX2_keepQuotient_38
  · have hq : kq sf k e1 e2 sc way = (iZ (-3), sf) := by rw [kq, if_neg (it_eq q1)]
    refine lv_bipush (v := iZ (-3)) hx hb dX2_keepQuotient_8 (by decide) ?_
    exact W.iret (v := iZ (-3)) hx hb hr (fun t ht hW => ⟨⟨iZ (-3), _, rfl, ⟨by rw [hq], x, y, hx64, hy64, by rw [hq]; exact h0, by rw [hq]⟩, wd_end hP hK hD ht hW⟩, hS.F ht⟩) hS.2.2 dX2_keepQuotient_10
