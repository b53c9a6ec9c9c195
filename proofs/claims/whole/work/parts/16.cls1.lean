theorem it_ne {c : Prop} [Decidable c] (h : (if c then 1 else 0 : Nat) ≠ 0) : c := by
  by_cases q : c
  · exact q
  · rw [if_neg q] at h; exact absurd rfl h
theorem it_eq {c : Prop} [Decidable c] (h : (if c then 1 else 0 : Nat) = 0) : ¬ c := by
  intro q; rw [if_pos q] at h; exact absurd h (by decide)
theorem it_lt {c : Prop} [Decidable c] : (if c then 1 else 0 : Nat) < 2 ^ 31 := by split <;> decide
theorem iZ_tn {p : Int} (h : 0 ≤ p) : iZ p = nI p.toNat := by
  rw [iZ_nat]; congr 1; omega
theorem ne_tn (a b : Bool) : (a != b) = !decide (a.toNat = b.toNat) := by cases a <;> cases b <;> decide
set_option maxHeartbeats 4000000 in
set_option maxRecDepth 100000 in
/-- isRegister -/
theorem c_X2_isRegister (l : Launch) (D : va_G) (cA : Nat → ClassId) (tT : Nat) (A : Nat → Prop) (N : Nat) (ad : Nat → Nat) (sz : Nat) (g : Nat → va_E) {k : Int} (hk1 : -2147483648 ≤ k) (hk2 : k < 2147483648) : Met l yX2_isRegister wsX2_isRegister ({ frames := 0, cells := 0, slots := 0, locals := 0 }) (va_Pc [.int (iZ (k))] (wd_B D cA tT A N ad sz g)) (va_Qi (fun (r : Int32) (u : Nat → va_E) => r = nI (if 0 ≤ k ∧ k < 6 then 1 else 0) ∧ u = g) (wd_E D cA A N ad) A) 0 0 A := by
  refine Met.ofW (cc := cX2_isRegister) (maxL := 1) (ret := (some .boolean)) (by decide) rfl ?_
  intro p e s m args below meth c s₁ B hml hv
  obtain ⟨rfl, hsz, hP, hK, hD, hT⟩ := hv
  have hx := B.exec
  have hb := B.bytes
  have hr := B.returns
  have hts := atoms_spec (ws := wsX2_isRegister) B.pre
  have hown : s.vm.findClass RX2 = some m.cls := findClass_of_methodNamed B.named
  have hlocks := B.notSynchronized
  subst hsz
  have hS : va_S A s.heap s.heap [] := va_S.rf
  have hl := lv_entry ([.int (iZ (k))]) (n := 1) (Nat.le_of_ble_eq_true rfl)
  rw [lg_entry_eq]
  generalize (lg_sl ([.int (iZ (k))]) ++ List.replicate (1 - (lg_sl ([.int (iZ (k))])).length) Slot.unset).toArray = ls at hl ⊢
  have hl : lv_has ls 1 [(0, .int (iZ (k)))] := hl
  refine lv_iload_n hx hb dX2_isRegister_0 rfl (lv_at hl 0 rfl) ?_
  refine by_lt (tgt := 14) hx hb dX2_isRegister_1 (by decide) (by omega) (by omega) (fun q1 => ?_) (fun q1 => ?_)
  · refine lv_iconst (v := nI (0)) hx hb dX2_isRegister_14 (by decide) ?_
    exact W.zret (v := nI (0)) hx hb hr rfl (fun t ht hW => ⟨⟨nI (0), g, rfl, ⟨by rw [if_neg (by omega)], rfl⟩, wd_end hP hK hD ht hW⟩, hS.F ht⟩) hS.2.2 dX2_isRegister_15
  · refine lv_iload_n hx hb dX2_isRegister_4 rfl (lv_at hl 0 rfl) ?_
    refine lv_bipush (v := nI (6)) hx hb dX2_isRegister_5 (by decide) ?_
    refine tp_i (y := iZ ((6 : Nat) : Int)) (iZ_nat _) ?_
    refine bs_ge (tgt := 14) hx hb dX2_isRegister_7 (by decide) (by omega) (by omega) (by omega) (by omega) (fun q2 => ?_) (fun q2 => ?_)
    · refine lv_iconst (v := nI (0)) hx hb dX2_isRegister_14 (by decide) ?_
      exact W.zret (v := nI (0)) hx hb hr rfl (fun t ht hW => ⟨⟨nI (0), g, rfl, ⟨by rw [if_neg (by omega)], rfl⟩, wd_end hP hK hD ht hW⟩, hS.F ht⟩) hS.2.2 dX2_isRegister_15
    · refine lv_iconst (v := nI (1)) hx hb dX2_isRegister_10 (by decide) ?_
      refine lv_goto (tgt := 15) hx hb dX2_isRegister_11 (by decide) ?_
      exact W.zret (v := nI (1)) hx hb hr rfl (fun t ht hW => ⟨⟨nI (1), g, rfl, ⟨by rw [if_pos (by omega)], rfl⟩, wd_end hP hK hD ht hW⟩, hS.F ht⟩) hS.2.2 dX2_isRegister_15
set_option maxHeartbeats 4000000 in
set_option maxRecDepth 100000 in
/-- isWay -/
theorem c_X2_isWay (l : Launch) (D : va_G) (cA : Nat → ClassId) (tT : Nat) (A : Nat → Prop) (N : Nat) (ad : Nat → Nat) (sz : Nat) (g : Nat → va_E) {k : Int} (hk1 : -2147483648 ≤ k) (hk2 : k < 2147483648) : Met l yX2_isWay wsX2_isWay ({ frames := 0, cells := 0, slots := 0, locals := 0 }) (va_Pc [.int (iZ (k))] (wd_B D cA tT A N ad sz g)) (va_Qi (fun (r : Int32) (u : Nat → va_E) => r = nI (if 0 ≤ k ∧ k ≤ 7 then 1 else 0) ∧ u = g) (wd_E D cA A N ad) A) 0 0 A := by
  refine Met.ofW (cc := cX2_isWay) (maxL := 1) (ret := (some .boolean)) (by decide) rfl ?_
  intro p e s m args below meth c s₁ B hml hv
  obtain ⟨rfl, hsz, hP, hK, hD, hT⟩ := hv
  have hx := B.exec
  have hb := B.bytes
  have hr := B.returns
  have hts := atoms_spec (ws := wsX2_isWay) B.pre
  have hown : s.vm.findClass RX2 = some m.cls := findClass_of_methodNamed B.named
  have hlocks := B.notSynchronized
  subst hsz
  have hS : va_S A s.heap s.heap [] := va_S.rf
  have hl := lv_entry ([.int (iZ (k))]) (n := 1) (Nat.le_of_ble_eq_true rfl)
  rw [lg_entry_eq]
  generalize (lg_sl ([.int (iZ (k))]) ++ List.replicate (1 - (lg_sl ([.int (iZ (k))])).length) Slot.unset).toArray = ls at hl ⊢
  have hl : lv_has ls 1 [(0, .int (iZ (k)))] := hl
  refine lv_iload_n hx hb dX2_isWay_0 rfl (lv_at hl 0 rfl) ?_
  refine by_lt (tgt := 14) hx hb dX2_isWay_1 (by decide) (by omega) (by omega) (fun q1 => ?_) (fun q1 => ?_)
  · refine lv_iconst (v := nI (0)) hx hb dX2_isWay_14 (by decide) ?_
    exact W.zret (v := nI (0)) hx hb hr rfl (fun t ht hW => ⟨⟨nI (0), g, rfl, ⟨by rw [if_neg (by omega)], rfl⟩, wd_end hP hK hD ht hW⟩, hS.F ht⟩) hS.2.2 dX2_isWay_15
  · refine lv_iload_n hx hb dX2_isWay_4 rfl (lv_at hl 0 rfl) ?_
    refine lv_bipush (v := nI (7)) hx hb dX2_isWay_5 (by decide) ?_
    refine tp_i (y := iZ ((7 : Nat) : Int)) (iZ_nat _) ?_
    refine bs_gt (tgt := 14) hx hb dX2_isWay_7 (by decide) (by omega) (by omega) (by omega) (by omega) (fun q2 => ?_) (fun q2 => ?_)
    · refine lv_iconst (v := nI (0)) hx hb dX2_isWay_14 (by decide) ?_
      exact W.zret (v := nI (0)) hx hb hr rfl (fun t ht hW => ⟨⟨nI (0), g, rfl, ⟨by rw [if_neg (by omega)], rfl⟩, wd_end hP hK hD ht hW⟩, hS.F ht⟩) hS.2.2 dX2_isWay_15
    · refine lv_iconst (v := nI (1)) hx hb dX2_isWay_10 (by decide) ?_
      refine lv_goto (tgt := 15) hx hb dX2_isWay_11 (by decide) ?_
      exact W.zret (v := nI (1)) hx hb hr rfl (fun t ht hW => ⟨⟨nI (1), g, rfl, ⟨by rw [if_pos (by omega)], rfl⟩, wd_end hP hK hD ht hW⟩, hS.F ht⟩) hS.2.2 dX2_isWay_15
set_option maxHeartbeats 4000000 in
set_option maxRecDepth 100000 in
/-- isScale -/
theorem c_X2_isScale (l : Launch) (D : va_G) (cA : Nat → ClassId) (tT : Nat) (A : Nat → Prop) (N : Nat) (ad : Nat → Nat) (sz : Nat) (g : Nat → va_E) {k : Int} (hk1 : -2147483648 ≤ k) (hk2 : k < 2147483648) : Met l yX2_isScale wsX2_isScale ({ frames := 0, cells := 0, slots := 0, locals := 0 }) (va_Pc [.int (iZ (k))] (wd_B D cA tT A N ad sz g)) (va_Qi (fun (r : Int32) (u : Nat → va_E) => r = nI (if -6 ≤ k ∧ k ≤ 6 then 1 else 0) ∧ u = g) (wd_E D cA A N ad) A) 0 0 A := by
  refine Met.ofW (cc := cX2_isScale) (maxL := 1) (ret := (some .boolean)) (by decide) rfl ?_
  intro p e s m args below meth c s₁ B hml hv
  obtain ⟨rfl, hsz, hP, hK, hD, hT⟩ := hv
  have hx := B.exec
  have hb := B.bytes
  have hr := B.returns
  have hts := atoms_spec (ws := wsX2_isScale) B.pre
  have hown : s.vm.findClass RX2 = some m.cls := findClass_of_methodNamed B.named
  have hlocks := B.notSynchronized
  subst hsz
  have hS : va_S A s.heap s.heap [] := va_S.rf
  have hl := lv_entry ([.int (iZ (k))]) (n := 1) (Nat.le_of_ble_eq_true rfl)
  rw [lg_entry_eq]
  generalize (lg_sl ([.int (iZ (k))]) ++ List.replicate (1 - (lg_sl ([.int (iZ (k))])).length) Slot.unset).toArray = ls at hl ⊢
  have hl : lv_has ls 1 [(0, .int (iZ (k)))] := hl
  refine lv_iload_n hx hb dX2_isScale_0 rfl (lv_at hl 0 rfl) ?_
  refine lv_bipush (v := iZ (-6)) hx hb dX2_isScale_1 (by decide) ?_
  refine bs_lt (tgt := 16) hx hb dX2_isScale_3 (by decide) (by omega) (by omega) (by omega) (by omega) (fun q1 => ?_) (fun q1 => ?_)
  · refine lv_iconst (v := nI (0)) hx hb dX2_isScale_16 (by decide) ?_
    exact W.zret (v := nI (0)) hx hb hr rfl (fun t ht hW => ⟨⟨nI (0), g, rfl, ⟨by rw [if_neg (by omega)], rfl⟩, wd_end hP hK hD ht hW⟩, hS.F ht⟩) hS.2.2 dX2_isScale_17
  · refine lv_iload_n hx hb dX2_isScale_6 rfl (lv_at hl 0 rfl) ?_
    refine lv_bipush (v := nI (6)) hx hb dX2_isScale_7 (by decide) ?_
    refine tp_i (y := iZ ((6 : Nat) : Int)) (iZ_nat _) ?_
    refine bs_gt (tgt := 16) hx hb dX2_isScale_9 (by decide) (by omega) (by omega) (by omega) (by omega) (fun q2 => ?_) (fun q2 => ?_)
    · refine lv_iconst (v := nI (0)) hx hb dX2_isScale_16 (by decide) ?_
      exact W.zret (v := nI (0)) hx hb hr rfl (fun t ht hW => ⟨⟨nI (0), g, rfl, ⟨by rw [if_neg (by omega)], rfl⟩, wd_end hP hK hD ht hW⟩, hS.F ht⟩) hS.2.2 dX2_isScale_17
    · refine lv_iconst (v := nI (1)) hx hb dX2_isScale_12 (by decide) ?_
      refine lv_goto (tgt := 17) hx hb dX2_isScale_13 (by decide) ?_
      exact W.zret (v := nI (1)) hx hb hr rfl (fun t ht hW => ⟨⟨nI (1), g, rfl, ⟨by rw [if_pos (by omega)], rfl⟩, wd_end hP hK hD ht hW⟩, hS.F ht⟩) hS.2.2 dX2_isScale_17
/-- what is kept: the precision and the new decimals, or FULL -/
def kp (sf : Nat → Bool × Nat × Int) (k : Nat) : Int32 × (Nat → Bool × Nat × Int) :=
  if 190 < nd_p (sf 0).2.1 ∨ ¬ (-6 ≤ (sf 0).2.2 ∧ (sf 0).2.2 ≤ 6) then (iZ (-3), sf) else (nI (nd_p (sf 0).2.1), va_up sf (2 + k) (sn (sf 0).1 (sf 0).2.1, (sf 0).2))
set_option maxHeartbeats 4000000 in
set_option maxRecDepth 100000 in
/-- keep -/
theorem c_X2_keep (l : Launch) (D : va_G) (cA : Nat → ClassId) (tT : Nat) (A : Nat → Prop) (ad : Nat → Nat) (sz : Nat) {sf : Nat → Bool × Nat × Int} {x y : Nat} {tx : Nat → Int32} {tl : Nat} {k : Nat} (hk : k < 6) (h0 : (sf 0).2.1 < 1000000 ^ 64) (hkk : (sf (2 + k)).2.1 < 1000000 ^ 64) (hz1 : -2147483648 ≤ (sf 0).2.2) (hz2 : (sf 0).2.2 < 2147483648) : Met l yX2_keep wsX2_keep ({ frames := 4, cells := 0, slots := 0, locals := 83 }) (va_Pc [.ref (ad 0), .int (nI (k))] (wd_B D cA tT A 31 ad sz (cg cA ad sf x y tx tl))) (va_Qi (fun (r : Int32) (u : Nat → va_E) => r = (kp sf k).1 ∧ u = cg cA ad (kp sf k).2 x y tx tl) (wd_E D cA A 31 ad) A) 0 0 A := by
  refine Met.ofW (cc := cX2_keep) (maxL := 3) (ret := (some .int)) (by decide) rfl ?_
  intro p e s m args below meth c s₁ B hml hv
  obtain ⟨rfl, hsz, hP, hK, hD, hT⟩ := hv
  have hx := B.exec
  have hb := B.bytes
  have hr := B.returns
  have hts := atoms_spec (ws := wsX2_keep) B.pre
  have hown : s.vm.findClass RX2 = some m.cls := findClass_of_methodNamed B.named
  have hlocks := B.notSynchronized
  subst hsz
  have hS : va_S A s.heap s.heap [] := va_S.rf
  have in0 : ∀ w ∈ wsX00, w ∈ wsX2_keep := by decide +kernel
  have in2 : ∀ w ∈ wsX20, w ∈ wsX2_keep := by decide +kernel
  have hl := lv_entry ([.ref (ad 0), .int (nI (k))]) (n := 3) (Nat.le_of_ble_eq_true rfl)
  rw [lg_entry_eq]
  generalize (lg_sl ([.ref (ad 0), .int (nI (k))]) ++ List.replicate (3 - (lg_sl ([.ref (ad 0), .int (nI (k))])).length) Slot.unset).toArray = ls at hl ⊢
  have hl : lv_has ls 3 [(0, .ref (ad 0)), (1, .int (nI (k)))] := hl
  have hp31 : nd_p (sf 0).2.1 < 2 ^ 31 := by
    have : nd_p (sf 0).2.1 ≤ 384 := (nd_p_le (by decide)).mpr (by rw [show (10 : Nat) ^ 384 = 1000000 ^ 64 by decide +kernel]; exact h0)
    omega
  refine lv_aload_n hx hb dX2_keep_0 rfl (lv_at hl 0 rfl) ?_
  refine rg_2_result hx hb hts in2 hown hK hP 0 (by decide) cg_0 (hts _ (by decide +kernel)) dX2_keep_1 ?_
  refine rg_0_digits hx hb hts in0 hown hK hP (7 + 3 * 0) (by omega) (cg_d 0) (hts _ (by decide +kernel)) dX2_keep_4 ?_
  refine va_calli (va_runV (As := []) (rest := []) ⟨hx, hb, hml, hown, hts⟩ (c_X1_precision l D cA tT A 31 ad _ _ (a := 7 + 3 * 0 + 1) (x := (sf 0).2.1) (by decide) (cg_n 0) h0) (cwV 0 hts gX2_keep_X1_precision rfl rfl rfl (by decide +kernel) ⟨Nat.le_of_ble_eq_true rfl, Nat.le_of_ble_eq_true rfl⟩) (wd_preV (k := 7 + 3 * 0 + 1) hP hK hD hT hS (by decide) (cg_n 0).1 rfl) rfl rfl hl.1 rfl (lv_room (Nat.le_of_ble_eq_true rfl)) dX2_keep_7 ⟨Nat.zero_le _, Nat.zero_le _⟩) hS id_2 id_1 (fun r_ u t H locs ht hvm hw hB hz1 hk1 hS => ?_)
  obtain ⟨hP, hD⟩ := wd_back ht hB
  clear ht hvm hB hz1 hk1
  obtain ⟨hr_, hu_⟩ := hw
  subst hr_
  rw [hu_] at hP hD
  clear hu_
  refine lv_istore_n (lv' := [(2, .int (nI (nd_p (sf 0).2.1))), (0, .ref (ad 0)), (1, .int (nI (k)))]) hx hb dX2_keep_10 rfl hl (by decide) rfl (fun ls hl => ?_)
  refine lv_iload_n hx hb dX2_keep_11 rfl (lv_at hl 0 rfl) ?_
  refine lv_sipush (v := nI (190)) hx hb dX2_keep_12 (by decide) ?_
  refine bi_gt (tgt := 31) hx hb dX2_keep_15 (by decide) (by omega) (by omega) (fun q1 => ?_) (fun q1 => ?_)
  · refine lv_bipush (v := iZ (-3)) hx hb dX2_keep_31 (by decide) ?_
    exact W.iret (v := iZ (-3)) hx hb hr (fun t ht hW => ⟨⟨iZ (-3), _, rfl, ⟨by rw [kp, if_pos (Or.inl (by omega))], by rw [kp, if_pos (Or.inl (by omega))]⟩, wd_end hP hK hD ht hW⟩, hS.F ht⟩) hS.2.2 dX2_keep_33
  · refine lv_aload_n hx hb dX2_keep_18 rfl (lv_at hl 1 rfl) ?_
    refine rg_2_result hx hb hts in2 hown hK hP 0 (by decide) cg_0 (hts _ (by decide +kernel)) dX2_keep_19 ?_
    refine rg_0_scale hx hb hts in0 hown hK hP (7 + 3 * 0) (by omega) (cg_d 0) (hts _ (by decide +kernel)) dX2_keep_22 ?_
    refine va_calli (va_runS (As := [.int (iZ ((sf 0).2.2))]) (rest := []) ⟨hx, hb, hml, hown, hts⟩ (c_X2_isScale l D cA tT A 31 ad _ _ (k := (sf 0).2.2) (by omega) (by omega)) (va_cwS 1 hts gX2_keep_X2_isScale rfl rfl rfl (by decide +kernel) ⟨Nat.le_of_ble_eq_true rfl, Nat.le_of_ble_eq_true rfl⟩) (wd_preS hP hK hD hT hS) rfl rfl hl.1 rfl (lv_room (Nat.le_of_ble_eq_true rfl)) dX2_keep_25 ⟨Nat.zero_le _, Nat.zero_le _⟩) hS id_2 id_1 (fun r_ u t H locs ht hvm hw hB hz1 hk1 hS => ?_)
    obtain ⟨hP, hD⟩ := wd_back ht hB
    clear ht hvm hB hz1 hk1
    obtain ⟨hr_, hu_⟩ := hw
    subst hr_
    rw [hu_] at hP hD
    clear hu_
    refine bz_ne (tgt := 34) hx hb dX2_keep_28 (by decide) it_lt (fun q2 => ?_) (fun q2 => ?_)
    · have q3 := it_ne q2
      have hkp : kp sf k = (nI (nd_p (sf 0).2.1), va_up sf (2 + k) (sn (sf 0).1 (sf 0).2.1, (sf 0).2)) := by rw [kp, if_neg (fun h => h.elim (by omega) (fun h => h q3))]
      refine lv_aload_n hx hb dX2_keep_34 rfl (lv_at hl 1 rfl) ?_
      refine rg_2_registers hx hb hts in2 hown hK hP 0 (by decide) cg_0 (hts _ (by decide +kernel)) dX2_keep_35 ?_
      refine lv_iload_n hx hb dX2_keep_38 rfl (lv_at hl 2 rfl) ?_
      refine rn_q1 hx hb hK hP 1 (by decide) cg_1 (by omega) (by decide) dX2_keep_39 ?_
      refine tp_v (y := .ref (ad (7 + 3 * (2 + k)))) rfl ?_
      refine lv_aload_n hx hb dX2_keep_40 rfl (lv_at hl 1 rfl) ?_
      refine rg_2_result hx hb hts in2 hown hK hP 0 (by decide) cg_0 (hts _ (by decide +kernel)) dX2_keep_41 ?_
      refine va_callv (va_runV (As := [.ref (ad (7 + 3 * 0))]) (rest := []) ⟨hx, hb, hml, hown, hts⟩ (c_X0_become l D cA tT A 31 ad _ _ (k := 7 + 3 * (2 + k)) (k2 := 7 + 3 * 0) (d := sf (2 + k)) (d2 := sf 0) (by omega) (by decide) (cg_D _) (cg_D 0) (by omega) hkk h0) (cwV 1 hts gX2_keep_X0_become rfl rfl rfl (by decide +kernel) ⟨Nat.le_of_ble_eq_true rfl, Nat.le_of_ble_eq_true rfl⟩) (wd_preV (k := 7 + 3 * (2 + k)) hP hK hD hT hS (by omega) (cg_d _) rfl) rfl rfl hl.1 rfl (lv_room (Nat.le_of_ble_eq_true rfl)) dX2_keep_44 ⟨Nat.zero_le _, Nat.zero_le _⟩) hS id_2 id_1 (fun u t H locs ht hvm hw hB hz1 hk1 hS => ?_)
      obtain ⟨hP, hD⟩ := wd_back ht hB
      clear ht hvm hB hz1 hk1
      rw [hw] at hP hD
      clear hw
      rw [cg_upD] at hP hD
      refine lv_iload_n hx hb dX2_keep_47 rfl (lv_at hl 0 rfl) ?_
      exact W.iret (v := nI (nd_p (sf 0).2.1)) hx hb hr (fun t ht hW => ⟨⟨nI (nd_p (sf 0).2.1), _, rfl, ⟨by rw [hkp], by rw [hkp]⟩, wd_end hP hK hD ht hW⟩, hS.F ht⟩) hS.2.2 dX2_keep_48
    · refine lv_bipush (v := iZ (-3)) hx hb dX2_keep_31 (by decide) ?_
      exact W.iret (v := iZ (-3)) hx hb hr (fun t ht hW => ⟨⟨iZ (-3), _, rfl, ⟨by rw [kp, if_pos (Or.inr (it_eq q2))], by rw [kp, if_pos (Or.inr (it_eq q2))]⟩, wd_end hP hK hD ht hW⟩, hS.F ht⟩) hS.2.2 dX2_keep_33
set_option maxHeartbeats 4000000 in
set_option maxRecDepth 100000 in
/-- align -/
theorem c_X2_align (l : Launch) (D : va_G) (cA : Nat → ClassId) (tT : Nat) (A : Nat → Prop) (ad : Nat → Nat) (sz : Nat) {sf : Nat → Bool × Nat × Int} {x y : Nat} {tx : Nat → Int32} {tl : Nat} {e1 e2 : Nat} {sc : Int} (he1 : e1 < 8) (he2 : e2 < 8) (hx64 : x < 1000000 ^ 64) (hy64 : y < 1000000 ^ 64) (h1 : (sf e1).2.1 < 1000000 ^ 64) (h2 : (sf e2).2.1 < 1000000 ^ 64) (b1 : -1000 < sc) (b2 : sc < 1000) (b3 : -1000 < (sf e1).2.2) (b4 : (sf e1).2.2 < 1000) (b5 : -1000 < (sf e2).2.2) (b6 : (sf e2).2.2 < 1000) (hA : (sc + (sf e2).2.2 - (sf e1).2.2).toNat < 1000) (hB : (-(sc + (sf e2).2.2 - (sf e1).2.2)).toNat < 1000) (hA2 : nd_s (sf e1).2.1 + (sc + (sf e2).2.2 - (sf e1).2.2).toNat / 6 < 64) (hB2 : nd_s (sf e2).2.1 + (-(sc + (sf e2).2.2 - (sf e1).2.2)).toNat / 6 < 64) : Met l yX2_align wsX2_align ({ frames := 2, cells := 0, slots := 0, locals := 52 }) (va_Pc [.ref (ad 0), .ref (ad (7 + 3 * e1)), .ref (ad (7 + 3 * e2)), .int (iZ (sc))] (wd_B D cA tT A 31 ad sz (cg cA ad sf x y tx tl))) (va_Qv (fun (u : Nat → va_E) => u = cg cA ad sf ((sf e1).2.1 * 10 ^ (sc + (sf e2).2.2 - (sf e1).2.2).toNat) ((sf e2).2.1 * 10 ^ (-(sc + (sf e2).2.2 - (sf e1).2.2)).toNat) tx tl) (wd_E D cA A 31 ad) A) 0 0 A := by
  refine Met.ofW (cc := cX2_align) (maxL := 5) (ret := none) (by decide) rfl ?_
  intro p e s m args below meth c s₁ B hml hv
  obtain ⟨rfl, hsz, hP, hK, hD, hT⟩ := hv
  have hx := B.exec
  have hb := B.bytes
  have hr := B.returns
  have hts := atoms_spec (ws := wsX2_align) B.pre
  have hown : s.vm.findClass RX2 = some m.cls := findClass_of_methodNamed B.named
  have hlocks := B.notSynchronized
  subst hsz
  have hS : va_S A s.heap s.heap [] := va_S.rf
  have in0 : ∀ w ∈ wsX00, w ∈ wsX2_align := by decide +kernel
  have in2 : ∀ w ∈ wsX20, w ∈ wsX2_align := by decide +kernel
  have hl := lv_entry ([.ref (ad 0), .ref (ad (7 + 3 * e1)), .ref (ad (7 + 3 * e2)), .int (iZ (sc))]) (n := 5) (Nat.le_of_ble_eq_true rfl)
  rw [lg_entry_eq]
  generalize (lg_sl ([.ref (ad 0), .ref (ad (7 + 3 * e1)), .ref (ad (7 + 3 * e2)), .int (iZ (sc))]) ++ List.replicate (5 - (lg_sl ([.ref (ad 0), .ref (ad (7 + 3 * e1)), .ref (ad (7 + 3 * e2)), .int (iZ (sc))])).length) Slot.unset).toArray = ls at hl ⊢
  have hl : lv_has ls 5 [(0, .ref (ad 0)), (1, .ref (ad (7 + 3 * e1))), (2, .ref (ad (7 + 3 * e2))), (3, .int (iZ (sc)))] := hl
  refine lv_iload_n hx hb dX2_align_0 rfl (lv_at hl 3 rfl) ?_
  refine lv_aload_n hx hb dX2_align_1 rfl (lv_at hl 2 rfl) ?_
  refine rg_0_scale hx hb hts in0 hown hK hP (7 + 3 * e2) (by omega) (cg_d e2) (hts _ (by decide +kernel)) dX2_align_2 ?_
  refine lv_iadd hx hb dX2_align_5 ?_
  refine tp_i (y := iZ (sc + ((sf e2).2.2))) (iZ_add _ _) ?_
  refine lv_aload_n hx hb dX2_align_6 rfl (lv_at hl 1 rfl) ?_
  refine rg_0_scale hx hb hts in0 hown hK hP (7 + 3 * e1) (by omega) (cg_d e1) (hts _ (by decide +kernel)) dX2_align_7 ?_
  refine lv_isub hx hb dX2_align_10 ?_
  refine tp_i (y := iZ ((sc + ((sf e2).2.2)) - ((sf e1).2.2))) (iZ_sub _ _) ?_
  refine lv_istore (lv' := [(4, .int (iZ ((sc + ((sf e2).2.2)) - ((sf e1).2.2)))), (0, .ref (ad 0)), (1, .ref (ad (7 + 3 * e1))), (2, .ref (ad (7 + 3 * e2))), (3, .int (iZ (sc)))]) hx hb dX2_align_11 hl (by decide) rfl (fun ls hl => ?_)
  refine lv_aload_n hx hb dX2_align_13 rfl (lv_at hl 1 rfl) ?_
  refine rg_2_top hx hb hts in2 hown hK hP 0 (by decide) cg_0 (hts _ (by decide +kernel)) dX2_align_14 ?_
  refine lv_aload_n hx hb dX2_align_17 rfl (lv_at hl 2 rfl) ?_
  refine rg_0_digits hx hb hts in0 hown hK hP (7 + 3 * e1) (by omega) (cg_d e1) (hts _ (by decide +kernel)) dX2_align_18 ?_
  refine va_callv (va_runV (As := [.ref (ad (7 + 3 * e1 + 1))]) (rest := []) ⟨hx, hb, hml, hown, hts⟩ (c_X1_become l D cA tT A 31 ad _ _ (a := 3) (b := 7 + 3 * e1 + 1) (x := x) (y := (sf e1).2.1) (by decide) (by omega) cg_T (cg_n e1) hx64 h1 (by omega) (by omega) (by omega)) (cwV 1 hts gX2_align_X1_become rfl rfl rfl (by decide +kernel) ⟨Nat.le_of_ble_eq_true rfl, Nat.le_of_ble_eq_true rfl⟩) (wd_preV (k := 3) hP hK hD hT hS (by decide) cg_T.1 rfl) rfl rfl hl.1 rfl (lv_room (Nat.le_of_ble_eq_true rfl)) dX2_align_21 ⟨Nat.zero_le _, Nat.zero_le _⟩) hS id_2 id_1 (fun u t H locs ht hvm hw hB hz1 hk1 hS => ?_)
  obtain ⟨hP, hD⟩ := wd_back ht hB
  clear ht hvm hB hz1 hk1
  rw [hw] at hP hD
  clear hw
  rw [cg_upT] at hP hD
  refine lv_aload_n hx hb dX2_align_24 rfl (lv_at hl 1 rfl) ?_
  refine rg_2_bottom hx hb hts in2 hown hK hP 0 (by decide) cg_0 (hts _ (by decide +kernel)) dX2_align_25 ?_
  refine lv_aload_n hx hb dX2_align_28 rfl (lv_at hl 3 rfl) ?_
  refine rg_0_digits hx hb hts in0 hown hK hP (7 + 3 * e2) (by omega) (cg_d e2) (hts _ (by decide +kernel)) dX2_align_29 ?_
  refine va_callv (va_runV (As := [.ref (ad (7 + 3 * e2 + 1))]) (rest := []) ⟨hx, hb, hml, hown, hts⟩ (c_X1_become l D cA tT A 31 ad _ _ (a := 5) (b := 7 + 3 * e2 + 1) (x := y) (y := (sf e2).2.1) (by decide) (by omega) cg_B (cg_n e2) hy64 h2 (by omega) (by omega) (by omega)) (cwV 1 hts gX2_align_X1_become rfl rfl rfl (by decide +kernel) ⟨Nat.le_of_ble_eq_true rfl, Nat.le_of_ble_eq_true rfl⟩) (wd_preV (k := 5) hP hK hD hT hS (by decide) cg_B.1 rfl) rfl rfl hl.1 rfl (lv_room (Nat.le_of_ble_eq_true rfl)) dX2_align_32 ⟨Nat.zero_le _, Nat.zero_le _⟩) hS id_2 id_1 (fun u t H locs ht hvm hw hB hz1 hk1 hS => ?_)
  obtain ⟨hP, hD⟩ := wd_back ht hB
  clear ht hvm hB hz1 hk1
  rw [hw] at hP hD
  clear hw
  rw [cg_upB] at hP hD
  refine lv_iload hx hb dX2_align_35 (lv_at hl 0 rfl) ?_
  refine by_le (tgt := 52) hx hb dX2_align_37 (by decide) (by omega) (by omega) (fun q1 => ?_) (fun q1 => ?_)
  · refine lv_aload_n hx hb dX2_align_52 rfl (lv_at hl 1 rfl) ?_
    refine rg_2_bottom hx hb hts in2 hown hK hP 0 (by decide) cg_0 (hts _ (by decide +kernel)) dX2_align_53 ?_
    refine lv_iload hx hb dX2_align_56 (lv_at hl 0 rfl) ?_
    refine lv_ineg hx hb dX2_align_58 ?_
    refine tp_i (y := iZ (-((sc + ((sf e2).2.2)) - ((sf e1).2.2)))) (iZ_neg _) ?_
    refine tp_i (y := nI ((-(sc + (sf e2).2.2 - (sf e1).2.2)).toNat)) (iZ_tn (by omega)) ?_
    refine va_callv (va_runV (As := [.int (nI ((-(sc + (sf e2).2.2 - (sf e1).2.2)).toNat))]) (rest := []) ⟨hx, hb, hml, hown, hts⟩ (c_X1_raise l D cA tT A 31 ad _ _ (a := 5) (x := (sf e2).2.1) (P := (-(sc + (sf e2).2.2 - (sf e1).2.2)).toNat) (by decide) cg_B hB hB2) (cwV 1 hts gX2_align_X1_raise rfl rfl rfl (by decide +kernel) ⟨Nat.le_of_ble_eq_true rfl, Nat.le_of_ble_eq_true rfl⟩) (wd_preV (k := 5) hP hK hD hT hS (by decide) cg_B.1 rfl) rfl rfl hl.1 rfl (lv_room (Nat.le_of_ble_eq_true rfl)) dX2_align_59 ⟨Nat.zero_le _, Nat.zero_le _⟩) hS id_2 id_1 (fun u t H locs ht hvm hw hB hz1 hk1 hS => ?_)
    obtain ⟨hP, hD⟩ := wd_back ht hB
    clear ht hvm hB hz1 hk1
    rw [hw] at hP hD
    clear hw
    rw [cg_upB] at hP hD
    exact W.vret hx hb hr (fun t ht hW => ⟨⟨_, rfl, by rw [show (sc + (sf e2).2.2 - (sf e1).2.2).toNat = 0 by omega, Nat.pow_zero, Nat.mul_one], wd_end hP hK hD ht hW⟩, hS.F ht⟩) hS.2.2 dX2_align_62
  · refine lv_aload_n hx hb dX2_align_40 rfl (lv_at hl 1 rfl) ?_
    refine rg_2_top hx hb hts in2 hown hK hP 0 (by decide) cg_0 (hts _ (by decide +kernel)) dX2_align_41 ?_
    refine lv_iload hx hb dX2_align_44 (lv_at hl 0 rfl) ?_
    refine tp_i (y := nI ((sc + (sf e2).2.2 - (sf e1).2.2).toNat)) (iZ_tn (by omega)) ?_
    refine va_callv (va_runV (As := [.int (nI ((sc + (sf e2).2.2 - (sf e1).2.2).toNat))]) (rest := []) ⟨hx, hb, hml, hown, hts⟩ (c_X1_raise l D cA tT A 31 ad _ _ (a := 3) (x := (sf e1).2.1) (P := (sc + (sf e2).2.2 - (sf e1).2.2).toNat) (by decide) cg_T hA hA2) (cwV 1 hts gX2_align_X1_raise rfl rfl rfl (by decide +kernel) ⟨Nat.le_of_ble_eq_true rfl, Nat.le_of_ble_eq_true rfl⟩) (wd_preV (k := 3) hP hK hD hT hS (by decide) cg_T.1 rfl) rfl rfl hl.1 rfl (lv_room (Nat.le_of_ble_eq_true rfl)) dX2_align_46 ⟨Nat.zero_le _, Nat.zero_le _⟩) hS id_2 id_1 (fun u t H locs ht hvm hw hB hz1 hk1 hS => ?_)
    obtain ⟨hP, hD⟩ := wd_back ht hB
    clear ht hvm hB hz1 hk1
    rw [hw] at hP hD
    clear hw
    rw [cg_upT] at hP hD
    refine lv_goto (tgt := 62) hx hb dX2_align_49 (by decide) ?_
    exact W.vret hx hb hr (fun t ht hW => ⟨⟨_, rfl, by rw [show (-(sc + (sf e2).2.2 - (sf e1).2.2)).toNat = 0 by omega, Nat.pow_zero, Nat.mul_one], wd_end hP hK hD ht hW⟩, hS.F ht⟩) hS.2.2 dX2_align_62
theorem nd_r10 {x P : Nat} (h : nd_s x + P / 6 < 64) : nd_s (x * 10 ^ P) ≤ 64 ∧ (nd_s x + P / 6 < 63 → nd_s (x * 10 ^ P) < 64) := by
  have h1 : x * 10 ^ P < 1000000 ^ (nd_s x + P / 6 + 1) := by
    rw [← nd_k10]
    have e1 := nd_kS (x := x) (nd_t6 P).2
    have e2 : x * 10 ^ (P % 6) < 1000000 ^ (nd_s x + 1) := nd_s_iff.mp e1
    rw [show nd_s x + P / 6 + 1 = nd_s x + 1 + P / 6 by omega, Nat.pow_add 1000000 (nd_s x + 1) (P / 6)]
    exact Nat.mul_lt_mul_of_pos_right e2 (Nat.pow_pos (n := P / 6) (show 0 < 1000000 by decide))
  have := nd_s_le _ _ h1
  omega
theorem va_up_1 {sf : Nat → Bool × Nat × Int} {n : Nat} (e : Nat) : (va_up sf 0 ((sf 0).1, n, (sf 0).2.2) e).1 = (sf e).1 := by
  by_cases h : e = 0
  · subst h; rw [va_up_self]
  · rw [va_up_ne _ _ h]
set_option maxHeartbeats 4000000 in
set_option maxRecDepth 100000 in
/-- split -/
theorem c_X2_split (l : Launch) (D : va_G) (cA : Nat → ClassId) (tT : Nat) (A : Nat → Prop) (ad : Nat → Nat) (sz : Nat) {sf : Nat → Bool × Nat × Int} {x y : Nat} {tx : Nat → Int32} {tl : Nat} {e1 e2 : Nat} {sc : Int} (he1 : e1 < 8) (he2 : e2 < 8) (hx64 : x < 1000000 ^ 64) (hy64 : y < 1000000 ^ 64) (h1 : (sf e1).2.1 < 1000000 ^ 64) (h2 : (sf e2).2.1 < 1000000 ^ 64) (b1 : -1000 < sc) (b2 : sc < 1000) (b3 : -1000 < (sf e1).2.2) (b4 : (sf e1).2.2 < 1000) (b5 : -1000 < (sf e2).2.2) (b6 : (sf e2).2.2 < 1000) (hA : (sc + (sf e2).2.2 - (sf e1).2.2).toNat < 1000) (hB : (-(sc + (sf e2).2.2 - (sf e1).2.2)).toNat < 1000) (hA2 : nd_s (sf e1).2.1 + (sc + (sf e2).2.2 - (sf e1).2.2).toNat / 6 < 64) (hB2 : nd_s (sf e2).2.1 + (-(sc + (sf e2).2.2 - (sf e1).2.2)).toNat / 6 < 64) (h0 : (sf 0).2.1 < 1000000 ^ 64) (hn0 : (sf e2).2.1 ≠ 0) (hA3 : nd_s (sf e1).2.1 + (sc + (sf e2).2.2 - (sf e1).2.2).toNat / 6 < 63) : Met l yX2_split wsX2_split ({ frames := 3, cells := 0, slots := 0, locals := 80 }) (va_Pc [.ref (ad 0), .ref (ad (7 + 3 * e1)), .ref (ad (7 + 3 * e2)), .int (iZ (sc))] (wd_B D cA tT A 31 ad sz (cg cA ad sf x y tx tl))) (va_Qv (fun (u : Nat → va_E) => u = cg cA ad (va_up sf 0 ((sf e1).1 != (sf e2).1, ((sf e1).2.1 * 10 ^ (sc + (sf e2).2.2 - (sf e1).2.2).toNat) / ((sf e2).2.1 * 10 ^ (-(sc + (sf e2).2.2 - (sf e1).2.2)).toNat), sc)) (((sf e1).2.1 * 10 ^ (sc + (sf e2).2.2 - (sf e1).2.2).toNat) % ((sf e2).2.1 * 10 ^ (-(sc + (sf e2).2.2 - (sf e1).2.2)).toNat)) ((sf e2).2.1 * 10 ^ (-(sc + (sf e2).2.2 - (sf e1).2.2)).toNat) tx tl) (wd_E D cA A 31 ad) A) 0 0 A := by
  refine Met.ofW (cc := cX2_split) (maxL := 4) (ret := none) (by decide) rfl ?_
  intro p e s m args below meth c s₁ B hml hv
  obtain ⟨rfl, hsz, hP, hK, hD, hT⟩ := hv
  have hx := B.exec
  have hb := B.bytes
  have hr := B.returns
  have hts := atoms_spec (ws := wsX2_split) B.pre
  have hown : s.vm.findClass RX2 = some m.cls := findClass_of_methodNamed B.named
  have hlocks := B.notSynchronized
  subst hsz
  have hS : va_S A s.heap s.heap [] := va_S.rf
  have in0 : ∀ w ∈ wsX00, w ∈ wsX2_split := by decide +kernel
  have in2 : ∀ w ∈ wsX20, w ∈ wsX2_split := by decide +kernel
  have hl := lv_entry ([.ref (ad 0), .ref (ad (7 + 3 * e1)), .ref (ad (7 + 3 * e2)), .int (iZ (sc))]) (n := 4) (Nat.le_of_ble_eq_true rfl)
  rw [lg_entry_eq]
  generalize (lg_sl ([.ref (ad 0), .ref (ad (7 + 3 * e1)), .ref (ad (7 + 3 * e2)), .int (iZ (sc))]) ++ List.replicate (4 - (lg_sl ([.ref (ad 0), .ref (ad (7 + 3 * e1)), .ref (ad (7 + 3 * e2)), .int (iZ (sc))])).length) Slot.unset).toArray = ls at hl ⊢
  have hl : lv_has ls 4 [(0, .ref (ad 0)), (1, .ref (ad (7 + 3 * e1))), (2, .ref (ad (7 + 3 * e2))), (3, .int (iZ (sc)))] := hl
  have t1 := tn_le (sf e1).1
  have t2 := tn_le (sf e2).1
  have hX9 := (nd_r10 hA2).2 hA3
  have hY9 := (nd_r10 hB2).1
  refine lv_aload_n hx hb dX2_split_0 rfl (lv_at hl 0 rfl) ?_
  refine lv_aload_n hx hb dX2_split_1 rfl (lv_at hl 1 rfl) ?_
  refine lv_aload_n hx hb dX2_split_2 rfl (lv_at hl 2 rfl) ?_
  refine lv_iload_n hx hb dX2_split_3 rfl (lv_at hl 3 rfl) ?_
  refine va_callv (va_runV (As := [.ref (ad (7 + 3 * e1)), .ref (ad (7 + 3 * e2)), .int (iZ (sc))]) (rest := []) ⟨hx, hb, hml, hown, hts⟩ (c_X2_align l D cA tT A ad _ (sf := sf) (x := x) (y := y) (tx := tx) (tl := tl) (e1 := e1) (e2 := e2) (sc := sc) he1 he2 hx64 hy64 h1 h2 b1 b2 b3 b4 b5 b6 hA hB hA2 hB2) (cwV 3 hts gX2_split_X2_align rfl rfl rfl (by decide +kernel) ⟨Nat.le_of_ble_eq_true rfl, Nat.le_of_ble_eq_true rfl⟩) (wd_preV (k := 0) hP hK hD hT hS (by decide) cg_0 rfl) rfl rfl hl.1 rfl (lv_room (Nat.le_of_ble_eq_true rfl)) dX2_split_4 ⟨Nat.zero_le _, Nat.zero_le _⟩) hS id_2 id_1 (fun u t H locs ht hvm hw hB hz1 hk1 hS => ?_)
  obtain ⟨hP, hD⟩ := wd_back ht hB
  clear ht hvm hB hz1 hk1
  rw [hw] at hP hD
  clear hw
  refine lv_aload_n hx hb dX2_split_7 rfl (lv_at hl 0 rfl) ?_
  refine rg_2_top hx hb hts in2 hown hK hP 0 (by decide) cg_0 (hts _ (by decide +kernel)) dX2_split_8 ?_
  refine lv_aload_n hx hb dX2_split_11 rfl (lv_at hl 0 rfl) ?_
  refine rg_2_bottom hx hb hts in2 hown hK hP 0 (by decide) cg_0 (hts _ (by decide +kernel)) dX2_split_12 ?_
  refine lv_aload_n hx hb dX2_split_15 rfl (lv_at hl 0 rfl) ?_
  refine rg_2_result hx hb hts in2 hown hK hP 0 (by decide) cg_0 (hts _ (by decide +kernel)) dX2_split_16 ?_
  refine rg_0_digits hx hb hts in0 hown hK hP (7 + 3 * 0) (by omega) (cg_d 0) (hts _ (by decide +kernel)) dX2_split_19 ?_
  refine va_callv (va_runV (As := [.ref (ad 5), .ref (ad (7 + 3 * 0 + 1))]) (rest := []) ⟨hx, hb, hml, hown, hts⟩ (c_X1_takeOut l D cA tT A 31 ad _ _ (a := 3) (o := 5) (w := 7 + 3 * 0 + 1) (x := ((sf e1).2.1 * 10 ^ (sc + (sf e2).2.2 - (sf e1).2.2).toNat)) (y := ((sf e2).2.1 * 10 ^ (-(sc + (sf e2).2.2 - (sf e1).2.2)).toNat)) (z := (sf 0).2.1) (by decide) (by decide) (by decide) cg_B (by decide) (by decide) (by decide) (by decide) (by decide) (by decide) (by decide) (by decide) (by decide) hX9 (Nat.mul_ne_zero hn0 (Nat.pos_iff_ne_zero.mp (Nat.pow_pos (by decide)))) cg_T (cg_n 0) h0 hY9) (cwV 2 hts gX2_split_X1_takeOut rfl rfl rfl (by decide +kernel) ⟨Nat.le_of_ble_eq_true rfl, Nat.le_of_ble_eq_true rfl⟩) (wd_preV (k := 3) hP hK hD hT hS (by decide) cg_T.1 rfl) rfl rfl hl.1 rfl (lv_room (Nat.le_of_ble_eq_true rfl)) dX2_split_22 ⟨Nat.zero_le _, Nat.zero_le _⟩) hS id_2 id_1 (fun u t H locs ht hvm hw hB hz1 hk1 hS => ?_)
  obtain ⟨hP, hD⟩ := wd_back ht hB
  clear ht hvm hB hz1 hk1
  rw [hw] at hP hD
  clear hw
  rw [cg_upN 0, cg_upT] at hP hD
  refine lv_aload_n hx hb dX2_split_25 rfl (lv_at hl 0 rfl) ?_
  refine rg_2_result hx hb hts in2 hown hK hP 0 (by decide) cg_0 (hts _ (by decide +kernel)) dX2_split_26 ?_
  refine lv_aload_n hx hb dX2_split_29 rfl (lv_at hl 1 rfl) ?_
  refine rg_0_minus hx hb hts in0 hown hK hP (7 + 3 * e1) (by omega) (cg_d e1) (hts _ (by decide +kernel)) dX2_split_30 ?_
  refine lv_aload_n hx hb dX2_split_33 rfl (lv_at hl 2 rfl) ?_
  refine rg_0_minus hx hb hts in0 hown hK hP (7 + 3 * e2) (by omega) (cg_d e2) (hts _ (by decide +kernel)) dX2_split_34 ?_
  refine tp_i (y := nI ((sf e2).1.toNat)) (by rw [va_up_1]) ?_
  refine tp_i2 (y := nI ((sf e1).1.toNat)) (by rw [va_up_1]) ?_
  refine bi_eq (tgt := 44) hx hb dX2_split_37 (by decide) (by omega) (by omega) (fun q1 => ?_) (fun q1 => ?_)
  · refine lv_iconst (v := nI (0)) hx hb dX2_split_44 (by decide) ?_
    refine rp_0_minus hx hb hts in0 hown hK hP hD hS (7 + 3 * 0) (by omega) (cg_d 0) (hts _ (by decide +kernel)) rfl rfl dX2_split_45 (fun H locs hP hD hS => ?_)
    rw [cg_upM 0 (false) (v := nI (0)) rfl rfl] at hP hD
    refine lv_aload_n hx hb dX2_split_48 rfl (lv_at hl 0 rfl) ?_
    refine rg_2_result hx hb hts in2 hown hK hP 0 (by decide) cg_0 (hts _ (by decide +kernel)) dX2_split_49 ?_
    refine lv_iload_n hx hb dX2_split_52 rfl (lv_at hl 3 rfl) ?_
    refine rp_0_scale hx hb hts in0 hown hK hP hD hS (7 + 3 * 0) (by omega) (cg_d 0) (hts _ (by decide +kernel)) rfl rfl dX2_split_53 (fun H locs hP hD hS => ?_)
    rw [cg_upS 0 (sc) rfl] at hP hD
    have hbb : ((sf e1).1 != (sf e2).1) = false := by rw [ne_tn, decide_eq_true q1]; rfl
    exact W.vret hx hb hr (fun t ht hW => ⟨⟨_, rfl, by rw [hbb]; simp only [va_up_self, bx_uu], wd_end hP hK hD ht hW⟩, hS.F ht⟩) hS.2.2 dX2_split_56
  · refine lv_iconst (v := nI (1)) hx hb dX2_split_40 (by decide) ?_
    refine lv_goto (tgt := 45) hx hb dX2_split_41 (by decide) ?_
    refine rp_0_minus hx hb hts in0 hown hK hP hD hS (7 + 3 * 0) (by omega) (cg_d 0) (hts _ (by decide +kernel)) rfl rfl dX2_split_45 (fun H locs hP hD hS => ?_)
    rw [cg_upM 0 (true) (v := nI (1)) rfl rfl] at hP hD
    refine lv_aload_n hx hb dX2_split_48 rfl (lv_at hl 0 rfl) ?_
    refine rg_2_result hx hb hts in2 hown hK hP 0 (by decide) cg_0 (hts _ (by decide +kernel)) dX2_split_49 ?_
    refine lv_iload_n hx hb dX2_split_52 rfl (lv_at hl 3 rfl) ?_
    refine rp_0_scale hx hb hts in0 hown hK hP hD hS (7 + 3 * 0) (by omega) (cg_d 0) (hts _ (by decide +kernel)) rfl rfl dX2_split_53 (fun H locs hP hD hS => ?_)
    rw [cg_upS 0 (sc) rfl] at hP hD
    have hbb : ((sf e1).1 != (sf e2).1) = true := by rw [ne_tn, decide_eq_false q1]; rfl
    exact W.vret hx hb hr (fun t ht hW => ⟨⟨_, rfl, by rw [hbb]; simp only [va_up_self, bx_uu], wd_end hP hK hD ht hW⟩, hS.F ht⟩) hS.2.2 dX2_split_56
/-- whether the neighbour farther from 0 is taken: way, sign, order of twice the rest and the divisor, the quotient -/
def aw (way : Int) (b : Bool) (hf : Int) (n : Nat) : Prop := way = 0 ∨ (way = 2 ∧ b = false) ∨ (way = 3 ∧ b = true) ∨ (way = 4 ∧ 0 ≤ hf) ∨ (way = 5 ∧ 0 < hf) ∨ (way = 6 ∧ (0 < hf ∨ (hf = 0 ∧ n % 2 = 1)))
theorem dg2 (n : Nat) : n / 10 ^ 0 % 10 % 2 = n % 2 := by rw [Nat.pow_zero, Nat.div_one]; omega
theorem wy_c {way : Int} (h : 0 ≤ way) (h2 : way < 7) : way = 0 ∨ way = 1 ∨ way = 2 ∨ way = 3 ∨ way = 4 ∨ way = 5 ∨ way = 6 := by omega
theorem tI {z : Int} (h1 : -2147483648 ≤ z) (h2 : z < 2147483648) : (iZ z).toInt = z := iZ_toInt h1 h2
set_option maxHeartbeats 4000000 in
set_option maxRecDepth 100000 in
/-- isAwayFromZero -/
theorem c_X2_isAwayFromZero (l : Launch) (D : va_G) (cA : Nat → ClassId) (tT : Nat) (A : Nat → Prop) (ad : Nat → Nat) (sz : Nat) {sf : Nat → Bool × Nat × Int} {x y : Nat} {tx : Nat → Int32} {tl : Nat} {way hf : Int} (h0 : (sf 0).2.1 < 1000000 ^ 64) (w1 : 0 ≤ way) (w2 : way < 7) (g1 : -2 < hf) (g2 : hf < 2) : Met l yX2_isAwayFromZero wsX2_isAwayFromZero ({ frames := 1, cells := 0, slots := 0, locals := 22 }) (va_Pc [.ref (ad 0), .int (iZ (way)), .int (iZ (hf))] (wd_B D cA tT A 31 ad sz (cg cA ad sf x y tx tl))) (va_Qi (fun (r : Int32) (u : Nat → va_E) => ((r = nI 1 ∧ aw way (sf 0).1 hf (sf 0).2.1) ∨ (r = nI 0 ∧ ¬ aw way (sf 0).1 hf (sf 0).2.1)) ∧ u = cg cA ad sf x y tx tl) (wd_E D cA A 31 ad) A) 0 0 A := by
  refine Met.ofW (cc := cX2_isAwayFromZero) (maxL := 3) (ret := (some .boolean)) (by decide) rfl ?_
  intro p e s m args below meth c s₁ B hml hv
  obtain ⟨rfl, hsz, hP, hK, hD, hT⟩ := hv
  have hx := B.exec
  have hb := B.bytes
  have hr := B.returns
  have hts := atoms_spec (ws := wsX2_isAwayFromZero) B.pre
  have hown : s.vm.findClass RX2 = some m.cls := findClass_of_methodNamed B.named
  have hlocks := B.notSynchronized
  subst hsz
  have hS : va_S A s.heap s.heap [] := va_S.rf
  have in0 : ∀ w ∈ wsX00, w ∈ wsX2_isAwayFromZero := by decide +kernel
  have in2 : ∀ w ∈ wsX20, w ∈ wsX2_isAwayFromZero := by decide +kernel
  have hl := lv_entry ([.ref (ad 0), .int (iZ (way)), .int (iZ (hf))]) (n := 3) (Nat.le_of_ble_eq_true rfl)
  rw [lg_entry_eq]
  generalize (lg_sl ([.ref (ad 0), .int (iZ (way)), .int (iZ (hf))]) ++ List.replicate (3 - (lg_sl ([.ref (ad 0), .int (iZ (way)), .int (iZ (hf))])).length) Slot.unset).toArray = ls at hl ⊢
  have hl : lv_has ls 3 [(0, .ref (ad 0)), (1, .int (iZ (way))), (2, .int (iZ (hf)))] := hl
  have t1 := tn_le (sf 0).1
  refine lv_iload_n hx hb dX2_isAwayFromZero_0 rfl (lv_at hl 1 rfl) ?_
  rcases wy_c w1 w2 with hw | hw | hw | hw | hw | hw | hw
  · subst hw
    refine lv_tableIn (off := 43) (tgt := 44) hx hb dX2_isAwayFromZero_1 (by rw [tI (by decide) (by decide)]; decide) (by rw [tI (by decide) (by decide)]; decide) (by rw [tI (by decide) (by decide)]; rfl) (by decide) ?_
    refine lv_iconst (v := nI (1)) hx hb dX2_isAwayFromZero_44 (by decide) ?_
    exact W.zret (v := nI (1)) hx hb hr rfl (fun t ht hW => ⟨⟨nI (1), _, rfl, ⟨Or.inl ⟨rfl, Or.inl rfl⟩, rfl⟩, wd_end hP hK hD ht hW⟩, hS.F ht⟩) hS.2.2 dX2_isAwayFromZero_45
  · subst hw
    refine lv_tableIn (off := 45) (tgt := 46) hx hb dX2_isAwayFromZero_1 (by rw [tI (by decide) (by decide)]; decide) (by rw [tI (by decide) (by decide)]; decide) (by rw [tI (by decide) (by decide)]; rfl) (by decide) ?_
    refine lv_iconst (v := nI (0)) hx hb dX2_isAwayFromZero_46 (by decide) ?_
    exact W.zret (v := nI (0)) hx hb hr rfl (fun t ht hW => ⟨⟨nI (0), _, rfl, ⟨Or.inr ⟨rfl, by simp [aw]⟩, rfl⟩, wd_end hP hK hD ht hW⟩, hS.F ht⟩) hS.2.2 dX2_isAwayFromZero_47
  · subst hw
    refine lv_tableIn (off := 47) (tgt := 48) hx hb dX2_isAwayFromZero_1 (by rw [tI (by decide) (by decide)]; decide) (by rw [tI (by decide) (by decide)]; decide) (by rw [tI (by decide) (by decide)]; rfl) (by decide) ?_
    refine lv_aload_n hx hb dX2_isAwayFromZero_48 rfl (lv_at hl 0 rfl) ?_
    refine rg_2_result hx hb hts in2 hown hK hP 0 (by decide) cg_0 (hts _ (by decide +kernel)) dX2_isAwayFromZero_49 ?_
    refine rg_0_minus hx hb hts in0 hown hK hP (7 + 3 * 0) (by omega) (cg_d 0) (hts _ (by decide +kernel)) dX2_isAwayFromZero_52 ?_
    refine bz_ne (tgt := 62) hx hb dX2_isAwayFromZero_55 (by decide) (by omega) (fun q1 => ?_) (fun q1 => ?_)
    · refine lv_iconst (v := nI (0)) hx hb dX2_isAwayFromZero_62 (by decide) ?_
      exact W.zret (v := nI (0)) hx hb hr rfl (fun t ht hW => ⟨⟨nI (0), _, rfl, ⟨Or.inr ⟨rfl, by have := tn_nz q1; simp [aw, this]⟩, rfl⟩, wd_end hP hK hD ht hW⟩, hS.F ht⟩) hS.2.2 dX2_isAwayFromZero_63
    · refine lv_iconst (v := nI (1)) hx hb dX2_isAwayFromZero_58 (by decide) ?_
      refine lv_goto (tgt := 63) hx hb dX2_isAwayFromZero_59 (by decide) ?_
      exact W.zret (v := nI (1)) hx hb hr rfl (fun t ht hW => ⟨⟨nI (1), _, rfl, ⟨Or.inl ⟨rfl, by have := tn_z q1; simp [aw, this]⟩, rfl⟩, wd_end hP hK hD ht hW⟩, hS.F ht⟩) hS.2.2 dX2_isAwayFromZero_63
  · subst hw
    refine lv_tableIn (off := 63) (tgt := 64) hx hb dX2_isAwayFromZero_1 (by rw [tI (by decide) (by decide)]; decide) (by rw [tI (by decide) (by decide)]; decide) (by rw [tI (by decide) (by decide)]; rfl) (by decide) ?_
    refine lv_aload_n hx hb dX2_isAwayFromZero_64 rfl (lv_at hl 0 rfl) ?_
    refine rg_2_result hx hb hts in2 hown hK hP 0 (by decide) cg_0 (hts _ (by decide +kernel)) dX2_isAwayFromZero_65 ?_
    refine rg_0_minus hx hb hts in0 hown hK hP (7 + 3 * 0) (by omega) (cg_d 0) (hts _ (by decide +kernel)) dX2_isAwayFromZero_68 ?_
    by_cases hb9 : (sf 0).1 = true
    · refine tp_i (y := nI 1) (by rw [hb9]; rfl) ?_
      exact W.zret (v := nI (1)) hx hb hr rfl (fun t ht hW => ⟨⟨nI (1), _, rfl, ⟨Or.inl ⟨rfl, by simp [aw, hb9]⟩, rfl⟩, wd_end hP hK hD ht hW⟩, hS.F ht⟩) hS.2.2 dX2_isAwayFromZero_71
    · refine tp_i (y := nI 0) (by rw [Bool.not_eq_true] at hb9; rw [hb9]; rfl) ?_
      exact W.zret (v := nI (0)) hx hb hr rfl (fun t ht hW => ⟨⟨nI (0), _, rfl, ⟨Or.inr ⟨rfl, by simp [aw, hb9]⟩, rfl⟩, wd_end hP hK hD ht hW⟩, hS.F ht⟩) hS.2.2 dX2_isAwayFromZero_71
  · subst hw
    refine lv_tableIn (off := 71) (tgt := 72) hx hb dX2_isAwayFromZero_1 (by rw [tI (by decide) (by decide)]; decide) (by rw [tI (by decide) (by decide)]; decide) (by rw [tI (by decide) (by decide)]; rfl) (by decide) ?_
    refine lv_iload_n hx hb dX2_isAwayFromZero_72 rfl (lv_at hl 2 rfl) ?_
    refine by_lt (tgt := 80) hx hb dX2_isAwayFromZero_73 (by decide) (by omega) (by omega) (fun q1 => ?_) (fun q1 => ?_)
    · refine lv_iconst (v := nI (0)) hx hb dX2_isAwayFromZero_80 (by decide) ?_
      exact W.zret (v := nI (0)) hx hb hr rfl (fun t ht hW => ⟨⟨nI (0), _, rfl, ⟨Or.inr ⟨rfl, by simp [aw]; omega⟩, rfl⟩, wd_end hP hK hD ht hW⟩, hS.F ht⟩) hS.2.2 dX2_isAwayFromZero_81
    · refine lv_iconst (v := nI (1)) hx hb dX2_isAwayFromZero_76 (by decide) ?_
      refine lv_goto (tgt := 81) hx hb dX2_isAwayFromZero_77 (by decide) ?_
      exact W.zret (v := nI (1)) hx hb hr rfl (fun t ht hW => ⟨⟨nI (1), _, rfl, ⟨Or.inl ⟨rfl, by simp [aw]; omega⟩, rfl⟩, wd_end hP hK hD ht hW⟩, hS.F ht⟩) hS.2.2 dX2_isAwayFromZero_81
  · subst hw
    refine lv_tableIn (off := 81) (tgt := 82) hx hb dX2_isAwayFromZero_1 (by rw [tI (by decide) (by decide)]; decide) (by rw [tI (by decide) (by decide)]; decide) (by rw [tI (by decide) (by decide)]; rfl) (by decide) ?_
    refine lv_iload_n hx hb dX2_isAwayFromZero_82 rfl (lv_at hl 2 rfl) ?_
    refine by_le (tgt := 90) hx hb dX2_isAwayFromZero_83 (by decide) (by omega) (by omega) (fun q1 => ?_) (fun q1 => ?_)
    · refine lv_iconst (v := nI (0)) hx hb dX2_isAwayFromZero_90 (by decide) ?_
      exact W.zret (v := nI (0)) hx hb hr rfl (fun t ht hW => ⟨⟨nI (0), _, rfl, ⟨Or.inr ⟨rfl, by simp [aw]; omega⟩, rfl⟩, wd_end hP hK hD ht hW⟩, hS.F ht⟩) hS.2.2 dX2_isAwayFromZero_91
    · refine lv_iconst (v := nI (1)) hx hb dX2_isAwayFromZero_86 (by decide) ?_
      refine lv_goto (tgt := 91) hx hb dX2_isAwayFromZero_87 (by decide) ?_
      exact W.zret (v := nI (1)) hx hb hr rfl (fun t ht hW => ⟨⟨nI (1), _, rfl, ⟨Or.inl ⟨rfl, by simp [aw]; omega⟩, rfl⟩, wd_end hP hK hD ht hW⟩, hS.F ht⟩) hS.2.2 dX2_isAwayFromZero_91
  · subst hw
    refine lv_tableIn (off := 91) (tgt := 92) hx hb dX2_isAwayFromZero_1 (by rw [tI (by decide) (by decide)]; decide) (by rw [tI (by decide) (by decide)]; decide) (by rw [tI (by decide) (by decide)]; rfl) (by decide) ?_
    refine lv_iload_n hx hb dX2_isAwayFromZero_92 rfl (lv_at hl 2 rfl) ?_
    refine by_gt (tgt := 117) hx hb dX2_isAwayFromZero_93 (by decide) (by omega) (by omega) (fun q1 => ?_) (fun q1 => ?_)
    · refine lv_iconst (v := nI (1)) hx hb dX2_isAwayFromZero_117 (by decide) ?_
      refine lv_goto (tgt := 122) hx hb dX2_isAwayFromZero_118 (by decide) ?_
      exact W.zret (v := nI (1)) hx hb hr rfl (fun t ht hW => ⟨⟨nI (1), _, rfl, ⟨Or.inl ⟨rfl, by simp [aw]; omega⟩, rfl⟩, wd_end hP hK hD ht hW⟩, hS.F ht⟩) hS.2.2 dX2_isAwayFromZero_122
    · refine lv_iload_n hx hb dX2_isAwayFromZero_96 rfl (lv_at hl 2 rfl) ?_
      refine by_ne (tgt := 121) hx hb dX2_isAwayFromZero_97 (by decide) (by omega) (by omega) (fun q2 => ?_) (fun q2 => ?_)
      · refine lv_iconst (v := nI (0)) hx hb dX2_isAwayFromZero_121 (by decide) ?_
        exact W.zret (v := nI (0)) hx hb hr rfl (fun t ht hW => ⟨⟨nI (0), _, rfl, ⟨Or.inr ⟨rfl, by simp [aw]; omega⟩, rfl⟩, wd_end hP hK hD ht hW⟩, hS.F ht⟩) hS.2.2 dX2_isAwayFromZero_122
      · refine lv_aload_n hx hb dX2_isAwayFromZero_100 rfl (lv_at hl 0 rfl) ?_
        refine rg_2_result hx hb hts in2 hown hK hP 0 (by decide) cg_0 (hts _ (by decide +kernel)) dX2_isAwayFromZero_101 ?_
        refine rg_0_digits hx hb hts in0 hown hK hP (7 + 3 * 0) (by omega) (cg_d 0) (hts _ (by decide +kernel)) dX2_isAwayFromZero_104 ?_
        refine lv_iconst (v := nI (0)) hx hb dX2_isAwayFromZero_107 (by decide) ?_
        refine va_calli (va_runV (As := [.int (nI (0))]) (rest := []) ⟨hx, hb, hml, hown, hts⟩ (c_X1_figure l D cA tT A 31 ad _ _ (a := 7 + 3 * 0 + 1) (x := (sf 0).2.1) (P := 0) (by decide) (cg_n 0) h0 (by decide)) (cwV 1 hts gX2_isAwayFromZero_X1_figure rfl rfl rfl (by decide +kernel) ⟨Nat.le_of_ble_eq_true rfl, Nat.le_of_ble_eq_true rfl⟩) (wd_preV (k := 7 + 3 * 0 + 1) hP hK hD hT hS (by decide) (cg_n 0).1 rfl) rfl rfl hl.1 rfl (lv_room (Nat.le_of_ble_eq_true rfl)) dX2_isAwayFromZero_108 ⟨Nat.zero_le _, Nat.zero_le _⟩) hS id_2 id_1 (fun r_ u t H locs ht hvm hw hB hz1 hk1 hS => ?_)
        obtain ⟨hP, hD⟩ := wd_back ht hB
        clear ht hvm hB hz1 hk1
        obtain ⟨hr_, hu_⟩ := hw
        subst hr_
        rw [hu_] at hP hD
        clear hu_
        refine lv_iconst (v := nI (2)) hx hb dX2_isAwayFromZero_111 (by decide) ?_
        refine lv_irem hx hb dX2_isAwayFromZero_112 (nI_ne0 (by omega) (by omega)) ?_
        refine tp_i (y := nI (((sf 0).2.1 / 10 ^ 0 % 10) % 2)) (pk_rem (by omega) (by omega) (by omega)) ?_
        refine lv_iconst (v := nI (1)) hx hb dX2_isAwayFromZero_113 (by decide) ?_
        refine bi_ne (tgt := 121) hx hb dX2_isAwayFromZero_114 (by decide) (by omega) (by omega) (fun q3 => ?_) (fun q3 => ?_)
        · rw [dg2] at q3
          refine lv_iconst (v := nI (0)) hx hb dX2_isAwayFromZero_121 (by decide) ?_
          exact W.zret (v := nI (0)) hx hb hr rfl (fun t ht hW => ⟨⟨nI (0), _, rfl, ⟨Or.inr ⟨rfl, by simp [aw]; omega⟩, rfl⟩, wd_end hP hK hD ht hW⟩, hS.F ht⟩) hS.2.2 dX2_isAwayFromZero_122
        · rw [dg2] at q3
          refine lv_iconst (v := nI (1)) hx hb dX2_isAwayFromZero_117 (by decide) ?_
          refine lv_goto (tgt := 122) hx hb dX2_isAwayFromZero_118 (by decide) ?_
          exact W.zret (v := nI (1)) hx hb hr rfl (fun t ht hW => ⟨⟨nI (1), _, rfl, ⟨Or.inl ⟨rfl, by simp [aw]; omega⟩, rfl⟩, wd_end hP hK hD ht hW⟩, hS.F ht⟩) hS.2.2 dX2_isAwayFromZero_122
