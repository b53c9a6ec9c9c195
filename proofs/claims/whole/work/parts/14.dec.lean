/-- a decimal: its sign, its size, its scale -/
def cD (ad : Nat → Nat) (k : Nat) (d : Bool × Nat × Int) : va_E := .inr (0, [.ref (ad (k + 1)), .int (nI d.1.toNat), .int (iZ d.2.2)])
def is_D (cA : Nat → ClassId) (ad : Nat → Nat) (g : Nat → va_E) (k : Nat) (d : Bool × Nat × Int) : Prop := g k = cD ad k d ∧ is_N cA ad g (k + 1) d.2.1
/-- a decimal's cells at k are written anew -/
def dw (cA : Nat → ClassId) (ad : Nat → Nat) (g : Nat → va_E) (k : Nat) (d : Bool × Nat × Int) : Nat → va_E := nN cA ad (va_up g k (cD ad k d)) (k + 1) d.2.1
/-- signs: a 0 has none -/
def sn (b : Bool) (n : Nat) : Bool := b && decide (n ≠ 0)
theorem up_nw {cA : Nat → ClassId} {ad : Nat → Nat} {g : Nat → va_E} {k a : Nat} {e : va_E} {f : Nat → Int64} {sv : Int32} (h1 : k ≠ a) (h2 : k ≠ a + 1) : va_up (nw_ cA ad g a f sv) k e = nw_ cA ad (va_up g k e) a f sv := by
  funext j
  simp only [va_up, nw_]
  by_cases r : j = k
  · subst r; simp [h1, h2]
  · simp [r]
theorem tn_le (b : Bool) : b.toNat < 2 := by cases b <;> decide
theorem tn_z {b : Bool} (h : b.toNat = 0) : b = false := by cases b <;> simp at h ⊢
theorem tn_nz {b : Bool} (h : ¬ b.toNat = 0) : b = true := by cases b <;> simp at h ⊢
theorem bt_nar (b : Bool) : narrow .boolean (.int (nI b.toNat)) = .int (nI b.toNat) := by cases b <;> decide
theorem bt_fit (b : Bool) : fits .boolean (.int (nI b.toNat)) = true := by cases b <;> decide
set_option maxHeartbeats 4000000 in
set_option maxRecDepth 100000 in
/-- take: digits, sign and scale -/
theorem c_X0_take (l : Launch) (D : va_G) (cA : Nat → ClassId) (tT : Nat) (A : Nat → Prop) (N : Nat) (ad : Nat → Nat) (sz : Nat) (g : Nat → va_E) {k q n : Nat} {d : Bool × Nat × Int} {b : Bool} {z : Int} (hk2 : k + 2 < N) (hq1 : q + 1 < N) (hk0 : is_D cA ad g k d) (hq : is_N cA ad g q n) (n1 : q ≠ k) (n2 : q + 1 ≠ k) (n3 : q ≠ k + 1) (n4 : q ≠ k + 2) (n5 : q + 1 ≠ k + 1) (hd64 : d.2.1 < 1000000 ^ 64) (hn64 : n < 1000000 ^ 64) : Met l yX0_take wsX0_take ({ frames := 2, cells := 0, slots := 0, locals := 39 }) (va_Pc [.ref (ad k), .ref (ad q), .int (nI (b.toNat)), .int (iZ (z))] (wd_B D cA tT A N ad sz g)) (va_Qv (fun (u : Nat → va_E) => u = dw cA ad g k (sn b n, n, z)) (wd_E D cA A N ad) A) 0 0 A := by
  refine Met.ofW (cc := cX0_take) (maxL := 4) (ret := none) (by decide) rfl ?_
  intro p e s m args below meth c s₁ B hml hv
  obtain ⟨rfl, hsz, hP, hK, hD, hT⟩ := hv
  have hx := B.exec
  have hb := B.bytes
  have hr := B.returns
  have hts := atoms_spec (ws := wsX0_take) B.pre
  have hown : s.vm.findClass RX0 = some m.cls := findClass_of_methodNamed B.named
  have hlocks := B.notSynchronized
  subst hsz
  have hS : va_S A s.heap s.heap [] := va_S.rf
  have in0 : ∀ w ∈ wsX00, w ∈ wsX0_take := by decide +kernel
  have in1 : ∀ w ∈ wsX10, w ∈ wsX0_take := by decide +kernel
  have hl := lv_entry ([.ref (ad k), .ref (ad q), .int (nI (b.toNat)), .int (iZ (z))]) (n := 4) (Nat.le_of_ble_eq_true rfl)
  rw [lg_entry_eq]
  generalize (lg_sl ([.ref (ad k), .ref (ad q), .int (nI (b.toNat)), .int (iZ (z))]) ++ List.replicate (4 - (lg_sl ([.ref (ad k), .ref (ad q), .int (nI (b.toNat)), .int (iZ (z))])).length) Slot.unset).toArray = ls at hl ⊢
  have hl : lv_has ls 4 [(0, .ref (ad k)), (1, .ref (ad q)), (2, .int (nI (b.toNat))), (3, .int (iZ (z)))] := hl
  have hb2 := tn_le b
  refine lv_aload_n hx hb dX0_take_0 rfl (lv_at hl 0 rfl) ?_
  refine rg_0_digits hx hb hts in0 hown hK hP k (by omega) hk0.1 (hts _ (by decide +kernel)) dX0_take_1 ?_
  refine lv_aload_n hx hb dX0_take_4 rfl (lv_at hl 1 rfl) ?_
  refine va_callv (va_runV (As := [.ref (ad q)]) (rest := []) ⟨hx, hb, hml, hown, hts⟩ (c_X1_become l D cA tT A N ad _ _ (a := k + 1) (b := q) (x := d.2.1) (y := n) (by omega) hq1 hk0.2 hq hd64 hn64 (by omega) (by omega) (by omega)) (cwV 1 hts gX0_take_X1_become rfl rfl rfl (by decide +kernel) ⟨Nat.le_of_ble_eq_true rfl, Nat.le_of_ble_eq_true rfl⟩) (wd_preV (k := k + 1) hP hK hD hT hS (by omega) hk0.2.1 rfl) rfl rfl hl.1 rfl (lv_room (Nat.le_of_ble_eq_true rfl)) dX0_take_5 ⟨Nat.zero_le _, Nat.zero_le _⟩) hS id_2 id_1 (fun u t H locs ht hvm hw hB hz1 hk1 hS => ?_)
  obtain ⟨hP, hD⟩ := wd_back ht hB
  clear ht hvm hB hz1 hk1
  rw [hw] at hP hD
  clear hw
  have hq2 : is_N cA ad (nN cA ad g (k + 1) n) q n := is_nw (by omega) (by omega) (by omega) hq
  refine lv_aload_n hx hb dX0_take_8 rfl (lv_at hl 0 rfl) ?_
  refine lv_iload_n hx hb dX0_take_9 rfl (lv_at hl 2 rfl) ?_
  refine bz_eq (tgt := 24) hx hb dX0_take_10 (by decide) (by omega) (fun q1 => ?_) (fun q1 => ?_)
  · have hbf := tn_z q1
    refine lv_iconst (v := nI (0)) hx hb dX0_take_24 (by decide) ?_
    refine rp_0_minus hx hb hts in0 hown hK hP hD hS k (by omega) ((nw_ne (by omega) (by omega)).trans hk0.1) (hts _ (by decide +kernel)) rfl rfl dX0_take_25 (fun H locs hP hD hS => ?_)
    rw [up_nw (by omega) (by omega)] at hP hD
    refine lv_aload_n hx hb dX0_take_28 rfl (lv_at hl 0 rfl) ?_
    refine lv_iload_n hx hb dX0_take_29 rfl (lv_at hl 3 rfl) ?_
    refine rp_0_scale hx hb hts in0 hown hK hP hD hS k (by omega) ((nw_ne (by omega) (by omega)).trans (va_up_self _ _ _)) (hts _ (by decide +kernel)) rfl rfl dX0_take_30 (fun H locs hP hD hS => ?_)
    rw [up_nw (by omega) (by omega), bx_uu] at hP hD
    have hsn : sn b n = false := by rw [sn, hbf]; rfl
    exact W.vret hx hb hr (fun t ht hW => ⟨⟨_, rfl, by rw [dw, hsn]; rfl, wd_end hP hK hD ht hW⟩, hS.F ht⟩) hS.2.2 dX0_take_33
  · have hbt := tn_nz q1
    refine lv_aload_n hx hb dX0_take_13 rfl (lv_at hl 1 rfl) ?_
    refine va_calli (va_runV (As := []) (rest := [.ref (ad k)]) ⟨hx, hb, hml, hown, hts⟩ (c_X1_isZero l D cA tT A N ad _ _ (a := q) (x := n) hq1 hq2 hn64) (cwV 0 hts gX0_take_X1_isZero rfl rfl rfl (by decide +kernel) ⟨Nat.le_of_ble_eq_true rfl, Nat.le_of_ble_eq_true rfl⟩) (wd_preV (k := q) hP hK hD hT hS (by omega) hq2.1 rfl) rfl rfl hl.1 rfl (lv_room (Nat.le_of_ble_eq_true rfl)) dX0_take_14 ⟨Nat.zero_le _, Nat.zero_le _⟩) hS id_2 id_1 (fun r_ u t H locs ht hvm hw hB hz1 hk1 hS => ?_)
    obtain ⟨hP, hD⟩ := wd_back ht hB
    clear ht hvm hB hz1 hk1
    obtain ⟨hr_, hu_⟩ := hw
    subst hr_
    rw [hu_] at hP hD
    clear hu_
    refine bz_ne (tgt := 24) hx hb dX0_take_17 (by decide) (by split <;> decide) (fun q2 => ?_) (fun q2 => ?_)
    · have hn0 : n = 0 := by
        by_cases h : n = 0
        · exact h
        · rw [if_neg h] at q2; exact absurd rfl q2
      refine lv_iconst (v := nI (0)) hx hb dX0_take_24 (by decide) ?_
      refine rp_0_minus hx hb hts in0 hown hK hP hD hS k (by omega) ((nw_ne (by omega) (by omega)).trans hk0.1) (hts _ (by decide +kernel)) rfl rfl dX0_take_25 (fun H locs hP hD hS => ?_)
      rw [up_nw (by omega) (by omega)] at hP hD
      refine lv_aload_n hx hb dX0_take_28 rfl (lv_at hl 0 rfl) ?_
      refine lv_iload_n hx hb dX0_take_29 rfl (lv_at hl 3 rfl) ?_
      refine rp_0_scale hx hb hts in0 hown hK hP hD hS k (by omega) ((nw_ne (by omega) (by omega)).trans (va_up_self _ _ _)) (hts _ (by decide +kernel)) rfl rfl dX0_take_30 (fun H locs hP hD hS => ?_)
      rw [up_nw (by omega) (by omega), bx_uu] at hP hD
      have hsn : sn b n = false := by rw [sn, hn0]; simp
      exact W.vret hx hb hr (fun t ht hW => ⟨⟨_, rfl, by rw [dw, hsn]; rfl, wd_end hP hK hD ht hW⟩, hS.F ht⟩) hS.2.2 dX0_take_33
    · have hn0 : n ≠ 0 := by
        intro h
        rw [if_pos h] at q2; exact absurd q2 (by decide)
      refine lv_iconst (v := nI (1)) hx hb dX0_take_20 (by decide) ?_
      refine lv_goto (tgt := 25) hx hb dX0_take_21 (by decide) ?_
      refine rp_0_minus hx hb hts in0 hown hK hP hD hS k (by omega) ((nw_ne (by omega) (by omega)).trans hk0.1) (hts _ (by decide +kernel)) rfl rfl dX0_take_25 (fun H locs hP hD hS => ?_)
      rw [up_nw (by omega) (by omega)] at hP hD
      refine lv_aload_n hx hb dX0_take_28 rfl (lv_at hl 0 rfl) ?_
      refine lv_iload_n hx hb dX0_take_29 rfl (lv_at hl 3 rfl) ?_
      refine rp_0_scale hx hb hts in0 hown hK hP hD hS k (by omega) ((nw_ne (by omega) (by omega)).trans (va_up_self _ _ _)) (hts _ (by decide +kernel)) rfl rfl dX0_take_30 (fun H locs hP hD hS => ?_)
      rw [up_nw (by omega) (by omega), bx_uu] at hP hD
      have hsn : sn b n = true := by rw [sn, hbt]; simp [hn0]
      exact W.vret hx hb hr (fun t ht hW => ⟨⟨_, rfl, by rw [dw, hsn]; rfl, wd_end hP hK hD ht hW⟩, hS.F ht⟩) hS.2.2 dX0_take_33
set_option maxHeartbeats 4000000 in
set_option maxRecDepth 100000 in
/-- become: a copy -/
theorem c_X0_become (l : Launch) (D : va_G) (cA : Nat → ClassId) (tT : Nat) (A : Nat → Prop) (N : Nat) (ad : Nat → Nat) (sz : Nat) (g : Nat → va_E) {k k2 : Nat} {d d2 : Bool × Nat × Int} (hk2 : k + 2 < N) (hk22 : k2 + 2 < N) (hk0 : is_D cA ad g k d) (hk20 : is_D cA ad g k2 d2) (n1 : k + 2 < k2 ∨ k2 + 2 < k) (hd64 : d.2.1 < 1000000 ^ 64) (hn64 : d2.2.1 < 1000000 ^ 64) : Met l yX0_become wsX0_become ({ frames := 3, cells := 0, slots := 0, locals := 62 }) (va_Pc [.ref (ad k), .ref (ad k2)] (wd_B D cA tT A N ad sz g)) (va_Qv (fun (u : Nat → va_E) => u = dw cA ad g k (sn d2.1 d2.2.1, d2.2)) (wd_E D cA A N ad) A) 0 0 A := by
  refine Met.ofW (cc := cX0_become) (maxL := 2) (ret := none) (by decide) rfl ?_
  intro p e s m args below meth c s₁ B hml hv
  obtain ⟨rfl, hsz, hP, hK, hD, hT⟩ := hv
  have hx := B.exec
  have hb := B.bytes
  have hr := B.returns
  have hts := atoms_spec (ws := wsX0_become) B.pre
  have hown : s.vm.findClass RX0 = some m.cls := findClass_of_methodNamed B.named
  have hlocks := B.notSynchronized
  subst hsz
  have hS : va_S A s.heap s.heap [] := va_S.rf
  have in0 : ∀ w ∈ wsX00, w ∈ wsX0_become := by decide +kernel
  have in1 : ∀ w ∈ wsX10, w ∈ wsX0_become := by decide +kernel
  have hl := lv_entry ([.ref (ad k), .ref (ad k2)]) (n := 2) (Nat.le_of_ble_eq_true rfl)
  rw [lg_entry_eq]
  generalize (lg_sl ([.ref (ad k), .ref (ad k2)]) ++ List.replicate (2 - (lg_sl ([.ref (ad k), .ref (ad k2)])).length) Slot.unset).toArray = ls at hl ⊢
  have hl : lv_has ls 2 [(0, .ref (ad k)), (1, .ref (ad k2))] := hl
  refine lv_aload_n hx hb dX0_become_0 rfl (lv_at hl 0 rfl) ?_
  refine lv_aload_n hx hb dX0_become_1 rfl (lv_at hl 1 rfl) ?_
  refine rg_0_digits hx hb hts in0 hown hK hP k2 (by omega) hk20.1 (hts _ (by decide +kernel)) dX0_become_2 ?_
  refine lv_aload_n hx hb dX0_become_5 rfl (lv_at hl 1 rfl) ?_
  refine rg_0_minus hx hb hts in0 hown hK hP k2 (by omega) hk20.1 (hts _ (by decide +kernel)) dX0_become_6 ?_
  refine lv_aload_n hx hb dX0_become_9 rfl (lv_at hl 1 rfl) ?_
  refine rg_0_scale hx hb hts in0 hown hK hP k2 (by omega) hk20.1 (hts _ (by decide +kernel)) dX0_become_10 ?_
  refine va_callv (va_runV (As := [.ref (ad (k2 + 1)), .int (nI (d2.1.toNat)), .int (iZ (d2.2.2))]) (rest := []) ⟨hx, hb, hml, hown, hts⟩ (c_X0_take l D cA tT A N ad _ _ (k := k) (q := k2 + 1) (n := d2.2.1) (d := d) (b := d2.1) (z := d2.2.2) hk2 (by omega) hk0 hk20.2 (by omega) (by omega) (by omega) (by omega) (by omega) hd64 hn64) (cwV 3 hts gX0_become_X0_take rfl rfl rfl (by decide +kernel) ⟨Nat.le_of_ble_eq_true rfl, Nat.le_of_ble_eq_true rfl⟩) (wd_preV (k := k) hP hK hD hT hS (by omega) hk0.1 rfl) rfl rfl hl.1 rfl (lv_room (Nat.le_of_ble_eq_true rfl)) dX0_become_13 ⟨Nat.zero_le _, Nat.zero_le _⟩) hS id_2 id_1 (fun u t H locs ht hvm hw hB hz1 hk1 hS => ?_)
  obtain ⟨hP, hD⟩ := wd_back ht hB
  clear ht hvm hB hz1 hk1
  rw [hw] at hP hD
  clear hw
  exact W.vret hx hb hr (fun t ht hW => ⟨⟨_, rfl, rfl, wd_end hP hK hD ht hW⟩, hS.F ht⟩) hS.2.2 dX0_become_16
/-- the sign of a decimal, as an int -/
def sI (d : Bool × Nat × Int) : Int := if d.2.1 = 0 then 0 else if d.1 then -1 else 1
set_option maxHeartbeats 4000000 in
set_option maxRecDepth 100000 in
/-- sign -/
theorem c_X0_sign (l : Launch) (D : va_G) (cA : Nat → ClassId) (tT : Nat) (A : Nat → Prop) (N : Nat) (ad : Nat → Nat) (sz : Nat) (g : Nat → va_E) {k : Nat} {d : Bool × Nat × Int} (hk2 : k + 2 < N) (hk0 : is_D cA ad g k d) (hd64 : d.2.1 < 1000000 ^ 64) : Met l yX0_sign wsX0_sign ({ frames := 1, cells := 0, slots := 0, locals := 20 }) (va_Pc [.ref (ad k)] (wd_B D cA tT A N ad sz g)) (va_Qi (fun (r : Int32) (u : Nat → va_E) => r = iZ (sI d) ∧ u = g) (wd_E D cA A N ad) A) 0 0 A := by
  refine Met.ofW (cc := cX0_sign) (maxL := 1) (ret := (some .int)) (by decide) rfl ?_
  intro p e s m args below meth c s₁ B hml hv
  obtain ⟨rfl, hsz, hP, hK, hD, hT⟩ := hv
  have hx := B.exec
  have hb := B.bytes
  have hr := B.returns
  have hts := atoms_spec (ws := wsX0_sign) B.pre
  have hown : s.vm.findClass RX0 = some m.cls := findClass_of_methodNamed B.named
  have hlocks := B.notSynchronized
  subst hsz
  have hS : va_S A s.heap s.heap [] := va_S.rf
  have in0 : ∀ w ∈ wsX00, w ∈ wsX0_sign := by decide +kernel
  have in1 : ∀ w ∈ wsX10, w ∈ wsX0_sign := by decide +kernel
  have hl := lv_entry ([.ref (ad k)]) (n := 1) (Nat.le_of_ble_eq_true rfl)
  rw [lg_entry_eq]
  generalize (lg_sl ([.ref (ad k)]) ++ List.replicate (1 - (lg_sl ([.ref (ad k)])).length) Slot.unset).toArray = ls at hl ⊢
  have hl : lv_has ls 1 [(0, .ref (ad k))] := hl
  have hb2 := tn_le d.1
  refine lv_aload_n hx hb dX0_sign_0 rfl (lv_at hl 0 rfl) ?_
  refine rg_0_digits hx hb hts in0 hown hK hP k (by omega) hk0.1 (hts _ (by decide +kernel)) dX0_sign_1 ?_
  refine va_calli (va_runV (As := []) (rest := []) ⟨hx, hb, hml, hown, hts⟩ (c_X1_isZero l D cA tT A N ad _ _ (a := k + 1) (x := d.2.1) (by omega) hk0.2 hd64) (cwV 0 hts gX0_sign_X1_isZero rfl rfl rfl (by decide +kernel) ⟨Nat.le_of_ble_eq_true rfl, Nat.le_of_ble_eq_true rfl⟩) (wd_preV (k := k + 1) hP hK hD hT hS (by omega) hk0.2.1 rfl) rfl rfl hl.1 rfl (lv_room (Nat.le_of_ble_eq_true rfl)) dX0_sign_4 ⟨Nat.zero_le _, Nat.zero_le _⟩) hS id_2 id_1 (fun r_ u t H locs ht hvm hw hB hz1 hk1 hS => ?_)
  obtain ⟨hP, hD⟩ := wd_back ht hB
  clear ht hvm hB hz1 hk1
  obtain ⟨hr_, hu_⟩ := hw
  subst hr_
  rw [hu_] at hP hD
  clear hu_
  refine bz_eq (tgt := 12) hx hb dX0_sign_7 (by decide) (by split <;> decide) (fun q1 => ?_) (fun q1 => ?_)
  · have hn0 : ¬ d.2.1 = 0 := by
      intro h
      rw [if_pos h] at q1; exact absurd q1 (by decide)
    refine lv_aload_n hx hb dX0_sign_12 rfl (lv_at hl 0 rfl) ?_
    refine rg_0_minus hx hb hts in0 hown hK hP k (by omega) hk0.1 (hts _ (by decide +kernel)) dX0_sign_13 ?_
    refine bz_eq (tgt := 23) hx hb dX0_sign_16 (by decide) (by omega) (fun q2 => ?_) (fun q2 => ?_)
    · refine lv_iconst (v := nI (1)) hx hb dX0_sign_23 (by decide) ?_
      exact W.iret (v := nI (1)) hx hb hr (fun t ht hW => ⟨⟨nI (1), g, rfl, ⟨by rw [sI, if_neg hn0, tn_z q2]; rfl, rfl⟩, wd_end hP hK hD ht hW⟩, hS.F ht⟩) hS.2.2 dX0_sign_24
    · refine lv_iconst (v := iZ (-1)) hx hb dX0_sign_19 (by decide) ?_
      refine lv_goto (tgt := 24) hx hb dX0_sign_20 (by decide) ?_
      exact W.iret (v := iZ (-1)) hx hb hr (fun t ht hW => ⟨⟨iZ (-1), g, rfl, ⟨by rw [sI, if_neg hn0, tn_nz q2]; rfl, rfl⟩, wd_end hP hK hD ht hW⟩, hS.F ht⟩) hS.2.2 dX0_sign_24
  · have hn0 : d.2.1 = 0 := by
      by_cases h : d.2.1 = 0
      · exact h
      · rw [if_neg h] at q1; exact absurd rfl q1
    refine lv_iconst (v := nI (0)) hx hb dX0_sign_10 (by decide) ?_
    exact W.iret (v := nI (0)) hx hb hr (fun t ht hW => ⟨⟨nI (0), g, rfl, ⟨by rw [sI, if_pos hn0]; rfl, rfl⟩, wd_end hP hK hD ht hW⟩, hS.F ht⟩) hS.2.2 dX0_sign_11
