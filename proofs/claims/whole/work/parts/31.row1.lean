set_option maxHeartbeats 4000000 in
set_option maxRecDepth 100000 in
/-- isZero -/
theorem c_X3_isZero (l : Launch) (D : va_G) (cA : Nat → ClassId) (tT : Nat) (A : Nat → Prop) (N : Nat) (ad : Nat → Nat) (sz : Nat) (g : Nat → va_E) {a : Nat} {f : Nat → Int32} {n : Nat} {b : Bool} {z : Int} {v : Nat} (ha1 : a + 1 < N) (ha : is_R cA ad g a f n b z) (hv : rv f n v) (hn : n ≤ 800) : Met l yX3_isZero wsX3_isZero ({ frames := 0, cells := 0, slots := 0, locals := 0 }) (va_Pc [.ref (ad a)] (wd_B D cA tT A N ad sz g)) (va_Qi (fun (r : Int32) (u : Nat → va_E) => r = nI (if v = 0 then 1 else 0) ∧ u = g) (wd_E D cA A N ad) A) 0 0 A := by
  refine Met.ofW (cc := cX3_isZero) (maxL := 1) (ret := (some .boolean)) (by decide) rfl ?_
  intro p e s m args below meth c s₁ B hml hv
  obtain ⟨rfl, hsz, hP, hK, hD, hT⟩ := hv
  have hx := B.exec
  have hb := B.bytes
  have hr := B.returns
  have hts := atoms_spec (ws := wsX3_isZero) B.pre
  have hown : s.vm.findClass RX3 = some m.cls := findClass_of_methodNamed B.named
  have hlocks := B.notSynchronized
  subst hsz
  have hS : va_S A s.heap s.heap [] := va_S.rf
  have in3 : ∀ w ∈ wsX30, w ∈ wsX3_isZero := by decide +kernel
  have hl := lv_entry ([.ref (ad a)]) (n := 1) (Nat.le_of_ble_eq_true rfl)
  rw [lg_entry_eq]
  generalize (lg_sl ([.ref (ad a)]) ++ List.replicate (1 - (lg_sl ([.ref (ad a)])).length) Slot.unset).toArray = ls at hl ⊢
  have hl : lv_has ls 1 [(0, .ref (ad a))] := hl
  have h0 := rv_0 hv
  have hd := dg_lt v 0
  refine lv_aload_n hx hb dX3_isZero_0 rfl (lv_at hl 0 rfl) ?_
  refine rg_3_n hx hb hts in3 hown hK hP a (by omega) ha.1 (hts _ (by decide +kernel)) dX3_isZero_1 ?_
  refine lv_iconst (v := nI (1)) hx hb dX3_isZero_4 (by decide) ?_
  refine bi_ne (tgt := 21) hx hb dX3_isZero_5 (by decide) (by omega) (by omega) (fun q => ?_) (fun q => ?_)
  · refine lv_iconst (v := nI (0)) hx hb dX3_isZero_21 (by decide) ?_
    exact W.zret (v := nI (0)) hx hb hr rfl (fun t ht hW => ⟨⟨nI (0), g, rfl, ⟨by rw [if_neg (fun e => q (h0.mp e).1)], rfl⟩, wd_end hP hK hD ht hW⟩, hS.F ht⟩) hS.2.2 dX3_isZero_22
  · refine lv_aload_n hx hb dX3_isZero_8 rfl (lv_at hl 0 rfl) ?_
    refine rg_3_d hx hb hts in3 hown hK hP a (by omega) ha.1 (hts _ (by decide +kernel)) dX3_isZero_9 ?_
    refine lv_iconst (v := nI (0)) hx hb dX3_isZero_12 (by decide) ?_
    refine rn_i hx hb hK hP (a + 1) (by omega) ha.2 (by omega) (by decide) dX3_isZero_13 ?_
    refine tp_i (y := nI (v / 10 ^ 0 % 10)) (hv.2 0 (by omega)) ?_
    refine bz_ne (tgt := 21) hx hb dX3_isZero_14 (by decide) (by omega) (fun q2 => ?_) (fun q2 => ?_)
    · refine lv_iconst (v := nI (0)) hx hb dX3_isZero_21 (by decide) ?_
      exact W.zret (v := nI (0)) hx hb hr rfl (fun t ht hW => ⟨⟨nI (0), g, rfl, ⟨by rw [if_neg (fun e => q2 (h0.mp e).2)], rfl⟩, wd_end hP hK hD ht hW⟩, hS.F ht⟩) hS.2.2 dX3_isZero_22
    · refine lv_iconst (v := nI (1)) hx hb dX3_isZero_17 (by decide) ?_
      refine lv_goto (tgt := 22) hx hb dX3_isZero_18 (by decide) ?_
      exact W.zret (v := nI (1)) hx hb hr rfl (fun t ht hW => ⟨⟨nI (1), g, rfl, ⟨by rw [if_pos (h0.mpr ⟨q, q2⟩)], rfl⟩, wd_end hP hK hD ht hW⟩, hS.F ht⟩) hS.2.2 dX3_isZero_22
set_option maxHeartbeats 4000000 in
set_option maxRecDepth 100000 in
/-- zero -/
theorem c_X3_zero (l : Launch) (D : va_G) (cA : Nat → ClassId) (tT : Nat) (A : Nat → Prop) (N : Nat) (ad : Nat → Nat) (sz : Nat) (g : Nat → va_E) {a : Nat} {f : Nat → Int32} {n : Nat} {b : Bool} {z : Int} (ha1 : a + 1 < N) (ha : is_R cA ad g a f n b z) : Met l yX3_zero wsX3_zero ({ frames := 0, cells := 0, slots := 0, locals := 0 }) (va_Pc [.ref (ad a)] (wd_B D cA tT A N ad sz g)) (va_Qv (fun (u : Nat → va_E) => u = rw_ cA ad g a (upd f 0 (nI 0)) 1 false z) (wd_E D cA A N ad) A) 0 0 A := by
  refine Met.ofW (cc := cX3_zero) (maxL := 1) (ret := none) (by decide) rfl ?_
  intro p e s m args below meth c s₁ B hml hv
  obtain ⟨rfl, hsz, hP, hK, hD, hT⟩ := hv
  have hx := B.exec
  have hb := B.bytes
  have hr := B.returns
  have hts := atoms_spec (ws := wsX3_zero) B.pre
  have hown : s.vm.findClass RX3 = some m.cls := findClass_of_methodNamed B.named
  have hlocks := B.notSynchronized
  subst hsz
  have hS : va_S A s.heap s.heap [] := va_S.rf
  have in3 : ∀ w ∈ wsX30, w ∈ wsX3_zero := by decide +kernel
  have hl := lv_entry ([.ref (ad a)]) (n := 1) (Nat.le_of_ble_eq_true rfl)
  rw [lg_entry_eq]
  generalize (lg_sl ([.ref (ad a)]) ++ List.replicate (1 - (lg_sl ([.ref (ad a)])).length) Slot.unset).toArray = ls at hl ⊢
  have hl : lv_has ls 1 [(0, .ref (ad a))] := hl
  rw [← rw_self ha] at hP hD
  refine lv_aload_n hx hb dX3_zero_0 rfl (lv_at hl 0 rfl) ?_
  refine lv_iconst (v := nI (1)) hx hb dX3_zero_1 (by decide) ?_
  refine rp_3_n hx hb hts in3 hown hK hP hD hS a (by omega) rw_o (hts _ (by decide +kernel)) rfl rfl dX3_zero_2 (fun H locs hP hD hS => ?_)
  rw [rw_so] at hP hD
  refine lv_aload_n hx hb dX3_zero_5 rfl (lv_at hl 0 rfl) ?_
  refine rg_3_d hx hb hts in3 hown hK hP a (by omega) rw_o (hts _ (by decide +kernel)) dX3_zero_6 ?_
  refine lv_iconst (v := nI (0)) hx hb dX3_zero_9 (by decide) ?_
  refine lv_iconst (v := nI (0)) hx hb dX3_zero_10 (by decide) ?_
  refine rt_i hx hb hK hP hD hS (a + 1) (by omega) rw_l (by omega) (by decide) dX3_zero_11 (fun H locs hP hD hS => ?_)
  rw [rw_sl] at hP hD
  refine lv_aload_n hx hb dX3_zero_12 rfl (lv_at hl 0 rfl) ?_
  refine lv_iconst (v := nI (0)) hx hb dX3_zero_13 (by decide) ?_
  refine rp_3_minus hx hb hts in3 hown hK hP hD hS a (by omega) rw_o (hts _ (by decide +kernel)) rfl rfl dX3_zero_14 (fun H locs hP hD hS => ?_)
  rw [rw_sb false (v := nI (0)) rfl] at hP hD
  exact W.vret hx hb hr (fun t ht hW => ⟨⟨_, rfl, rfl, wd_end hP hK hD ht hW⟩, hS.F ht⟩) hS.2.2 dX3_zero_17
theorem dv_dn {f : Nat → Int32} {n m : Nat} (h : dv f (n + 1) m) (h0 : m / 10 ^ n % 10 = 0) : dv f n m := ⟨nd_p_dn h.1 h0, fun j hj => h.2 j (by omega)⟩
set_option maxHeartbeats 4000000 in
set_option maxRecDepth 100000 in
theorem lp_X3_trim {p : Program} {l : Launch} {e : Env} {R : Room} {s : State} {m : MethodId} {args : Array Value} {below : List Frame} {meth : Method} {c : Code} {Q : State → Prop} {D : va_G} {cA : Nat → ClassId} {tT : Nat} {A : Nat → Prop} {N : Nat} {ad : Nat → Nat} {g : Nat → va_E} {a : Nat} {f : Nat → Int32} {b : Bool} {z : Int} {v : Nat} (S : CallFix p m c cX3_trim 1 s args wsX3_trim RX3) (hK : va_K D vwCl (ty_s cA) s) (hT : st_T tT A s s.heap) (ha1 : a + 1 < N) (kk : ∀ (H : Heap) (locs : List Loc) (ls : Array Slot), rv f (nd_p v) v → va_P D vwCl (wm_W N ad (rw_ cA ad g a f (nd_p v) b z)) H → va_D A (wm_W N ad (rw_ cA ad g a f (nd_p v) b z)) → va_S A s.heap H locs → lv_has ls 1 [(0, .ref (ad a))] → W p l e R s m args below meth c H locs 0 0 Q (F0 m 35 ls [])) :
    ∀ (n : Nat) (H : Heap) (locs : List Loc) (ls : Array Slot), n + 1 ≤ 800 → dv f (n + 1) v → va_P D vwCl (wm_W N ad (rw_ cA ad g a f (n + 1) b z)) H → va_D A (wm_W N ad (rw_ cA ad g a f (n + 1) b z)) → va_S A s.heap H locs → lv_has ls 1 [(0, .ref (ad a))] → W p l e R s m args below meth c H locs 0 0 Q (F0 m 0 ls []) := by
  obtain ⟨hx, hb, hml, hown, hts⟩ := S
  have in3 : ∀ w ∈ wsX30, w ∈ wsX3_trim := by decide +kernel
  intro n
  induction n with
  | zero =>
    intro H locs ls hn hv hP hD hS hl
    refine lv_aload_n hx hb dX3_trim_0 rfl (lv_at hl 0 rfl) ?_
    refine rg_3_n hx hb hts in3 hown hK hP a (by omega) rw_o (hts _ (by decide +kernel)) dX3_trim_1 ?_
    refine lv_iconst (v := nI (1)) hx hb dX3_trim_4 (by decide) ?_
    refine bi_le (tgt := 35) hx hb dX3_trim_5 (by decide) (by omega) (by omega) (fun q => ?_) (fun q => ?_)
    · have e1 : nd_p v = 0 + 1 := nd_p1 (by simpa using hv.1)
      exact kk H locs ls (dv_rv hv (by decide)) (by rw [e1]; exact hP) (wm_D hD) hS hl
    · exact absurd (Nat.le_refl 1) q
  | succ n ih =>
    intro H locs ls hn hv hP hD hS hl
    refine lv_aload_n hx hb dX3_trim_0 rfl (lv_at hl 0 rfl) ?_
    refine rg_3_n hx hb hts in3 hown hK hP a (by omega) rw_o (hts _ (by decide +kernel)) dX3_trim_1 ?_
    refine lv_iconst (v := nI (1)) hx hb dX3_trim_4 (by decide) ?_
    refine bi_le (tgt := 35) hx hb dX3_trim_5 (by decide) (by omega) (by omega) (fun q => ?_) (fun q => ?_)
    · exact absurd q (by omega)
    · have hd := dg_lt v (n + 1)
      refine lv_aload_n hx hb dX3_trim_8 rfl (lv_at hl 0 rfl) ?_
      refine rg_3_d hx hb hts in3 hown hK hP a (by omega) rw_o (hts _ (by decide +kernel)) dX3_trim_9 ?_
      refine lv_aload_n hx hb dX3_trim_12 rfl (lv_at hl 0 rfl) ?_
      refine rg_3_n hx hb hts in3 hown hK hP a (by omega) rw_o (hts _ (by decide +kernel)) dX3_trim_13 ?_
      refine lv_iconst (v := nI (1)) hx hb dX3_trim_16 (by decide) ?_
      refine lv_isub hx hb dX3_trim_17 ?_
      refine tp_i (y := nI (n + 1)) (nI_sub1 (n + 1)) ?_
      refine rn_i hx hb hK hP (a + 1) (by omega) rw_l (by omega) (by decide) dX3_trim_18 ?_
      refine tp_i (y := nI (v / 10 ^ (n + 1) % 10)) (hv.2 (n + 1) (by omega)) ?_
      refine bz_ne (tgt := 35) hx hb dX3_trim_19 (by decide) (by omega) (fun q2 => ?_) (fun q2 => ?_)
      · have e1 : nd_p v = n + 1 + 1 := nd_p_eq hv.1 q2
        exact kk H locs ls (dv_rv hv (by omega)) (by rw [e1]; exact hP) (wm_D hD) hS hl
      · refine lv_aload_n hx hb dX3_trim_22 rfl (lv_at hl 0 rfl) ?_
        refine lv_dup hx hb dX3_trim_23 rfl ?_
        refine rg_3_n hx hb hts in3 hown hK hP a (by omega) rw_o (hts _ (by decide +kernel)) dX3_trim_24 ?_
        refine lv_iconst (v := nI (1)) hx hb dX3_trim_27 (by decide) ?_
        refine lv_isub hx hb dX3_trim_28 ?_
        refine tp_i (y := nI (n + 1)) (nI_sub1 (n + 1)) ?_
        refine rp_3_n hx hb hts in3 hown hK hP hD hS a (by omega) rw_o (hts _ (by decide +kernel)) rfl rfl dX3_trim_29 (fun H locs hP hD hS => ?_)
        rw [rw_so] at hP hD
        refine lv_goto (tgt := 0) hx hb dX3_trim_32 (by decide) ?_
        exact ih H locs ls (by omega) (dv_dn hv q2) hP hD hS hl
set_option maxHeartbeats 4000000 in
set_option maxRecDepth 100000 in
/-- trim -/
theorem c_X3_trim (l : Launch) (D : va_G) (cA : Nat → ClassId) (tT : Nat) (A : Nat → Prop) (N : Nat) (ad : Nat → Nat) (sz : Nat) (g : Nat → va_E) {a : Nat} {f : Nat → Int32} {n : Nat} {b : Bool} {z : Int} {v : Nat} (ha1 : a + 1 < N) (ha : is_R cA ad g a f n b z) (hn1 : 1 ≤ n) (hn : n ≤ 800) (hv : dv f n v) : Met l yX3_trim wsX3_trim ({ frames := 1, cells := 0, slots := 0, locals := 20 }) (va_Pc [.ref (ad a)] (wd_B D cA tT A N ad sz g)) (va_Qv (fun (u : Nat → va_E) => rv f (nd_p v) v ∧ u = rw_ cA ad g a f (nd_p v) (sn b v) z) (wd_E D cA A N ad) A) 0 0 A := by
  refine Met.ofW (cc := cX3_trim) (maxL := 1) (ret := none) (by decide) rfl ?_
  intro p e s m args below meth c s₁ B hml hv
  obtain ⟨rfl, hsz, hP, hK, hD, hT⟩ := hv
  have hx := B.exec
  have hb := B.bytes
  have hr := B.returns
  have hts := atoms_spec (ws := wsX3_trim) B.pre
  have hown : s.vm.findClass RX3 = some m.cls := findClass_of_methodNamed B.named
  have hlocks := B.notSynchronized
  subst hsz
  have hS : va_S A s.heap s.heap [] := va_S.rf
  have in3 : ∀ w ∈ wsX30, w ∈ wsX3_trim := by decide +kernel
  have hl := lv_entry ([.ref (ad a)]) (n := 1) (Nat.le_of_ble_eq_true rfl)
  rw [lg_entry_eq]
  generalize (lg_sl ([.ref (ad a)]) ++ List.replicate (1 - (lg_sl ([.ref (ad a)])).length) Slot.unset).toArray = ls at hl ⊢
  have hl : lv_has ls 1 [(0, .ref (ad a))] := hl
  rw [← rw_self ha] at hP hD
  obtain ⟨n9, rfl⟩ : ∃ k, n = k + 1 := ⟨n - 1, by omega⟩
  refine lp_X3_trim ⟨hx, hb, hml, hown, hts⟩ hK hT ha1 (fun H locs ls hr9 hP hD hS hl => ?_) n9 _ _ ls hn hv hP hD hS hl
  have hp8 : nd_p v ≤ 800 := Nat.le_trans ((nd_p_le hn1).mpr hv.1) hn
  refine lv_aload_n hx hb dX3_trim_35 rfl (lv_at hl 0 rfl) ?_
  refine va_calli (va_runV (As := []) (rest := []) ⟨hx, hb, hml, hown, hts⟩ (c_X3_isZero l D cA tT A N ad _ _ (a := a) (f := f) (n := nd_p v) (b := b) (z := z) (v := v) ha1 rw_is hr9 hp8) (cwV 0 hts gX3_trim_X3_isZero rfl rfl rfl (by decide +kernel) ⟨Nat.le_of_ble_eq_true rfl, Nat.le_of_ble_eq_true rfl⟩) (wd_preV (k := a) hP hK hD hT hS (by omega) rw_o rfl) rfl rfl hl.1 rfl (lv_room (Nat.le_of_ble_eq_true rfl)) dX3_trim_36 ⟨Nat.zero_le _, Nat.zero_le _⟩) hS id_2 id_1 (fun r_ u t H locs ht hvm hw hB hz1 hk1 hS => ?_)
  obtain ⟨hP, hD⟩ := wd_back ht hB
  clear ht hvm hB hz1 hk1
  obtain ⟨hr_, hu_⟩ := hw
  subst hr_
  rw [hu_] at hP hD
  clear hu_
  refine bz_eq (tgt := 47) hx hb dX3_trim_39 (by decide) (by split <;> decide) (fun q => ?_) (fun q => ?_)
  · have hv0 : ¬ v = 0 := by intro h; rw [if_pos h] at q; exact absurd q (by decide)
    exact W.vret hx hb hr (fun t ht hW => ⟨⟨_, rfl, ⟨hr9, by rw [show sn b v = b by rw [sn]; simp [hv0]]⟩, wd_end hP hK hD ht hW⟩, hS.F ht⟩) hS.2.2 dX3_trim_47
  · have hv0 : v = 0 := by
      by_cases h : v = 0
      · exact h
      · rw [if_neg h] at q; exact absurd rfl q
    refine lv_aload_n hx hb dX3_trim_42 rfl (lv_at hl 0 rfl) ?_
    refine lv_iconst (v := nI (0)) hx hb dX3_trim_43 (by decide) ?_
    refine rp_3_minus hx hb hts in3 hown hK hP hD hS a (by omega) rw_o (hts _ (by decide +kernel)) rfl rfl dX3_trim_44 (fun H locs hP hD hS => ?_)
    rw [rw_sb false (v := nI (0)) rfl] at hP hD
    exact W.vret hx hb hr (fun t ht hW => ⟨⟨_, rfl, ⟨hr9, by rw [show sn b v = false by rw [sn, hv0]; simp]⟩, wd_end hP hK hD ht hW⟩, hS.F ht⟩) hS.2.2 dX3_trim_47
set_option maxHeartbeats 4000000 in
set_option maxRecDepth 100000 in
theorem lp_X3_take {p : Program} {l : Launch} {e : Env} {R : Room} {s : State} {m : MethodId} {args : Array Value} {below : List Frame} {meth : Method} {c : Code} {Q : State → Prop} {D : va_G} {cA : Nat → ClassId} {tT : Nat} {A : Nat → Prop} {N : Nat} {ad : Nat → Nat} {g : Nat → va_E} {a o : Nat} {f f1 : Nat → Int32} {n1 : Nat} {b1 : Bool} {z1 : Int} (S : CallFix p m c cX3_take 3 s args wsX3_take RX3) (hK : va_K D vwCl (ty_s cA) s) (hT : st_T tT A s s.heap) (ha1 : a + 1 < N) (ho1 : o + 1 < N) (ho : is_R cA ad g o f1 n1 b1 z1) (m1 : a ≠ o) (m2 : a ≠ o + 1) (m3 : a + 1 ≠ o) (hn1 : n1 ≤ 800) (kk : ∀ (H : Heap) (locs : List Loc) (ls : Array Slot), va_P D vwCl (wm_W N ad (rw_ cA ad g a (tk f1 f n1) n1 b1 z1)) H → va_D A (wm_W N ad (rw_ cA ad g a (tk f1 f n1) n1 b1 z1)) → va_S A s.heap H locs → W p l e R s m args below meth c H locs 0 0 Q (F0 m 52 ls [])) :
    ∀ (n i : Nat) (H : Heap) (locs : List Loc) (ls : Array Slot), i + n = n1 → va_P D vwCl (wm_W N ad (rw_ cA ad g a (tk f1 f i) n1 b1 z1)) H → va_D A (wm_W N ad (rw_ cA ad g a (tk f1 f i) n1 b1 z1)) → va_S A s.heap H locs → lv_has ls 3 [(2, .int (nI (i))), (0, .ref (ad a)), (1, .ref (ad o))] → W p l e R s m args below meth c H locs 0 0 Q (F0 m 26 ls []) := by
  obtain ⟨hx, hb, hml, hown, hts⟩ := S
  have in3 : ∀ w ∈ wsX30, w ∈ wsX3_take := by decide +kernel
  intro n
  induction n with
  | zero =>
    intro i H locs ls hn hP hD hS hl
    refine lv_iload_n hx hb dX3_take_26 rfl (lv_at hl 0 rfl) ?_
    refine lv_aload_n hx hb dX3_take_27 rfl (lv_at hl 1 rfl) ?_
    refine rg_3_n hx hb hts in3 hown hK hP a (by omega) rw_o (hts _ (by decide +kernel)) dX3_take_28 ?_
    refine bi_ge (tgt := 52) hx hb dX3_take_31 (by decide) (by omega) (by omega) (fun q => ?_) (fun q => ?_)
    · obtain rfl : i = n1 := by omega
      exact kk H locs ls hP hD hS
    · exact absurd hn (by omega)
  | succ n ih =>
    intro i H locs ls hn hP hD hS hl
    refine lv_iload_n hx hb dX3_take_26 rfl (lv_at hl 0 rfl) ?_
    refine lv_aload_n hx hb dX3_take_27 rfl (lv_at hl 1 rfl) ?_
    refine rg_3_n hx hb hts in3 hown hK hP a (by omega) rw_o (hts _ (by decide +kernel)) dX3_take_28 ?_
    refine bi_ge (tgt := 52) hx hb dX3_take_31 (by decide) (by omega) (by omega) (fun q => ?_) (fun q => ?_)
    · exact absurd hn (by omega)
    · refine lv_aload_n hx hb dX3_take_34 rfl (lv_at hl 1 rfl) ?_
      refine rg_3_d hx hb hts in3 hown hK hP a (by omega) rw_o (hts _ (by decide +kernel)) dX3_take_35 ?_
      refine lv_iload_n hx hb dX3_take_38 rfl (lv_at hl 0 rfl) ?_
      refine lv_aload_n hx hb dX3_take_39 rfl (lv_at hl 2 rfl) ?_
      refine rg_3_d hx hb hts in3 hown hK hP o (by omega) ((rw_ne (by omega) (by omega)).trans ho.1) (hts _ (by decide +kernel)) dX3_take_40 ?_
      refine lv_iload_n hx hb dX3_take_43 rfl (lv_at hl 0 rfl) ?_
      refine rn_i hx hb hK hP (o + 1) (by omega) ((rw_ne (by omega) (by omega)).trans ho.2) (by omega) (by decide) dX3_take_44 ?_
      refine rt_i hx hb hK hP hD hS (a + 1) (by omega) rw_l (by omega) (by decide) dX3_take_45 (fun H locs hP hD hS => ?_)
      rw [rw_sl] at hP hD
      refine lv_iinc (v := nI (i + 1)) (lv' := [(2, .int (nI (i + 1))), (0, .ref (ad a)), (1, .ref (ad o))]) hx hb dX3_take_46 hl (k := 0) rfl (nI_inc i 1) (by decide) rfl (fun ls hl => ?_)
      refine lv_goto (tgt := 26) hx hb dX3_take_49 (by decide) ?_
      rw [tk_s] at hP hD
      exact ih (i + 1) H locs ls (by omega) hP hD hS hl
set_option maxHeartbeats 4000000 in
set_option maxRecDepth 100000 in
/-- take -/
theorem c_X3_take (l : Launch) (D : va_G) (cA : Nat → ClassId) (tT : Nat) (A : Nat → Prop) (N : Nat) (ad : Nat → Nat) (sz : Nat) (g : Nat → va_E) {a : Nat} {f : Nat → Int32} {n : Nat} {b : Bool} {z : Int} {o : Nat} {f1 : Nat → Int32} {n1 : Nat} {b1 : Bool} {z1 : Int} (ha1 : a + 1 < N) (ha : is_R cA ad g a f n b z) (ho1 : o + 1 < N) (ho : is_R cA ad g o f1 n1 b1 z1) (m1 : a ≠ o) (m2 : a ≠ o + 1) (m3 : a + 1 ≠ o) (hn1 : n1 ≤ 800) : Met l yX3_take wsX3_take ({ frames := 0, cells := 0, slots := 0, locals := 0 }) (va_Pc [.ref (ad a), .ref (ad o)] (wd_B D cA tT A N ad sz g)) (va_Qv (fun (u : Nat → va_E) => u = rw_ cA ad g a (tk f1 f n1) n1 b1 z1) (wd_E D cA A N ad) A) 0 0 A := by
  refine Met.ofW (cc := cX3_take) (maxL := 3) (ret := none) (by decide) rfl ?_
  intro p e s m args below meth c s₁ B hml hv
  obtain ⟨rfl, hsz, hP, hK, hD, hT⟩ := hv
  have hx := B.exec
  have hb := B.bytes
  have hr := B.returns
  have hts := atoms_spec (ws := wsX3_take) B.pre
  have hown : s.vm.findClass RX3 = some m.cls := findClass_of_methodNamed B.named
  have hlocks := B.notSynchronized
  subst hsz
  have hS : va_S A s.heap s.heap [] := va_S.rf
  have in3 : ∀ w ∈ wsX30, w ∈ wsX3_take := by decide +kernel
  have hl := lv_entry ([.ref (ad a), .ref (ad o)]) (n := 3) (Nat.le_of_ble_eq_true rfl)
  rw [lg_entry_eq]
  generalize (lg_sl ([.ref (ad a), .ref (ad o)]) ++ List.replicate (3 - (lg_sl ([.ref (ad a), .ref (ad o)])).length) Slot.unset).toArray = ls at hl ⊢
  have hl : lv_has ls 3 [(0, .ref (ad a)), (1, .ref (ad o))] := hl
  rw [← rw_self ha] at hP hD
  refine lv_aload_n hx hb dX3_take_0 rfl (lv_at hl 0 rfl) ?_
  refine lv_aload_n hx hb dX3_take_1 rfl (lv_at hl 1 rfl) ?_
  refine rg_3_n hx hb hts in3 hown hK hP o (by omega) ((rw_ne (by omega) (by omega)).trans ho.1) (hts _ (by decide +kernel)) dX3_take_2 ?_
  refine rp_3_n hx hb hts in3 hown hK hP hD hS a (by omega) rw_o (hts _ (by decide +kernel)) rfl rfl dX3_take_5 (fun H locs hP hD hS => ?_)
  rw [rw_so] at hP hD
  refine lv_aload_n hx hb dX3_take_8 rfl (lv_at hl 0 rfl) ?_
  refine lv_aload_n hx hb dX3_take_9 rfl (lv_at hl 1 rfl) ?_
  refine rg_3_minus hx hb hts in3 hown hK hP o (by omega) ((rw_ne (by omega) (by omega)).trans ho.1) (hts _ (by decide +kernel)) dX3_take_10 ?_
  refine rp_3_minus hx hb hts in3 hown hK hP hD hS a (by omega) rw_o (hts _ (by decide +kernel)) (bt_nar _) (bt_fit _) dX3_take_13 (fun H locs hP hD hS => ?_)
  rw [rw_sb b1 (v := nI (b1.toNat)) rfl] at hP hD
  refine lv_aload_n hx hb dX3_take_16 rfl (lv_at hl 0 rfl) ?_
  refine lv_aload_n hx hb dX3_take_17 rfl (lv_at hl 1 rfl) ?_
  refine rg_3_scale hx hb hts in3 hown hK hP o (by omega) ((rw_ne (by omega) (by omega)).trans ho.1) (hts _ (by decide +kernel)) dX3_take_18 ?_
  refine rp_3_scale hx hb hts in3 hown hK hP hD hS a (by omega) rw_o (hts _ (by decide +kernel)) rfl rfl dX3_take_21 (fun H locs hP hD hS => ?_)
  rw [rw_so] at hP hD
  refine lv_iconst (v := nI (0)) hx hb dX3_take_24 (by decide) ?_
  refine lv_istore_n (lv' := [(2, .int (nI (0))), (0, .ref (ad a)), (1, .ref (ad o))]) hx hb dX3_take_25 rfl hl (by decide) rfl (fun ls hl => ?_)
  rw [← tk_0 f1 f] at hP hD
  refine lp_X3_take ⟨hx, hb, hml, hown, hts⟩ hK hT ha1 ho1 ho m1 m2 m3 hn1 (fun H locs ls hP hD hS => ?_) n1 0 _ _ ls (by omega) hP hD hS hl
  exact W.vret hx hb hr (fun t ht hW => ⟨⟨_, rfl, rfl, wd_end hP hK hD ht hW⟩, hS.F ht⟩) hS.2.2 dX3_take_52
