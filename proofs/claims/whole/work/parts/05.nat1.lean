theorem sb_cpyL {f g : Nat → Int64} {n j : Nat} (h : j < n) : va_cpy f g 0 0 n j = f j := by
  rw [pk_cpy_in (Nat.zero_le _) (by omega)]; congr 1; omega
set_option maxHeartbeats 4000000 in
set_option maxRecDepth 100000 in
/-- isZero: 1 if the number is 0 -/
theorem c_X1_isZero (l : Launch) (D : va_G) (cA : Nat → ClassId) (tT : Nat) (A : Nat → Prop) (N : Nat) (ad : Nat → Nat) (sz : Nat) (g : Nat → va_E) {a x : Nat} (ha1 : a + 1 < N) (ha : is_N cA ad g a x) (hx64 : x < 1000000 ^ 64) : Met l yX1_isZero wsX1_isZero ({ frames := 0, cells := 0, slots := 0, locals := 0 }) (va_Pc [.ref (ad a)] (wd_B D cA tT A N ad sz g)) (va_Qi (fun (r : Int32) (u : Nat → va_E) => r = nI (if x = 0 then 1 else 0) ∧ u = g) (wd_E D cA A N ad) A) 0 0 A := by
  refine Met.ofW (cc := cX1_isZero) (maxL := 1) (ret := (some .boolean)) (by decide) rfl ?_
  intro p e s m args below meth c s₁ B hml hv
  obtain ⟨rfl, hsz, hP, hK, hD, hT⟩ := hv
  have hx := B.exec
  have hb := B.bytes
  have hr := B.returns
  have hts := atoms_spec (ws := wsX1_isZero) B.pre
  have hown : s.vm.findClass RX1 = some m.cls := findClass_of_methodNamed B.named
  have hlocks := B.notSynchronized
  subst hsz
  have hS : va_S A s.heap s.heap [] := va_S.rf
  have in1 : ∀ w ∈ wsX10, w ∈ wsX1_isZero := by decide +kernel
  have hl := lv_entry ([.ref (ad a)]) (n := 1) (Nat.le_of_ble_eq_true rfl)
  rw [lg_entry_eq]
  generalize (lg_sl ([.ref (ad a)]) ++ List.replicate (1 - (lg_sl ([.ref (ad a)])).length) Slot.unset).toArray = ls at hl ⊢
  have hl : lv_has ls 1 [(0, .ref (ad a))] := hl
  have hs64 := nd_s64 hx64
  refine lv_aload_n hx hb dX1_isZero_0 rfl (lv_at hl 0 rfl) ?_
  refine rg_1_size hx hb hts in1 hown hK hP a (by omega) ha.1 (hts _ (by decide +kernel)) dX1_isZero_1 ?_
  refine bz_ne (tgt := 11) hx hb dX1_isZero_4 (by decide) (by omega) (fun q => ?_) (fun q => ?_)
  · refine lv_iconst (v := nI (0)) hx hb dX1_isZero_11 (by decide) ?_
    exact W.zret (v := nI (0)) hx hb hr rfl (fun t ht hW => ⟨⟨nI (0), g, rfl, ⟨by rw [if_neg (fun z => q (nd_s_z.mpr z))], rfl⟩, wd_end hP hK hD ht hW⟩, hS.F ht⟩) hS.2.2 dX1_isZero_12
  · refine lv_iconst (v := nI (1)) hx hb dX1_isZero_7 (by decide) ?_
    refine lv_goto (tgt := 12) hx hb dX1_isZero_8 (by decide) ?_
    exact W.zret (v := nI (1)) hx hb hr rfl (fun t ht hW => ⟨⟨nI (1), g, rfl, ⟨by rw [if_pos (nd_s_z.mp q)], rfl⟩, wd_end hP hK hD ht hW⟩, hS.F ht⟩) hS.2.2 dX1_isZero_12
set_option maxHeartbeats 4000000 in
set_option maxRecDepth 100000 in
theorem lp_X1_clear {p : Program} {l : Launch} {e : Env} {R : Room} {s : State} {m : MethodId} {args : Array Value} {below : List Frame} {meth : Method} {c : Code} {Q : State → Prop} {D : va_G} {cA : Nat → ClassId} {tT : Nat} {A : Nat → Prop} {N : Nat} {ad : Nat → Nat} {g : Nat → va_E} {a x : Nat} (S : CallFix p m c cX1_clear 2 s args wsX1_clear RX1) (hK : va_K D vwCl (ty_s cA) s) (hT : st_T tT A s s.heap) (ha1 : a + 1 < N) (hs64 : nd_s x ≤ 64) (kk : ∀ (H : Heap) (locs : List Loc) (ls : Array Slot), va_P D vwCl (wm_W N ad (nw_ cA ad g a (fun _ => lN 0) (nI (nd_s x)))) H → va_D A (wm_W N ad (nw_ cA ad g a (fun _ => lN 0) (nI (nd_s x)))) → va_S A s.heap H locs → lv_has ls 2 [(1, .int (nI (nd_s x))), (0, .ref (ad a))] → W p l e R s m args below meth c H locs 0 0 Q (F0 m 23 ls [])) :
    ∀ (n i : Nat) (f : Nat → Int64) (H : Heap) (locs : List Loc) (ls : Array Slot), nd_s x - i < n → i ≤ nd_s x → (∀ j, j < i → f j = lN 0) → (∀ j, i ≤ j → f j = nd_A x j) → va_P D vwCl (wm_W N ad (nw_ cA ad g a f (nI (nd_s x)))) H → va_D A (wm_W N ad (nw_ cA ad g a f (nI (nd_s x)))) → va_S A s.heap H locs → lv_has ls 2 [(1, .int (nI (i))), (0, .ref (ad a))] → W p l e R s m args below meth c H locs 0 0 Q (F0 m 2 ls []) := by
  obtain ⟨hx, hb, hml, hown, hts⟩ := S
  have in1 : ∀ w ∈ wsX10, w ∈ wsX1_clear := by decide +kernel
  intro n
  induction n with
  | zero => intro i f H locs ls hn; exact absurd hn (Nat.not_lt_zero _)
  | succ n ih =>
    intro i f H locs ls hn hi h1 h2 hP hD hS hl
    refine lv_iload_n hx hb dX1_clear_2 rfl (lv_at hl 0 rfl) ?_
    refine lv_aload_n hx hb dX1_clear_3 rfl (lv_at hl 1 rfl) ?_
    refine rg_1_size hx hb hts in1 hown hK hP a (by omega) nw_o (hts _ (by decide +kernel)) dX1_clear_4 ?_
    refine bi_ge (tgt := 23) hx hb dX1_clear_7 (by decide) (by omega) (by omega) (fun q => ?_) (fun q => ?_)
    · obtain rfl : i = nd_s x := by omega
      have hf : f = fun _ => lN 0 := by
        funext j
        rcases Nat.lt_or_ge j (nd_s x) with r | r
        · exact h1 j r
        · rw [h2 j r, nd_A, nd_dz (nd_s_lt x) r]
      subst hf
      exact kk H locs ls hP hD hS hl
    · refine lv_aload_n hx hb dX1_clear_10 rfl (lv_at hl 1 rfl) ?_
      refine rg_1_limbs hx hb hts in1 hown hK hP a (by omega) nw_o (hts _ (by decide +kernel)) dX1_clear_11 ?_
      refine lv_iload_n hx hb dX1_clear_14 rfl (lv_at hl 0 rfl) ?_
      refine lv_lconst (v := lN (0)) hx hb dX1_clear_15 rfl ?_
      refine rt_l hx hb hK hP hD hS (a + 1) (by omega) nw_l (by omega) (by decide) dX1_clear_16 (fun H locs hP hD hS => ?_)
      rw [nw_sl] at hP hD
      refine lv_iinc (v := nI (i + 1)) (lv' := [(1, .int (nI (i + 1))), (0, .ref (ad a))]) hx hb dX1_clear_17 hl (k := 0) rfl (nI_inc i 1) (by decide) rfl (fun ls hl => ?_)
      refine lv_goto (tgt := 2) hx hb dX1_clear_20 (by decide) ?_
      refine ih (i + 1) _ H locs ls (by omega) (by omega) (fun j hj => ?_) (fun j hj => ?_) hP hD hS (lv_sub hl [0, 1] rfl)
      · rcases Nat.lt_or_ge j i with r | r
        · rw [pk_uLn (by omega)]; exact h1 j r
        · obtain rfl : j = i := by omega
          exact pk_uLs
      · rw [pk_uLn (by omega)]; exact h2 j (by omega)
set_option maxHeartbeats 4000000 in
set_option maxRecDepth 100000 in
/-- clear: the number becomes 0 -/
theorem c_X1_clear (l : Launch) (D : va_G) (cA : Nat → ClassId) (tT : Nat) (A : Nat → Prop) (N : Nat) (ad : Nat → Nat) (sz : Nat) (g : Nat → va_E) {a x : Nat} (ha1 : a + 1 < N) (ha : is_N cA ad g a x) (hx64 : x < 1000000 ^ 64) : Met l yX1_clear wsX1_clear ({ frames := 0, cells := 0, slots := 0, locals := 0 }) (va_Pc [.ref (ad a)] (wd_B D cA tT A N ad sz g)) (va_Qv (fun (u : Nat → va_E) => u = nN cA ad g a 0) (wd_E D cA A N ad) A) 0 0 A := by
  refine Met.ofW (cc := cX1_clear) (maxL := 2) (ret := none) (by decide) rfl ?_
  intro p e s m args below meth c s₁ B hml hv
  obtain ⟨rfl, hsz, hP, hK, hD, hT⟩ := hv
  have hx := B.exec
  have hb := B.bytes
  have hr := B.returns
  have hts := atoms_spec (ws := wsX1_clear) B.pre
  have hown : s.vm.findClass RX1 = some m.cls := findClass_of_methodNamed B.named
  have hlocks := B.notSynchronized
  subst hsz
  have hS : va_S A s.heap s.heap [] := va_S.rf
  have in1 : ∀ w ∈ wsX10, w ∈ wsX1_clear := by decide +kernel
  have hl := lv_entry ([.ref (ad a)]) (n := 2) (Nat.le_of_ble_eq_true rfl)
  rw [lg_entry_eq]
  generalize (lg_sl ([.ref (ad a)]) ++ List.replicate (2 - (lg_sl ([.ref (ad a)])).length) Slot.unset).toArray = ls at hl ⊢
  have hl : lv_has ls 2 [(0, .ref (ad a))] := hl
  have hs64 := nd_s64 hx64
  rw [← nw_self ha] at hP hD
  refine lv_iconst (v := nI (0)) hx hb dX1_clear_0 (by decide) ?_
  refine lv_istore_n (lv' := [(1, .int (nI (0))), (0, .ref (ad a))]) hx hb dX1_clear_1 rfl hl (by decide) rfl (fun ls hl => ?_)
  refine lp_X1_clear ⟨hx, hb, hml, hown, hts⟩ hK hT ha1 hs64 (fun H locs ls hP hD hS hl => ?_) (nd_s x + 1) 0 _ _ _ ls (by omega) (Nat.zero_le _) (fun j hj => absurd hj (Nat.not_lt_zero _)) (fun j _ => rfl) hP hD hS hl
  refine lv_aload_n hx hb dX1_clear_23 rfl (lv_at hl 1 rfl) ?_
  refine lv_iconst (v := nI (0)) hx hb dX1_clear_24 (by decide) ?_
  refine rp_1_size hx hb hts in1 hown hK hP hD hS a (by omega) nw_o (hts _ (by decide +kernel)) rfl rfl dX1_clear_25 (fun H locs hP hD hS => ?_)
  rw [nw_so] at hP hD
  exact W.vret hx hb hr (fun t ht hW => ⟨⟨_, rfl, by rw [nN, nd_A0, nd_s0], wd_end hP hK hD ht hW⟩, hS.F ht⟩) hS.2.2 dX1_clear_28
set_option maxHeartbeats 4000000 in
set_option maxRecDepth 100000 in
theorem lp_X1_shrink {p : Program} {l : Launch} {e : Env} {R : Room} {s : State} {m : MethodId} {args : Array Value} {below : List Frame} {meth : Method} {c : Code} {Q : State → Prop} {D : va_G} {cA : Nat → ClassId} {tT : Nat} {A : Nat → Prop} {N : Nat} {ad : Nat → Nat} {g : Nat → va_E} {a V : Nat} (S : CallFix p m c cX1_shrink 1 s args wsX1_shrink RX1) (hK : va_K D vwCl (ty_s cA) s) (hT : st_T tT A s s.heap) (ha1 : a + 1 < N) (kk : ∀ (H : Heap) (locs : List Loc) (ls : Array Slot), va_P D vwCl (wm_W N ad (nN cA ad g a V)) H → va_D A (wm_W N ad (nN cA ad g a V)) → va_S A s.heap H locs → lv_has ls 1 [(0, .ref (ad a))] → W p l e R s m args below meth c H locs 0 0 Q (F0 m 36 ls [])) :
    ∀ (k : Nat) (H : Heap) (locs : List Loc) (ls : Array Slot), k ≤ 64 → V < 1000000 ^ k → va_P D vwCl (wm_W N ad (nw_ cA ad g a (nd_A V) (nI k))) H → va_D A (wm_W N ad (nw_ cA ad g a (nd_A V) (nI k))) → va_S A s.heap H locs → lv_has ls 1 [(0, .ref (ad a))] → W p l e R s m args below meth c H locs 0 0 Q (F0 m 0 ls []) := by
  obtain ⟨hx, hb, hml, hown, hts⟩ := S
  have in1 : ∀ w ∈ wsX10, w ∈ wsX1_shrink := by decide +kernel
  intro k
  induction k with
  | zero =>
    intro H locs ls hk hV hP hD hS hl
    refine lv_aload_n hx hb dX1_shrink_0 rfl (lv_at hl 0 rfl) ?_
    refine rg_1_size hx hb hts in1 hown hK hP a (by omega) nw_o (hts _ (by decide +kernel)) dX1_shrink_1 ?_
    refine bz_le (tgt := 36) hx hb dX1_shrink_4 (by decide) (by omega) (fun q => ?_) (fun q => ?_)
    · exact kk H locs ls (by rw [show V = 0 by simpa using hV] at hP ⊢; rw [nN, nd_s0]; exact hP) (wm_D hD) hS hl
    · exact absurd (Nat.le_refl 0) q
  | succ k ih =>
    intro H locs ls hk hV hP hD hS hl
    refine lv_aload_n hx hb dX1_shrink_0 rfl (lv_at hl 0 rfl) ?_
    refine rg_1_size hx hb hts in1 hown hK hP a (by omega) nw_o (hts _ (by decide +kernel)) dX1_shrink_1 ?_
    refine bz_le (tgt := 36) hx hb dX1_shrink_4 (by decide) (by omega) (fun q => ?_) (fun q => ?_)
    · exact absurd q (Nat.not_succ_le_zero k)
    · refine lv_aload_n hx hb dX1_shrink_7 rfl (lv_at hl 0 rfl) ?_
      refine rg_1_limbs hx hb hts in1 hown hK hP a (by omega) nw_o (hts _ (by decide +kernel)) dX1_shrink_8 ?_
      refine lv_aload_n hx hb dX1_shrink_11 rfl (lv_at hl 0 rfl) ?_
      refine rg_1_size hx hb hts in1 hown hK hP a (by omega) nw_o (hts _ (by decide +kernel)) dX1_shrink_12 ?_
      refine lv_iconst (v := nI (1)) hx hb dX1_shrink_15 (by decide) ?_
      refine lv_isub hx hb dX1_shrink_16 ?_
      refine tp_i (y := nI (k)) (nI_sub1 k) ?_
      refine rn_l hx hb hK hP (a + 1) (by omega) nw_l (by omega) (by decide) dX1_shrink_17 ?_
      refine tp_l (y := lN (nd_d V k)) rfl ?_
      refine lv_lconst (v := lN (0)) hx hb dX1_shrink_18 rfl ?_
      refine bl_ne (tgt := 36) hx hb dX1_shrink_19 dX1_shrink_20 (by decide) (by have := nd_lt V k; omega) (by decide) (fun q2 => ?_) (fun q2 => ?_)
      · exact kk H locs ls (by rw [nN, nd_size hV q2]; exact hP) (wm_D hD) hS hl
      · refine lv_aload_n hx hb dX1_shrink_23 rfl (lv_at hl 0 rfl) ?_
        refine lv_dup hx hb dX1_shrink_24 rfl ?_
        refine rg_1_size hx hb hts in1 hown hK hP a (by omega) nw_o (hts _ (by decide +kernel)) dX1_shrink_25 ?_
        refine lv_iconst (v := nI (1)) hx hb dX1_shrink_28 (by decide) ?_
        refine lv_isub hx hb dX1_shrink_29 ?_
        refine tp_i (y := nI (k)) (nI_sub1 k) ?_
        refine rp_1_size hx hb hts in1 hown hK hP hD hS a (by omega) nw_o (hts _ (by decide +kernel)) rfl rfl dX1_shrink_30 (fun H locs hP hD hS => ?_)
        rw [nw_so] at hP hD
        refine lv_goto (tgt := 0) hx hb dX1_shrink_33 (by decide) ?_
        exact ih H locs ls (by omega) (nd_shrink hV q2) hP hD hS hl
set_option maxHeartbeats 4000000 in
set_option maxRecDepth 100000 in
/-- shrink: the size becomes what it is -/
theorem c_X1_shrink (l : Launch) (D : va_G) (cA : Nat → ClassId) (tT : Nat) (A : Nat → Prop) (N : Nat) (ad : Nat → Nat) (sz : Nat) (g : Nat → va_E) {a V k : Nat} (ha1 : a + 1 < N) (hk : k ≤ 64) (hV : V < 1000000 ^ k) : Met l yX1_shrink wsX1_shrink ({ frames := 0, cells := 0, slots := 0, locals := 0 }) (va_Pc [.ref (ad a)] (wd_B D cA tT A N ad sz (nw_ cA ad g a (nd_A V) (nI k)))) (va_Qv (fun (u : Nat → va_E) => u = nN cA ad g a V) (wd_E D cA A N ad) A) 0 0 A := by
  refine Met.ofW (cc := cX1_shrink) (maxL := 1) (ret := none) (by decide) rfl ?_
  intro p e s m args below meth c s₁ B hml hv
  obtain ⟨rfl, hsz, hP, hK, hD, hT⟩ := hv
  have hx := B.exec
  have hb := B.bytes
  have hr := B.returns
  have hts := atoms_spec (ws := wsX1_shrink) B.pre
  have hown : s.vm.findClass RX1 = some m.cls := findClass_of_methodNamed B.named
  have hlocks := B.notSynchronized
  subst hsz
  have hS : va_S A s.heap s.heap [] := va_S.rf
  have in1 : ∀ w ∈ wsX10, w ∈ wsX1_shrink := by decide +kernel
  have hl := lv_entry ([.ref (ad a)]) (n := 1) (Nat.le_of_ble_eq_true rfl)
  rw [lg_entry_eq]
  generalize (lg_sl ([.ref (ad a)]) ++ List.replicate (1 - (lg_sl ([.ref (ad a)])).length) Slot.unset).toArray = ls at hl ⊢
  have hl : lv_has ls 1 [(0, .ref (ad a))] := hl
  refine lp_X1_shrink ⟨hx, hb, hml, hown, hts⟩ hK hT ha1 (fun H locs ls hP hD hS hl => ?_) k _ _ ls hk hV hP hD hS hl
  exact W.vret hx hb hr (fun t ht hW => ⟨⟨_, rfl, rfl, wd_end hP hK hD ht hW⟩, hS.F ht⟩) hS.2.2 dX1_shrink_36
set_option maxHeartbeats 4000000 in
set_option maxRecDepth 100000 in
/-- close: the last carry, and the size -/
theorem c_X1_close (l : Launch) (D : va_G) (cA : Nat → ClassId) (tT : Nat) (A : Nat → Prop) (N : Nat) (ad : Nat → Nat) (sz : Nat) (g : Nat → va_E) {a V k cv : Nat} {f : Nat → Int64} {sv : Int32} (ha1 : a + 1 < N) (hk : k ≤ 64) (hV : V < 1000000 ^ 64) (hc : cv = V / 1000000 ^ k) (hcB : cv < 1000000) (hs : cv = 0 → nd_s V = k) (hf : ∀ j, j < k → f j = nd_A V j) (hz : ∀ j, k ≤ j → f j = lN 0) : Met l yX1_close wsX1_close ({ frames := 0, cells := 0, slots := 0, locals := 0 }) (va_Pc [.ref (ad a), .int (nI (k)), .long (lN (cv))] (wd_B D cA tT A N ad sz (nw_ cA ad g a f sv))) (va_Qv (fun (u : Nat → va_E) => u = nN cA ad g a V) (wd_E D cA A N ad) A) 0 0 A := by
  refine Met.ofW (cc := cX1_close) (maxL := 4) (ret := none) (by decide) rfl ?_
  intro p e s m args below meth c s₁ B hml hv
  obtain ⟨rfl, hsz, hP, hK, hD, hT⟩ := hv
  have hx := B.exec
  have hb := B.bytes
  have hr := B.returns
  have hts := atoms_spec (ws := wsX1_close) B.pre
  have hown : s.vm.findClass RX1 = some m.cls := findClass_of_methodNamed B.named
  have hlocks := B.notSynchronized
  subst hsz
  have hS : va_S A s.heap s.heap [] := va_S.rf
  have in1 : ∀ w ∈ wsX10, w ∈ wsX1_close := by decide +kernel
  have hl := lv_entry ([.ref (ad a), .int (nI (k)), .long (lN (cv))]) (n := 4) (Nat.le_of_ble_eq_true rfl)
  rw [lg_entry_eq]
  generalize (lg_sl ([.ref (ad a), .int (nI (k)), .long (lN (cv))]) ++ List.replicate (4 - (lg_sl ([.ref (ad a), .int (nI (k)), .long (lN (cv))])).length) Slot.unset).toArray = ls at hl ⊢
  have hl : lv_has ls 4 [(0, .ref (ad a)), (1, .int (nI (k))), (2, .long (lN (cv)))] := hl
  refine lv_aload_n hx hb dX1_close_0 rfl (lv_at hl 0 rfl) ?_
  refine lv_iload_n hx hb dX1_close_1 rfl (lv_at hl 1 rfl) ?_
  refine rp_1_size hx hb hts in1 hown hK hP hD hS a (by omega) nw_o (hts _ (by decide +kernel)) rfl rfl dX1_close_2 (fun H locs hP hD hS => ?_)
  rw [nw_so] at hP hD
  refine lv_lload_n hx hb dX1_close_5 rfl (lv_at hl 2 rfl) ?_
  refine lv_lconst (v := lN (0)) hx hb dX1_close_6 rfl ?_
  refine bl_eq (tgt := 31) hx hb dX1_close_7 dX1_close_8 (by decide) (by omega) (by decide) (fun q => ?_) (fun q => ?_)
  · have hfe : f = nd_A V := by
      funext j
      rcases Nat.lt_or_ge j k with r | r
      · exact hf j r
      · rw [hz j r, nd_A, nd_dz (n := V) (k := k) (by rw [← hs q]; exact nd_s_lt V) r]
    subst hfe
    exact W.vret hx hb hr (fun t ht hW => ⟨⟨_, rfl, by rw [nN, hs q], wd_end hP hK hD ht hW⟩, hS.F ht⟩) hS.2.2 dX1_close_31
  · refine lv_iload_n hx hb dX1_close_11 rfl (lv_at hl 1 rfl) ?_
    refine lv_bipush (v := nI (64)) hx hb dX1_close_12 (by decide) ?_
    refine bi_ge (tgt := 31) hx hb dX1_close_14 (by decide) (by omega) (by omega) (fun q2 => ?_) (fun q2 => ?_)
    · exact absurd (nd_qz hV q2) (by rw [← hc]; exact q)
    · refine lv_aload_n hx hb dX1_close_17 rfl (lv_at hl 0 rfl) ?_
      refine rg_1_limbs hx hb hts in1 hown hK hP a (by omega) nw_o (hts _ (by decide +kernel)) dX1_close_18 ?_
      refine lv_iload_n hx hb dX1_close_21 rfl (lv_at hl 1 rfl) ?_
      refine lv_lload_n hx hb dX1_close_22 rfl (lv_at hl 2 rfl) ?_
      refine rt_l hx hb hK hP hD hS (a + 1) (by omega) nw_l (by omega) (by decide) dX1_close_23 (fun H locs hP hD hS => ?_)
      rw [nw_sl] at hP hD
      refine lv_aload_n hx hb dX1_close_24 rfl (lv_at hl 0 rfl) ?_
      refine lv_iload_n hx hb dX1_close_25 rfl (lv_at hl 1 rfl) ?_
      refine lv_iconst (v := nI (1)) hx hb dX1_close_26 (by decide) ?_
      refine lv_iadd hx hb dX1_close_27 ?_
      refine tp_i (y := nI (k + 1)) (nI_add _ _) ?_
      refine rp_1_size hx hb hts in1 hown hK hP hD hS a (by omega) nw_o (hts _ (by decide +kernel)) rfl rfl dX1_close_28 (fun H locs hP hD hS => ?_)
      rw [nw_so] at hP hD
      have hVk : V < 1000000 ^ (k + 1) := by
        have e : V / 1000000 ^ k < 1000000 := by rw [← hc]; exact hcB
        rw [Nat.div_lt_iff_lt_mul (Nat.pow_pos (by decide)), Nat.mul_comm] at e
        rw [Nat.pow_succ]; exact e
      have hdk : nd_d V k = cv := by rw [nd_d, ← hc, Nat.mod_eq_of_lt hcB]
      have hsz : nd_s V = k + 1 := nd_size hVk (by rw [hdk]; exact q)
      have hfe : vp_updL f k (lN cv) = nd_A V := by
        funext j
        rcases Nat.lt_trichotomy j k with r | r | r
        · rw [pk_uLn (by omega)]; exact hf j r
        · subst r; rw [pk_uLs, nd_A, hdk]
        · rw [pk_uLn (by omega), hz j (by omega), nd_A, nd_dz hVk r]
      rw [hfe] at hP hD
      exact W.vret hx hb hr (fun t ht hW => ⟨⟨_, rfl, by rw [nN, hsz], wd_end hP hK hD ht hW⟩, hS.F ht⟩) hS.2.2 dX1_close_31
set_option maxHeartbeats 4000000 in
set_option maxRecDepth 100000 in
/-- become: a copy -/
theorem c_X1_become (l : Launch) (D : va_G) (cA : Nat → ClassId) (tT : Nat) (A : Nat → Prop) (N : Nat) (ad : Nat → Nat) (sz : Nat) (g : Nat → va_E) {a b x y : Nat} (ha1 : a + 1 < N) (hb1 : b + 1 < N) (ha : is_N cA ad g a x) (hb0 : is_N cA ad g b y) (hx64 : x < 1000000 ^ 64) (hy64 : y < 1000000 ^ 64) (n1 : a ≠ b) (n2 : a ≠ b + 1) (n3 : a + 1 ≠ b) : Met l yX1_become wsX1_become ({ frames := 1, cells := 0, slots := 0, locals := 18 }) (va_Pc [.ref (ad a), .ref (ad b)] (wd_B D cA tT A N ad sz g)) (va_Qv (fun (u : Nat → va_E) => u = nN cA ad g a y) (wd_E D cA A N ad) A) 0 0 A := by
  refine Met.ofW (cc := cX1_become) (maxL := 2) (ret := none) (by decide) rfl ?_
  intro p e s m args below meth c s₁ B hml hv
  obtain ⟨rfl, hsz, hP, hK, hD, hT⟩ := hv
  have hx := B.exec
  have hb := B.bytes
  have hr := B.returns
  have hts := atoms_spec (ws := wsX1_become) B.pre
  have hown : s.vm.findClass RX1 = some m.cls := findClass_of_methodNamed B.named
  have hlocks := B.notSynchronized
  subst hsz
  have hS : va_S A s.heap s.heap [] := va_S.rf
  have in1 : ∀ w ∈ wsX10, w ∈ wsX1_become := by decide +kernel
  have hl := lv_entry ([.ref (ad a), .ref (ad b)]) (n := 2) (Nat.le_of_ble_eq_true rfl)
  rw [lg_entry_eq]
  generalize (lg_sl ([.ref (ad a), .ref (ad b)]) ++ List.replicate (2 - (lg_sl ([.ref (ad a), .ref (ad b)])).length) Slot.unset).toArray = ls at hl ⊢
  have hl : lv_has ls 2 [(0, .ref (ad a)), (1, .ref (ad b))] := hl
  have hb9 := hb
  rw [← nw_self ha] at hP hD
  refine lv_aload_n hx hb dX1_become_0 rfl (lv_at hl 1 rfl) ?_
  refine rg_1_limbs hx hb hts in1 hown hK hP b (by omega) ((nw_ne (by omega) (by omega)).trans hb0.1) (hts _ (by decide +kernel)) dX1_become_1 ?_
  refine lv_iconst (v := nI (0)) hx hb dX1_become_4 (by decide) ?_
  refine lv_aload_n hx hb dX1_become_5 rfl (lv_at hl 0 rfl) ?_
  refine rg_1_limbs hx hb hts in1 hown hK hP a (by omega) nw_o (hts _ (by decide +kernel)) dX1_become_6 ?_
  refine lv_iconst (v := nI (0)) hx hb dX1_become_9 (by decide) ?_
  refine lv_bipush (v := nI (64)) hx hb dX1_become_10 (by decide) ?_
  refine va_copyl hx hb (by rw [hml]; exact hl.1.symm) hown (hts _ (by decide +kernel)) (hts _ (by decide +kernel)) (hts _ (by decide +kernel)) (hts _ (by decide +kernel)) hK hP hD hS (b + 1) (a + 1) 0 0 (ty := .long) (wm_at (by omega) ((nw_ne (by omega) (by omega)).trans hb0.2)) (wm_at (by omega) nw_l) rfl rfl rfl (by decide) (by decide) (by decide) (by decide) (by decide) (fun _ _ => rfl) (Nat.le_of_ble_eq_true rfl) (Nat.le_of_ble_eq_true rfl) dX1_become_12 (fun H locs hP hD hS => ?_)
  rw [wm_set, nw_sl] at hP hD
  have hfe : va_cpy (nd_A y) (nd_A x) (nI 0).toNatClampNeg (nI 0).toNatClampNeg (nI 64).toNatClampNeg = nd_A y := by
    funext j
    rw [nI_clamp (n := 0) (by decide), nI_clamp (n := 64) (by decide)]
    rcases Nat.lt_or_ge j 64 with r | r
    · rw [sb_cpyL r]
    · rw [pk_cpy_out (Or.inr (by omega)), nd_A, nd_A, nd_dz hx64 r, nd_dz hy64 r]
  rw [hfe] at hP hD
  refine lv_aload_n hx hb dX1_become_15 rfl (lv_at hl 0 rfl) ?_
  refine lv_aload_n hx hb dX1_become_16 rfl (lv_at hl 1 rfl) ?_
  refine rg_1_size hx hb hts in1 hown hK hP b (by omega) ((nw_ne (by omega) (by omega)).trans hb0.1) (hts _ (by decide +kernel)) dX1_become_17 ?_
  refine rp_1_size hx hb hts in1 hown hK hP hD hS a (by omega) nw_o (hts _ (by decide +kernel)) rfl rfl dX1_become_20 (fun H locs hP hD hS => ?_)
  rw [nw_so] at hP hD
  exact W.vret hx hb hr (fun t ht hW => ⟨⟨_, rfl, rfl, wd_end hP hK hD ht hW⟩, hS.F ht⟩) hS.2.2 dX1_become_23
