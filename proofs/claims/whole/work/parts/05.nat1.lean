set_option maxHeartbeats 4000000 in
set_option maxRecDepth 100000 in
/-- isZero: 1 if the number is 0 -/
theorem c_X1_isZero (l : Launch) (D : va_G) (cA : Nat → ClassId) (tT : Nat) (A : Nat → Prop) (N : Nat) (ad : Nat → Nat) (sz : Nat) (g : Nat → va_E) {a x : Nat} (ha1 : a + 1 < N) (ha : is_N cA ad g a x) (hx64 : x < 1000000 ^ 64) : Met l yX1_isZero wsX1_isZero ({ frames := 0, cells := 0, slots := 0, locals := 0 }) (va_Pc [.ref (ad a)] (wd_B D cA tT A N ad sz g)) (va_Qi (fun (r : Int32) (u : Nat → va_E) => r = nI (if x = 0 then 1 else 0) ∧ u = g) (wd_E D cA A N ad) A) 0 0 A := by
  refine Met.ofW (cc := cX1_isZero) (maxL := 1) (ret := (some .boolean)) (by decide) rfl ?_
  intro p e s m args below meth c s₁ B hml hv
  obtain ⟨rfl, hsz, hP, hK, hD, hT⟩ := hv
  have hx := B.exec
  have hb := B.bytes
  have hr := B.returns
  have hts := atoms_spec (ws := wsX1_isZero) B.pre
  have hown : s.vm.findClass RX1 = some m.cls := findClass_of_methodNamed B.named
  have hlocks := B.notSynchronized
  subst hsz
  have hS : va_S A s.heap s.heap [] := va_S.rf
  have in1 : ∀ w ∈ wsX10, w ∈ wsX1_isZero := by decide +kernel
  have hl := lv_entry ([.ref (ad a)]) (n := 1) (Nat.le_of_ble_eq_true rfl)
  rw [lg_entry_eq]
  generalize (lg_sl ([.ref (ad a)]) ++ List.replicate (1 - (lg_sl ([.ref (ad a)])).length) Slot.unset).toArray = ls at hl ⊢
  have hl : lv_has ls 1 [(0, .ref (ad a))] := hl
  have hs64 := nd_s64 hx64
  refine lv_aload_n hx hb dX1_isZero_0 rfl (lv_at hl 0 rfl) ?_
  refine rg_1_size hx hb hts in1 hown hK hP a (by omega) ha.1 (hts _ (by decide +kernel)) dX1_isZero_1 ?_
  refine bz_ne (tgt := 11) hx hb dX1_isZero_4 (by decide) (by omega) (fun q => ?_) (fun q => ?_)
  · refine lv_iconst (v := nI (0)) hx hb dX1_isZero_11 (by decide) ?_
    exact W.zret (v := nI (0)) hx hb hr rfl (fun t ht hW => ⟨⟨nI (0), g, rfl, ⟨by rw [if_neg (fun z => q (nd_s_z.mpr z))], rfl⟩, wd_end hP hK hD ht hW⟩, hS.F ht⟩) hS.2.2 dX1_isZero_12
  · refine lv_iconst (v := nI (1)) hx hb dX1_isZero_7 (by decide) ?_
    refine lv_goto (tgt := 12) hx hb dX1_isZero_8 (by decide) ?_
    exact W.zret (v := nI (1)) hx hb hr rfl (fun t ht hW => ⟨⟨nI (1), g, rfl, ⟨by rw [if_pos (nd_s_z.mp q)], rfl⟩, wd_end hP hK hD ht hW⟩, hS.F ht⟩) hS.2.2 dX1_isZero_12
set_option maxHeartbeats 4000000 in
set_option maxRecDepth 100000 in
theorem lp_X1_clear {p : Program} {l : Launch} {e : Env} {R : Room} {s : State} {m : MethodId} {args : Array Value} {below : List Frame} {meth : Method} {c : Code} {Q : State → Prop} {D : va_G} {cA : Nat → ClassId} {tT : Nat} {A : Nat → Prop} {N : Nat} {ad : Nat → Nat} {g : Nat → va_E} {a x : Nat} (S : CallFix p m c cX1_clear 2 s args wsX1_clear RX1) (hK : va_K D vwCl (ty_s cA) s) (ha1 : a + 1 < N) (hs64 : nd_s x ≤ 64) (kk : ∀ (H : Heap) (locs : List Loc) (ls : Array Slot), va_P D vwCl (wm_W N ad (nw_ cA ad g a (fun _ => lN 0) (nI (nd_s x)))) H → va_D A (wm_W N ad (nw_ cA ad g a (fun _ => lN 0) (nI (nd_s x)))) → va_S A s.heap H locs → lv_has ls 2 [(1, .int (nI (nd_s x))), (0, .ref (ad a))] → W p l e R s m args below meth c H locs 0 0 Q (F0 m 23 ls [])) :
    ∀ (n i : Nat) (f : Nat → Int64) (H : Heap) (locs : List Loc) (ls : Array Slot), nd_s x - i < n → i ≤ nd_s x → (∀ j, j < i → f j = lN 0) → (∀ j, i ≤ j → f j = nd_A x j) → va_P D vwCl (wm_W N ad (nw_ cA ad g a f (nI (nd_s x)))) H → va_D A (wm_W N ad (nw_ cA ad g a f (nI (nd_s x)))) → va_S A s.heap H locs → lv_has ls 2 [(1, .int (nI (i))), (0, .ref (ad a))] → W p l e R s m args below meth c H locs 0 0 Q (F0 m 2 ls []) := by
  obtain ⟨hx, hb, hml, hown, hts⟩ := S
  have in1 : ∀ w ∈ wsX10, w ∈ wsX1_clear := by decide +kernel
  intro n
  induction n with
  | zero => intro i f H locs ls hn; exact absurd hn (Nat.not_lt_zero _)
  | succ n ih =>
    intro i f H locs ls hn hi h1 h2 hP hD hS hl
    refine lv_iload_n hx hb dX1_clear_2 rfl (lv_at hl 0 rfl) ?_
    refine lv_aload_n hx hb dX1_clear_3 rfl (lv_at hl 1 rfl) ?_
    refine rg_1_size hx hb hts in1 hown hK hP a (by omega) nw_o (hts _ (by decide +kernel)) dX1_clear_4 ?_
    refine bi_ge (tgt := 23) hx hb dX1_clear_7 (by decide) (by omega) (by omega) (fun q => ?_) (fun q => ?_)
    · obtain rfl : i = nd_s x := by omega
      have hf : f = fun _ => lN 0 := by
        funext j
        rcases Nat.lt_or_ge j (nd_s x) with r | r
        · exact h1 j r
        · rw [h2 j r, nd_A, nd_dz (nd_s_lt x) r]
      subst hf
      exact kk H locs ls hP hD hS hl
    · refine lv_aload_n hx hb dX1_clear_10 rfl (lv_at hl 1 rfl) ?_
      refine rg_1_limbs hx hb hts in1 hown hK hP a (by omega) nw_o (hts _ (by decide +kernel)) dX1_clear_11 ?_
      refine lv_iload_n hx hb dX1_clear_14 rfl (lv_at hl 0 rfl) ?_
      refine lv_lconst (v := lN (0)) hx hb dX1_clear_15 rfl ?_
      refine rt_l hx hb hK hP hD hS (a + 1) (by omega) nw_l (by omega) (by decide) dX1_clear_16 (fun H locs hP hD hS => ?_)
      rw [nw_sl] at hP hD
      refine lv_iinc (v := nI (i + 1)) (lv' := [(1, .int (nI (i + 1))), (0, .ref (ad a))]) hx hb dX1_clear_17 hl (k := 0) rfl (nI_inc i 1) (by decide) rfl (fun ls hl => ?_)
      refine lv_goto (tgt := 2) hx hb dX1_clear_20 (by decide) ?_
      refine ih (i + 1) _ H locs ls (by omega) (by omega) (fun j hj => ?_) (fun j hj => ?_) hP hD hS (lv_sub hl [0, 1] rfl)
      · rcases Nat.lt_or_ge j i with r | r
        · rw [pk_uLn (by omega)]; exact h1 j r
        · obtain rfl : j = i := by omega
          exact pk_uLs
      · rw [pk_uLn (by omega)]; exact h2 j (by omega)
set_option maxHeartbeats 4000000 in
set_option maxRecDepth 100000 in
/-- clear: the number becomes 0 -/
theorem c_X1_clear (l : Launch) (D : va_G) (cA : Nat → ClassId) (tT : Nat) (A : Nat → Prop) (N : Nat) (ad : Nat → Nat) (sz : Nat) (g : Nat → va_E) {a x : Nat} (ha1 : a + 1 < N) (ha : is_N cA ad g a x) (hx64 : x < 1000000 ^ 64) : Met l yX1_clear wsX1_clear ({ frames := 0, cells := 0, slots := 0, locals := 0 }) (va_Pc [.ref (ad a)] (wd_B D cA tT A N ad sz g)) (va_Qv (fun (u : Nat → va_E) => u = nN cA ad g a 0) (wd_E D cA A N ad) A) 0 0 A := by
  refine Met.ofW (cc := cX1_clear) (maxL := 2) (ret := none) (by decide) rfl ?_
  intro p e s m args below meth c s₁ B hml hv
  obtain ⟨rfl, hsz, hP, hK, hD, hT⟩ := hv
  have hx := B.exec
  have hb := B.bytes
  have hr := B.returns
  have hts := atoms_spec (ws := wsX1_clear) B.pre
  have hown : s.vm.findClass RX1 = some m.cls := findClass_of_methodNamed B.named
  have hlocks := B.notSynchronized
  subst hsz
  have hS : va_S A s.heap s.heap [] := va_S.rf
  have in1 : ∀ w ∈ wsX10, w ∈ wsX1_clear := by decide +kernel
  have hl := lv_entry ([.ref (ad a)]) (n := 2) (Nat.le_of_ble_eq_true rfl)
  rw [lg_entry_eq]
  generalize (lg_sl ([.ref (ad a)]) ++ List.replicate (2 - (lg_sl ([.ref (ad a)])).length) Slot.unset).toArray = ls at hl ⊢
  have hl : lv_has ls 2 [(0, .ref (ad a))] := hl
  have hs64 := nd_s64 hx64
  rw [← nw_self ha] at hP hD
  refine lv_iconst (v := nI (0)) hx hb dX1_clear_0 (by decide) ?_
  refine lv_istore_n (lv' := [(1, .int (nI (0))), (0, .ref (ad a))]) hx hb dX1_clear_1 rfl hl (by decide) rfl (fun ls hl => ?_)
  refine lp_X1_clear ⟨hx, hb, hml, hown, hts⟩ hK ha1 hs64 (fun H locs ls hP hD hS hl => ?_) (nd_s x + 1) 0 _ _ _ ls (by omega) (Nat.zero_le _) (fun j hj => absurd hj (Nat.not_lt_zero _)) (fun j _ => rfl) hP hD hS hl
  refine lv_aload_n hx hb dX1_clear_23 rfl (lv_at hl 1 rfl) ?_
  refine lv_iconst (v := nI (0)) hx hb dX1_clear_24 (by decide) ?_
  refine rp_1_size hx hb hts in1 hown hK hP hD hS a (by omega) nw_o (hts _ (by decide +kernel)) rfl rfl dX1_clear_25 (fun H locs hP hD hS => ?_)
  rw [nw_so] at hP hD
  exact W.vret hx hb hr (fun t ht hW => ⟨⟨_, rfl, by rw [nN, nd_A0, nd_s0], wd_end hP hK hD ht hW⟩, hS.F ht⟩) hS.2.2 dX1_clear_28
