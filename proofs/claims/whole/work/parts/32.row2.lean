theorem tp_dsh (V F j : Nat) : V * 10 ^ F / 10 ^ j % 10 = if j < F then 0 else V / 10 ^ (j - F) % 10 := by
  by_cases h : j < F
  · rw [if_pos h]
    obtain ⟨d, rfl⟩ : ∃ d, F = j + (d + 1) := ⟨F - j - 1, by omega⟩
    have e3 : V * 10 ^ (j + (d + 1)) = 10 ^ j * (V * 10 ^ d * 10) := by
      rw [Nat.pow_add, Nat.pow_succ]; simp only [Nat.mul_comm, Nat.mul_left_comm]
    rw [e3, Nat.mul_div_cancel_left _ (Nat.pow_pos (by decide))]
    omega
  · rw [if_neg h]
    obtain ⟨d, rfl⟩ : ∃ d, j = F + d := ⟨j - F, by omega⟩
    rw [Nat.pow_add, ← Nat.div_div_eq_div_mul, Nat.mul_div_cancel _ (Nat.pow_pos (by decide)), show F + d - F = d by omega]
theorem tp_psh {V F : Nat} (h : V ≠ 0) : nd_p (V * 10 ^ F) = nd_p V + F := by
  have h0 := nd_p_pos V
  have h1 : nd_p (V * 10 ^ F) ≤ nd_p V + F := (nd_p_le (by omega)).mpr (by
    rw [Nat.pow_add]; exact Nat.mul_lt_mul_of_pos_right (nd_p_lt V) (Nat.pow_pos (n := F) (show 0 < 10 by decide)))
  rcases Nat.eq_zero_or_pos (nd_p V + F - 1) with q | q
  · have := nd_p_pos (V * 10 ^ F); omega
  · have h2 : nd_p V + F - 1 < nd_p (V * 10 ^ F) := (nd_p_ge q).mpr (by
      rw [show nd_p V + F - 1 = (nd_p V - 1) + F by omega, Nat.pow_add]
      refine Nat.mul_le_mul_right _ ?_
      rcases Nat.eq_zero_or_pos (nd_p V - 1) with r | r
      · rw [r, Nat.pow_zero]; omega
      · exact (nd_p_ge r).mp (by omega))
    omega
theorem tp_ms (y k : Nat) : y % 10 ^ (k + 1) = y % 10 ^ k + 10 ^ k * (y / 10 ^ k % 10) := by rw [Nat.pow_succ, Nat.mod_mul]
set_option maxHeartbeats 4000000 in
set_option maxRecDepth 100000 in
theorem lp_X3_up1 {p : Program} {l : Launch} {e : Env} {R : Room} {s : State} {m : MethodId} {args : Array Value} {below : List Frame} {meth : Method} {c : Code} {Q : State → Prop} {D : va_G} {cA : Nat → ClassId} {tT : Nat} {A : Nat → Prop} {N : Nat} {ad : Nat → Nat} {g : Nat → va_E} {a n F : Nat} {f : Nat → Int32} {b : Bool} {z : Int} (S : CallFix p m c cX3_up 3 s args wsX3_up RX3) (hK : va_K D vwCl (ty_s cA) s) (hT : st_T tT A s s.heap) (ha1 : a + 1 < N) (hF : n + F ≤ 800) (kk : ∀ (f' : Nat → Int32) (H : Heap) (locs : List Loc) (ls : Array Slot), (∀ j, F ≤ j → j < n + F → f' j = f (j - F)) → va_P D vwCl (wm_W N ad (rw_ cA ad g a (f') n b z)) H → va_D A (wm_W N ad (rw_ cA ad g a (f') n b z)) → va_S A s.heap H locs → lv_has ls 3 [(0, .ref (ad a)), (1, .int (nI F))] → W p l e R s m args below meth c H locs 0 0 Q (F0 m 43 ls [])) :
    ∀ (k : Nat) (f' : Nat → Int32) (H : Heap) (locs : List Loc) (ls : Array Slot), k ≤ n → (∀ j, k + F ≤ j → j < n + F → f' j = f (j - F)) → (∀ j, j < k → f' j = f j) → va_P D vwCl (wm_W N ad (rw_ cA ad g a (f') n b z)) H → va_D A (wm_W N ad (rw_ cA ad g a (f') n b z)) → va_S A s.heap H locs → lv_has ls 3 [(2, .int (dn k)), (0, .ref (ad a)), (1, .int (nI (F)))] → W p l e R s m args below meth c H locs 0 0 Q (F0 m 19 ls []) := by
  obtain ⟨hx, hb, hml, hown, hts⟩ := S
  have in3 : ∀ w ∈ wsX30, w ∈ wsX3_up := by decide +kernel
  intro k
  induction k with
  | zero =>
    intro f' H locs ls hk h1 h2 hP hD hS hl
    refine lv_iload_n hx hb dX3_up_19 rfl (lv_at hl 0 rfl) ?_
    refine by_lt (tgt := 43) hx hb dX3_up_20 (by decide) (by omega) (by omega) (fun q => ?_) (fun q => ?_)
    · exact kk f' H locs ls (fun j hj hj2 => h1 j (by omega) hj2) hP hD hS (lv_sub hl [1, 2] rfl)
    · exact absurd (by decide) q
  | succ k ih =>
    intro f' H locs ls hk h1 h2 hP hD hS hl
    refine lv_iload_n hx hb dX3_up_19 rfl (lv_at hl 0 rfl) ?_
    refine bz_lt (tgt := 43) hx hb dX3_up_20 (by decide) (by omega) (fun q => ?_) (fun q => ?_)
    · exact absurd q (Nat.not_lt_zero _)
    · refine lv_aload_n hx hb dX3_up_23 rfl (lv_at hl 1 rfl) ?_
      refine rg_3_d hx hb hts in3 hown hK hP a (by omega) rw_o (hts _ (by decide +kernel)) dX3_up_24 ?_
      refine lv_iload_n hx hb dX3_up_27 rfl (lv_at hl 0 rfl) ?_
      refine lv_iload_n hx hb dX3_up_28 rfl (lv_at hl 2 rfl) ?_
      refine lv_iadd hx hb dX3_up_29 ?_
      refine tp_i (y := nI (k + F)) (nI_add _ _) ?_
      refine lv_aload_n hx hb dX3_up_30 rfl (lv_at hl 1 rfl) ?_
      refine rg_3_d hx hb hts in3 hown hK hP a (by omega) rw_o (hts _ (by decide +kernel)) dX3_up_31 ?_
      refine lv_iload_n hx hb dX3_up_34 rfl (lv_at hl 0 rfl) ?_
      refine rn_i hx hb hK hP (a + 1) (by omega) rw_l (by omega) (by decide) dX3_up_35 ?_
      refine tp_i (y := f k) (h2 k (by omega)) ?_
      refine rt_i hx hb hK hP hD hS (a + 1) (by omega) rw_l (by omega) (by decide) dX3_up_36 (fun H locs hP hD hS => ?_)
      rw [rw_sl] at hP hD
      refine lv_iinc (v := dn k) (lv' := [(2, .int (dn k)), (0, .ref (ad a)), (1, .int (nI (F)))]) hx hb dX3_up_37 hl (k := 0) rfl (dn_dec k) (by decide) rfl (fun ls hl => ?_)
      refine lv_goto (tgt := 19) hx hb dX3_up_40 (by decide) ?_
      refine ih _ H locs ls (by omega) (fun j hj hj2 => ?_) (fun j hj => ?_) hP hD hS hl
      · rcases Nat.lt_or_ge (k + F) j with r | r
        · rw [pk_un (by omega)]; exact h1 j (by omega) hj2
        · obtain rfl : j = k + F := by omega
          rw [pk_us, show k + F - F = k by omega]
      · rw [pk_un (by omega)]; exact h2 j (by omega)
set_option maxHeartbeats 4000000 in
set_option maxRecDepth 100000 in
theorem lp_X3_up2 {p : Program} {l : Launch} {e : Env} {R : Room} {s : State} {m : MethodId} {args : Array Value} {below : List Frame} {meth : Method} {c : Code} {Q : State → Prop} {D : va_G} {cA : Nat → ClassId} {tT : Nat} {A : Nat → Prop} {N : Nat} {ad : Nat → Nat} {g : Nat → va_E} {a n F : Nat} {f : Nat → Int32} {b : Bool} {z : Int} (S : CallFix p m c cX3_up 3 s args wsX3_up RX3) (hK : va_K D vwCl (ty_s cA) s) (hT : st_T tT A s s.heap) (ha1 : a + 1 < N) (hF : n + F ≤ 800) (kk : ∀ (f' : Nat → Int32) (H : Heap) (locs : List Loc) (ls : Array Slot), (∀ j, F ≤ j → j < n + F → f' j = f (j - F)) → (∀ j, j < F → f' j = nI 0) → va_P D vwCl (wm_W N ad (rw_ cA ad g a (f') n b z)) H → va_D A (wm_W N ad (rw_ cA ad g a (f') n b z)) → va_S A s.heap H locs → lv_has ls 3 [(0, .ref (ad a)), (1, .int (nI F))] → W p l e R s m args below meth c H locs 0 0 Q (F0 m 63 ls [])) :
    ∀ (k i : Nat) (f' : Nat → Int32) (H : Heap) (locs : List Loc) (ls : Array Slot), i + k = F → (∀ j, F ≤ j → j < n + F → f' j = f (j - F)) → (∀ j, j < i → f' j = nI 0) → va_P D vwCl (wm_W N ad (rw_ cA ad g a (f') n b z)) H → va_D A (wm_W N ad (rw_ cA ad g a (f') n b z)) → va_S A s.heap H locs → lv_has ls 3 [(2, .int (nI (i))), (0, .ref (ad a)), (1, .int (nI (F)))] → W p l e R s m args below meth c H locs 0 0 Q (F0 m 45 ls []) := by
  obtain ⟨hx, hb, hml, hown, hts⟩ := S
  have in3 : ∀ w ∈ wsX30, w ∈ wsX3_up := by decide +kernel
  intro k
  induction k with
  | zero =>
    intro i f' H locs ls hn h1 h2 hP hD hS hl
    refine lv_iload_n hx hb dX3_up_45 rfl (lv_at hl 0 rfl) ?_
    refine lv_iload_n hx hb dX3_up_46 rfl (lv_at hl 2 rfl) ?_
    refine bi_ge (tgt := 63) hx hb dX3_up_47 (by decide) (by omega) (by omega) (fun q => ?_) (fun q => ?_)
    · exact kk f' H locs ls h1 (fun j hj => h2 j (by omega)) hP hD hS (lv_sub hl [1, 2] rfl)
    · exact absurd hn (by omega)
  | succ k ih =>
    intro i f' H locs ls hn h1 h2 hP hD hS hl
    refine lv_iload_n hx hb dX3_up_45 rfl (lv_at hl 0 rfl) ?_
    refine lv_iload_n hx hb dX3_up_46 rfl (lv_at hl 2 rfl) ?_
    refine bi_ge (tgt := 63) hx hb dX3_up_47 (by decide) (by omega) (by omega) (fun q => ?_) (fun q => ?_)
    · exact absurd hn (by omega)
    · refine lv_aload_n hx hb dX3_up_50 rfl (lv_at hl 1 rfl) ?_
      refine rg_3_d hx hb hts in3 hown hK hP a (by omega) rw_o (hts _ (by decide +kernel)) dX3_up_51 ?_
      refine lv_iload_n hx hb dX3_up_54 rfl (lv_at hl 0 rfl) ?_
      refine lv_iconst (v := nI (0)) hx hb dX3_up_55 (by decide) ?_
      refine rt_i hx hb hK hP hD hS (a + 1) (by omega) rw_l (by omega) (by decide) dX3_up_56 (fun H locs hP hD hS => ?_)
      rw [rw_sl] at hP hD
      refine lv_iinc (v := nI (i + 1)) (lv' := [(2, .int (nI (i + 1))), (0, .ref (ad a)), (1, .int (nI (F)))]) hx hb dX3_up_57 hl (k := 0) rfl (nI_inc i 1) (by decide) rfl (fun ls hl => ?_)
      refine lv_goto (tgt := 45) hx hb dX3_up_60 (by decide) ?_
      refine ih (i + 1) _ H locs ls (by omega) (fun j hj hj2 => ?_) (fun j hj => ?_) hP hD hS hl
      · rw [pk_un (by omega)]; exact h1 j hj hj2
      · rcases Nat.lt_or_ge j i with r | r
        · rw [pk_un (by omega)]; exact h2 j r
        · obtain rfl : j = i := by omega
          exact pk_us
set_option maxHeartbeats 4000000 in
set_option maxRecDepth 100000 in
/-- up -/
theorem c_X3_up (l : Launch) (D : va_G) (cA : Nat → ClassId) (tT : Nat) (A : Nat → Prop) (N : Nat) (ad : Nat → Nat) (sz : Nat) (g : Nat → va_E) {a : Nat} {f : Nat → Int32} {n : Nat} {b : Bool} {z : Int} {v F : Nat} (ha1 : a + 1 < N) (ha : is_R cA ad g a f n b z) (hv : rv f n v) (hF : n + F ≤ 800) : Met l yX3_up wsX3_up ({ frames := 1, cells := 0, slots := 0, locals := 20 }) (va_Pc [.ref (ad a), .int (nI (F))] (wd_B D cA tT A N ad sz g)) (va_Qv (fun (u : Nat → va_E) => ∃ (f' : Nat → Int32) (n' : Nat), rv f' n' (v * 10 ^ F) ∧ n' ≤ n + F ∧ u = rw_ cA ad g a (f') (n') b z) (wd_E D cA A N ad) A) 0 0 A := by
  refine Met.ofW (cc := cX3_up) (maxL := 3) (ret := none) (by decide) rfl ?_
  intro p e s m args below meth c s₁ B hml hv
  obtain ⟨rfl, hsz, hP, hK, hD, hT⟩ := hv
  have hx := B.exec
  have hb := B.bytes
  have hr := B.returns
  have hts := atoms_spec (ws := wsX3_up) B.pre
  have hown : s.vm.findClass RX3 = some m.cls := findClass_of_methodNamed B.named
  have hlocks := B.notSynchronized
  subst hsz
  have hS : va_S A s.heap s.heap [] := va_S.rf
  have in3 : ∀ w ∈ wsX30, w ∈ wsX3_up := by decide +kernel
  have hl := lv_entry ([.ref (ad a), .int (nI (F))]) (n := 3) (Nat.le_of_ble_eq_true rfl)
  rw [lg_entry_eq]
  generalize (lg_sl ([.ref (ad a), .int (nI (F))]) ++ List.replicate (3 - (lg_sl ([.ref (ad a), .int (nI (F))])).length) Slot.unset).toArray = ls at hl ⊢
  have hl : lv_has ls 3 [(0, .ref (ad a)), (1, .int (nI (F)))] := hl
  refine lv_aload_n hx hb dX3_up_0 rfl (lv_at hl 0 rfl) ?_
  refine va_calli (va_runV (As := []) (rest := []) ⟨hx, hb, hml, hown, hts⟩ (c_X3_isZero l D cA tT A N ad _ _ (a := a) (f := f) (n := n) (b := b) (z := z) (v := v) ha1 ha hv (by omega)) (cwV 0 hts gX3_up_X3_isZero rfl rfl rfl (by decide +kernel) ⟨Nat.le_of_ble_eq_true rfl, Nat.le_of_ble_eq_true rfl⟩) (wd_preV (k := a) hP hK hD hT hS (by omega) ha.1 rfl) rfl rfl hl.1 rfl (lv_room (Nat.le_of_ble_eq_true rfl)) dX3_up_1 ⟨Nat.zero_le _, Nat.zero_le _⟩) hS id_2 id_1 (fun r_ u t H locs ht hvm hw hB hz1 hk1 hS => ?_)
  obtain ⟨hP, hD⟩ := wd_back ht hB
  clear ht hvm hB hz1 hk1
  obtain ⟨hr_, hu_⟩ := hw
  subst hr_
  rw [hu_] at hP hD
  clear hu_
  rw [← rw_self ha] at hP hD
  refine bz_ne (tgt := 11) hx hb dX3_up_4 (by decide) it_lt (fun q => ?_) (fun q => ?_)
  · have q2 := it_ne q
    exact W.vret hx hb hr (fun t ht hW => ⟨⟨_, rfl, ⟨f, n, by rw [q2, Nat.zero_mul, ← q2]; exact hv, by omega, rfl⟩, wd_end hP hK hD ht hW⟩, hS.F ht⟩) hS.2.2 dX3_up_11
  · have q2 := it_eq q
    refine lv_iload_n hx hb dX3_up_7 rfl (lv_at hl 1 rfl) ?_
    refine bz_ne (tgt := 12) hx hb dX3_up_8 (by decide) (by omega) (fun q3 => ?_) (fun q3 => ?_)
    · refine lv_aload_n hx hb dX3_up_12 rfl (lv_at hl 0 rfl) ?_
      refine rg_3_n hx hb hts in3 hown hK hP a (by omega) rw_o (hts _ (by decide +kernel)) dX3_up_13 ?_
      refine lv_iconst (v := nI (1)) hx hb dX3_up_16 (by decide) ?_
      refine lv_isub hx hb dX3_up_17 ?_
      refine tp_i (y := dn n) (dn_sub _) ?_
      refine lv_istore_n (lv' := [(2, .int (dn n)), (0, .ref (ad a)), (1, .int (nI (F)))]) hx hb dX3_up_18 rfl hl (by decide) rfl (fun ls hl => ?_)
      refine lp_X3_up1 (n := n) (F := F) ⟨hx, hb, hml, hown, hts⟩ hK hT ha1 hF (fun f1 H locs ls h1 hP hD hS hl => ?_) n f _ _ ls (Nat.le_refl _) (fun j hj hj2 => absurd hj2 (by omega)) (fun _ _ => rfl) hP hD hS hl
      refine lv_iconst (v := nI (0)) hx hb dX3_up_43 (by decide) ?_
      refine lv_istore_n (lv' := [(2, .int (nI (0))), (0, .ref (ad a)), (1, .int (nI (F)))]) hx hb dX3_up_44 rfl hl (by decide) rfl (fun ls hl => ?_)
      refine lp_X3_up2 (n := n) (F := F) ⟨hx, hb, hml, hown, hts⟩ hK hT ha1 hF (fun f2 H locs ls h1 h2 hP hD hS hl => ?_) F 0 f1 _ _ ls (by omega) h1 (fun j hj => absurd hj (Nat.not_lt_zero _)) hP hD hS hl
      refine lv_aload_n hx hb dX3_up_63 rfl (lv_at hl 0 rfl) ?_
      refine lv_dup hx hb dX3_up_64 rfl ?_
      refine rg_3_n hx hb hts in3 hown hK hP a (by omega) rw_o (hts _ (by decide +kernel)) dX3_up_65 ?_
      refine lv_iload_n hx hb dX3_up_68 rfl (lv_at hl 1 rfl) ?_
      refine lv_iadd hx hb dX3_up_69 ?_
      refine tp_i (y := nI (n + F)) (nI_add _ _) ?_
      refine rp_3_n hx hb hts in3 hown hK hP hD hS a (by omega) rw_o (hts _ (by decide +kernel)) rfl rfl dX3_up_70 (fun H locs hP hD hS => ?_)
      rw [rw_so] at hP hD
      exact W.vret hx hb hr (fun t ht hW => ⟨⟨_, rfl, ⟨f2, n + F, ⟨by rw [tp_psh q2, hv.1], fun j hj => (Nat.lt_or_ge j F).elim (fun r => by rw [tp_dsh, if_pos r, h2 j r]) (fun r => by rw [tp_dsh, if_neg (by omega), h1 j r hj, hv.2 _ (by omega)])⟩, Nat.le_refl _, rfl⟩, wd_end hP hK hD ht hW⟩, hS.F ht⟩) hS.2.2 dX3_up_73
    · exact W.vret hx hb hr (fun t ht hW => ⟨⟨_, rfl, ⟨f, n, by rw [q3, Nat.pow_zero, Nat.mul_one]; exact hv, by omega, rfl⟩, wd_end hP hK hD ht hW⟩, hS.F ht⟩) hS.2.2 dX3_up_11
theorem md_0 {v i F : Nat} (h : v % 10 ^ i = 0) (h2 : v / 10 ^ i % 10 ≠ 0) (hi : i < F) : v % 10 ^ F ≠ 0 := by
  intro q
  have e : v % 10 ^ (i + 1) = 0 := by
    obtain ⟨d, rfl⟩ : ∃ d, F = (i + 1) + d := ⟨F - i - 1, by omega⟩
    rw [← Nat.mod_mul_right_mod v (10 ^ (i + 1)) (10 ^ d), ← Nat.pow_add, q, Nat.zero_mod]
  rw [tp_ms, h, Nat.zero_add] at e
  rcases Nat.mul_eq_zero.mp e with r | r
  · exact absurd r (Nat.pos_iff_ne_zero.mp (Nat.pow_pos (by decide)))
  · exact h2 r
theorem md_1 {v i : Nat} (h : v % 10 ^ i = 0) (h2 : v / 10 ^ i % 10 = 0) : v % 10 ^ (i + 1) = 0 := by rw [tp_ms, h, h2]; simp
set_option maxHeartbeats 4000000 in
set_option maxRecDepth 100000 in
theorem lp_X3_ends {p : Program} {l : Launch} {e : Env} {R : Room} {s : State} {m : MethodId} {args : Array Value} {below : List Frame} {meth : Method} {c : Code} {Q : State → Prop} {D : va_G} {cA : Nat → ClassId} {tT : Nat} {A : Nat → Prop} {N : Nat} {ad : Nat → Nat} {g : Nat → va_E} {a n F v : Nat} {f : Nat → Int32} {b : Bool} {z : Int} (S : CallFix p m c cX3_ends 3 s args wsX3_ends RX3) (hK : va_K D vwCl (ty_s cA) s) (hT : st_T tT A s s.heap) (ha1 : a + 1 < N) (ha : is_R cA ad g a f n b z) (hv : rv f n v) (hn : n ≤ 800) (hF : F < 1000) (k1 : ∀ (H : Heap) (locs : List Loc) (ls : Array Slot), v % 10 ^ F = 0 → va_P D vwCl (wm_W N ad (g)) H → va_D A (wm_W N ad (g)) → va_S A s.heap H locs → W p l e R s m args below meth c H locs 0 0 Q (F0 m 32 ls [])) (k0 : ∀ (H : Heap) (locs : List Loc) (ls : Array Slot), v % 10 ^ F ≠ 0 → va_P D vwCl (wm_W N ad (g)) H → va_D A (wm_W N ad (g)) → va_S A s.heap H locs → W p l e R s m args below meth c H locs 0 0 Q (F0 m 24 ls [])) :
    ∀ (k i : Nat) (H : Heap) (locs : List Loc) (ls : Array Slot), i + k = F → v % 10 ^ i = 0 → va_P D vwCl (wm_W N ad (g)) H → va_D A (wm_W N ad (g)) → va_S A s.heap H locs → lv_has ls 3 [(2, .int (nI (i))), (0, .ref (ad a)), (1, .int (nI (F)))] → W p l e R s m args below meth c H locs 0 0 Q (F0 m 2 ls []) := by
  obtain ⟨hx, hb, hml, hown, hts⟩ := S
  have in3 : ∀ w ∈ wsX30, w ∈ wsX3_ends := by decide +kernel
  intro k
  induction k with
  | zero =>
    intro i H locs ls hk hm hP hD hS hl
    refine lv_iload_n hx hb dX3_ends_2 rfl (lv_at hl 0 rfl) ?_
    refine lv_iload_n hx hb dX3_ends_3 rfl (lv_at hl 2 rfl) ?_
    refine bi_ge (tgt := 32) hx hb dX3_ends_4 (by decide) (by omega) (by omega) (fun q => ?_) (fun q => ?_)
    · obtain rfl : i = F := by omega
      exact k1 H locs ls hm hP hD hS
    · exact absurd hk (by omega)
  | succ k ih =>
    intro i H locs ls hk hm hP hD hS hl
    refine lv_iload_n hx hb dX3_ends_2 rfl (lv_at hl 0 rfl) ?_
    refine lv_iload_n hx hb dX3_ends_3 rfl (lv_at hl 2 rfl) ?_
    refine bi_ge (tgt := 32) hx hb dX3_ends_4 (by decide) (by omega) (by omega) (fun q => ?_) (fun q => ?_)
    · exact absurd hk (by omega)
    · refine lv_iload_n hx hb dX3_ends_7 rfl (lv_at hl 0 rfl) ?_
      refine lv_aload_n hx hb dX3_ends_8 rfl (lv_at hl 1 rfl) ?_
      refine rg_3_n hx hb hts in3 hown hK hP a (by omega) ha.1 (hts _ (by decide +kernel)) dX3_ends_9 ?_
      refine bi_ge (tgt := 32) hx hb dX3_ends_12 (by decide) (by omega) (by omega) (fun q2 => ?_) (fun q2 => ?_)
      · have hv0 : v = 0 := by
          have h1 := (rv_dv hv).1
          rw [Nat.mod_eq_of_lt (Nat.lt_of_lt_of_le h1 (Nat.pow_le_pow_right (by decide) q2))] at hm
          exact hm
        exact k1 H locs ls (by rw [hv0, Nat.zero_mod]) hP hD hS
      · have hd := dg_lt v i
        refine lv_aload_n hx hb dX3_ends_15 rfl (lv_at hl 1 rfl) ?_
        refine rg_3_d hx hb hts in3 hown hK hP a (by omega) ha.1 (hts _ (by decide +kernel)) dX3_ends_16 ?_
        refine lv_iload_n hx hb dX3_ends_19 rfl (lv_at hl 0 rfl) ?_
        refine rn_i hx hb hK hP (a + 1) (by omega) ha.2 (by omega) (by decide) dX3_ends_20 ?_
        refine tp_i (y := nI (v / 10 ^ i % 10)) (hv.2 i (by omega)) ?_
        refine bz_eq (tgt := 26) hx hb dX3_ends_21 (by decide) (by omega) (fun q3 => ?_) (fun q3 => ?_)
        · refine lv_iinc (v := nI (i + 1)) (lv' := [(2, .int (nI (i + 1))), (0, .ref (ad a)), (1, .int (nI (F)))]) hx hb dX3_ends_26 hl (k := 0) rfl (nI_inc i 1) (by decide) rfl (fun ls hl => ?_)
          refine lv_goto (tgt := 2) hx hb dX3_ends_29 (by decide) ?_
          exact ih (i + 1) H locs ls (by omega) (md_1 hm q3) hP hD hS hl
        · exact k0 H locs ls (md_0 hm q3 (by omega)) hP hD hS
set_option maxHeartbeats 4000000 in
set_option maxRecDepth 100000 in
/-- ends -/
theorem c_X3_ends (l : Launch) (D : va_G) (cA : Nat → ClassId) (tT : Nat) (A : Nat → Prop) (N : Nat) (ad : Nat → Nat) (sz : Nat) (g : Nat → va_E) {a : Nat} {f : Nat → Int32} {n : Nat} {b : Bool} {z : Int} {v F : Nat} (ha1 : a + 1 < N) (ha : is_R cA ad g a f n b z) (hv : rv f n v) (hn : n ≤ 800) (hF : F < 1000) : Met l yX3_ends wsX3_ends ({ frames := 0, cells := 0, slots := 0, locals := 0 }) (va_Pc [.ref (ad a), .int (nI (F))] (wd_B D cA tT A N ad sz g)) (va_Qi (fun (r : Int32) (u : Nat → va_E) => r = nI (if v % 10 ^ F = 0 then 1 else 0) ∧ u = g) (wd_E D cA A N ad) A) 0 0 A := by
  refine Met.ofW (cc := cX3_ends) (maxL := 3) (ret := (some .boolean)) (by decide) rfl ?_
  intro p e s m args below meth c s₁ B hml hv
  obtain ⟨rfl, hsz, hP, hK, hD, hT⟩ := hv
  have hx := B.exec
  have hb := B.bytes
  have hr := B.returns
  have hts := atoms_spec (ws := wsX3_ends) B.pre
  have hown : s.vm.findClass RX3 = some m.cls := findClass_of_methodNamed B.named
  have hlocks := B.notSynchronized
  subst hsz
  have hS : va_S A s.heap s.heap [] := va_S.rf
  have in3 : ∀ w ∈ wsX30, w ∈ wsX3_ends := by decide +kernel
  have hl := lv_entry ([.ref (ad a), .int (nI (F))]) (n := 3) (Nat.le_of_ble_eq_true rfl)
  rw [lg_entry_eq]
  generalize (lg_sl ([.ref (ad a), .int (nI (F))]) ++ List.replicate (3 - (lg_sl ([.ref (ad a), .int (nI (F))])).length) Slot.unset).toArray = ls at hl ⊢
  have hl : lv_has ls 3 [(0, .ref (ad a)), (1, .int (nI (F)))] := hl
  refine lv_iconst (v := nI (0)) hx hb dX3_ends_0 (by decide) ?_
  refine lv_istore_n (lv' := [(2, .int (nI (0))), (0, .ref (ad a)), (1, .int (nI (F)))]) hx hb dX3_ends_1 rfl hl (by decide) rfl (fun ls hl => ?_)
  refine lp_X3_ends ⟨hx, hb, hml, hown, hts⟩ hK hT ha1 ha hv hn hF (fun H locs ls h0 hP hD hS => ?_) (fun H locs ls h0 hP hD hS => ?_) F 0 _ _ ls (by omega) (by rw [Nat.pow_zero, Nat.mod_one]) hP hD hS hl
  · refine lv_iconst (v := nI (1)) hx hb dX3_ends_32 (by decide) ?_
    exact W.zret (v := nI (1)) hx hb hr rfl (fun t ht hW => ⟨⟨nI (1), g, rfl, ⟨by rw [if_pos h0], rfl⟩, wd_end hP hK hD ht hW⟩, hS.F ht⟩) hS.2.2 dX3_ends_33
  · refine lv_iconst (v := nI (0)) hx hb dX3_ends_24 (by decide) ?_
    exact W.zret (v := nI (0)) hx hb hr rfl (fun t ht hW => ⟨⟨nI (0), g, rfl, ⟨by rw [if_neg h0], rfl⟩, wd_end hP hK hD ht hW⟩, hS.F ht⟩) hS.2.2 dX3_ends_25
theorem mr_v {v i : Nat} (h : v % 10 ^ i = 10 ^ i - 1) : v + 1 = (v / 10 ^ i + 1) * 10 ^ i := by
  have h1 := Nat.div_add_mod v (10 ^ i)
  have h2 : 0 < 10 ^ i := Nat.pow_pos (by decide)
  rw [Nat.add_mul, Nat.one_mul, Nat.mul_comm (v / 10 ^ i)]
  omega
theorem mr_9 {v i : Nat} (h : v % 10 ^ i = 10 ^ i - 1) (h9 : v / 10 ^ i % 10 = 9) : v % 10 ^ (i + 1) = 10 ^ (i + 1) - 1 := by
  have h2 : 0 < 10 ^ i := Nat.pow_pos (by decide)
  rw [tp_ms, h, h9, Nat.pow_succ]; omega
theorem mr_d {v i j : Nat} (h : v % 10 ^ i = 10 ^ i - 1) (h9 : v / 10 ^ i % 10 ≠ 9) : (v + 1) / 10 ^ j % 10 = if j < i then 0 else if j = i then v / 10 ^ i % 10 + 1 else v / 10 ^ j % 10 := by
  rw [mr_v h, tp_dsh]
  by_cases r : j < i
  · rw [if_pos r, if_pos r]
  · rw [if_neg r, if_neg r]
    by_cases r2 : j = i
    · subst r2
      rw [if_pos rfl, Nat.sub_self, Nat.pow_zero, Nat.div_one]
      have := Nat.mod_lt (v / 10 ^ j) (show 0 < 10 by decide)
      omega
    · rw [if_neg r2]
      obtain ⟨d, rfl⟩ : ∃ d, j = i + (d + 1) := ⟨j - i - 1, by omega⟩
      have e1 : (v / 10 ^ i + 1) / 10 = v / 10 ^ i / 10 := by omega
      rw [show i + (d + 1) - i = d + 1 by omega, Nat.pow_succ, Nat.mul_comm (10 ^ d) 10, ← Nat.div_div_eq_div_mul, e1, Nat.pow_add, Nat.pow_succ, Nat.mul_comm (10 ^ d) 10, ← Nat.div_div_eq_div_mul, ← Nat.div_div_eq_div_mul]
theorem mr_p {v i n : Nat} (hn : n = nd_p v) (hi : i < n) (h : v % 10 ^ i = 10 ^ i - 1) (h9 : v / 10 ^ i % 10 ≠ 9) : nd_p (v + 1) = n := by
  have h1 : nd_p v ≤ nd_p (v + 1) := (nd_p_le (nd_p_pos _)).mpr (Nat.lt_trans (Nat.lt_succ_self v) (nd_p_lt _))
  have h2 : nd_p (v + 1) ≤ n := (nd_p_le (by omega)).mpr (by
    have h3 : v < 10 ^ n := by rw [hn]; exact nd_p_lt v
    rcases Nat.lt_or_ge (v + 1) (10 ^ n) with q | q
    · exact q
    · exfalso
      have e : v = 10 ^ n - 1 := by omega
      obtain ⟨d, hd⟩ : ∃ d, n = i + (d + 1) := ⟨n - i - 1, by omega⟩
      have e2 : v / 10 ^ i + 1 = 10 ^ (d + 1) := by
        have e3 := mr_v h
        have e4 : v + 1 = 10 ^ n := by omega
        rw [e4, hd, Nat.pow_add, Nat.mul_comm] at e3
        exact (Nat.eq_of_mul_eq_mul_right (Nat.pow_pos (n := i) (show 0 < 10 by decide)) e3).symm
      rw [Nat.pow_succ] at e2
      omega)
  omega
set_option maxHeartbeats 4000000 in
set_option maxRecDepth 100000 in
theorem lp_X3_more {p : Program} {l : Launch} {e : Env} {R : Room} {s : State} {m : MethodId} {args : Array Value} {below : List Frame} {meth : Method} {c : Code} {Q : State → Prop} {D : va_G} {cA : Nat → ClassId} {tT : Nat} {A : Nat → Prop} {N : Nat} {ad : Nat → Nat} {g : Nat → va_E} {a n v : Nat} {f : Nat → Int32} {b : Bool} {z : Int} (S : CallFix p m c cX3_more 2 s args wsX3_more RX3) (hK : va_K D vwCl (ty_s cA) s) (hT : st_T tT A s s.heap) (ha1 : a + 1 < N) (hv : rv f n v) (hn : n < 800) (kk : ∀ (i : Nat) (f' : Nat → Int32) (H : Heap) (locs : List Loc) (ls : Array Slot), i ≤ n → v % 10 ^ i = 10 ^ i - 1 → (i < n → v / 10 ^ i % 10 ≠ 9) → (∀ j, j < i → f' j = nI 0) → (∀ j, i ≤ j → f' j = f j) → va_P D vwCl (wm_W N ad (rw_ cA ad g a (f') n b z)) H → va_D A (wm_W N ad (rw_ cA ad g a (f') n b z)) → va_S A s.heap H locs → lv_has ls 2 [(1, .int (nI (i))), (0, .ref (ad a))] → W p l e R s m args below meth c H locs 0 0 Q (F0 m 34 ls [])) :
    ∀ (k i : Nat) (f' : Nat → Int32) (H : Heap) (locs : List Loc) (ls : Array Slot), i + k = n → v % 10 ^ i = 10 ^ i - 1 → (∀ j, j < i → f' j = nI 0) → (∀ j, i ≤ j → f' j = f j) → va_P D vwCl (wm_W N ad (rw_ cA ad g a (f') n b z)) H → va_D A (wm_W N ad (rw_ cA ad g a (f') n b z)) → va_S A s.heap H locs → lv_has ls 2 [(1, .int (nI (i))), (0, .ref (ad a))] → W p l e R s m args below meth c H locs 0 0 Q (F0 m 2 ls []) := by
  obtain ⟨hx, hb, hml, hown, hts⟩ := S
  have in3 : ∀ w ∈ wsX30, w ∈ wsX3_more := by decide +kernel
  intro k
  induction k with
  | zero =>
    intro i f' H locs ls hk hm h1 h2 hP hD hS hl
    refine lv_iload_n hx hb dX3_more_2 rfl (lv_at hl 0 rfl) ?_
    refine lv_aload_n hx hb dX3_more_3 rfl (lv_at hl 1 rfl) ?_
    refine rg_3_n hx hb hts in3 hown hK hP a (by omega) rw_o (hts _ (by decide +kernel)) dX3_more_4 ?_
    refine bi_ge (tgt := 34) hx hb dX3_more_7 (by decide) (by omega) (by omega) (fun q => ?_) (fun q => ?_)
    · exact kk i f' H locs ls (by omega) hm (fun h => absurd h (by omega)) h1 h2 hP hD hS hl
    · exact absurd hk (by omega)
  | succ k ih =>
    intro i f' H locs ls hk hm h1 h2 hP hD hS hl
    refine lv_iload_n hx hb dX3_more_2 rfl (lv_at hl 0 rfl) ?_
    refine lv_aload_n hx hb dX3_more_3 rfl (lv_at hl 1 rfl) ?_
    refine rg_3_n hx hb hts in3 hown hK hP a (by omega) rw_o (hts _ (by decide +kernel)) dX3_more_4 ?_
    refine bi_ge (tgt := 34) hx hb dX3_more_7 (by decide) (by omega) (by omega) (fun q => ?_) (fun q => ?_)
    · exact absurd hk (by omega)
    · have hd := dg_lt v i
      refine lv_aload_n hx hb dX3_more_10 rfl (lv_at hl 1 rfl) ?_
      refine rg_3_d hx hb hts in3 hown hK hP a (by omega) rw_o (hts _ (by decide +kernel)) dX3_more_11 ?_
      refine lv_iload_n hx hb dX3_more_14 rfl (lv_at hl 0 rfl) ?_
      refine rn_i hx hb hK hP (a + 1) (by omega) rw_l (by omega) (by decide) dX3_more_15 ?_
      refine tp_i (y := nI (v / 10 ^ i % 10)) ((h2 i (Nat.le_refl _)).trans (hv.2 i (by omega))) ?_
      refine lv_bipush (v := nI (9)) hx hb dX3_more_16 (by decide) ?_
      refine bi_ne (tgt := 34) hx hb dX3_more_18 (by decide) (by omega) (by omega) (fun q2 => ?_) (fun q2 => ?_)
      · exact kk i f' H locs ls (by omega) hm (fun _ => q2) h1 h2 hP hD hS hl
      · refine lv_aload_n hx hb dX3_more_21 rfl (lv_at hl 1 rfl) ?_
        refine rg_3_d hx hb hts in3 hown hK hP a (by omega) rw_o (hts _ (by decide +kernel)) dX3_more_22 ?_
        refine lv_iload_n hx hb dX3_more_25 rfl (lv_at hl 0 rfl) ?_
        refine lv_iconst (v := nI (0)) hx hb dX3_more_26 (by decide) ?_
        refine rt_i hx hb hK hP hD hS (a + 1) (by omega) rw_l (by omega) (by decide) dX3_more_27 (fun H locs hP hD hS => ?_)
        rw [rw_sl] at hP hD
        refine lv_iinc (v := nI (i + 1)) (lv' := [(1, .int (nI (i + 1))), (0, .ref (ad a))]) hx hb dX3_more_28 hl (k := 0) rfl (nI_inc i 1) (by decide) rfl (fun ls hl => ?_)
        refine lv_goto (tgt := 2) hx hb dX3_more_31 (by decide) ?_
        refine ih (i + 1) _ H locs ls (by omega) (mr_9 hm q2) (fun j hj => ?_) (fun j hj => ?_) hP hD hS hl
        · rcases Nat.lt_or_ge j i with r | r
          · rw [pk_un (by omega)]; exact h1 j r
          · obtain rfl : j = i := by omega
            exact pk_us
        · rw [pk_un (by omega)]; exact h2 j (by omega)
set_option maxHeartbeats 4000000 in
set_option maxRecDepth 100000 in
/-- more -/
theorem c_X3_more (l : Launch) (D : va_G) (cA : Nat → ClassId) (tT : Nat) (A : Nat → Prop) (N : Nat) (ad : Nat → Nat) (sz : Nat) (g : Nat → va_E) {a : Nat} {f : Nat → Int32} {n : Nat} {b : Bool} {z : Int} {v : Nat} (ha1 : a + 1 < N) (ha : is_R cA ad g a f n b z) (hv : rv f n v) (hn : n < 800) : Met l yX3_more wsX3_more ({ frames := 0, cells := 0, slots := 0, locals := 0 }) (va_Pc [.ref (ad a)] (wd_B D cA tT A N ad sz g)) (va_Qv (fun (u : Nat → va_E) => ∃ (f' : Nat → Int32) (n' : Nat), rv f' n' (v + 1) ∧ n' ≤ n + 1 ∧ u = rw_ cA ad g a (f') (n') b z) (wd_E D cA A N ad) A) 0 0 A := by
  refine Met.ofW (cc := cX3_more) (maxL := 2) (ret := none) (by decide) rfl ?_
  intro p e s m args below meth c s₁ B hml hv
  obtain ⟨rfl, hsz, hP, hK, hD, hT⟩ := hv
  have hx := B.exec
  have hb := B.bytes
  have hr := B.returns
  have hts := atoms_spec (ws := wsX3_more) B.pre
  have hown : s.vm.findClass RX3 = some m.cls := findClass_of_methodNamed B.named
  have hlocks := B.notSynchronized
  subst hsz
  have hS : va_S A s.heap s.heap [] := va_S.rf
  have in3 : ∀ w ∈ wsX30, w ∈ wsX3_more := by decide +kernel
  have hl := lv_entry ([.ref (ad a)]) (n := 2) (Nat.le_of_ble_eq_true rfl)
  rw [lg_entry_eq]
  generalize (lg_sl ([.ref (ad a)]) ++ List.replicate (2 - (lg_sl ([.ref (ad a)])).length) Slot.unset).toArray = ls at hl ⊢
  have hl : lv_has ls 2 [(0, .ref (ad a))] := hl
  rw [← rw_self ha] at hP hD
  refine lv_iconst (v := nI (0)) hx hb dX3_more_0 (by decide) ?_
  refine lv_istore_n (lv' := [(1, .int (nI (0))), (0, .ref (ad a))]) hx hb dX3_more_1 rfl hl (by decide) rfl (fun ls hl => ?_)
  refine lp_X3_more ⟨hx, hb, hml, hown, hts⟩ hK hT ha1 hv hn (fun i f1 H locs ls hi hm h9 h1 h2 hP hD hS hl => ?_) n 0 f _ _ ls (by omega) (by rw [Nat.pow_zero, Nat.mod_one]) (fun j hj => absurd hj (Nat.not_lt_zero _)) (fun _ _ => rfl) hP hD hS hl
  refine lv_iload_n hx hb dX3_more_34 rfl (lv_at hl 0 rfl) ?_
  refine lv_aload_n hx hb dX3_more_35 rfl (lv_at hl 1 rfl) ?_
  refine rg_3_n hx hb hts in3 hown hK hP a (by omega) rw_o (hts _ (by decide +kernel)) dX3_more_36 ?_
  refine bi_ne (tgt := 62) hx hb dX3_more_39 (by decide) (by omega) (by omega) (fun q => ?_) (fun q => ?_)
  · have hi2 : i < n := by omega
    have hd := dg_lt v i
    refine lv_aload_n hx hb dX3_more_62 rfl (lv_at hl 1 rfl) ?_
    refine rg_3_d hx hb hts in3 hown hK hP a (by omega) rw_o (hts _ (by decide +kernel)) dX3_more_63 ?_
    refine lv_iload_n hx hb dX3_more_66 rfl (lv_at hl 0 rfl) ?_
    refine lv_dup2_11 hx hb dX3_more_67 rfl rfl ?_
    refine rn_i hx hb hK hP (a + 1) (by omega) rw_l (by omega) (by decide) dX3_more_68 ?_
    refine tp_i (y := nI (v / 10 ^ i % 10)) ((h2 i (Nat.le_refl _)).trans (hv.2 i hi2)) ?_
    refine lv_iconst (v := nI (1)) hx hb dX3_more_69 (by decide) ?_
    refine lv_iadd hx hb dX3_more_70 ?_
    refine tp_i (y := nI ((v / 10 ^ i % 10) + 1)) (nI_add _ _) ?_
    refine rt_i hx hb hK hP hD hS (a + 1) (by omega) rw_l (by omega) (by decide) dX3_more_71 (fun H locs hP hD hS => ?_)
    rw [rw_sl] at hP hD
    exact W.vret hx hb hr (fun t ht hW => ⟨⟨_, rfl, ⟨_, n, ⟨(mr_p hv.1 hi2 hm (h9 hi2)).symm, fun j hj => by
    rw [mr_d hm (h9 hi2)]
    rcases Nat.lt_trichotomy j i with r | r | r
    · rw [if_pos r, pk_un (by omega), h1 j r]
    · subst r; rw [if_neg (by omega), if_pos rfl, pk_us]
    · rw [if_neg (by omega), if_neg (by omega), pk_un (by omega), h2 j (by omega), hv.2 j hj]⟩, by omega, rfl⟩, wd_end hP hK hD ht hW⟩, hS.F ht⟩) hS.2.2 dX3_more_72
  · obtain rfl : i = n := q
    have hv1 : v + 1 = 10 ^ i := by
      have h3 := mr_v hm
      rw [Nat.div_eq_of_lt (rv_dv hv).1] at h3; omega
    refine lv_aload_n hx hb dX3_more_42 rfl (lv_at hl 1 rfl) ?_
    refine rg_3_d hx hb hts in3 hown hK hP a (by omega) rw_o (hts _ (by decide +kernel)) dX3_more_43 ?_
    refine lv_aload_n hx hb dX3_more_46 rfl (lv_at hl 1 rfl) ?_
    refine rg_3_n hx hb hts in3 hown hK hP a (by omega) rw_o (hts _ (by decide +kernel)) dX3_more_47 ?_
    refine lv_iconst (v := nI (0)) hx hb dX3_more_50 (by decide) ?_
    refine rt_i hx hb hK hP hD hS (a + 1) (by omega) rw_l (by omega) (by decide) dX3_more_51 (fun H locs hP hD hS => ?_)
    rw [rw_sl] at hP hD
    refine lv_aload_n hx hb dX3_more_52 rfl (lv_at hl 1 rfl) ?_
    refine lv_dup hx hb dX3_more_53 rfl ?_
    refine rg_3_n hx hb hts in3 hown hK hP a (by omega) rw_o (hts _ (by decide +kernel)) dX3_more_54 ?_
    refine lv_iconst (v := nI (1)) hx hb dX3_more_57 (by decide) ?_
    refine lv_iadd hx hb dX3_more_58 ?_
    refine tp_i (y := nI (i + 1)) (nI_add _ _) ?_
    refine rp_3_n hx hb hts in3 hown hK hP hD hS a (by omega) rw_o (hts _ (by decide +kernel)) rfl rfl dX3_more_59 (fun H locs hP hD hS => ?_)
    rw [rw_so] at hP hD
    refine lv_aload_n hx hb dX3_more_62 rfl (lv_at hl 1 rfl) ?_
    refine rg_3_d hx hb hts in3 hown hK hP a (by omega) rw_o (hts _ (by decide +kernel)) dX3_more_63 ?_
    refine lv_iload_n hx hb dX3_more_66 rfl (lv_at hl 0 rfl) ?_
    refine lv_dup2_11 hx hb dX3_more_67 rfl rfl ?_
    refine rn_i hx hb hK hP (a + 1) (by omega) rw_l (by omega) (by decide) dX3_more_68 ?_
    refine tp_i (y := nI (0)) (pk_us) ?_
    refine lv_iconst (v := nI (1)) hx hb dX3_more_69 (by decide) ?_
    refine lv_iadd hx hb dX3_more_70 ?_
    refine tp_i (y := nI (0 + 1)) (nI_add _ _) ?_
    refine rt_i hx hb hK hP hD hS (a + 1) (by omega) rw_l (by omega) (by decide) dX3_more_71 (fun H locs hP hD hS => ?_)
    rw [rw_sl] at hP hD
    exact W.vret hx hb hr (fun t ht hW => ⟨⟨_, rfl, ⟨_, i + 1, ⟨by
    rw [hv1, show (10 : Nat) ^ i = 1 * 10 ^ i by omega, tp_psh (by decide), nd_p1 (by decide)]; omega, fun j hj => by
    rw [hv1, show (10 : Nat) ^ i = 1 * 10 ^ i by omega, tp_dsh]
    rcases Nat.lt_or_ge j i with r | r
    · rw [if_pos r, pk_un (by omega), pk_un (by omega), h1 j r]
    · obtain rfl : j = i := by omega
      rw [if_neg (by omega), Nat.sub_self, pk_us]⟩, Nat.le_refl _, rfl⟩, wd_end hP hK hD ht hW⟩, hS.F ht⟩) hS.2.2 dX3_more_72
