theorem nd_p_eq {x k : Nat} (h1 : x < 10 ^ (k + 1)) (h2 : x / 10 ^ k % 10 ≠ 0) : nd_p x = k + 1 := by
  have a1 : nd_p x ≤ k + 1 := (nd_p_le (by omega)).mpr h1
  rcases Nat.eq_zero_or_pos k with r | r
  · subst r; have := nd_p_pos x; omega
  · have : k < nd_p x := (nd_p_ge r).mpr (by
      rcases Nat.lt_or_ge x (10 ^ k) with q | q
      · rw [Nat.div_eq_of_lt q] at h2; exact absurd rfl h2
      · exact q)
    omega
theorem nd_p_dn {x k : Nat} (h1 : x < 10 ^ (k + 1)) (h2 : x / 10 ^ k % 10 = 0) : x < 10 ^ k := by
  have h3 : x / 10 ^ k < 10 := by
    rw [Nat.div_lt_iff_lt_mul (Nat.pow_pos (by decide)), Nat.mul_comm, ← Nat.pow_succ]; exact h1
  rcases Nat.lt_or_ge x (10 ^ k) with q | q
  · exact q
  · have : 1 ≤ x / 10 ^ k := by
      rw [Nat.le_div_iff_mul_le (Nat.pow_pos (by decide))]; omega
    omega
theorem nd_s10 (x : Nat) : x < 10 ^ (6 * nd_s x) := by rw [← nd_e6]; exact nd_s_lt x
theorem nd_f0 {x P : Nat} (h : ¬ P / 6 < nd_s x) : x / 10 ^ P % 10 = 0 := by
  rw [Nat.div_eq_of_lt (Nat.lt_of_lt_of_le (nd_s10 x) (Nat.pow_le_pow_right (by decide) (by omega)))]
theorem nd_t6 (P : Nat) : 0 < 10 ^ (P % 6) ∧ 10 ^ (P % 6) < 1000000 := by
  have h : P % 6 < 6 := Nat.mod_lt _ (by decide)
  refine ⟨Nat.pow_pos (by decide), ?_⟩
  rcases (show P % 6 = 0 ∨ P % 6 = 1 ∨ P % 6 = 2 ∨ P % 6 = 3 ∨ P % 6 = 4 ∨ P % 6 = 5 by omega) with r | r | r | r | r | r <;> rw [r] <;> decide
theorem nd_fP (x P : Nat) : nd_d x (P / 6) / 10 ^ (P % 6) % 10 = x / 10 ^ P % 10 := by
  rw [nd_fig x (P / 6) (P % 6) (Nat.mod_lt _ (by decide)), show 6 * (P / 6) + P % 6 = P by omega]
theorem mx_1 (k : Nat) (h : k < 2 ^ 31) : (if nI k < nI 1 then nI 1 else nI k) = nI (if k < 1 then 1 else k) := by
  by_cases q : k < 1
  · rw [if_pos q, if_pos (nI_lt q (by decide))]
  · rw [if_neg q, if_neg (nI_nlt (by omega) h)]
set_option maxHeartbeats 4000000 in
set_option maxRecDepth 100000 in
/-- figure: the digit at a place -/
theorem c_X1_figure (l : Launch) (D : va_G) (cA : Nat → ClassId) (tT : Nat) (A : Nat → Prop) (N : Nat) (ad : Nat → Nat) (sz : Nat) (g : Nat → va_E) {a x P : Nat} (ha1 : a + 1 < N) (ha : is_N cA ad g a x) (hx64 : x < 1000000 ^ 64) (hP31 : P < 2 ^ 31) : Met l yX1_figure wsX1_figure ({ frames := 0, cells := 0, slots := 0, locals := 0 }) (va_Pc [.ref (ad a), .int (nI (P))] (wd_B D cA tT A N ad sz g)) (va_Qi (fun (r : Int32) (u : Nat → va_E) => r = nI (x / 10 ^ P % 10) ∧ u = g) (wd_E D cA A N ad) A) 0 0 A := by
  refine Met.ofW (cc := cX1_figure) (maxL := 3) (ret := (some .int)) (by decide) rfl ?_
  intro p e s m args below meth c s₁ B hml hv
  obtain ⟨rfl, hsz, hP, hK, hD, hT⟩ := hv
  have hx := B.exec
  have hb := B.bytes
  have hr := B.returns
  have hts := atoms_spec (ws := wsX1_figure) B.pre
  have hown : s.vm.findClass RX1 = some m.cls := findClass_of_methodNamed B.named
  have hlocks := B.notSynchronized
  subst hsz
  have hS : va_S A s.heap s.heap [] := va_S.rf
  have in1 : ∀ w ∈ wsX10, w ∈ wsX1_figure := by decide +kernel
  have hl := lv_entry ([.ref (ad a), .int (nI (P))]) (n := 3) (Nat.le_of_ble_eq_true rfl)
  rw [lg_entry_eq]
  generalize (lg_sl ([.ref (ad a), .int (nI (P))]) ++ List.replicate (3 - (lg_sl ([.ref (ad a), .int (nI (P))])).length) Slot.unset).toArray = ls at hl ⊢
  have hl : lv_has ls 3 [(0, .ref (ad a)), (1, .int (nI (P)))] := hl
  have hs64 := nd_s64 hx64
  have ht6 := nd_t6 P
  refine lv_iload_n hx hb dX1_figure_0 rfl (lv_at hl 1 rfl) ?_
  refine lv_bipush (v := nI (6)) hx hb dX1_figure_1 (by decide) ?_
  refine lv_idiv hx hb dX1_figure_3 (nI_ne0 (by omega) (by omega)) ?_
  refine tp_i (y := nI (P / 6)) (pk_div (by omega) (by omega) (by omega)) ?_
  refine lv_istore_n (lv' := [(2, .int (nI (P / 6))), (0, .ref (ad a)), (1, .int (nI (P)))]) hx hb dX1_figure_4 rfl hl (by decide) rfl (fun ls hl => ?_)
  refine lv_iload_n hx hb dX1_figure_5 rfl (lv_at hl 2 rfl) ?_
  refine bz_lt (tgt := 17) hx hb dX1_figure_6 (by decide) (by omega) (fun q => ?_) (fun q => ?_)
  · exact absurd q (Nat.not_lt_zero _)
  · refine lv_iload_n hx hb dX1_figure_9 rfl (lv_at hl 0 rfl) ?_
    refine lv_aload_n hx hb dX1_figure_10 rfl (lv_at hl 1 rfl) ?_
    refine rg_1_size hx hb hts in1 hown hK hP a (by omega) ha.1 (hts _ (by decide +kernel)) dX1_figure_11 ?_
    refine bi_lt (tgt := 19) hx hb dX1_figure_14 (by decide) (by omega) (by omega) (fun q2 => ?_) (fun q2 => ?_)
    · have hd := nd_lt x (P / 6)
      have hdq : nd_d x (P / 6) / 10 ^ (P % 6) < 1000000 := Nat.lt_of_le_of_lt (Nat.div_le_self _ _) hd
      refine lv_aload_n hx hb dX1_figure_19 rfl (lv_at hl 1 rfl) ?_
      refine rg_1_limbs hx hb hts in1 hown hK hP a (by omega) ha.1 (hts _ (by decide +kernel)) dX1_figure_20 ?_
      refine lv_iload_n hx hb dX1_figure_23 rfl (lv_at hl 0 rfl) ?_
      refine rn_l hx hb hK hP (a + 1) (by omega) ha.2 (by omega) (by decide) dX1_figure_24 ?_
      refine tp_l (y := lN (nd_d x (P / 6))) rfl ?_
      refine va_gets hx hb hT.1 hS hown (hts _ (by decide +kernel)) (fun _ h => h) dX1_figure_25 ?_
      refine lv_iload_n hx hb dX1_figure_28 rfl (lv_at hl 2 rfl) ?_
      refine lv_bipush (v := nI (6)) hx hb dX1_figure_29 (by decide) ?_
      refine lv_irem hx hb dX1_figure_31 (nI_ne0 (by omega) (by omega)) ?_
      refine tp_i (y := nI (P % 6)) (pk_rem (by omega) (by omega) (by omega)) ?_
      refine va_tl hx hb hT.2 hS (vp_in_nI (n := P % 6) (by omega) (by decide)) (v := .long (lN (10 ^ (P % 6)))) (by rw [nI_clamp (by omega)]) dX1_figure_32 ?_
      refine lv_ldiv hx hb dX1_figure_33 (lN_ne0 (by omega) (by omega)) ?_
      refine tp_l (y := lN ((nd_d x (P / 6)) / (10 ^ (P % 6)))) (pk_lDiv (by omega) (by omega) (by omega)) ?_
      refine lv_ldc2 (v := lN (10)) hx hb hown (hts _ (by decide +kernel)) dX1_figure_34 ?_
      refine lv_lrem hx hb dX1_figure_37 (lN_ne0 (by omega) (by omega)) ?_
      refine tp_l (y := lN (((nd_d x (P / 6)) / (10 ^ (P % 6))) % 10)) (pk_lRem (by omega) (by omega) (by omega)) ?_
      refine lv_l2i (v := nI (((nd_d x (P / 6)) / (10 ^ (P % 6))) % 10)) hx hb dX1_figure_38 (lN_i _) ?_
      exact W.iret (v := nI (((nd_d x (P / 6)) / (10 ^ (P % 6))) % 10)) hx hb hr (fun t ht hW => ⟨⟨nI (((nd_d x (P / 6)) / (10 ^ (P % 6))) % 10), g, rfl, ⟨by rw [nd_fP], rfl⟩, wd_end hP hK hD ht hW⟩, hS.F ht⟩) hS.2.2 dX1_figure_39
    · refine lv_iconst (v := nI (0)) hx hb dX1_figure_17 (by decide) ?_
      exact W.iret (v := nI (0)) hx hb hr (fun t ht hW => ⟨⟨nI (0), g, rfl, ⟨by rw [nd_f0 q2], rfl⟩, wd_end hP hK hD ht hW⟩, hS.F ht⟩) hS.2.2 dX1_figure_18
set_option maxHeartbeats 4000000 in
set_option maxRecDepth 100000 in
theorem lp_X1_precision {p : Program} {l : Launch} {e : Env} {R : Room} {s : State} {m : MethodId} {args : Array Value} {below : List Frame} {meth : Method} {c : Code} {Q : State → Prop} {D : va_G} {cA : Nat → ClassId} {tT : Nat} {A : Nat → Prop} {N : Nat} {ad : Nat → Nat} {g : Nat → va_E} {a x : Nat} (S : CallFix p m c cX1_precision 2 s args wsX1_precision RX1) (hK : va_K D vwCl (ty_s cA) s) (hT : st_T tT A s s.heap) (hRf : 1 ≤ R.frames) (hRl : 22 ≤ R.locals) (ha1 : a + 1 < N) (ha : is_N cA ad g a x) (hx64 : x < 1000000 ^ 64) (kk : ∀ (k : Nat) (H : Heap) (locs : List Loc) (ls : Array Slot), k < 2 ^ 31 → (if k < 1 then 1 else k) = nd_p x → va_P D vwCl (wm_W N ad (g)) H → va_D A (wm_W N ad (g)) → va_S A s.heap H locs → lv_has ls 2 [(1, .int (nI k)), (0, .ref (ad a))] → W p l e R s m args below meth c H locs 0 0 Q (F0 m 29 ls [])) :
    ∀ (k : Nat) (H : Heap) (locs : List Loc) (ls : Array Slot), k < 1000 → x < 10 ^ k → va_P D vwCl (wm_W N ad (g)) H → va_D A (wm_W N ad (g)) → va_S A s.heap H locs → lv_has ls 2 [(1, .int (nI k)), (0, .ref (ad a))] → W p l e R s m args below meth c H locs 0 0 Q (F0 m 8 ls []) := by
  obtain ⟨hx, hb, hml, hown, hts⟩ := S
  intro k
  induction k with
  | zero =>
    intro H locs ls hk hV hP hD hS hl
    refine lv_iload_n hx hb dX1_precision_8 rfl (lv_at hl 0 rfl) ?_
    refine lv_iconst (v := nI (1)) hx hb dX1_precision_9 (by decide) ?_
    refine bi_le (tgt := 29) hx hb dX1_precision_10 (by decide) (by omega) (by omega) (fun q => ?_) (fun q => ?_)
    · exact kk 0 H locs ls (by decide) (by rw [show x = 0 by simpa using hV, nd_p1 (by decide)]; rfl) hP hD hS hl
    · exact absurd (Nat.zero_le 1) q
  | succ k ih =>
    intro H locs ls hk hV hP hD hS hl
    refine lv_iload_n hx hb dX1_precision_8 rfl (lv_at hl 0 rfl) ?_
    refine lv_iconst (v := nI (1)) hx hb dX1_precision_9 (by decide) ?_
    refine bi_le (tgt := 29) hx hb dX1_precision_10 (by decide) (by omega) (by omega) (fun q => ?_) (fun q => ?_)
    · obtain rfl : k = 0 := by omega
      exact kk 1 H locs ls (by decide) (by rw [nd_p1 (by simpa using hV)]; rfl) hP hD hS hl
    · refine lv_aload_n hx hb dX1_precision_13 rfl (lv_at hl 1 rfl) ?_
      refine lv_iload_n hx hb dX1_precision_14 rfl (lv_at hl 0 rfl) ?_
      refine lv_iconst (v := nI (1)) hx hb dX1_precision_15 (by decide) ?_
      refine lv_isub hx hb dX1_precision_16 ?_
      refine tp_i (y := nI (k)) (nI_sub1 k) ?_
      refine va_calli (va_runV (As := [.int (nI (k))]) (rest := []) ⟨hx, hb, hml, hown, hts⟩ (c_X1_figure l D cA tT A N ad _ _ (a := a) (x := x) (P := k) ha1 ha hx64 (by omega)) (cwV 1 hts gX1_precision_X1_figure rfl rfl rfl (by decide +kernel) ⟨hRf, hRl⟩) (wd_preV (k := a) hP hK hD hT hS (by omega) ha.1 rfl) rfl rfl hl.1 rfl (lv_room (Nat.le_of_ble_eq_true rfl)) dX1_precision_17 ⟨Nat.zero_le _, Nat.zero_le _⟩) hS id_2 id_1 (fun r_ u t H locs ht hvm hw hB hz1 hk1 hS => ?_)
      obtain ⟨hP, hD⟩ := wd_back ht hB
      clear ht hvm hB hz1 hk1
      obtain ⟨hr_, hu_⟩ := hw
      subst hr_
      rw [hu_] at hP hD
      clear hu_
      refine bz_ne (tgt := 29) hx hb dX1_precision_20 (by decide) (by omega) (fun q2 => ?_) (fun q2 => ?_)
      · exact kk (k + 1) H locs ls (by omega) (by rw [nd_p_eq hV q2, if_neg (by omega)]) hP hD hS hl
      · refine lv_iinc (v := nI (k)) (lv' := [(1, .int (nI (k))), (0, .ref (ad a))]) hx hb dX1_precision_23 hl (k := 0) rfl (nI_dec k) (by decide) rfl (fun ls hl => ?_)
        refine lv_goto (tgt := 8) hx hb dX1_precision_26 (by decide) ?_
        exact ih H locs ls (by omega) (nd_p_dn hV q2) hP hD hS hl
set_option maxHeartbeats 4000000 in
set_option maxRecDepth 100000 in
/-- precision: how many digits -/
theorem c_X1_precision (l : Launch) (D : va_G) (cA : Nat → ClassId) (tT : Nat) (A : Nat → Prop) (N : Nat) (ad : Nat → Nat) (sz : Nat) (g : Nat → va_E) {a x : Nat} (ha1 : a + 1 < N) (ha : is_N cA ad g a x) (hx64 : x < 1000000 ^ 64) : Met l yX1_precision wsX1_precision ({ frames := 1, cells := 0, slots := 0, locals := 22 }) (va_Pc [.ref (ad a)] (wd_B D cA tT A N ad sz g)) (va_Qi (fun (r : Int32) (u : Nat → va_E) => r = nI (nd_p x) ∧ u = g) (wd_E D cA A N ad) A) 0 0 A := by
  refine Met.ofW (cc := cX1_precision) (maxL := 2) (ret := (some .int)) (by decide) rfl ?_
  intro p e s m args below meth c s₁ B hml hv
  obtain ⟨rfl, hsz, hP, hK, hD, hT⟩ := hv
  have hx := B.exec
  have hb := B.bytes
  have hr := B.returns
  have hts := atoms_spec (ws := wsX1_precision) B.pre
  have hown : s.vm.findClass RX1 = some m.cls := findClass_of_methodNamed B.named
  have hlocks := B.notSynchronized
  subst hsz
  have hS : va_S A s.heap s.heap [] := va_S.rf
  have in1 : ∀ w ∈ wsX10, w ∈ wsX1_precision := by decide +kernel
  have hl := lv_entry ([.ref (ad a)]) (n := 2) (Nat.le_of_ble_eq_true rfl)
  rw [lg_entry_eq]
  generalize (lg_sl ([.ref (ad a)]) ++ List.replicate (2 - (lg_sl ([.ref (ad a)])).length) Slot.unset).toArray = ls at hl ⊢
  have hl : lv_has ls 2 [(0, .ref (ad a))] := hl
  have hs64 := nd_s64 hx64
  refine lv_aload_n hx hb dX1_precision_0 rfl (lv_at hl 0 rfl) ?_
  refine rg_1_size hx hb hts in1 hown hK hP a (by omega) ha.1 (hts _ (by decide +kernel)) dX1_precision_1 ?_
  refine lv_bipush (v := nI (6)) hx hb dX1_precision_4 (by decide) ?_
  refine lv_imul hx hb dX1_precision_6 ?_
  refine tp_i (y := nI ((nd_s x) * 6)) (pk_mul _ _) ?_
  refine lv_istore_n (lv' := [(1, .int (nI ((nd_s x) * 6))), (0, .ref (ad a))]) hx hb dX1_precision_7 rfl hl (by decide) rfl (fun ls hl => ?_)
  refine lp_X1_precision ⟨hx, hb, hml, hown, hts⟩ hK hT (Nat.le_of_ble_eq_true rfl) (Nat.le_of_ble_eq_true rfl) ha1 ha hx64 (fun k H locs ls hk hkp hP hD hS hl => ?_) (nd_s x * 6) _ _ ls (by omega) (by rw [Nat.mul_comm]; exact nd_s10 x) hP hD hS hl
  refine lv_iload_n hx hb dX1_precision_29 rfl (lv_at hl 0 rfl) ?_
  refine lv_iconst (v := nI (1)) hx hb dX1_precision_30 (by decide) ?_
  refine va_mmax hx hb (by rw [hml]; exact hl.1.symm) hown (hts _ (by decide +kernel)) (hts _ (by decide +kernel)) (hts _ (by decide +kernel)) (hts _ (by decide +kernel)) (Nat.le_of_ble_eq_true rfl) (Nat.le_of_ble_eq_true rfl) (Nat.zero_le _) (Nat.zero_le _) dX1_precision_31 ?_
  refine tp_i (y := nI (nd_p x)) ((mx_1 k hk).trans (by rw [hkp])) ?_
  exact W.iret (v := nI (nd_p x)) hx hb hr (fun t ht hW => ⟨⟨nI (nd_p x), g, rfl, ⟨rfl, rfl⟩, wd_end hP hK hD ht hW⟩, hS.F ht⟩) hS.2.2 dX1_precision_34
/-- the zeros at the end of x, of at most k places -/
def nd_z (x : Nat) : Nat → Nat → Nat
  | 0, z => z
  | n + 1, z => if x / 10 ^ z % 10 = 0 then nd_z x n (z + 1) else z
set_option maxHeartbeats 4000000 in
set_option maxRecDepth 100000 in
theorem lp_X1_zerosAtEnd {p : Program} {l : Launch} {e : Env} {R : Room} {s : State} {m : MethodId} {args : Array Value} {below : List Frame} {meth : Method} {c : Code} {Q : State → Prop} {D : va_G} {cA : Nat → ClassId} {tT : Nat} {A : Nat → Prop} {N : Nat} {ad : Nat → Nat} {g : Nat → va_E} {a x K : Nat} (S : CallFix p m c cX1_zerosAtEnd 3 s args wsX1_zerosAtEnd RX1) (hK : va_K D vwCl (ty_s cA) s) (hT : st_T tT A s s.heap) (hRf : 1 ≤ R.frames) (hRl : 22 ≤ R.locals) (ha1 : a + 1 < N) (ha : is_N cA ad g a x) (hx64 : x < 1000000 ^ 64) (hK9 : K < 1000) (kk : ∀ (z : Nat) (H : Heap) (locs : List Loc) (ls : Array Slot), z = nd_z x K 0 → va_P D vwCl (wm_W N ad (g)) H → va_D A (wm_W N ad (g)) → va_S A s.heap H locs → lv_has ls 3 [(2, .int (nI z)), (1, .int (nI K)), (0, .ref (ad a))] → W p l e R s m args below meth c H locs 0 0 Q (F0 m 29 ls [])) :
    ∀ (n z : Nat) (H : Heap) (locs : List Loc) (ls : Array Slot), z + n = K → nd_z x n z = nd_z x K 0 → va_P D vwCl (wm_W N ad (g)) H → va_D A (wm_W N ad (g)) → va_S A s.heap H locs → lv_has ls 3 [(2, .int (nI z)), (1, .int (nI K)), (0, .ref (ad a))] → W p l e R s m args below meth c H locs 0 0 Q (F0 m 10 ls []) := by
  obtain ⟨hx, hb, hml, hown, hts⟩ := S
  intro n
  induction n with
  | zero =>
    intro z H locs ls hk hV hP hD hS hl
    refine lv_iload_n hx hb dX1_zerosAtEnd_10 rfl (lv_at hl 0 rfl) ?_
    refine lv_iload_n hx hb dX1_zerosAtEnd_11 rfl (lv_at hl 1 rfl) ?_
    refine bi_ge (tgt := 29) hx hb dX1_zerosAtEnd_12 (by decide) (by omega) (by omega) (fun q => ?_) (fun q => ?_)
    · exact kk z H locs ls hV hP hD hS hl
    · exact absurd hk (by omega)
  | succ n ih =>
    intro z H locs ls hk hV hP hD hS hl
    refine lv_iload_n hx hb dX1_zerosAtEnd_10 rfl (lv_at hl 0 rfl) ?_
    refine lv_iload_n hx hb dX1_zerosAtEnd_11 rfl (lv_at hl 1 rfl) ?_
    refine bi_ge (tgt := 29) hx hb dX1_zerosAtEnd_12 (by decide) (by omega) (by omega) (fun q => ?_) (fun q => ?_)
    · exact absurd hk (by omega)
    · refine lv_aload_n hx hb dX1_zerosAtEnd_15 rfl (lv_at hl 2 rfl) ?_
      refine lv_iload_n hx hb dX1_zerosAtEnd_16 rfl (lv_at hl 0 rfl) ?_
      refine va_calli (va_runV (As := [.int (nI (z))]) (rest := []) ⟨hx, hb, hml, hown, hts⟩ (c_X1_figure l D cA tT A N ad _ _ (a := a) (x := x) (P := z) ha1 ha hx64 (by omega)) (cwV 1 hts gX1_zerosAtEnd_X1_figure rfl rfl rfl (by decide +kernel) ⟨hRf, hRl⟩) (wd_preV (k := a) hP hK hD hT hS (by omega) ha.1 rfl) rfl rfl hl.1 rfl (lv_room (Nat.le_of_ble_eq_true rfl)) dX1_zerosAtEnd_17 ⟨Nat.zero_le _, Nat.zero_le _⟩) hS id_2 id_1 (fun r_ u t H locs ht hvm hw hB hz1 hk1 hS => ?_)
      obtain ⟨hP, hD⟩ := wd_back ht hB
      clear ht hvm hB hz1 hk1
      obtain ⟨hr_, hu_⟩ := hw
      subst hr_
      rw [hu_] at hP hD
      clear hu_
      refine bz_ne (tgt := 29) hx hb dX1_zerosAtEnd_20 (by decide) (by omega) (fun q2 => ?_) (fun q2 => ?_)
      · exact kk z H locs ls (by rw [← hV, nd_z, if_neg q2]) hP hD hS hl
      · refine lv_iinc (v := nI (z + 1)) (lv' := [(2, .int (nI (z + 1))), (1, .int (nI (K))), (0, .ref (ad a))]) hx hb dX1_zerosAtEnd_23 hl (k := 0) rfl (nI_inc z 1) (by decide) rfl (fun ls hl => ?_)
        refine lv_goto (tgt := 10) hx hb dX1_zerosAtEnd_26 (by decide) ?_
        exact ih (z + 1) H locs ls (by omega) (by rw [← hV, nd_z, if_pos q2]) hP hD hS hl
set_option maxHeartbeats 4000000 in
set_option maxRecDepth 100000 in
/-- zerosAtEnd -/
theorem c_X1_zerosAtEnd (l : Launch) (D : va_G) (cA : Nat → ClassId) (tT : Nat) (A : Nat → Prop) (N : Nat) (ad : Nat → Nat) (sz : Nat) (g : Nat → va_E) {a x : Nat} (ha1 : a + 1 < N) (ha : is_N cA ad g a x) (hx64 : x < 1000000 ^ 64) : Met l yX1_zerosAtEnd wsX1_zerosAtEnd ({ frames := 1, cells := 0, slots := 0, locals := 22 }) (va_Pc [.ref (ad a)] (wd_B D cA tT A N ad sz g)) (va_Qi (fun (r : Int32) (u : Nat → va_E) => r = nI (nd_z x (nd_s x * 6) 0) ∧ u = g) (wd_E D cA A N ad) A) 0 0 A := by
  refine Met.ofW (cc := cX1_zerosAtEnd) (maxL := 3) (ret := (some .int)) (by decide) rfl ?_
  intro p e s m args below meth c s₁ B hml hv
  obtain ⟨rfl, hsz, hP, hK, hD, hT⟩ := hv
  have hx := B.exec
  have hb := B.bytes
  have hr := B.returns
  have hts := atoms_spec (ws := wsX1_zerosAtEnd) B.pre
  have hown : s.vm.findClass RX1 = some m.cls := findClass_of_methodNamed B.named
  have hlocks := B.notSynchronized
  subst hsz
  have hS : va_S A s.heap s.heap [] := va_S.rf
  have in1 : ∀ w ∈ wsX10, w ∈ wsX1_zerosAtEnd := by decide +kernel
  have hl := lv_entry ([.ref (ad a)]) (n := 3) (Nat.le_of_ble_eq_true rfl)
  rw [lg_entry_eq]
  generalize (lg_sl ([.ref (ad a)]) ++ List.replicate (3 - (lg_sl ([.ref (ad a)])).length) Slot.unset).toArray = ls at hl ⊢
  have hl : lv_has ls 3 [(0, .ref (ad a))] := hl
  have hs64 := nd_s64 hx64
  refine lv_aload_n hx hb dX1_zerosAtEnd_0 rfl (lv_at hl 0 rfl) ?_
  refine rg_1_size hx hb hts in1 hown hK hP a (by omega) ha.1 (hts _ (by decide +kernel)) dX1_zerosAtEnd_1 ?_
  refine lv_bipush (v := nI (6)) hx hb dX1_zerosAtEnd_4 (by decide) ?_
  refine lv_imul hx hb dX1_zerosAtEnd_6 ?_
  refine tp_i (y := nI ((nd_s x) * 6)) (pk_mul _ _) ?_
  refine lv_istore_n (lv' := [(1, .int (nI ((nd_s x) * 6))), (0, .ref (ad a))]) hx hb dX1_zerosAtEnd_7 rfl hl (by decide) rfl (fun ls hl => ?_)
  refine lv_iconst (v := nI (0)) hx hb dX1_zerosAtEnd_8 (by decide) ?_
  refine lv_istore_n (lv' := [(2, .int (nI (0))), (1, .int (nI ((nd_s x) * 6))), (0, .ref (ad a))]) hx hb dX1_zerosAtEnd_9 rfl hl (by decide) rfl (fun ls hl => ?_)
  refine lp_X1_zerosAtEnd (K := nd_s x * 6) ⟨hx, hb, hml, hown, hts⟩ hK hT (Nat.le_of_ble_eq_true rfl) (Nat.le_of_ble_eq_true rfl) ha1 ha hx64 (by omega) (fun z H locs ls hz hP hD hS hl => ?_) (nd_s x * 6) 0 _ _ ls (by omega) rfl hP hD hS hl
  refine lv_iload_n hx hb dX1_zerosAtEnd_29 rfl (lv_at hl 0 rfl) ?_
  exact W.iret (v := nI (z)) hx hb hr (fun t ht hW => ⟨⟨nI (z), g, rfl, ⟨by rw [hz], rfl⟩, wd_end hP hK hD ht hW⟩, hS.F ht⟩) hS.2.2 dX1_zerosAtEnd_30
set_option maxHeartbeats 4000000 in
set_option maxRecDepth 100000 in
theorem lp_X1_lowestBits {p : Program} {l : Launch} {e : Env} {R : Room} {s : State} {m : MethodId} {args : Array Value} {below : List Frame} {meth : Method} {c : Code} {Q : State → Prop} {D : va_G} {cA : Nat → ClassId} {tT : Nat} {A : Nat → Prop} {N : Nat} {ad : Nat → Nat} {g : Nat → va_E} {a x : Nat} (S : CallFix p m c cX1_lowestBits 4 s args wsX1_lowestBits RX1) (hK : va_K D vwCl (ty_s cA) s) (hT : st_T tT A s s.heap) (ha1 : a + 1 < N) (ha : is_N cA ad g a x) (hx64 : x < 1000000 ^ 64) (kk : ∀ (H : Heap) (locs : List Loc) (ls : Array Slot), va_P D vwCl (wm_W N ad (g)) H → va_D A (wm_W N ad (g)) → va_S A s.heap H locs → lv_has ls 4 [(1, .long (lN x)), (0, .ref (ad a))] → W p l e R s m args below meth c H locs 0 0 Q (F0 m 32 ls [])) :
    ∀ (k : Nat) (H : Heap) (locs : List Loc) (ls : Array Slot), k ≤ 64 → va_P D vwCl (wm_W N ad (g)) H → va_D A (wm_W N ad (g)) → va_S A s.heap H locs → lv_has ls 4 [(3, .int (dn k)), (1, .long (lN (x / 1000000 ^ k))), (0, .ref (ad a))] → W p l e R s m args below meth c H locs 0 0 Q (F0 m 9 ls []) := by
  obtain ⟨hx, hb, hml, hown, hts⟩ := S
  have in1 : ∀ w ∈ wsX10, w ∈ wsX1_lowestBits := by decide +kernel
  intro k
  induction k with
  | zero =>
    intro H locs ls hk hP hD hS hl
    refine lv_iload_n hx hb dX1_lowestBits_9 rfl (lv_at hl 0 rfl) ?_
    refine by_lt (tgt := 32) hx hb dX1_lowestBits_10 (by decide) (by omega) (by omega) (fun q => ?_) (fun q => ?_)
    · exact kk H locs ls hP hD hS (by rw [nd_q0] at hl; exact lv_sub hl [1, 2] rfl)
    · exact absurd (by decide) q
  | succ k ih =>
    intro H locs ls hk hP hD hS hl
    refine lv_iload_n hx hb dX1_lowestBits_9 rfl (lv_at hl 0 rfl) ?_
    refine bz_lt (tgt := 32) hx hb dX1_lowestBits_10 (by decide) (by omega) (fun q => ?_) (fun q => ?_)
    · exact absurd q (Nat.not_lt_zero _)
    · refine lv_lload_n hx hb dX1_lowestBits_13 rfl (lv_at hl 1 rfl) ?_
      refine lv_ldc2 (v := lN (1000000)) hx hb hown (hts _ (by decide +kernel)) dX1_lowestBits_14 ?_
      refine lv_lmul hx hb dX1_lowestBits_17 ?_
      refine tp_l (y := lN ((x / 1000000 ^ (k + 1)) * 1000000)) (lN_mul _ _) ?_
      refine lv_aload_n hx hb dX1_lowestBits_18 rfl (lv_at hl 2 rfl) ?_
      refine rg_1_limbs hx hb hts in1 hown hK hP a (by omega) ha.1 (hts _ (by decide +kernel)) dX1_lowestBits_19 ?_
      refine lv_iload_n hx hb dX1_lowestBits_22 rfl (lv_at hl 0 rfl) ?_
      refine rn_l hx hb hK hP (a + 1) (by omega) ha.2 (by omega) (by decide) dX1_lowestBits_23 ?_
      refine tp_l (y := lN (nd_d x k)) rfl ?_
      refine lv_ladd hx hb dX1_lowestBits_24 ?_
      refine tp_l (y := lN (x / 1000000 ^ k)) ((lN_add _ _).trans (by rw [nd_d, nd_q, show x / 1000000 ^ k / 1000000 * 1000000 + x / 1000000 ^ k % 1000000 = x / 1000000 ^ k by omega])) ?_
      refine lv_lstore_n (lv' := [(1, .long (lN (x / 1000000 ^ k))), (3, .int (nI (k))), (0, .ref (ad a))]) hx hb dX1_lowestBits_25 rfl hl (by decide) rfl (fun ls hl => ?_)
      refine lv_iinc (v := dn k) (lv' := [(3, .int (dn k)), (1, .long (lN (x / 1000000 ^ k))), (0, .ref (ad a))]) hx hb dX1_lowestBits_26 hl (k := 1) rfl (dn_dec k) (by decide) rfl (fun ls hl => ?_)
      refine lv_goto (tgt := 9) hx hb dX1_lowestBits_29 (by decide) ?_
      exact ih H locs ls (by omega) hP hD hS (lv_sub hl [0, 1, 2] rfl)
set_option maxHeartbeats 4000000 in
set_option maxRecDepth 100000 in
/-- lowestBits: the number, cut to 64 bits -/
theorem c_X1_lowestBits (l : Launch) (D : va_G) (cA : Nat → ClassId) (tT : Nat) (A : Nat → Prop) (N : Nat) (ad : Nat → Nat) (sz : Nat) (g : Nat → va_E) {a x : Nat} (ha1 : a + 1 < N) (ha : is_N cA ad g a x) (hx64 : x < 1000000 ^ 64) : Met l yX1_lowestBits wsX1_lowestBits ({ frames := 0, cells := 0, slots := 0, locals := 0 }) (va_Pc [.ref (ad a)] (wd_B D cA tT A N ad sz g)) (va_Ql (fun (r : Int64) (u : Nat → va_E) => r = lN x ∧ u = g) (wd_E D cA A N ad) A) 0 0 A := by
  refine Met.ofW (cc := cX1_lowestBits) (maxL := 4) (ret := (some .long)) (by decide) rfl ?_
  intro p e s m args below meth c s₁ B hml hv
  obtain ⟨rfl, hsz, hP, hK, hD, hT⟩ := hv
  have hx := B.exec
  have hb := B.bytes
  have hr := B.returns
  have hts := atoms_spec (ws := wsX1_lowestBits) B.pre
  have hown : s.vm.findClass RX1 = some m.cls := findClass_of_methodNamed B.named
  have hlocks := B.notSynchronized
  subst hsz
  have hS : va_S A s.heap s.heap [] := va_S.rf
  have in1 : ∀ w ∈ wsX10, w ∈ wsX1_lowestBits := by decide +kernel
  have hl := lv_entry ([.ref (ad a)]) (n := 4) (Nat.le_of_ble_eq_true rfl)
  rw [lg_entry_eq]
  generalize (lg_sl ([.ref (ad a)]) ++ List.replicate (4 - (lg_sl ([.ref (ad a)])).length) Slot.unset).toArray = ls at hl ⊢
  have hl : lv_has ls 4 [(0, .ref (ad a))] := hl
  have hs64 := nd_s64 hx64
  refine lv_lconst (v := lN (0)) hx hb dX1_lowestBits_0 rfl ?_
  refine lv_lstore_n (lv' := [(1, .long (lN (0))), (0, .ref (ad a))]) hx hb dX1_lowestBits_1 rfl hl (by decide) rfl (fun ls hl => ?_)
  refine lv_aload_n hx hb dX1_lowestBits_2 rfl (lv_at hl 1 rfl) ?_
  refine rg_1_size hx hb hts in1 hown hK hP a (by omega) ha.1 (hts _ (by decide +kernel)) dX1_lowestBits_3 ?_
  refine lv_iconst (v := nI (1)) hx hb dX1_lowestBits_6 (by decide) ?_
  refine lv_isub hx hb dX1_lowestBits_7 ?_
  refine tp_i (y := dn (nd_s x)) (dn_sub _) ?_
  refine lv_istore_n (lv' := [(3, .int (dn (nd_s x))), (1, .long (lN (0))), (0, .ref (ad a))]) hx hb dX1_lowestBits_8 rfl hl (by decide) rfl (fun ls hl => ?_)
  refine lp_X1_lowestBits ⟨hx, hb, hml, hown, hts⟩ hK hT ha1 ha hx64 (fun H locs ls hP hD hS hl => ?_) (nd_s x) _ _ ls hs64 hP hD hS (by rw [Nat.div_eq_of_lt (nd_s_lt x)]; exact hl)
  refine lv_lload_n hx hb dX1_lowestBits_32 rfl (lv_at hl 0 rfl) ?_
  exact W.lret (v := lN (x)) hx hb hr (fun t ht hW => ⟨⟨lN (x), g, rfl, ⟨rfl, rfl⟩, wd_end hP hK hD ht hW⟩, hS.F ht⟩) hS.2.2 dX1_lowestBits_33
