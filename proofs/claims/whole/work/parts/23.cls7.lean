theorem c00 {p : Program} {l : Launch} {e : Env} {R : Room} {s : State} {m : MethodId} {args : Array Value} {below : List Frame} {meth : Method} {c : Code} {H : Heap} {locs : List Loc} {Q : State → Prop} {g : JFrame} (k : W p l e R s m args below meth c H locs 0 0 Q g) : W p l e R s m args below meth c H locs (0 + 0) (0 + 0) Q g := k
theorem rep_s (T : List Nat) (i : Nat) : T ++ List.replicate (i + 1) 48 = (T ++ List.replicate i 48) ++ [48] := by rw [List.replicate_succ']; simp
set_option maxHeartbeats 4000000 in
set_option maxRecDepth 100000 in
theorem lp_X2_appendZeros {p : Program} {l : Launch} {e : Env} {R : Room} {s : State} {m : MethodId} {args : Array Value} {below : List Frame} {meth : Method} {c : Code} {Q : State → Prop} {D : va_G} {cA : Nat → ClassId} {tT : Nat} {A : Nat → Prop} {ad : Nat → Nat} {sf : Nat → Bool × Nat × Int} {x y : Nat} {T : List Nat} {cnt : Int} (S : CallFix p m c cX2_appendZeros 3 s args wsX2_appendZeros RX2) (hK : va_K D vwCl (ty_s cA) s) (hT : st_T tT A s s.heap) (hRf : 1 ≤ R.frames) (hRl : 21 ≤ R.locals) (c1 : -1000 < cnt) (c2 : cnt < 1000) (hF : (T ++ List.replicate cnt.toNat 48).length ≤ 200) (kk : ∀ (tx : Nat → Int32) (H : Heap) (locs : List Loc) (ls : Array Slot), tr tx (T ++ List.replicate cnt.toNat 48) → va_P D vwCl (wm_W 31 ad (cg cA ad sf x y tx ((T ++ List.replicate cnt.toNat 48).length))) H → va_D A (wm_W 31 ad (cg cA ad sf x y tx ((T ++ List.replicate cnt.toNat 48).length))) → va_S A s.heap H locs → W p l e R s m args below meth c H locs 0 0 Q (F0 m 19 ls [])) :
    ∀ (n i : Nat) (tx : Nat → Int32) (H : Heap) (locs : List Loc) (ls : Array Slot), i + n = cnt.toNat → tr tx (T ++ List.replicate i 48) → va_P D vwCl (wm_W 31 ad (cg cA ad sf x y tx (T ++ List.replicate i 48).length)) H → va_D A (wm_W 31 ad (cg cA ad sf x y tx (T ++ List.replicate i 48).length)) → va_S A s.heap H locs → lv_has ls 3 [(2, .int (nI (i))), (0, .ref (ad 0)), (1, .int (iZ (cnt)))] → W p l e R s m args below meth c H locs 0 0 Q (F0 m 2 ls []) := by
  obtain ⟨hx, hb, hml, hown, hts⟩ := S
  intro n
  induction n with
  | zero =>
    intro i tx H locs ls hn ht hP hD hS hl
    refine lv_iload_n hx hb dX2_appendZeros_2 rfl (lv_at hl 0 rfl) ?_
    refine lv_iload_n hx hb dX2_appendZeros_3 rfl (lv_at hl 2 rfl) ?_
    refine tp_i2 (y := iZ ((i : Nat) : Int)) (iZ_nat _) ?_
    refine bs_ge (tgt := 19) hx hb dX2_appendZeros_4 (by decide) (by omega) (by omega) (by omega) (by omega) (fun q1 => ?_) (fun q1 => ?_)
    · obtain rfl : i = cnt.toNat := by omega
      exact kk tx H locs ls ht hP hD hS
    · exact absurd hn (by omega)
  | succ n ih =>
    intro i tx H locs ls hn ht hP hD hS hl
    refine lv_iload_n hx hb dX2_appendZeros_2 rfl (lv_at hl 0 rfl) ?_
    refine lv_iload_n hx hb dX2_appendZeros_3 rfl (lv_at hl 2 rfl) ?_
    refine tp_i2 (y := iZ ((i : Nat) : Int)) (iZ_nat _) ?_
    refine bs_ge (tgt := 19) hx hb dX2_appendZeros_4 (by decide) (by omega) (by omega) (by omega) (by omega) (fun q1 => ?_) (fun q1 => ?_)
    · exact absurd hn (by omega)
    · have hlen : (T ++ List.replicate i 48).length < 200 := by
        simp only [List.length_append, List.length_replicate] at hF ⊢; omega
      refine lv_aload_n hx hb dX2_appendZeros_7 rfl (lv_at hl 1 rfl) ?_
      refine lv_bipush (v := nI (48)) hx hb dX2_appendZeros_8 (by decide) ?_
      refine va_callv (va_runV (As := [.int (nI (48))]) (rest := []) ⟨hx, hb, hml, hown, hts⟩ (c_X2_append l D cA tT A ad _ (sf := sf) (x := x) (y := y) (tx := tx) (T := T ++ List.replicate i 48) (q := 48) (by omega) (by decide)) (cwV 1 hts gX2_appendZeros_X2_append rfl rfl rfl (by decide +kernel) ⟨Nat.le_trans (Nat.le_of_ble_eq_true rfl) hRf, Nat.le_trans (Nat.le_of_ble_eq_true rfl) hRl⟩) (wd_preV (k := 0) hP hK hD hT hS (by decide) cg_0 rfl) rfl rfl hl.1 rfl (lv_room (Nat.le_of_ble_eq_true rfl)) dX2_appendZeros_10 ⟨Nat.zero_le _, Nat.zero_le _⟩) hS id_2 id_1 (fun u t H locs ht hvm hw hB hz1 hk1 hS => ?_)
      refine c00 ?_
      obtain ⟨hP, hD⟩ := wd_back ht hB
      clear ht hvm hB hz1 hk1
      rw [hw] at hP hD
      clear hw
      have ht := tr_ap (q := 48) ht
      rw [← len1 (T ++ List.replicate i 48) 48, ← rep_s] at hP hD
      rw [← rep_s] at ht
      refine lv_iinc (v := nI (i + 1)) (lv' := [(2, .int (nI (i + 1))), (0, .ref (ad 0)), (1, .int (iZ (cnt)))]) hx hb dX2_appendZeros_13 hl (k := 0) rfl (nI_inc i 1) (by decide) rfl (fun ls hl => ?_)
      refine lv_goto (tgt := 2) hx hb dX2_appendZeros_16 (by decide) ?_
      exact ih (i + 1) _ H locs ls (by omega) ht hP hD hS hl
set_option maxHeartbeats 4000000 in
set_option maxRecDepth 100000 in
/-- appendZeros -/
theorem c_X2_appendZeros (l : Launch) (D : va_G) (cA : Nat → ClassId) (tT : Nat) (A : Nat → Prop) (ad : Nat → Nat) (sz : Nat) {sf : Nat → Bool × Nat × Int} {x y : Nat} {tx : Nat → Int32} {T : List Nat} {cnt : Int} (c1 : -1000 < cnt) (c2 : cnt < 1000) (ht9 : tr tx T) (hF : (T ++ List.replicate cnt.toNat 48).length ≤ 200) : Met l yX2_appendZeros wsX2_appendZeros ({ frames := 1, cells := 0, slots := 0, locals := 21 }) (va_Pc [.ref (ad 0), .int (iZ (cnt))] (wd_B D cA tT A 31 ad sz (cg cA ad sf x y tx T.length))) (va_Qv (fun (u : Nat → va_E) => ∃ tx1, tr tx1 (T ++ List.replicate cnt.toNat 48) ∧ u = cg cA ad sf x y tx1 (T ++ List.replicate cnt.toNat 48).length) (wd_E D cA A 31 ad) A) 0 0 A := by
  refine Met.ofW (cc := cX2_appendZeros) (maxL := 3) (ret := none) (by decide) rfl ?_
  intro p e s m args below meth c s₁ B hml hv
  obtain ⟨rfl, hsz, hP, hK, hD, hT⟩ := hv
  have hx := B.exec
  have hb := B.bytes
  have hr := B.returns
  have hts := atoms_spec (ws := wsX2_appendZeros) B.pre
  have hown : s.vm.findClass RX2 = some m.cls := findClass_of_methodNamed B.named
  have hlocks := B.notSynchronized
  subst hsz
  have hS : va_S A s.heap s.heap [] := va_S.rf
  have hl := lv_entry ([.ref (ad 0), .int (iZ (cnt))]) (n := 3) (Nat.le_of_ble_eq_true rfl)
  rw [lg_entry_eq]
  generalize (lg_sl ([.ref (ad 0), .int (iZ (cnt))]) ++ List.replicate (3 - (lg_sl ([.ref (ad 0), .int (iZ (cnt))])).length) Slot.unset).toArray = ls at hl ⊢
  have hl : lv_has ls 3 [(0, .ref (ad 0)), (1, .int (iZ (cnt)))] := hl
  refine lv_iconst (v := nI (0)) hx hb dX2_appendZeros_0 (by decide) ?_
  refine lv_istore_n (lv' := [(2, .int (nI (0))), (0, .ref (ad 0)), (1, .int (iZ (cnt)))]) hx hb dX2_appendZeros_1 rfl hl (by decide) rfl (fun ls hl => ?_)
  have e0 : T ++ List.replicate 0 48 = T := by simp
  refine lp_X2_appendZeros (T := T) (cnt := cnt) ⟨hx, hb, hml, hown, hts⟩ hK hT (Nat.le_of_ble_eq_true rfl) (Nat.le_of_ble_eq_true rfl) c1 c2 hF (fun tx H locs ls htr hP hD hS => ?_) cnt.toNat 0 tx _ _ ls (by omega) (by rw [e0]; exact ht9) (by rw [e0]; exact hP) (by rw [e0]; exact hD) hS hl
  exact W.vret hx hb hr (fun t ht hW => ⟨⟨_, rfl, ⟨tx, htr, rfl⟩, wd_end hP hK hD ht hW⟩, hS.F ht⟩) hS.2.2 dX2_appendZeros_19
theorem wr_len {d : Bool × Nat × Int} (h : rk d) : (wr d).length ≤ 200 ∧ ((if d.1 then [45] else []) ++ fgs d.2.1 d.2.2 ((max ((nd_p d.2.1 : Int) - 1) d.2.2).toNat + 1)).length ≤ 194 := by
  have h1 := p190 h.1
  have h2 := nd_p_pos d.2.1
  have h3 : (if d.1 then [45] else ([] : List Nat)).length ≤ 1 := by split <;> simp
  obtain ⟨-, z1, z2, -⟩ := h
  have h4 := fgs_n d.2.1 d.2.2 ((max ((nd_p d.2.1 : Int) - 1) d.2.2).toNat + 1)
  have h5 : (if d.2.1 = 0 then [] else List.replicate (-d.2.2).toNat 48 : List Nat).length ≤ (-d.2.2).toNat := by split <;> simp
  rw [wr]
  simp only [List.length_append]
  rw [h4]
  generalize (if d.1 then [45] else ([] : List Nat)).length = a1 at h3 ⊢
  generalize (if d.2.1 = 0 then [] else List.replicate (-d.2.2).toNat 48 : List Nat).length = a2 at h5 ⊢
  by_cases hz : 0 < d.2.2 ∧ d.2.2 < (((max ((nd_p d.2.1 : Int) - 1) d.2.2).toNat + 1 : Nat) : Int)
  · rw [if_pos hz]; omega
  · rw [if_neg hz]; omega
set_option maxHeartbeats 4000000 in
set_option maxRecDepth 100000 in
/-- write -/
theorem c_X2_write (l : Launch) (D : va_G) (cA : Nat → ClassId) (tT : Nat) (A : Nat → Prop) (ad : Nat → Nat) (sz : Nat) {sf : Nat → Bool × Nat × Int} {x y : Nat} {tx : Nat → Int32} {T : List Nat} {i : Int} (hc : ci sf x y) (ht9 : tr tx T) (hT9 : T.length ≤ 200) (i_1 : -2147483648 ≤ i) (i_2 : i < 2147483648) : Met l yX2_write wsX2_write ({ frames := 3, cells := 0, slots := 0, locals := 65 }) (va_Pc [.ref (ad 0), .int (iZ (i))] (wd_B D cA tT A 31 ad sz (cg cA ad sf x y tx T.length))) (va_Qi (fun (r : Int32) (u : Nat → va_E) => r = (sp_write (fun i => sf (2 + i)) T i).1 ∧ ∃ tx1, tr tx1 (sp_write (fun i => sf (2 + i)) T i).2 ∧ (sp_write (fun i => sf (2 + i)) T i).2.length ≤ 200 ∧ u = cg cA ad sf x y tx1 (sp_write (fun i => sf (2 + i)) T i).2.length) (wd_E D cA A 31 ad) A) 0 0 A := by
  refine Met.ofW (cc := cX2_write) (maxL := 3) (ret := (some .int)) (by decide) rfl ?_
  intro p e s m args below meth c s₁ B hml hv
  obtain ⟨rfl, hsz, hP, hK, hD, hT⟩ := hv
  have hx := B.exec
  have hb := B.bytes
  have hr := B.returns
  have hts := atoms_spec (ws := wsX2_write) B.pre
  have hown : s.vm.findClass RX2 = some m.cls := findClass_of_methodNamed B.named
  have hlocks := B.notSynchronized
  subst hsz
  have hS : va_S A s.heap s.heap [] := va_S.rf
  have in0 : ∀ w ∈ wsX00, w ∈ wsX2_write := by decide +kernel
  have in2 : ∀ w ∈ wsX20, w ∈ wsX2_write := by decide +kernel
  have hl := lv_entry ([.ref (ad 0), .int (iZ (i))]) (n := 3) (Nat.le_of_ble_eq_true rfl)
  rw [lg_entry_eq]
  generalize (lg_sl ([.ref (ad 0), .int (iZ (i))]) ++ List.replicate (3 - (lg_sl ([.ref (ad 0), .int (iZ (i))])).length) Slot.unset).toArray = ls at hl ⊢
  have hl : lv_has ls 3 [(0, .ref (ad 0)), (1, .int (iZ (i)))] := hl
  refine lv_iload_n hx hb dX2_write_0 rfl (lv_at hl 1 rfl) ?_
  refine va_calli (va_runS (As := [.int (iZ (i))]) (rest := []) ⟨hx, hb, hml, hown, hts⟩ (c_X2_isRegister l D cA tT A 31 ad _ _ (k := i) (by omega) (by omega)) (va_cwS 1 hts gX2_write_X2_isRegister rfl rfl rfl (by decide +kernel) ⟨Nat.le_of_ble_eq_true rfl, Nat.le_of_ble_eq_true rfl⟩) (wd_preS hP hK hD hT hS) rfl rfl hl.1 rfl (lv_room (Nat.le_of_ble_eq_true rfl)) dX2_write_1 ⟨Nat.zero_le _, Nat.zero_le _⟩) hS id_2 id_1 (fun r_ u t H locs ht hvm hw hB hz1 hk1 hS => ?_)
  refine c00 ?_
  obtain ⟨hP, hD⟩ := wd_back ht hB
  clear ht hvm hB hz1 hk1
  obtain ⟨hr_, hu_⟩ := hw
  subst hr_
  rw [hu_] at hP hD
  clear hu_
  refine bz_ne (tgt := 9) hx hb dX2_write_4 (by decide) it_lt (fun q_i => ?_) (fun q_i => ?_)
  · have g_i := it_ne q_i
    obtain ⟨i_n, h_i, rfl⟩ : ∃ n : Nat, n < 6 ∧ i = (n : Int) := ⟨i.toNat, by omega, by omega⟩
    rw [← iZ_nat i_n] at hl
    have e_i : ((i_n : Nat) : Int).toNat = i_n := Int.toNat_natCast i_n
    have r_i := hc.2.2.2.2 i_n h_i
    have c_i := c64 r_i.1
    simp only [rk] at r_i
    have hwl := wr_len (d := sf (2 + i_n)) ⟨r_i.1, r_i.2.1, r_i.2.2.1, r_i.2.2.2⟩
    have t1 := tn_le (sf (2 + i_n)).1
    have hsp : sp_write (fun i => sf (2 + i)) T (i_n : Int) = (nI (wr (sf (2 + i_n))).length, wr (sf (2 + i_n))) := by rw [sp_write, if_pos (by omega), e_i]
    refine lv_aload_n hx hb dX2_write_9 rfl (lv_at hl 0 rfl) ?_
    refine rg_2_registers hx hb hts in2 hown hK hP 0 (by decide) cg_0 (hts _ (by decide +kernel)) dX2_write_10 ?_
    refine lv_iload_n hx hb dX2_write_13 rfl (lv_at hl 1 rfl) ?_
    refine rn_q1 hx hb hK hP 1 (by decide) cg_1 (by omega) (by decide) dX2_write_14 ?_
    refine tp_v (y := .ref (ad (7 + 3 * (2 + i_n)))) rfl ?_
    refine lv_astore_n (lv' := [(2, .ref (ad (7 + 3 * (2 + i_n)))), (0, .ref (ad 0)), (1, .int (nI (i_n)))]) hx hb dX2_write_15 rfl hl (by decide) rfl (fun ls hl => ?_)
    refine lv_aload_n hx hb dX2_write_16 rfl (lv_at hl 1 rfl) ?_
    refine lv_iconst (v := nI (0)) hx hb dX2_write_17 (by decide) ?_
    refine rp_2_textLength hx hb hts in2 hown hK hP hD hS 0 (by decide) cg_0 (hts _ (by decide +kernel)) rfl rfl dX2_write_18 (fun H locs hP hD hS => ?_)
    rw [cg_upL] at hP hD
    refine lv_aload_n hx hb dX2_write_21 rfl (lv_at hl 0 rfl) ?_
    refine rg_0_minus hx hb hts in0 hown hK hP (7 + 3 * (2 + i_n)) (by omega) (cg_d (2 + i_n)) (hts _ (by decide +kernel)) dX2_write_22 ?_
    have hP : va_P D vwCl (wm_W 31 ad (cg cA ad sf x y tx ([] : List Nat).length)) H := hP
    have hD : va_D A (wm_W 31 ad (cg cA ad sf x y tx ([] : List Nat).length)) := hD
    have ht := tr_nil tx
    refine bz_eq (tgt := 34) hx hb dX2_write_25 (by decide) (by omega) (fun q1 => ?_) (fun q1 => ?_)
    · have hwr : wr (sf (2 + i_n)) = (([] : List Nat) ++ fgs (sf (2 + i_n)).2.1 (sf (2 + i_n)).2.2 ((max ((nd_p (sf (2 + i_n)).2.1 : Int) - 1) (sf (2 + i_n)).2.2).toNat + 1)) ++ (if (sf (2 + i_n)).2.1 = 0 then [] else List.replicate (-(sf (2 + i_n)).2.2).toNat 48) := by rw [wr, tn_z q1]; rfl
      have hl2 : (([] : List Nat) ++ fgs (sf (2 + i_n)).2.1 (sf (2 + i_n)).2.2 ((max ((nd_p (sf (2 + i_n)).2.1 : Int) - 1) (sf (2 + i_n)).2.2).toNat + 1)).length ≤ 194 := by have := hwl.2; rw [tn_z q1] at this; exact this
      rw [hwr] at hwl hsp
      refine lv_aload_n hx hb dX2_write_34 rfl (lv_at hl 1 rfl) ?_
      refine lv_aload_n hx hb dX2_write_35 rfl (lv_at hl 0 rfl) ?_
      refine va_callv (va_runV (As := [.ref (ad (7 + 3 * (2 + i_n)))]) (rest := []) ⟨hx, hb, hml, hown, hts⟩ (c_X2_appendFigures l D cA tT A ad _ (sf := sf) (x := x) (y := y) (tx := tx) (T := ([] : List Nat)) (e1 := 2 + i_n) (by omega) r_i.1 (by omega) (by omega) ht (by omega)) (cwV 1 hts gX2_write_X2_appendFigures rfl rfl rfl (by decide +kernel) ⟨Nat.le_of_ble_eq_true rfl, Nat.le_of_ble_eq_true rfl⟩) (wd_preV (k := 0) hP hK hD hT hS (by decide) cg_0 rfl) rfl rfl hl.1 rfl (lv_room (Nat.le_of_ble_eq_true rfl)) dX2_write_36 ⟨Nat.zero_le _, Nat.zero_le _⟩) hS id_2 id_1 (fun u t H locs ht hvm hw hB hz1 hk1 hS => ?_)
      refine c00 ?_
      obtain ⟨hP, hD⟩ := wd_back ht hB
      clear ht hvm hB hz1 hk1
      obtain ⟨tx1, ht1, hu_⟩ := hw
      rw [hu_] at hP hD
      clear hu_
      refine lv_aload_n hx hb dX2_write_39 rfl (lv_at hl 0 rfl) ?_
      refine rg_0_digits hx hb hts in0 hown hK hP (7 + 3 * (2 + i_n)) (by omega) (cg_d (2 + i_n)) (hts _ (by decide +kernel)) dX2_write_40 ?_
      refine va_calli (va_runV (As := []) (rest := []) ⟨hx, hb, hml, hown, hts⟩ (c_X1_isZero l D cA tT A 31 ad _ _ (a := 7 + 3 * (2 + i_n) + 1) (x := (sf (2 + i_n)).2.1) (by omega) (cg_n _) c_i) (cwV 0 hts gX2_write_X1_isZero rfl rfl rfl (by decide +kernel) ⟨Nat.le_of_ble_eq_true rfl, Nat.le_of_ble_eq_true rfl⟩) (wd_preV (k := 7 + 3 * (2 + i_n) + 1) hP hK hD hT hS (by omega) (cg_n _).1 rfl) rfl rfl hl.1 rfl (lv_room (Nat.le_of_ble_eq_true rfl)) dX2_write_43 ⟨Nat.zero_le _, Nat.zero_le _⟩) hS id_2 id_1 (fun r_ u t H locs ht hvm hw hB hz1 hk1 hS => ?_)
      refine c00 ?_
      obtain ⟨hP, hD⟩ := wd_back ht hB
      clear ht hvm hB hz1 hk1
      obtain ⟨hr_, hu_⟩ := hw
      subst hr_
      rw [hu_] at hP hD
      clear hu_
      refine bz_ne (tgt := 58) hx hb dX2_write_46 (by decide) it_lt (fun q2 => ?_) (fun q2 => ?_)
      · have q3 := it_ne q2
        rw [if_pos q3, List.append_nil] at hsp hwl
        refine lv_aload_n hx hb dX2_write_58 rfl (lv_at hl 1 rfl) ?_
        refine rg_2_textLength hx hb hts in2 hown hK hP 0 (by decide) cg_0 (hts _ (by decide +kernel)) dX2_write_59 ?_
        exact W.iret hx hb hr (fun t ht hW => ⟨⟨_, _, rfl, ⟨by rw [hsp], tx1, by rw [hsp]; exact ht1, by rw [hsp]; exact hwl.1, by rw [hsp]⟩, wd_end hP hK hD ht hW⟩, hS.F ht⟩) hS.2.2 dX2_write_62
      · have q3 := it_eq q2
        rw [if_neg q3] at hsp hwl
        refine lv_aload_n hx hb dX2_write_49 rfl (lv_at hl 1 rfl) ?_
        refine lv_aload_n hx hb dX2_write_50 rfl (lv_at hl 0 rfl) ?_
        refine rg_0_scale hx hb hts in0 hown hK hP (7 + 3 * (2 + i_n)) (by omega) (cg_d (2 + i_n)) (hts _ (by decide +kernel)) dX2_write_51 ?_
        refine lv_ineg hx hb dX2_write_54 ?_
        refine tp_i (y := iZ (-((sf (2 + i_n)).2.2))) (iZ_neg _) ?_
        refine va_callv (va_runV (As := [.int (iZ (-((sf (2 + i_n)).2.2)))]) (rest := []) ⟨hx, hb, hml, hown, hts⟩ (c_X2_appendZeros l D cA tT A ad _ (sf := sf) (x := x) (y := y) (tx := tx1) (T := ([] : List Nat) ++ fgs (sf (2 + i_n)).2.1 (sf (2 + i_n)).2.2 ((max ((nd_p (sf (2 + i_n)).2.1 : Int) - 1) (sf (2 + i_n)).2.2).toNat + 1)) (cnt := -(sf (2 + i_n)).2.2) (by omega) (by omega) ht1 hwl.1) (cwV 1 hts gX2_write_X2_appendZeros rfl rfl rfl (by decide +kernel) ⟨Nat.le_of_ble_eq_true rfl, Nat.le_of_ble_eq_true rfl⟩) (wd_preV (k := 0) hP hK hD hT hS (by decide) cg_0 rfl) rfl rfl hl.1 rfl (lv_room (Nat.le_of_ble_eq_true rfl)) dX2_write_55 ⟨Nat.zero_le _, Nat.zero_le _⟩) hS id_2 id_1 (fun u t H locs ht hvm hw hB hz1 hk1 hS => ?_)
        refine c00 ?_
        obtain ⟨hP, hD⟩ := wd_back ht hB
        clear ht hvm hB hz1 hk1
        obtain ⟨tx2, ht2, hu_⟩ := hw
        rw [hu_] at hP hD
        clear hu_
        refine lv_aload_n hx hb dX2_write_58 rfl (lv_at hl 1 rfl) ?_
        refine rg_2_textLength hx hb hts in2 hown hK hP 0 (by decide) cg_0 (hts _ (by decide +kernel)) dX2_write_59 ?_
        exact W.iret hx hb hr (fun t ht hW => ⟨⟨_, _, rfl, ⟨by rw [hsp], tx2, by rw [hsp]; exact ht2, by rw [hsp]; exact hwl.1, by rw [hsp]⟩, wd_end hP hK hD ht hW⟩, hS.F ht⟩) hS.2.2 dX2_write_62
    · refine lv_aload_n hx hb dX2_write_28 rfl (lv_at hl 1 rfl) ?_
      refine lv_bipush (v := nI (45)) hx hb dX2_write_29 (by decide) ?_
      refine va_callv (va_runV (As := [.int (nI (45))]) (rest := []) ⟨hx, hb, hml, hown, hts⟩ (c_X2_append l D cA tT A ad _ (sf := sf) (x := x) (y := y) (tx := tx) (T := ([] : List Nat)) (q := 45) (by decide) (by decide)) (cwV 1 hts gX2_write_X2_append rfl rfl rfl (by decide +kernel) ⟨Nat.le_of_ble_eq_true rfl, Nat.le_of_ble_eq_true rfl⟩) (wd_preV (k := 0) hP hK hD hT hS (by decide) cg_0 rfl) rfl rfl hl.1 rfl (lv_room (Nat.le_of_ble_eq_true rfl)) dX2_write_31 ⟨Nat.zero_le _, Nat.zero_le _⟩) hS id_2 id_1 (fun u t H locs ht hvm hw hB hz1 hk1 hS => ?_)
      refine c00 ?_
      obtain ⟨hP, hD⟩ := wd_back ht hB
      clear ht hvm hB hz1 hk1
      rw [hw] at hP hD
      clear hw
      have ht := tr_ap (q := 45) ht
      rw [← len1 ([] : List Nat) 45] at hP hD
      have hwr : wr (sf (2 + i_n)) = ((([] : List Nat) ++ [45]) ++ fgs (sf (2 + i_n)).2.1 (sf (2 + i_n)).2.2 ((max ((nd_p (sf (2 + i_n)).2.1 : Int) - 1) (sf (2 + i_n)).2.2).toNat + 1)) ++ (if (sf (2 + i_n)).2.1 = 0 then [] else List.replicate (-(sf (2 + i_n)).2.2).toNat 48) := by rw [wr, tn_nz q1]; rfl
      have hl2 : ((([] : List Nat) ++ [45]) ++ fgs (sf (2 + i_n)).2.1 (sf (2 + i_n)).2.2 ((max ((nd_p (sf (2 + i_n)).2.1 : Int) - 1) (sf (2 + i_n)).2.2).toNat + 1)).length ≤ 194 := by have := hwl.2; rw [tn_nz q1] at this; exact this
      rw [hwr] at hwl hsp
      refine lv_aload_n hx hb dX2_write_34 rfl (lv_at hl 1 rfl) ?_
      refine lv_aload_n hx hb dX2_write_35 rfl (lv_at hl 0 rfl) ?_
      refine va_callv (va_runV (As := [.ref (ad (7 + 3 * (2 + i_n)))]) (rest := []) ⟨hx, hb, hml, hown, hts⟩ (c_X2_appendFigures l D cA tT A ad _ (sf := sf) (x := x) (y := y) (tx := (upd tx ([] : List Nat).length (nI 45))) (T := (([] : List Nat) ++ [45])) (e1 := 2 + i_n) (by omega) r_i.1 (by omega) (by omega) ht (by omega)) (cwV 1 hts gX2_write_X2_appendFigures rfl rfl rfl (by decide +kernel) ⟨Nat.le_of_ble_eq_true rfl, Nat.le_of_ble_eq_true rfl⟩) (wd_preV (k := 0) hP hK hD hT hS (by decide) cg_0 rfl) rfl rfl hl.1 rfl (lv_room (Nat.le_of_ble_eq_true rfl)) dX2_write_36 ⟨Nat.zero_le _, Nat.zero_le _⟩) hS id_2 id_1 (fun u t H locs ht hvm hw hB hz1 hk1 hS => ?_)
      refine c00 ?_
      obtain ⟨hP, hD⟩ := wd_back ht hB
      clear ht hvm hB hz1 hk1
      obtain ⟨tx1, ht1, hu_⟩ := hw
      rw [hu_] at hP hD
      clear hu_
      refine lv_aload_n hx hb dX2_write_39 rfl (lv_at hl 0 rfl) ?_
      refine rg_0_digits hx hb hts in0 hown hK hP (7 + 3 * (2 + i_n)) (by omega) (cg_d (2 + i_n)) (hts _ (by decide +kernel)) dX2_write_40 ?_
      refine va_calli (va_runV (As := []) (rest := []) ⟨hx, hb, hml, hown, hts⟩ (c_X1_isZero l D cA tT A 31 ad _ _ (a := 7 + 3 * (2 + i_n) + 1) (x := (sf (2 + i_n)).2.1) (by omega) (cg_n _) c_i) (cwV 0 hts gX2_write_X1_isZero rfl rfl rfl (by decide +kernel) ⟨Nat.le_of_ble_eq_true rfl, Nat.le_of_ble_eq_true rfl⟩) (wd_preV (k := 7 + 3 * (2 + i_n) + 1) hP hK hD hT hS (by omega) (cg_n _).1 rfl) rfl rfl hl.1 rfl (lv_room (Nat.le_of_ble_eq_true rfl)) dX2_write_43 ⟨Nat.zero_le _, Nat.zero_le _⟩) hS id_2 id_1 (fun r_ u t H locs ht hvm hw hB hz1 hk1 hS => ?_)
      refine c00 ?_
      obtain ⟨hP, hD⟩ := wd_back ht hB
      clear ht hvm hB hz1 hk1
      obtain ⟨hr_, hu_⟩ := hw
      subst hr_
      rw [hu_] at hP hD
      clear hu_
      refine bz_ne (tgt := 58) hx hb dX2_write_46 (by decide) it_lt (fun q2 => ?_) (fun q2 => ?_)
      · have q3 := it_ne q2
        rw [if_pos q3, List.append_nil] at hsp hwl
        refine lv_aload_n hx hb dX2_write_58 rfl (lv_at hl 1 rfl) ?_
        refine rg_2_textLength hx hb hts in2 hown hK hP 0 (by decide) cg_0 (hts _ (by decide +kernel)) dX2_write_59 ?_
        exact W.iret hx hb hr (fun t ht hW => ⟨⟨_, _, rfl, ⟨by rw [hsp], tx1, by rw [hsp]; exact ht1, by rw [hsp]; exact hwl.1, by rw [hsp]⟩, wd_end hP hK hD ht hW⟩, hS.F ht⟩) hS.2.2 dX2_write_62
      · have q3 := it_eq q2
        rw [if_neg q3] at hsp hwl
        refine lv_aload_n hx hb dX2_write_49 rfl (lv_at hl 1 rfl) ?_
        refine lv_aload_n hx hb dX2_write_50 rfl (lv_at hl 0 rfl) ?_
        refine rg_0_scale hx hb hts in0 hown hK hP (7 + 3 * (2 + i_n)) (by omega) (cg_d (2 + i_n)) (hts _ (by decide +kernel)) dX2_write_51 ?_
        refine lv_ineg hx hb dX2_write_54 ?_
        refine tp_i (y := iZ (-((sf (2 + i_n)).2.2))) (iZ_neg _) ?_
        refine va_callv (va_runV (As := [.int (iZ (-((sf (2 + i_n)).2.2)))]) (rest := []) ⟨hx, hb, hml, hown, hts⟩ (c_X2_appendZeros l D cA tT A ad _ (sf := sf) (x := x) (y := y) (tx := tx1) (T := (([] : List Nat) ++ [45]) ++ fgs (sf (2 + i_n)).2.1 (sf (2 + i_n)).2.2 ((max ((nd_p (sf (2 + i_n)).2.1 : Int) - 1) (sf (2 + i_n)).2.2).toNat + 1)) (cnt := -(sf (2 + i_n)).2.2) (by omega) (by omega) ht1 hwl.1) (cwV 1 hts gX2_write_X2_appendZeros rfl rfl rfl (by decide +kernel) ⟨Nat.le_of_ble_eq_true rfl, Nat.le_of_ble_eq_true rfl⟩) (wd_preV (k := 0) hP hK hD hT hS (by decide) cg_0 rfl) rfl rfl hl.1 rfl (lv_room (Nat.le_of_ble_eq_true rfl)) dX2_write_55 ⟨Nat.zero_le _, Nat.zero_le _⟩) hS id_2 id_1 (fun u t H locs ht hvm hw hB hz1 hk1 hS => ?_)
        refine c00 ?_
        obtain ⟨hP, hD⟩ := wd_back ht hB
        clear ht hvm hB hz1 hk1
        obtain ⟨tx2, ht2, hu_⟩ := hw
        rw [hu_] at hP hD
        clear hu_
        refine lv_aload_n hx hb dX2_write_58 rfl (lv_at hl 1 rfl) ?_
        refine rg_2_textLength hx hb hts in2 hown hK hP 0 (by decide) cg_0 (hts _ (by decide +kernel)) dX2_write_59 ?_
        exact W.iret hx hb hr (fun t ht hW => ⟨⟨_, _, rfl, ⟨by rw [hsp], tx2, by rw [hsp]; exact ht2, by rw [hsp]; exact hwl.1, by rw [hsp]⟩, wd_end hP hK hD ht hW⟩, hS.F ht⟩) hS.2.2 dX2_write_62
  · have g_i := it_eq q_i
    refine lv_iconst (v := iZ (-1)) hx hb dX2_write_7 (by decide) ?_
    exact W.iret (v := iZ (-1)) hx hb hr (fun t ht hW => ⟨⟨iZ (-1), _, rfl, ⟨by rw [sp_write, if_neg (by omega)], tx, by rw [sp_write, if_neg (by omega)]; exact ht9, by rw [sp_write, if_neg (by omega)]; exact hT9, by rw [sp_write, if_neg (by omega)]⟩, wd_end hP hK hD ht hW⟩, hS.F ht⟩) hS.2.2 dX2_write_8
