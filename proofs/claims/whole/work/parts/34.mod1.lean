theorem iZ_l {z : Int} (h1 : -2147483648 ≤ z) (h2 : z < 2147483648) : (iZ z).toInt64 = lZ z := by
  apply Int64.toInt_inj.mp
  rw [Int32.toInt_toInt64, iZ_toInt h1 h2, lZ_toInt (by omega) (by omega)]
section BK
variable {p : Program} {l : Launch} {e : Env} {R : Room} {s : State} {m : MethodId} {args : Array Value} {below : List Frame} {meth : Method} {c : Code} {H : Heap} {locs : List Loc} {cells slots : Nat} {Q : State → Prop} {pc : Nat} {ls : Array Slot} {rest : List Value} {v0 : Value} {cc : ByteArray}
theorem tp_l2 {x y : Int64} (h : x = y) (k : W p l e R s m args below meth c H locs cells slots Q (F0 m pc ls (v0 :: .long y :: rest))) : W p l e R s m args below meth c H locs cells slots Q (F0 m pc ls (v0 :: .long x :: rest)) := by rw [h]; exact k
theorem bk_eq (hx : p.tables.exec = Jvm.exec) (hb : c.code = cc) {a b : Int} {off : Int} {tgt : Nat} (hd0 : decode cc pc = .ok (.lcmp, 1)) (hdg : decode cc (pc + 1) = .ok (.ifCond .eq off, 3)) (ht : ((pc + 1 : Nat) : Int) + off = (tgt : Int)) (a1 : -9223372036854775808 ≤ a) (a2 : a < 9223372036854775808) (b1 : -9223372036854775808 ≤ b) (b2 : b < 9223372036854775808) (kt : a = b → W p l e R s m args below meth c H locs cells slots Q (F0 m tgt ls rest)) (kf : ¬ a = b → W p l e R s m args below meth c H locs cells slots Q (F0 m (pc + 1 + 3) ls rest)) : W p l e R s m args below meth c H locs cells slots Q (F0 m pc ls (.long (lZ b) :: .long (lZ a) :: rest)) :=
  bL_eq hx hb hd0 hdg ht (fun h => kt ((lZ_eq a1 a2 b1 b2).mp h)) (fun h => kf (fun q => h ((lZ_eq a1 a2 b1 b2).mpr q)))
theorem bk_lt (hx : p.tables.exec = Jvm.exec) (hb : c.code = cc) {a b : Int} {off : Int} {tgt : Nat} (hd0 : decode cc pc = .ok (.lcmp, 1)) (hdg : decode cc (pc + 1) = .ok (.ifCond .lt off, 3)) (ht : ((pc + 1 : Nat) : Int) + off = (tgt : Int)) (a1 : -9223372036854775808 ≤ a) (a2 : a < 9223372036854775808) (b1 : -9223372036854775808 ≤ b) (b2 : b < 9223372036854775808) (kt : a < b → W p l e R s m args below meth c H locs cells slots Q (F0 m tgt ls rest)) (kf : ¬ a < b → W p l e R s m args below meth c H locs cells slots Q (F0 m (pc + 1 + 3) ls rest)) : W p l e R s m args below meth c H locs cells slots Q (F0 m pc ls (.long (lZ b) :: .long (lZ a) :: rest)) :=
  bL_lt hx hb hd0 hdg ht (fun h => kt ((lZ_lt a1 a2 b1 b2).mp h)) (fun h => kf (fun q => h ((lZ_lt a1 a2 b1 b2).mpr q)))
theorem bk_le (hx : p.tables.exec = Jvm.exec) (hb : c.code = cc) {a b : Int} {off : Int} {tgt : Nat} (hd0 : decode cc pc = .ok (.lcmp, 1)) (hdg : decode cc (pc + 1) = .ok (.ifCond .le off, 3)) (ht : ((pc + 1 : Nat) : Int) + off = (tgt : Int)) (a1 : -9223372036854775808 ≤ a) (a2 : a < 9223372036854775808) (b1 : -9223372036854775808 ≤ b) (b2 : b < 9223372036854775808) (kt : a ≤ b → W p l e R s m args below meth c H locs cells slots Q (F0 m tgt ls rest)) (kf : ¬ a ≤ b → W p l e R s m args below meth c H locs cells slots Q (F0 m (pc + 1 + 3) ls rest)) : W p l e R s m args below meth c H locs cells slots Q (F0 m pc ls (.long (lZ b) :: .long (lZ a) :: rest)) :=
  bL_le hx hb hd0 hdg ht (fun h => kt ((lZ_le a1 a2 b1 b2).mp h)) (fun h => kf (fun q => h ((lZ_le a1 a2 b1 b2).mpr q)))
theorem bk_gt (hx : p.tables.exec = Jvm.exec) (hb : c.code = cc) {a b : Int} {off : Int} {tgt : Nat} (hd0 : decode cc pc = .ok (.lcmp, 1)) (hdg : decode cc (pc + 1) = .ok (.ifCond .gt off, 3)) (ht : ((pc + 1 : Nat) : Int) + off = (tgt : Int)) (a1 : -9223372036854775808 ≤ a) (a2 : a < 9223372036854775808) (b1 : -9223372036854775808 ≤ b) (b2 : b < 9223372036854775808) (kt : b < a → W p l e R s m args below meth c H locs cells slots Q (F0 m tgt ls rest)) (kf : ¬ b < a → W p l e R s m args below meth c H locs cells slots Q (F0 m (pc + 1 + 3) ls rest)) : W p l e R s m args below meth c H locs cells slots Q (F0 m pc ls (.long (lZ b) :: .long (lZ a) :: rest)) :=
  bL_gt hx hb hd0 hdg ht (fun h => kt ((lZ_lt b1 b2 a1 a2).mp h)) (fun h => kf (fun q => h ((lZ_lt b1 b2 a1 a2).mpr q)))
theorem bk_ge (hx : p.tables.exec = Jvm.exec) (hb : c.code = cc) {a b : Int} {off : Int} {tgt : Nat} (hd0 : decode cc pc = .ok (.lcmp, 1)) (hdg : decode cc (pc + 1) = .ok (.ifCond .ge off, 3)) (ht : ((pc + 1 : Nat) : Int) + off = (tgt : Int)) (a1 : -9223372036854775808 ≤ a) (a2 : a < 9223372036854775808) (b1 : -9223372036854775808 ≤ b) (b2 : b < 9223372036854775808) (kt : b ≤ a → W p l e R s m args below meth c H locs cells slots Q (F0 m tgt ls rest)) (kf : ¬ b ≤ a → W p l e R s m args below meth c H locs cells slots Q (F0 m (pc + 1 + 3) ls rest)) : W p l e R s m args below meth c H locs cells slots Q (F0 m pc ls (.long (lZ b) :: .long (lZ a) :: rest)) :=
  bL_ge hx hb hd0 hdg ht (fun h => kt ((lZ_le b1 b2 a1 a2).mp h)) (fun h => kf (fun q => h ((lZ_le b1 b2 a1 a2).mpr q)))
theorem bk_ne (hx : p.tables.exec = Jvm.exec) (hb : c.code = cc) {a b : Int} {off : Int} {tgt : Nat} (hd0 : decode cc pc = .ok (.lcmp, 1)) (hdg : decode cc (pc + 1) = .ok (.ifCond .ne off, 3)) (ht : ((pc + 1 : Nat) : Int) + off = (tgt : Int)) (a1 : -9223372036854775808 ≤ a) (a2 : a < 9223372036854775808) (b1 : -9223372036854775808 ≤ b) (b2 : b < 9223372036854775808) (kt : a ≠ b → W p l e R s m args below meth c H locs cells slots Q (F0 m tgt ls rest)) (kf : a = b → W p l e R s m args below meth c H locs cells slots Q (F0 m (pc + 1 + 3) ls rest)) : W p l e R s m args below meth c H locs cells slots Q (F0 m pc ls (.long (lZ b) :: .long (lZ a) :: rest)) :=
  bL_ne hx hb hd0 hdg ht (fun h => kt (fun q => h ((lZ_eq a1 a2 b1 b2).mpr q))) (fun h => kf ((lZ_eq a1 a2 b1 b2).mp h))
end BK
set_option maxHeartbeats 4000000 in
set_option maxRecDepth 100000 in
/-- is -/
theorem c_X4_is (l : Launch) (D : va_G) (cA : Nat → ClassId) (tT : Nat) (A : Nat → Prop) (N : Nat) (ad : Nat → Nat) (sz : Nat) (g : Nat → va_E) {k : Int} (hk1 : -2147483648 ≤ k) (hk2 : k < 2147483648) : Met l yX4_is wsX4_is ({ frames := 0, cells := 0, slots := 0, locals := 0 }) (va_Pc [.int (iZ (k))] (wd_B D cA tT A N ad sz g)) (va_Qi (fun (r : Int32) (u : Nat → va_E) => r = nI (if 0 ≤ k ∧ k < 6 then 1 else 0) ∧ u = g) (wd_E D cA A N ad) A) 0 0 A := by
  refine Met.ofW (cc := cX4_is) (maxL := 1) (ret := (some .boolean)) (by decide) rfl ?_
  intro p e s m args below meth c s₁ B hml hv
  obtain ⟨rfl, hsz, hP, hK, hD, hT⟩ := hv
  have hx := B.exec
  have hb := B.bytes
  have hr := B.returns
  have hts := atoms_spec (ws := wsX4_is) B.pre
  have hown : s.vm.findClass RX4 = some m.cls := findClass_of_methodNamed B.named
  have hlocks := B.notSynchronized
  subst hsz
  have hS : va_S A s.heap s.heap [] := va_S.rf
  have hl := lv_entry ([.int (iZ (k))]) (n := 1) (Nat.le_of_ble_eq_true rfl)
  rw [lg_entry_eq]
  generalize (lg_sl ([.int (iZ (k))]) ++ List.replicate (1 - (lg_sl ([.int (iZ (k))])).length) Slot.unset).toArray = ls at hl ⊢
  have hl : lv_has ls 1 [(0, .int (iZ (k)))] := hl
  refine lv_iload_n hx hb dX4_is_0 rfl (lv_at hl 0 rfl) ?_
  refine by_lt (tgt := 14) hx hb dX4_is_1 (by decide) (by omega) (by omega) (fun q1 => ?_) (fun q1 => ?_)
  · refine lv_iconst (v := nI (0)) hx hb dX4_is_14 (by decide) ?_
    exact W.zret (v := nI (0)) hx hb hr rfl (fun t ht hW => ⟨⟨nI (0), g, rfl, ⟨by rw [if_neg (by omega)], rfl⟩, wd_end hP hK hD ht hW⟩, hS.F ht⟩) hS.2.2 dX4_is_15
  · refine lv_iload_n hx hb dX4_is_4 rfl (lv_at hl 0 rfl) ?_
    refine lv_bipush (v := nI (6)) hx hb dX4_is_5 (by decide) ?_
    refine tp_i (y := iZ ((6 : Nat) : Int)) (iZ_nat _) ?_
    refine bs_ge (tgt := 14) hx hb dX4_is_7 (by decide) (by omega) (by omega) (by omega) (by omega) (fun q2 => ?_) (fun q2 => ?_)
    · refine lv_iconst (v := nI (0)) hx hb dX4_is_14 (by decide) ?_
      exact W.zret (v := nI (0)) hx hb hr rfl (fun t ht hW => ⟨⟨nI (0), g, rfl, ⟨by rw [if_neg (by omega)], rfl⟩, wd_end hP hK hD ht hW⟩, hS.F ht⟩) hS.2.2 dX4_is_15
    · refine lv_iconst (v := nI (1)) hx hb dX4_is_10 (by decide) ?_
      refine lv_goto (tgt := 15) hx hb dX4_is_11 (by decide) ?_
      exact W.zret (v := nI (1)) hx hb hr rfl (fun t ht hW => ⟨⟨nI (1), g, rfl, ⟨by rw [if_pos (by omega)], rfl⟩, wd_end hP hK hD ht hW⟩, hS.F ht⟩) hS.2.2 dX4_is_15
set_option maxHeartbeats 4000000 in
set_option maxRecDepth 100000 in
/-- isScale -/
theorem c_X4_isScale (l : Launch) (D : va_G) (cA : Nat → ClassId) (tT : Nat) (A : Nat → Prop) (N : Nat) (ad : Nat → Nat) (sz : Nat) (g : Nat → va_E) {k : Int} (hk1 : -2147483648 ≤ k) (hk2 : k < 2147483648) : Met l yX4_isScale wsX4_isScale ({ frames := 0, cells := 0, slots := 0, locals := 0 }) (va_Pc [.long (lZ (k))] (wd_B D cA tT A N ad sz g)) (va_Qi (fun (r : Int32) (u : Nat → va_E) => r = nI (if -6 ≤ k ∧ k ≤ 6 then 1 else 0) ∧ u = g) (wd_E D cA A N ad) A) 0 0 A := by
  refine Met.ofW (cc := cX4_isScale) (maxL := 2) (ret := (some .boolean)) (by decide) rfl ?_
  intro p e s m args below meth c s₁ B hml hv
  obtain ⟨rfl, hsz, hP, hK, hD, hT⟩ := hv
  have hx := B.exec
  have hb := B.bytes
  have hr := B.returns
  have hts := atoms_spec (ws := wsX4_isScale) B.pre
  have hown : s.vm.findClass RX4 = some m.cls := findClass_of_methodNamed B.named
  have hlocks := B.notSynchronized
  subst hsz
  have hS : va_S A s.heap s.heap [] := va_S.rf
  have hl := lv_entry ([.long (lZ (k))]) (n := 2) (Nat.le_of_ble_eq_true rfl)
  rw [lg_entry_eq]
  generalize (lg_sl ([.long (lZ (k))]) ++ List.replicate (2 - (lg_sl ([.long (lZ (k))])).length) Slot.unset).toArray = ls at hl ⊢
  have hl : lv_has ls 2 [(0, .long (lZ (k)))] := hl
  refine lv_lload_n hx hb dX4_isScale_0 rfl (lv_at hl 0 rfl) ?_
  refine lv_ldc2 (v := lZ (-6)) hx hb hown (hts _ (by decide +kernel)) dX4_isScale_1 ?_
  refine bk_lt (tgt := 20) hx hb dX4_isScale_4 dX4_isScale_5 (by decide) (by omega) (by omega) (by omega) (by omega) (fun q1 => ?_) (fun q1 => ?_)
  · refine lv_iconst (v := nI (0)) hx hb dX4_isScale_20 (by decide) ?_
    exact W.zret (v := nI (0)) hx hb hr rfl (fun t ht hW => ⟨⟨nI (0), g, rfl, ⟨by rw [if_neg (by omega)], rfl⟩, wd_end hP hK hD ht hW⟩, hS.F ht⟩) hS.2.2 dX4_isScale_21
  · refine lv_lload_n hx hb dX4_isScale_8 rfl (lv_at hl 0 rfl) ?_
    refine lv_ldc2 (v := lN (6)) hx hb hown (hts _ (by decide +kernel)) dX4_isScale_9 ?_
    refine tp_l (y := lZ ((6 : Nat) : Int)) (lZ_nat _) ?_
    refine bk_gt (tgt := 20) hx hb dX4_isScale_12 dX4_isScale_13 (by decide) (by omega) (by omega) (by omega) (by omega) (fun q2 => ?_) (fun q2 => ?_)
    · refine lv_iconst (v := nI (0)) hx hb dX4_isScale_20 (by decide) ?_
      exact W.zret (v := nI (0)) hx hb hr rfl (fun t ht hW => ⟨⟨nI (0), g, rfl, ⟨by rw [if_neg (by omega)], rfl⟩, wd_end hP hK hD ht hW⟩, hS.F ht⟩) hS.2.2 dX4_isScale_21
    · refine lv_iconst (v := nI (1)) hx hb dX4_isScale_16 (by decide) ?_
      refine lv_goto (tgt := 21) hx hb dX4_isScale_17 (by decide) ?_
      exact W.zret (v := nI (1)) hx hb hr rfl (fun t ht hW => ⟨⟨nI (1), g, rfl, ⟨by rw [if_pos (by omega)], rfl⟩, wd_end hP hK hD ht hW⟩, hS.F ht⟩) hS.2.2 dX4_isScale_21
theorem tp_ql {x y k : Nat} (h : x / 10 ^ k < y / 10 ^ k) : x < y := by
  rcases Nat.lt_or_ge x y with q | q
  · exact q
  · exact absurd (Nat.div_le_div_right (c := 10 ^ k) q) (by omega)
theorem odI_lt {x y : Nat} (h : x < y) : -1 = odI x y := by rw [odI, if_pos h]
theorem odI_gt {x y : Nat} (h : y < x) : 1 = odI x y := by rw [odI, if_neg (by omega), if_neg (by omega)]
theorem odI_eq {x y : Nat} (h : x = y) : 0 = odI x y := by rw [odI, if_neg (by omega), if_pos h]
theorem rv_lt {f g : Nat → Int32} {n k x y : Nat} (h : rv f n x) (h2 : rv g k y) (q : n < k) : x < y := by
  rcases Nat.lt_or_ge x y with r | r
  · exact r
  · have h1 : nd_p y ≤ nd_p x := (nd_p_le (nd_p_pos _)).mpr (Nat.lt_of_le_of_lt r (nd_p_lt x))
    rw [← h.1, ← h2.1] at h1; omega
set_option maxHeartbeats 4000000 in
set_option maxRecDepth 100000 in
theorem lp_X4_sizes {p : Program} {l : Launch} {e : Env} {R : Room} {s : State} {m : MethodId} {args : Array Value} {below : List Frame} {meth : Method} {c : Code} {Q : State → Prop} {D : va_G} {cA : Nat → ClassId} {tT : Nat} {A : Nat → Prop} {N : Nat} {ad : Nat → Nat} {g : Nat → va_E} {a o n n1 x y : Nat} {f f1 : Nat → Int32} {b b1 : Bool} {z z1 : Int} (S : CallFix p m c cX4_sizes 3 s args wsX4_sizes RX4) (hK : va_K D vwCl (ty_s cA) s) (hT : st_T tT A s s.heap) (ha1 : a + 1 < N) (ho1 : o + 1 < N) (ha : is_R cA ad g a f n b z) (ho : is_R cA ad g o f1 n1 b1 z1) (hv : rv f n x) (hw : rv f1 n1 y) (hn : n ≤ 800) (hn1 : n1 ≤ 800) (hnn : n = n1) (kk : ∀ (r : Int) (H : Heap) (locs : List Loc) (ls : Array Slot), r = odI x y → va_P D vwCl (wm_W N ad (g)) H → va_D A (wm_W N ad (g)) → va_S A s.heap H locs → W p l e R s m args below meth c H locs 0 0 Q (F0 m 74 ls [.int (iZ r)])) (k0 : ∀ (H : Heap) (locs : List Loc) (ls : Array Slot), x = y → va_P D vwCl (wm_W N ad (g)) H → va_D A (wm_W N ad (g)) → va_S A s.heap H locs → W p l e R s m args below meth c H locs 0 0 Q (F0 m 81 ls [])) :
    ∀ (k : Nat) (H : Heap) (locs : List Loc) (ls : Array Slot), k ≤ n → x / 10 ^ k = y / 10 ^ k → va_P D vwCl (wm_W N ad (g)) H → va_D A (wm_W N ad (g)) → va_S A s.heap H locs → lv_has ls 3 [(2, .int (dn k)), (0, .ref (ad a)), (1, .ref (ad o))] → W p l e R s m args below meth c H locs 0 0 Q (F0 m 35 ls []) := by
  obtain ⟨hx, hb, hml, hown, hts⟩ := S
  have in3 : ∀ w ∈ wsX30, w ∈ wsX4_sizes := by decide +kernel
  intro k
  induction k with
  | zero =>
    intro H locs ls hk he hP hD hS hl
    refine lv_iload_n hx hb dX4_sizes_35 rfl (lv_at hl 0 rfl) ?_
    refine by_lt (tgt := 81) hx hb dX4_sizes_36 (by decide) (by omega) (by omega) (fun q => ?_) (fun q => ?_)
    · exact k0 H locs ls (by simpa using he) hP hD hS
    · exact absurd (by decide) q
  | succ k ih =>
    intro H locs ls hk he hP hD hS hl
    have hd1 := dg_lt x k
    have hd2 := dg_lt y k
    rw [tp_q, tp_q] at he
    refine lv_iload_n hx hb dX4_sizes_35 rfl (lv_at hl 0 rfl) ?_
    refine bz_lt (tgt := 81) hx hb dX4_sizes_36 (by decide) (by omega) (fun q => ?_) (fun q => ?_)
    · exact absurd q (Nat.not_lt_zero _)
    · refine lv_aload_n hx hb dX4_sizes_39 rfl (lv_at hl 1 rfl) ?_
      refine rg_3_d hx hb hts in3 hown hK hP a (by omega) ha.1 (hts _ (by decide +kernel)) dX4_sizes_40 ?_
      refine lv_iload_n hx hb dX4_sizes_43 rfl (lv_at hl 0 rfl) ?_
      refine rn_i hx hb hK hP (a + 1) (by omega) ha.2 (by omega) (by decide) dX4_sizes_44 ?_
      refine tp_i (y := nI (x / 10 ^ k % 10)) (hv.2 k (by omega)) ?_
      refine lv_aload_n hx hb dX4_sizes_45 rfl (lv_at hl 2 rfl) ?_
      refine rg_3_d hx hb hts in3 hown hK hP o (by omega) ho.1 (hts _ (by decide +kernel)) dX4_sizes_46 ?_
      refine lv_iload_n hx hb dX4_sizes_49 rfl (lv_at hl 0 rfl) ?_
      refine rn_i hx hb hK hP (o + 1) (by omega) ho.2 (by omega) (by decide) dX4_sizes_50 ?_
      refine tp_i (y := nI (y / 10 ^ k % 10)) (hw.2 k (by omega)) ?_
      refine bi_eq (tgt := 75) hx hb dX4_sizes_51 (by decide) (by omega) (by omega) (fun q2 => ?_) (fun q2 => ?_)
      · refine lv_iinc (v := dn k) (lv' := [(2, .int (dn k)), (0, .ref (ad a)), (1, .ref (ad o))]) hx hb dX4_sizes_75 hl (k := 0) rfl (dn_dec k) (by decide) rfl (fun ls hl => ?_)
        refine lv_goto (tgt := 35) hx hb dX4_sizes_78 (by decide) ?_
        exact ih H locs ls (by omega) (by omega) hP hD hS hl
      · refine lv_aload_n hx hb dX4_sizes_54 rfl (lv_at hl 1 rfl) ?_
        refine rg_3_d hx hb hts in3 hown hK hP a (by omega) ha.1 (hts _ (by decide +kernel)) dX4_sizes_55 ?_
        refine lv_iload_n hx hb dX4_sizes_58 rfl (lv_at hl 0 rfl) ?_
        refine rn_i hx hb hK hP (a + 1) (by omega) ha.2 (by omega) (by decide) dX4_sizes_59 ?_
        refine tp_i (y := nI (x / 10 ^ k % 10)) (hv.2 k (by omega)) ?_
        refine lv_aload_n hx hb dX4_sizes_60 rfl (lv_at hl 2 rfl) ?_
        refine rg_3_d hx hb hts in3 hown hK hP o (by omega) ho.1 (hts _ (by decide +kernel)) dX4_sizes_61 ?_
        refine lv_iload_n hx hb dX4_sizes_64 rfl (lv_at hl 0 rfl) ?_
        refine rn_i hx hb hK hP (o + 1) (by omega) ho.2 (by omega) (by decide) dX4_sizes_65 ?_
        refine tp_i (y := nI (y / 10 ^ k % 10)) (hw.2 k (by omega)) ?_
        refine bi_ge (tgt := 73) hx hb dX4_sizes_66 (by decide) (by omega) (by omega) (fun q3 => ?_) (fun q3 => ?_)
        · refine lv_iconst (v := nI (1)) hx hb dX4_sizes_73 (by decide) ?_
          refine tp_i (y := iZ 1) rfl ?_
          exact kk _ H locs ls (odI_gt (tp_ql (k := k) (by omega))) hP hD hS
        · refine lv_iconst (v := iZ (-1)) hx hb dX4_sizes_69 (by decide) ?_
          refine lv_goto (tgt := 74) hx hb dX4_sizes_70 (by decide) ?_
          exact kk _ H locs ls (odI_lt (tp_ql (k := k) (by omega))) hP hD hS
set_option maxHeartbeats 4000000 in
set_option maxRecDepth 100000 in
/-- sizes -/
theorem c_X4_sizes (l : Launch) (D : va_G) (cA : Nat → ClassId) (tT : Nat) (A : Nat → Prop) (N : Nat) (ad : Nat → Nat) (sz : Nat) (g : Nat → va_E) {a o n n1 x y : Nat} {f f1 : Nat → Int32} {b b1 : Bool} {z z1 : Int} (ha1 : a + 1 < N) (ho1 : o + 1 < N) (ha : is_R cA ad g a f n b z) (ho : is_R cA ad g o f1 n1 b1 z1) (hv : rv f n x) (hw : rv f1 n1 y) (hn : n ≤ 800) (hn1 : n1 ≤ 800) : Met l yX4_sizes wsX4_sizes ({ frames := 0, cells := 0, slots := 0, locals := 0 }) (va_Pc [.ref (ad a), .ref (ad o)] (wd_B D cA tT A N ad sz g)) (va_Qi (fun (r : Int32) (u : Nat → va_E) => r = iZ (odI x y) ∧ u = g) (wd_E D cA A N ad) A) 0 0 A := by
  refine Met.ofW (cc := cX4_sizes) (maxL := 3) (ret := (some .int)) (by decide) rfl ?_
  intro p e s m args below meth c s₁ B hml hv
  obtain ⟨rfl, hsz, hP, hK, hD, hT⟩ := hv
  have hx := B.exec
  have hb := B.bytes
  have hr := B.returns
  have hts := atoms_spec (ws := wsX4_sizes) B.pre
  have hown : s.vm.findClass RX4 = some m.cls := findClass_of_methodNamed B.named
  have hlocks := B.notSynchronized
  subst hsz
  have hS : va_S A s.heap s.heap [] := va_S.rf
  have in3 : ∀ w ∈ wsX30, w ∈ wsX4_sizes := by decide +kernel
  have hl := lv_entry ([.ref (ad a), .ref (ad o)]) (n := 3) (Nat.le_of_ble_eq_true rfl)
  rw [lg_entry_eq]
  generalize (lg_sl ([.ref (ad a), .ref (ad o)]) ++ List.replicate (3 - (lg_sl ([.ref (ad a), .ref (ad o)])).length) Slot.unset).toArray = ls at hl ⊢
  have hl : lv_has ls 3 [(0, .ref (ad a)), (1, .ref (ad o))] := hl
  refine lv_aload_n hx hb dX4_sizes_0 rfl (lv_at hl 0 rfl) ?_
  refine rg_3_n hx hb hts in3 hown hK hP a (by omega) ha.1 (hts _ (by decide +kernel)) dX4_sizes_1 ?_
  refine lv_aload_n hx hb dX4_sizes_4 rfl (lv_at hl 1 rfl) ?_
  refine rg_3_n hx hb hts in3 hown hK hP o (by omega) ho.1 (hts _ (by decide +kernel)) dX4_sizes_5 ?_
  refine bi_eq (tgt := 28) hx hb dX4_sizes_8 (by decide) (by omega) (by omega) (fun q => ?_) (fun q => ?_)
  · refine lv_aload_n hx hb dX4_sizes_28 rfl (lv_at hl 0 rfl) ?_
    refine rg_3_n hx hb hts in3 hown hK hP a (by omega) ha.1 (hts _ (by decide +kernel)) dX4_sizes_29 ?_
    refine lv_iconst (v := nI (1)) hx hb dX4_sizes_32 (by decide) ?_
    refine lv_isub hx hb dX4_sizes_33 ?_
    refine tp_i (y := dn n) (dn_sub _) ?_
    refine lv_istore_n (lv' := [(2, .int (dn n)), (0, .ref (ad a)), (1, .ref (ad o))]) hx hb dX4_sizes_34 rfl hl (by decide) rfl (fun ls hl => ?_)
    refine lp_X4_sizes ⟨hx, hb, hml, hown, hts⟩ hK hT ha1 ho1 ha ho hv hw hn hn1 q (fun r H locs ls hr2 hP hD hS => ?_) (fun H locs ls hr2 hP hD hS => ?_) n _ _ ls (Nat.le_refl _) (by rw [Nat.div_eq_of_lt (rv_dv hv).1, q, Nat.div_eq_of_lt (rv_dv hw).1]) hP hD hS hl
    · exact W.iret (v := iZ (r)) hx hb hr (fun t ht hW => ⟨⟨iZ (r), g, rfl, ⟨by rw [hr2], rfl⟩, wd_end hP hK hD ht hW⟩, hS.F ht⟩) hS.2.2 dX4_sizes_74
    · refine lv_iconst (v := nI (0)) hx hb dX4_sizes_81 (by decide) ?_
      refine tp_i (y := iZ 0) rfl ?_
      exact W.iret (v := iZ (0)) hx hb hr (fun t ht hW => ⟨⟨iZ (0), g, rfl, ⟨by rw [odI_eq hr2], rfl⟩, wd_end hP hK hD ht hW⟩, hS.F ht⟩) hS.2.2 dX4_sizes_82
  · refine lv_aload_n hx hb dX4_sizes_11 rfl (lv_at hl 0 rfl) ?_
    refine rg_3_n hx hb hts in3 hown hK hP a (by omega) ha.1 (hts _ (by decide +kernel)) dX4_sizes_12 ?_
    refine lv_aload_n hx hb dX4_sizes_15 rfl (lv_at hl 1 rfl) ?_
    refine rg_3_n hx hb hts in3 hown hK hP o (by omega) ho.1 (hts _ (by decide +kernel)) dX4_sizes_16 ?_
    refine bi_ge (tgt := 26) hx hb dX4_sizes_19 (by decide) (by omega) (by omega) (fun q2 => ?_) (fun q2 => ?_)
    · refine lv_iconst (v := nI (1)) hx hb dX4_sizes_26 (by decide) ?_
      refine tp_i (y := iZ 1) rfl ?_
      exact W.iret (v := iZ (1)) hx hb hr (fun t ht hW => ⟨⟨iZ (1), g, rfl, ⟨by rw [odI_gt (rv_lt hw hv (by omega))], rfl⟩, wd_end hP hK hD ht hW⟩, hS.F ht⟩) hS.2.2 dX4_sizes_27
    · refine lv_iconst (v := iZ (-1)) hx hb dX4_sizes_22 (by decide) ?_
      refine lv_goto (tgt := 27) hx hb dX4_sizes_23 (by decide) ?_
      exact W.iret (v := iZ (-1)) hx hb hr (fun t ht hW => ⟨⟨iZ (-1), g, rfl, ⟨by rw [odI_lt (rv_lt hv hw (by omega))], rfl⟩, wd_end hP hK hD ht hW⟩, hS.F ht⟩) hS.2.2 dX4_sizes_27
set_option maxHeartbeats 4000000 in
set_option maxRecDepth 100000 in
/-- keep of a -/
theorem c_X4_keep_a (l : Launch) (D : va_G) (cA : Nat → ClassId) (tT : Nat) (A : Nat → Prop) (ad : Nat → Nat) (sz : Nat) {wa wb wc we : RWt} {rg : Nat → RWt} {tx : Nat → Int32} {tl : Nat} {rh : Nat → Bool × Nat × Int} {k v : Nat} (hm : mr rg rh) (hk : k < 6) (hv : rv wa.1 wa.2.1 v) (hn : wa.2.1 ≤ 800) (hb9 : wa.2.2.1 = true → v ≠ 0) (z1 : -2147483648 ≤ wa.2.2.2) (z2 : wa.2.2.2 < 2147483648) : Met l yX4_keep wsX4_keep ({ frames := 1, cells := 0, slots := 0, locals := 22 }) (va_Pc [.ref (ad 0), .int (nI (k)), .ref (ad 3)] (wd_B D cA tT A 23 ad sz (mg cA ad wa wb wc we rg tx tl))) (va_Qi (fun (r : Int32) (u : Nat → va_E) => r = (kpr rh k (wa.2.2.1, v, wa.2.2.2)).1 ∧ ∃ rg1, mr rg1 (kpr rh k (wa.2.2.1, v, wa.2.2.2)).2 ∧ u = mg cA ad wa wb wc we rg1 tx tl) (wd_E D cA A 23 ad) A) 0 0 A := by
  refine Met.ofW (cc := cX4_keep) (maxL := 3) (ret := (some .int)) (by decide) rfl ?_
  intro p e s m args below meth c s₁ B hml hv
  obtain ⟨rfl, hsz, hP, hK, hD, hT⟩ := hv
  have hx := B.exec
  have hb := B.bytes
  have hr := B.returns
  have hts := atoms_spec (ws := wsX4_keep) B.pre
  have hown : s.vm.findClass RX4 = some m.cls := findClass_of_methodNamed B.named
  have hlocks := B.notSynchronized
  subst hsz
  have hS : va_S A s.heap s.heap [] := va_S.rf
  have in3 : ∀ w ∈ wsX30, w ∈ wsX4_keep := by decide +kernel
  have in4 : ∀ w ∈ wsX40, w ∈ wsX4_keep := by decide +kernel
  have hl := lv_entry ([.ref (ad 0), .int (nI (k)), .ref (ad 3)]) (n := 3) (Nat.le_of_ble_eq_true rfl)
  rw [lg_entry_eq]
  generalize (lg_sl ([.ref (ad 0), .int (nI (k)), .ref (ad 3)]) ++ List.replicate (3 - (lg_sl ([.ref (ad 0), .int (nI (k)), .ref (ad 3)])).length) Slot.unset).toArray = ls at hl ⊢
  have hl : lv_has ls 3 [(0, .ref (ad 0)), (1, .int (nI (k))), (2, .ref (ad 3))] := hl
  have hn9 : wa.2.1 = nd_p v := hv.1
  refine lv_aload_n hx hb dX4_keep_0 rfl (lv_at hl 2 rfl) ?_
  refine rg_3_n hx hb hts in3 hown hK hP 3 (by omega) mg_A.1 (hts _ (by decide +kernel)) dX4_keep_1 ?_
  refine tp_i (y := nI (wa.2.1)) rfl ?_
  refine lv_sipush (v := nI (190)) hx hb dX4_keep_4 (by decide) ?_
  refine bi_gt (tgt := 21) hx hb dX4_keep_7 (by decide) (by omega) (by omega) (fun q1 => ?_) (fun q1 => ?_)
  · refine lv_bipush (v := iZ (-3)) hx hb dX4_keep_21 (by decide) ?_
    exact W.iret (v := iZ (-3)) hx hb hr (fun t ht hW => ⟨⟨iZ (-3), _, rfl, ⟨by rw [kpr, if_pos (Or.inl (show 190 < nd_p v by omega))], rg, by rw [kpr, if_pos (Or.inl (show 190 < nd_p v by omega))]; exact hm, rfl⟩, wd_end hP hK hD ht hW⟩, hS.F ht⟩) hS.2.2 dX4_keep_23
  · refine lv_aload_n hx hb dX4_keep_10 rfl (lv_at hl 2 rfl) ?_
    refine rg_3_scale hx hb hts in3 hown hK hP 3 (by omega) mg_A.1 (hts _ (by decide +kernel)) dX4_keep_11 ?_
    refine tp_i (y := iZ (wa.2.2.2)) rfl ?_
    refine lv_i2l (v := lZ (wa.2.2.2)) hx hb dX4_keep_14 (iZ_l (by omega) (by omega)) ?_
    refine va_calli (va_runS (As := [.long (lZ (wa.2.2.2))]) (rest := []) ⟨hx, hb, hml, hown, hts⟩ (c_X4_isScale l D cA tT A 23 ad _ _ (k := wa.2.2.2) (by omega) (by omega)) (va_cwS 1 hts gX4_keep_X4_isScale rfl rfl rfl (by decide +kernel) ⟨Nat.le_of_ble_eq_true rfl, Nat.le_of_ble_eq_true rfl⟩) (wd_preS hP hK hD hT hS) rfl rfl hl.1 rfl (lv_room (Nat.le_of_ble_eq_true rfl)) dX4_keep_15 ⟨Nat.zero_le _, Nat.zero_le _⟩) hS id_2 id_1 (fun r_ u t H locs ht hvm hw hB hz1 hk1 hS => ?_)
    refine c00 ?_
    obtain ⟨hP, hD⟩ := wd_back ht hB
    clear ht hvm hB hz1 hk1
    obtain ⟨hr_, hu_⟩ := hw
    subst hr_
    rw [hu_] at hP hD
    clear hu_
    refine bz_ne (tgt := 24) hx hb dX4_keep_18 (by decide) it_lt (fun q2 => ?_) (fun q2 => ?_)
    · have q3 := it_ne q2
      have hkp : kpr rh k (wa.2.2.1, v, wa.2.2.2) = (nI (nd_p v), va_up rh k (wa.2.2.1, v, wa.2.2.2)) := by
        rw [kpr, if_neg (fun h => h.elim (fun (h : 190 < nd_p v) => by omega) (fun h => h q3))]
        have hs9 : sn wa.2.2.1 v = wa.2.2.1 := sn_rk (d := (wa.2.2.1, v, wa.2.2.2)) hb9
        dsimp only; rw [hs9]
      refine lv_aload_n hx hb dX4_keep_24 rfl (lv_at hl 0 rfl) ?_
      refine rg_4_registers hx hb hts in4 hown hK hP 0 (by decide) mg_0 (hts _ (by decide +kernel)) dX4_keep_25 ?_
      refine lv_iload_n hx hb dX4_keep_28 rfl (lv_at hl 1 rfl) ?_
      refine rn_q4 hx hb hK hP 1 (by decide) mg_1 (by omega) (by decide) dX4_keep_29 ?_
      refine tp_v (y := .ref (ad (11 + 2 * k))) rfl ?_
      refine lv_aload_n hx hb dX4_keep_30 rfl (lv_at hl 2 rfl) ?_
      refine va_callv (va_runV (As := [.ref (ad 3)]) (rest := []) ⟨hx, hb, hml, hown, hts⟩ (c_X3_take l D cA tT A 23 ad _ _ (a := 11 + 2 * k) (f := (rg k).1) (n := (rg k).2.1) (b := (rg k).2.2.1) (z := (rg k).2.2.2) (o := 3) (f1 := wa.1) (n1 := wa.2.1) (b1 := wa.2.2.1) (z1 := wa.2.2.2) (by omega) (mg_G k) (by decide) mg_A (by omega) (by omega) (by omega) hn) (cwV 1 hts gX4_keep_X3_take rfl rfl rfl (by decide +kernel) ⟨Nat.le_of_ble_eq_true rfl, Nat.le_of_ble_eq_true rfl⟩) (wd_preV (k := 11 + 2 * k) hP hK hD hT hS (by omega) (mg_G k).1 rfl) rfl rfl hl.1 rfl (lv_room (Nat.le_of_ble_eq_true rfl)) dX4_keep_31 ⟨Nat.zero_le _, Nat.zero_le _⟩) hS id_2 id_1 (fun u t H locs ht hvm hw hB hz1 hk1 hS => ?_)
      refine c00 ?_
      obtain ⟨hP, hD⟩ := wd_back ht hB
      clear ht hvm hB hz1 hk1
      rw [hw] at hP hD
      clear hw
      rw [show rw_ cA ad (mg cA ad wa wb wc we rg tx tl) (11 + 2 * k) (tk wa.1 (rg k).1 wa.2.1) wa.2.1 wa.2.2.1 wa.2.2.2 = mg cA ad wa wb wc we (va_up rg k (tk wa.1 (rg k).1 wa.2.1, wa.2.1, wa.2.2.1, wa.2.2.2)) tx tl from mg_ug (w' := (tk wa.1 (rg k).1 wa.2.1, wa.2.1, wa.2.2.1, wa.2.2.2)) k] at hP hD
      have hmr : mr (va_up rg k (tk wa.1 (rg k).1 wa.2.1, wa.2.1, wa.2.2.1, wa.2.2.2)) (va_up rh k (wa.2.2.1, v, wa.2.2.2)) := mr_up hm ⟨hv.1, fun j hj => by dsimp only at hj ⊢; rw [tk_lt hj]; exact hv.2 j hj⟩ rfl
      refine lv_aload_n hx hb dX4_keep_34 rfl (lv_at hl 2 rfl) ?_
      refine rg_3_n hx hb hts in3 hown hK hP 3 (by omega) mg_A.1 (hts _ (by decide +kernel)) dX4_keep_35 ?_
      refine tp_i (y := nI (wa.2.1)) rfl ?_
      exact W.iret (v := nI (wa.2.1)) hx hb hr (fun t ht hW => ⟨⟨nI (wa.2.1), _, rfl, ⟨by rw [hkp, hn9], _, by rw [hkp]; exact hmr, rfl⟩, wd_end hP hK hD ht hW⟩, hS.F ht⟩) hS.2.2 dX4_keep_38
    · refine lv_bipush (v := iZ (-3)) hx hb dX4_keep_21 (by decide) ?_
      exact W.iret (v := iZ (-3)) hx hb hr (fun t ht hW => ⟨⟨iZ (-3), _, rfl, ⟨by rw [kpr, if_pos (Or.inr (it_eq q2))], rg, by rw [kpr, if_pos (Or.inr (it_eq q2))]; exact hm, rfl⟩, wd_end hP hK hD ht hW⟩, hS.F ht⟩) hS.2.2 dX4_keep_23
set_option maxHeartbeats 4000000 in
set_option maxRecDepth 100000 in
/-- keep of c -/
theorem c_X4_keep_c (l : Launch) (D : va_G) (cA : Nat → ClassId) (tT : Nat) (A : Nat → Prop) (ad : Nat → Nat) (sz : Nat) {wa wb wc we : RWt} {rg : Nat → RWt} {tx : Nat → Int32} {tl : Nat} {rh : Nat → Bool × Nat × Int} {k v : Nat} (hm : mr rg rh) (hk : k < 6) (hv : rv wc.1 wc.2.1 v) (hn : wc.2.1 ≤ 800) (hb9 : wc.2.2.1 = true → v ≠ 0) (z1 : -2147483648 ≤ wc.2.2.2) (z2 : wc.2.2.2 < 2147483648) : Met l yX4_keep wsX4_keep ({ frames := 1, cells := 0, slots := 0, locals := 22 }) (va_Pc [.ref (ad 0), .int (nI (k)), .ref (ad 7)] (wd_B D cA tT A 23 ad sz (mg cA ad wa wb wc we rg tx tl))) (va_Qi (fun (r : Int32) (u : Nat → va_E) => r = (kpr rh k (wc.2.2.1, v, wc.2.2.2)).1 ∧ ∃ rg1, mr rg1 (kpr rh k (wc.2.2.1, v, wc.2.2.2)).2 ∧ u = mg cA ad wa wb wc we rg1 tx tl) (wd_E D cA A 23 ad) A) 0 0 A := by
  refine Met.ofW (cc := cX4_keep) (maxL := 3) (ret := (some .int)) (by decide) rfl ?_
  intro p e s m args below meth c s₁ B hml hv
  obtain ⟨rfl, hsz, hP, hK, hD, hT⟩ := hv
  have hx := B.exec
  have hb := B.bytes
  have hr := B.returns
  have hts := atoms_spec (ws := wsX4_keep) B.pre
  have hown : s.vm.findClass RX4 = some m.cls := findClass_of_methodNamed B.named
  have hlocks := B.notSynchronized
  subst hsz
  have hS : va_S A s.heap s.heap [] := va_S.rf
  have in3 : ∀ w ∈ wsX30, w ∈ wsX4_keep := by decide +kernel
  have in4 : ∀ w ∈ wsX40, w ∈ wsX4_keep := by decide +kernel
  have hl := lv_entry ([.ref (ad 0), .int (nI (k)), .ref (ad 7)]) (n := 3) (Nat.le_of_ble_eq_true rfl)
  rw [lg_entry_eq]
  generalize (lg_sl ([.ref (ad 0), .int (nI (k)), .ref (ad 7)]) ++ List.replicate (3 - (lg_sl ([.ref (ad 0), .int (nI (k)), .ref (ad 7)])).length) Slot.unset).toArray = ls at hl ⊢
  have hl : lv_has ls 3 [(0, .ref (ad 0)), (1, .int (nI (k))), (2, .ref (ad 7))] := hl
  have hn9 : wc.2.1 = nd_p v := hv.1
  refine lv_aload_n hx hb dX4_keep_0 rfl (lv_at hl 2 rfl) ?_
  refine rg_3_n hx hb hts in3 hown hK hP 7 (by omega) mg_C.1 (hts _ (by decide +kernel)) dX4_keep_1 ?_
  refine tp_i (y := nI (wc.2.1)) rfl ?_
  refine lv_sipush (v := nI (190)) hx hb dX4_keep_4 (by decide) ?_
  refine bi_gt (tgt := 21) hx hb dX4_keep_7 (by decide) (by omega) (by omega) (fun q1 => ?_) (fun q1 => ?_)
  · refine lv_bipush (v := iZ (-3)) hx hb dX4_keep_21 (by decide) ?_
    exact W.iret (v := iZ (-3)) hx hb hr (fun t ht hW => ⟨⟨iZ (-3), _, rfl, ⟨by rw [kpr, if_pos (Or.inl (show 190 < nd_p v by omega))], rg, by rw [kpr, if_pos (Or.inl (show 190 < nd_p v by omega))]; exact hm, rfl⟩, wd_end hP hK hD ht hW⟩, hS.F ht⟩) hS.2.2 dX4_keep_23
  · refine lv_aload_n hx hb dX4_keep_10 rfl (lv_at hl 2 rfl) ?_
    refine rg_3_scale hx hb hts in3 hown hK hP 7 (by omega) mg_C.1 (hts _ (by decide +kernel)) dX4_keep_11 ?_
    refine tp_i (y := iZ (wc.2.2.2)) rfl ?_
    refine lv_i2l (v := lZ (wc.2.2.2)) hx hb dX4_keep_14 (iZ_l (by omega) (by omega)) ?_
    refine va_calli (va_runS (As := [.long (lZ (wc.2.2.2))]) (rest := []) ⟨hx, hb, hml, hown, hts⟩ (c_X4_isScale l D cA tT A 23 ad _ _ (k := wc.2.2.2) (by omega) (by omega)) (va_cwS 1 hts gX4_keep_X4_isScale rfl rfl rfl (by decide +kernel) ⟨Nat.le_of_ble_eq_true rfl, Nat.le_of_ble_eq_true rfl⟩) (wd_preS hP hK hD hT hS) rfl rfl hl.1 rfl (lv_room (Nat.le_of_ble_eq_true rfl)) dX4_keep_15 ⟨Nat.zero_le _, Nat.zero_le _⟩) hS id_2 id_1 (fun r_ u t H locs ht hvm hw hB hz1 hk1 hS => ?_)
    refine c00 ?_
    obtain ⟨hP, hD⟩ := wd_back ht hB
    clear ht hvm hB hz1 hk1
    obtain ⟨hr_, hu_⟩ := hw
    subst hr_
    rw [hu_] at hP hD
    clear hu_
    refine bz_ne (tgt := 24) hx hb dX4_keep_18 (by decide) it_lt (fun q2 => ?_) (fun q2 => ?_)
    · have q3 := it_ne q2
      have hkp : kpr rh k (wc.2.2.1, v, wc.2.2.2) = (nI (nd_p v), va_up rh k (wc.2.2.1, v, wc.2.2.2)) := by
        rw [kpr, if_neg (fun h => h.elim (fun (h : 190 < nd_p v) => by omega) (fun h => h q3))]
        have hs9 : sn wc.2.2.1 v = wc.2.2.1 := sn_rk (d := (wc.2.2.1, v, wc.2.2.2)) hb9
        dsimp only; rw [hs9]
      refine lv_aload_n hx hb dX4_keep_24 rfl (lv_at hl 0 rfl) ?_
      refine rg_4_registers hx hb hts in4 hown hK hP 0 (by decide) mg_0 (hts _ (by decide +kernel)) dX4_keep_25 ?_
      refine lv_iload_n hx hb dX4_keep_28 rfl (lv_at hl 1 rfl) ?_
      refine rn_q4 hx hb hK hP 1 (by decide) mg_1 (by omega) (by decide) dX4_keep_29 ?_
      refine tp_v (y := .ref (ad (11 + 2 * k))) rfl ?_
      refine lv_aload_n hx hb dX4_keep_30 rfl (lv_at hl 2 rfl) ?_
      refine va_callv (va_runV (As := [.ref (ad 7)]) (rest := []) ⟨hx, hb, hml, hown, hts⟩ (c_X3_take l D cA tT A 23 ad _ _ (a := 11 + 2 * k) (f := (rg k).1) (n := (rg k).2.1) (b := (rg k).2.2.1) (z := (rg k).2.2.2) (o := 7) (f1 := wc.1) (n1 := wc.2.1) (b1 := wc.2.2.1) (z1 := wc.2.2.2) (by omega) (mg_G k) (by decide) mg_C (by omega) (by omega) (by omega) hn) (cwV 1 hts gX4_keep_X3_take rfl rfl rfl (by decide +kernel) ⟨Nat.le_of_ble_eq_true rfl, Nat.le_of_ble_eq_true rfl⟩) (wd_preV (k := 11 + 2 * k) hP hK hD hT hS (by omega) (mg_G k).1 rfl) rfl rfl hl.1 rfl (lv_room (Nat.le_of_ble_eq_true rfl)) dX4_keep_31 ⟨Nat.zero_le _, Nat.zero_le _⟩) hS id_2 id_1 (fun u t H locs ht hvm hw hB hz1 hk1 hS => ?_)
      refine c00 ?_
      obtain ⟨hP, hD⟩ := wd_back ht hB
      clear ht hvm hB hz1 hk1
      rw [hw] at hP hD
      clear hw
      rw [show rw_ cA ad (mg cA ad wa wb wc we rg tx tl) (11 + 2 * k) (tk wc.1 (rg k).1 wc.2.1) wc.2.1 wc.2.2.1 wc.2.2.2 = mg cA ad wa wb wc we (va_up rg k (tk wc.1 (rg k).1 wc.2.1, wc.2.1, wc.2.2.1, wc.2.2.2)) tx tl from mg_ug (w' := (tk wc.1 (rg k).1 wc.2.1, wc.2.1, wc.2.2.1, wc.2.2.2)) k] at hP hD
      have hmr : mr (va_up rg k (tk wc.1 (rg k).1 wc.2.1, wc.2.1, wc.2.2.1, wc.2.2.2)) (va_up rh k (wc.2.2.1, v, wc.2.2.2)) := mr_up hm ⟨hv.1, fun j hj => by dsimp only at hj ⊢; rw [tk_lt hj]; exact hv.2 j hj⟩ rfl
      refine lv_aload_n hx hb dX4_keep_34 rfl (lv_at hl 2 rfl) ?_
      refine rg_3_n hx hb hts in3 hown hK hP 7 (by omega) mg_C.1 (hts _ (by decide +kernel)) dX4_keep_35 ?_
      refine tp_i (y := nI (wc.2.1)) rfl ?_
      exact W.iret (v := nI (wc.2.1)) hx hb hr (fun t ht hW => ⟨⟨nI (wc.2.1), _, rfl, ⟨by rw [hkp, hn9], _, by rw [hkp]; exact hmr, rfl⟩, wd_end hP hK hD ht hW⟩, hS.F ht⟩) hS.2.2 dX4_keep_38
    · refine lv_bipush (v := iZ (-3)) hx hb dX4_keep_21 (by decide) ?_
      exact W.iret (v := iZ (-3)) hx hb hr (fun t ht hW => ⟨⟨iZ (-3), _, rfl, ⟨by rw [kpr, if_pos (Or.inr (it_eq q2))], rg, by rw [kpr, if_pos (Or.inr (it_eq q2))]; exact hm, rfl⟩, wd_end hP hK hD ht hW⟩, hS.F ht⟩) hS.2.2 dX4_keep_23
