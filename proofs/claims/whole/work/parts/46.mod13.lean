set_option maxHeartbeats 4000000 in
set_option maxRecDepth 100000 in
/-- turns -/
theorem c_X4_turns (l : Launch) (D : va_G) (cA : Nat → ClassId) (tT : Nat) (A : Nat → Prop) (N : Nat) (ad : Nat → Nat) (sz : Nat) (g : Nat → va_E) {way hf : Int} {b : Bool} {q : Nat} (w1 : 0 ≤ way) (w2 : way < 7) (f1 : -2 < hf) (f2 : hf < 2) : Met l yX4_turns wsX4_turns ({ frames := 0, cells := 0, slots := 0, locals := 0 }) (va_Pc [.int (iZ (way)), .int (nI (b.toNat)), .int (iZ (hf)), .int (nI (if q % 2 = 1 then 1 else 0))] (wd_B D cA tT A N ad sz g)) (va_Qi (fun (r : Int32) (u : Nat → va_E) => r = nI (if awB way b hf q = true then 1 else 0) ∧ u = g) (wd_E D cA A N ad) A) 0 0 A := by
  refine Met.ofW (cc := cX4_turns) (maxL := 4) (ret := (some .boolean)) (by decide) rfl ?_
  intro p e s m args below meth c s₁ B hml hv
  obtain ⟨rfl, hsz, hP, hK, hD, hT⟩ := hv
  have hx := B.exec
  have hb := B.bytes
  have hr := B.returns
  have hts := atoms_spec (ws := wsX4_turns) B.pre
  have hown : s.vm.findClass RX4 = some m.cls := findClass_of_methodNamed B.named
  have hlocks := B.notSynchronized
  subst hsz
  have hS : va_S A s.heap s.heap [] := va_S.rf
  have hl := lv_entry ([.int (iZ (way)), .int (nI (b.toNat)), .int (iZ (hf)), .int (nI (if q % 2 = 1 then 1 else 0))]) (n := 4) (Nat.le_of_ble_eq_true rfl)
  rw [lg_entry_eq]
  generalize (lg_sl ([.int (iZ (way)), .int (nI (b.toNat)), .int (iZ (hf)), .int (nI (if q % 2 = 1 then 1 else 0))]) ++ List.replicate (4 - (lg_sl ([.int (iZ (way)), .int (nI (b.toNat)), .int (iZ (hf)), .int (nI (if q % 2 = 1 then 1 else 0))])).length) Slot.unset).toArray = ls at hl ⊢
  have hl : lv_has ls 4 [(0, .int (iZ (way))), (1, .int (nI (b.toNat))), (2, .int (iZ (hf))), (3, .int (nI (if q % 2 = 1 then 1 else 0)))] := hl
  have t_b := tn_le b
  refine lv_iload_n hx hb dX4_turns_0 rfl (lv_at hl 0 rfl) ?_
  rcases (show way = 0 ∨ way = 1 ∨ way = 2 ∨ way = 3 ∨ way = 4 ∨ way = 5 ∨ (way < 0 ∨ 5 < way) by omega) with hw | hw | hw | hw | hw | hw | hw
  · subst hw
    refine lv_tableIn (off := 39) (tgt := 40) hx hb dX4_turns_1 (by rw [tI (by decide) (by decide)]; decide) (by rw [tI (by decide) (by decide)]; decide) (by rw [tI (by decide) (by decide)]; rfl) (by decide) ?_
    refine lv_iconst (v := nI (1)) hx hb dX4_turns_40 (by decide) ?_
    exact W.zret (v := nI (1)) hx hb hr rfl (fun t ht hW => ⟨⟨nI (1), g, rfl, ⟨by rw [show awB 0 b hf q = true by simp [awB]]; rfl, rfl⟩, wd_end hP hK hD ht hW⟩, hS.F ht⟩) hS.2.2 dX4_turns_41
  · subst hw
    refine lv_tableIn (off := 41) (tgt := 42) hx hb dX4_turns_1 (by rw [tI (by decide) (by decide)]; decide) (by rw [tI (by decide) (by decide)]; decide) (by rw [tI (by decide) (by decide)]; rfl) (by decide) ?_
    refine lv_iconst (v := nI (0)) hx hb dX4_turns_42 (by decide) ?_
    exact W.zret (v := nI (0)) hx hb hr rfl (fun t ht hW => ⟨⟨nI (0), g, rfl, ⟨by rw [show awB 1 b hf q = false by simp [awB]]; rfl, rfl⟩, wd_end hP hK hD ht hW⟩, hS.F ht⟩) hS.2.2 dX4_turns_43
  · subst hw
    refine lv_tableIn (off := 43) (tgt := 44) hx hb dX4_turns_1 (by rw [tI (by decide) (by decide)]; decide) (by rw [tI (by decide) (by decide)]; decide) (by rw [tI (by decide) (by decide)]; rfl) (by decide) ?_
    refine lv_iload_n hx hb dX4_turns_44 rfl (lv_at hl 1 rfl) ?_
    refine bz_ne (tgt := 52) hx hb dX4_turns_45 (by decide) (by omega) (fun p1 => ?_) (fun p1 => ?_)
    · refine lv_iconst (v := nI (0)) hx hb dX4_turns_52 (by decide) ?_
      exact W.zret (v := nI (0)) hx hb hr rfl (fun t ht hW => ⟨⟨nI (0), g, rfl, ⟨by rw [show awB 2 b hf q = false by simp [awB, tn_nz p1]]; rfl, rfl⟩, wd_end hP hK hD ht hW⟩, hS.F ht⟩) hS.2.2 dX4_turns_53
    · refine lv_iconst (v := nI (1)) hx hb dX4_turns_48 (by decide) ?_
      refine lv_goto (tgt := 53) hx hb dX4_turns_49 (by decide) ?_
      exact W.zret (v := nI (1)) hx hb hr rfl (fun t ht hW => ⟨⟨nI (1), g, rfl, ⟨by rw [show awB 2 b hf q = true by simp [awB, tn_z p1]]; rfl, rfl⟩, wd_end hP hK hD ht hW⟩, hS.F ht⟩) hS.2.2 dX4_turns_53
  · subst hw
    refine lv_tableIn (off := 53) (tgt := 54) hx hb dX4_turns_1 (by rw [tI (by decide) (by decide)]; decide) (by rw [tI (by decide) (by decide)]; decide) (by rw [tI (by decide) (by decide)]; rfl) (by decide) ?_
    cases b
    · refine lv_iload_n hx hb dX4_turns_54 rfl (lv_at hl 1 rfl) ?_
      exact W.zret (v := nI (Bool.toNat false)) hx hb hr rfl (fun t ht hW => ⟨⟨nI (Bool.toNat false), g, rfl, ⟨by rw [show awB 3 false hf q = false by simp [awB]]; rfl, rfl⟩, wd_end hP hK hD ht hW⟩, hS.F ht⟩) hS.2.2 dX4_turns_55
    · refine lv_iload_n hx hb dX4_turns_54 rfl (lv_at hl 1 rfl) ?_
      exact W.zret (v := nI (Bool.toNat true)) hx hb hr rfl (fun t ht hW => ⟨⟨nI (Bool.toNat true), g, rfl, ⟨by rw [show awB 3 true hf q = true by simp [awB]]; rfl, rfl⟩, wd_end hP hK hD ht hW⟩, hS.F ht⟩) hS.2.2 dX4_turns_55
  · subst hw
    refine lv_tableIn (off := 55) (tgt := 56) hx hb dX4_turns_1 (by rw [tI (by decide) (by decide)]; decide) (by rw [tI (by decide) (by decide)]; decide) (by rw [tI (by decide) (by decide)]; rfl) (by decide) ?_
    refine lv_iload_n hx hb dX4_turns_56 rfl (lv_at hl 2 rfl) ?_
    refine by_lt (tgt := 64) hx hb dX4_turns_57 (by decide) (by omega) (by omega) (fun p1 => ?_) (fun p1 => ?_)
    · refine lv_iconst (v := nI (0)) hx hb dX4_turns_64 (by decide) ?_
      exact W.zret (v := nI (0)) hx hb hr rfl (fun t ht hW => ⟨⟨nI (0), g, rfl, ⟨by rw [show awB 4 b hf q = false by simp [awB]; omega]; rfl, rfl⟩, wd_end hP hK hD ht hW⟩, hS.F ht⟩) hS.2.2 dX4_turns_65
    · refine lv_iconst (v := nI (1)) hx hb dX4_turns_60 (by decide) ?_
      refine lv_goto (tgt := 65) hx hb dX4_turns_61 (by decide) ?_
      exact W.zret (v := nI (1)) hx hb hr rfl (fun t ht hW => ⟨⟨nI (1), g, rfl, ⟨by rw [show awB 4 b hf q = true by simp [awB]; omega]; rfl, rfl⟩, wd_end hP hK hD ht hW⟩, hS.F ht⟩) hS.2.2 dX4_turns_65
  · subst hw
    refine lv_tableIn (off := 65) (tgt := 66) hx hb dX4_turns_1 (by rw [tI (by decide) (by decide)]; decide) (by rw [tI (by decide) (by decide)]; decide) (by rw [tI (by decide) (by decide)]; rfl) (by decide) ?_
    refine lv_iload_n hx hb dX4_turns_66 rfl (lv_at hl 2 rfl) ?_
    refine by_le (tgt := 74) hx hb dX4_turns_67 (by decide) (by omega) (by omega) (fun p1 => ?_) (fun p1 => ?_)
    · refine lv_iconst (v := nI (0)) hx hb dX4_turns_74 (by decide) ?_
      exact W.zret (v := nI (0)) hx hb hr rfl (fun t ht hW => ⟨⟨nI (0), g, rfl, ⟨by rw [show awB 5 b hf q = false by simp [awB]; omega]; rfl, rfl⟩, wd_end hP hK hD ht hW⟩, hS.F ht⟩) hS.2.2 dX4_turns_75
    · refine lv_iconst (v := nI (1)) hx hb dX4_turns_70 (by decide) ?_
      refine lv_goto (tgt := 75) hx hb dX4_turns_71 (by decide) ?_
      exact W.zret (v := nI (1)) hx hb hr rfl (fun t ht hW => ⟨⟨nI (1), g, rfl, ⟨by rw [show awB 5 b hf q = true by simp [awB]; omega]; rfl, rfl⟩, wd_end hP hK hD ht hW⟩, hS.F ht⟩) hS.2.2 dX4_turns_75
  · refine lv_tableOut (tgt := 76) hx hb dX4_turns_1 (by rw [tI (by omega) (by omega)]; exact hw) (by decide) ?_
    obtain rfl : way = 6 := by omega
    refine lv_iload_n hx hb dX4_turns_76 rfl (lv_at hl 2 rfl) ?_
    refine by_gt (tgt := 88) hx hb dX4_turns_77 (by decide) (by omega) (by omega) (fun p1 => ?_) (fun p1 => ?_)
    · refine lv_iconst (v := nI (1)) hx hb dX4_turns_88 (by decide) ?_
      refine lv_goto (tgt := 93) hx hb dX4_turns_89 (by decide) ?_
      exact W.zret (v := nI (1)) hx hb hr rfl (fun t ht hW => ⟨⟨nI (1), g, rfl, ⟨by rw [show awB 6 b hf q = true by simp [awB]; omega]; rfl, rfl⟩, wd_end hP hK hD ht hW⟩, hS.F ht⟩) hS.2.2 dX4_turns_93
    · refine lv_iload_n hx hb dX4_turns_80 rfl (lv_at hl 2 rfl) ?_
      refine by_ne (tgt := 92) hx hb dX4_turns_81 (by decide) (by omega) (by omega) (fun p2 => ?_) (fun p2 => ?_)
      · refine lv_iconst (v := nI (0)) hx hb dX4_turns_92 (by decide) ?_
        exact W.zret (v := nI (0)) hx hb hr rfl (fun t ht hW => ⟨⟨nI (0), g, rfl, ⟨by rw [show awB 6 b hf q = false by simp [awB]; omega]; rfl, rfl⟩, wd_end hP hK hD ht hW⟩, hS.F ht⟩) hS.2.2 dX4_turns_93
      · refine lv_iload_n hx hb dX4_turns_84 rfl (lv_at hl 3 rfl) ?_
        refine bz_eq (tgt := 92) hx hb dX4_turns_85 (by decide) it_lt (fun p3 => ?_) (fun p3 => ?_)
        · have p4 := it_eq p3
          refine lv_iconst (v := nI (0)) hx hb dX4_turns_92 (by decide) ?_
          exact W.zret (v := nI (0)) hx hb hr rfl (fun t ht hW => ⟨⟨nI (0), g, rfl, ⟨by rw [show awB 6 b hf q = false by simp [awB]; omega]; rfl, rfl⟩, wd_end hP hK hD ht hW⟩, hS.F ht⟩) hS.2.2 dX4_turns_93
        · have p4 := it_ne p3
          refine lv_iconst (v := nI (1)) hx hb dX4_turns_88 (by decide) ?_
          refine lv_goto (tgt := 93) hx hb dX4_turns_89 (by decide) ?_
          exact W.zret (v := nI (1)) hx hb hr rfl (fun t ht hW => ⟨⟨nI (1), g, rfl, ⟨by rw [show awB 6 b hf q = true by simp [awB]; omega]; rfl, rfl⟩, wd_end hP hK hD ht hW⟩, hS.F ht⟩) hS.2.2 dX4_turns_93
set_option maxHeartbeats 4000000 in
set_option maxRecDepth 100000 in
theorem lp_X4_dbl {p : Program} {l : Launch} {e : Env} {R : Room} {s : State} {m : MethodId} {args : Array Value} {below : List Frame} {meth : Method} {c : Code} {Q : State → Prop} {D : va_G} {cA : Nat → ClassId} {tT : Nat} {A : Nat → Prop} {ad : Nat → Nat} {we : RWt} {rg : Nat → RWt} {tx : Nat → Int32} {tl : Nat} {fb fc : Nat → Int32} {nb nc k_n X Y : Nat} {ba bb bc mn : Bool} {za zb zc sc way : Int} {na E : Nat} (S : CallFix p m c cX4_divide 11 s args wsX4_divide RX4) (hK : va_K D vwCl (ty_s cA) s) (hT : st_T tT A s s.heap) (hna : na ≤ 800) (kk : ∀ (cv : Nat) (fa : Nat → Int32) (H : Heap) (locs : List Loc) (ls : Array Slot), cv < 2 → (E + E) / 10 ^ na = E / 10 ^ na + E / 10 ^ na + cv → (∀ j, j < na → fa j = nI ((E + E) / 10 ^ j % 10)) → va_P D vwCl (wm_W 23 ad (mg cA ad (fa, na, ba, za) (fb, nb, bb, zb) (fc, nc, bc, zc) we rg tx tl)) H → va_D A (wm_W 23 ad (mg cA ad (fa, na, ba, za) (fb, nb, bb, zb) (fc, nc, bc, zc) we rg tx tl)) → va_S A s.heap H locs → lv_has ls 11 [(8, .int (nI (cv))), (0, .ref (ad 0)), (1, .int (nI (k_n))), (4, .int (iZ (sc))), (5, .int (iZ (way))), (6, .int (nI (mn.toNat)))] → W p l e R s m args below meth c H locs 0 0 Q (F0 m 259 ls [])) :
    ∀ (k i cv : Nat) (fa : Nat → Int32) (H : Heap) (locs : List Loc) (ls : Array Slot), i + k = na → cv < 2 → (E + E) / 10 ^ i = E / 10 ^ i + E / 10 ^ i + cv → (∀ j, j < i → fa j = nI ((E + E) / 10 ^ j % 10)) → (∀ j, i ≤ j → j < na → fa j = nI (E / 10 ^ j % 10)) → va_P D vwCl (wm_W 23 ad (mg cA ad (fa, na, ba, za) (fb, nb, bb, zb) (fc, nc, bc, zc) we rg tx tl)) H → va_D A (wm_W 23 ad (mg cA ad (fa, na, ba, za) (fb, nb, bb, zb) (fc, nc, bc, zc) we rg tx tl)) → va_S A s.heap H locs → lv_has ls 11 [(9, .int (nI (i))), (8, .int (nI (cv))), (0, .ref (ad 0)), (1, .int (nI (k_n))), (4, .int (iZ (sc))), (5, .int (iZ (way))), (6, .int (nI (mn.toNat)))] → W p l e R s m args below meth c H locs 0 0 Q (F0 m 202 ls []) := by
  obtain ⟨hx, hb, hml, hown, hts⟩ := S
  have in3 : ∀ w ∈ wsX30, w ∈ wsX4_divide := by decide +kernel
  have in4 : ∀ w ∈ wsX40, w ∈ wsX4_divide := by decide +kernel
  intro k
  induction k with
  | zero =>
    intro i cv fa H locs ls hn hc hi h1 h2 hP hD hS hl
    refine lv_iload hx hb dX4_divide_202 (lv_at hl 0 rfl) ?_
    refine lv_aload_n hx hb dX4_divide_204 rfl (lv_at hl 2 rfl) ?_
    refine rg_4_a hx hb hts in4 hown hK hP 0 (by decide) mg_0 (hts _ (by decide +kernel)) dX4_divide_205 ?_
    refine rg_3_n hx hb hts in3 hown hK hP 3 (by omega) mg_A.1 (hts _ (by decide +kernel)) dX4_divide_208 ?_
    refine tp_i (y := nI (na)) rfl ?_
    refine bi_ge (tgt := 259) hx hb dX4_divide_211 (by decide) (by omega) (by omega) (fun q => ?_) (fun q => ?_)
    · obtain rfl : i = na := by omega
      exact kk cv fa H locs ls hc hi h1 hP hD hS (lv_sub hl [1, 2, 3, 4, 5, 6] rfl)
    · exact absurd hn (by omega)
  | succ k ih =>
    intro i cv fa H locs ls hn hc hi h1 h2 hP hD hS hl
    refine lv_iload hx hb dX4_divide_202 (lv_at hl 0 rfl) ?_
    refine lv_aload_n hx hb dX4_divide_204 rfl (lv_at hl 2 rfl) ?_
    refine rg_4_a hx hb hts in4 hown hK hP 0 (by decide) mg_0 (hts _ (by decide +kernel)) dX4_divide_205 ?_
    refine rg_3_n hx hb hts in3 hown hK hP 3 (by omega) mg_A.1 (hts _ (by decide +kernel)) dX4_divide_208 ?_
    refine tp_i (y := nI (na)) rfl ?_
    refine bi_ge (tgt := 259) hx hb dX4_divide_211 (by decide) (by omega) (by omega) (fun q => ?_) (fun q => ?_)
    · exact absurd hn (by omega)
    · have hdx := dg_lt E i
      refine lv_iconst (v := nI (2)) hx hb dX4_divide_214 (by decide) ?_
      refine lv_aload_n hx hb dX4_divide_215 rfl (lv_at hl 2 rfl) ?_
      refine rg_4_a hx hb hts in4 hown hK hP 0 (by decide) mg_0 (hts _ (by decide +kernel)) dX4_divide_216 ?_
      refine rg_3_d hx hb hts in3 hown hK hP 3 (by omega) mg_A.1 (hts _ (by decide +kernel)) dX4_divide_219 ?_
      refine lv_iload hx hb dX4_divide_222 (lv_at hl 0 rfl) ?_
      refine rn_i hx hb hK hP (3 + 1) (by omega) mg_A.2 (by omega) (by decide) dX4_divide_224 ?_
      refine tp_i (y := nI (E / 10 ^ i % 10)) (h2 i (Nat.le_refl _) (by omega)) ?_
      refine lv_imul hx hb dX4_divide_225 ?_
      refine tp_i (y := nI (2 * (E / 10 ^ i % 10))) (pk_mul _ _) ?_
      refine lv_iload hx hb dX4_divide_226 (lv_at hl 1 rfl) ?_
      refine lv_iadd hx hb dX4_divide_228 ?_
      refine tp_i (y := nI ((2 * (E / 10 ^ i % 10)) + cv)) (nI_add _ _) ?_
      refine lv_istore (lv' := [(10, .int (nI ((2 * (E / 10 ^ i % 10)) + cv))), (9, .int (nI (i))), (8, .int (nI (cv))), (0, .ref (ad 0)), (1, .int (nI (k_n))), (4, .int (iZ (sc))), (5, .int (iZ (way))), (6, .int (nI (mn.toNat)))]) hx hb dX4_divide_229 hl (by decide) rfl (fun ls hl => ?_)
      refine lv_aload_n hx hb dX4_divide_231 rfl (lv_at hl 3 rfl) ?_
      refine rg_4_a hx hb hts in4 hown hK hP 0 (by decide) mg_0 (hts _ (by decide +kernel)) dX4_divide_232 ?_
      refine rg_3_d hx hb hts in3 hown hK hP 3 (by omega) mg_A.1 (hts _ (by decide +kernel)) dX4_divide_235 ?_
      refine lv_iload hx hb dX4_divide_238 (lv_at hl 1 rfl) ?_
      refine lv_iload hx hb dX4_divide_240 (lv_at hl 0 rfl) ?_
      refine lv_bipush (v := nI (10)) hx hb dX4_divide_242 (by decide) ?_
      refine lv_irem hx hb dX4_divide_244 (nI_ne0 (by omega) (by omega)) ?_
      refine tp_i (y := nI (((2 * (E / 10 ^ i % 10)) + cv) % 10)) (pk_rem (by omega) (by omega) (by omega)) ?_
      refine rt_i hx hb hK hP hD hS (3 + 1) (by omega) mg_A.2 (by omega) (by decide) dX4_divide_245 (fun H locs hP hD hS => ?_)
      rw [mg_sa] at hP hD
      refine lv_iload hx hb dX4_divide_246 (lv_at hl 0 rfl) ?_
      refine lv_bipush (v := nI (10)) hx hb dX4_divide_248 (by decide) ?_
      refine lv_idiv hx hb dX4_divide_250 (nI_ne0 (by omega) (by omega)) ?_
      refine tp_i (y := nI (((2 * (E / 10 ^ i % 10)) + cv) / 10)) (pk_div (by omega) (by omega) (by omega)) ?_
      refine lv_istore (lv' := [(8, .int (nI (((2 * (E / 10 ^ i % 10)) + cv) / 10))), (10, .int (nI ((2 * (E / 10 ^ i % 10)) + cv))), (9, .int (nI (i))), (0, .ref (ad 0)), (1, .int (nI (k_n))), (4, .int (iZ (sc))), (5, .int (iZ (way))), (6, .int (nI (mn.toNat)))]) hx hb dX4_divide_251 hl (by decide) rfl (fun ls hl => ?_)
      refine lv_iinc (v := nI (i + 1)) (lv' := [(9, .int (nI (i + 1))), (8, .int (nI (((2 * (E / 10 ^ i % 10)) + cv) / 10))), (10, .int (nI ((2 * (E / 10 ^ i % 10)) + cv))), (0, .ref (ad 0)), (1, .int (nI (k_n))), (4, .int (iZ (sc))), (5, .int (iZ (way))), (6, .int (nI (mn.toNat)))]) hx hb dX4_divide_253 hl (k := 2) rfl (nI_inc i 1) (by decide) rfl (fun ls hl => ?_)
      refine lv_goto (tgt := 202) hx hb dX4_divide_256 (by decide) ?_
      refine ih (i + 1) _ _ H locs ls (by omega) (by omega) (by rw [tp_q, tp_q]; omega) (fun j hj => ?_) (fun j hj hj2 => ?_) hP hD hS (lv_sub hl [0, 1, 3, 4, 5, 6, 7] rfl)
      · rcases Nat.lt_or_ge j i with r | r
        · rw [pk_un (by omega)]; exact h1 j r
        · obtain rfl : j = i := by omega
          rw [pk_us]; congr 1; omega
      · rw [pk_un (by omega)]; exact h2 j (by omega) hj2
set_option maxHeartbeats 4000000 in
set_option maxRecDepth 100000 in
theorem lp_X4_div186 {p : Program} {l : Launch} {e : Env} {R : Room} {s : State} {m : MethodId} {args : Array Value} {below : List Frame} {meth : Method} {c : Code} {Q : State → Prop} {D : va_G} {cA : Nat → ClassId} {tT : Nat} {A : Nat → Prop} {ad : Nat → Nat} {we : RWt} {rg : Nat → RWt} {tx : Nat → Int32} {tl : Nat} {fb fc : Nat → Int32} {nb nc k_n X Y : Nat} {ba bb bc mn : Bool} {za zb zc sc way : Int} (S : CallFix p m c cX4_divide 11 s args wsX4_divide RX4) (hK : va_K D vwCl (ty_s cA) s) (hT : st_T tT A s s.heap) (hRf : 2 ≤ R.frames) (hRl : 47 ≤ R.locals) (w1 : 0 ≤ way) (w2 : way ≤ 7) (hR : X % Y ≠ 0) (hvb : rv fb nb Y) (hnb : nb ≤ 600) (hvc : rv fc nc (X / Y)) (hnc : nc ≤ 600) (k1 : ∀ (fa fc : Nat → Int32) (na nc : Nat) (H : Heap) (locs : List Loc) (ls : Array Slot), X % Y ≠ 0 → way = 7 → va_P D vwCl (wm_W 23 ad (mg cA ad (fa, na, ba, za) (fb, nb, bb, zb) (fc, nc, bc, zc) we rg tx tl)) H → va_D A (wm_W 23 ad (mg cA ad (fa, na, ba, za) (fb, nb, bb, zb) (fc, nc, bc, zc) we rg tx tl)) → va_S A s.heap H locs → W p l e R s m args below meth c H locs 0 0 Q (F0 m 193 ls [])) (k2 : ∀ (fa fc : Nat → Int32) (na nc v9 : Nat) (H : Heap) (locs : List Loc) (ls : Array Slot), rdn mn X Y way = (1, v9) → rv fc nc v9 → nc ≤ 700 → va_P D vwCl (wm_W 23 ad (mg cA ad (fa, na, ba, za) (fb, nb, bb, zb) (fc, nc, bc, zc) we rg tx tl)) H → va_D A (wm_W 23 ad (mg cA ad (fa, na, ba, za) (fb, nb, bb, zb) (fc, nc, bc, zc) we rg tx tl)) → va_S A s.heap H locs → lv_has ls 11 [(0, .ref (ad 0)), (1, .int (nI (k_n))), (4, .int (iZ (sc))), (5, .int (iZ (way))), (6, .int (nI (mn.toNat)))] → W p l e R s m args below meth c H locs 0 0 Q (F0 m 342 ls [])) (fa : Nat → Int32) (H : Heap) (locs : List Loc) (ls : Array Slot) (hva : rv fa (nd_p (X % Y)) (X % Y)) (hna : nd_p (X % Y) ≤ 600) (hP : va_P D vwCl (wm_W 23 ad (mg cA ad (fa, nd_p (X % Y), ba, za) (fb, nb, bb, zb) (fc, nc, bc, zc) we rg tx tl)) H) (hD : va_D A (wm_W 23 ad (mg cA ad (fa, nd_p (X % Y), ba, za) (fb, nb, bb, zb) (fc, nc, bc, zc) we rg tx tl))) (hS : va_S A s.heap H locs) (hl : lv_has ls 11 [(0, .ref (ad 0)), (1, .int (nI (k_n))), (4, .int (iZ (sc))), (5, .int (iZ (way))), (6, .int (nI (mn.toNat)))]) : W p l e R s m args below meth c H locs 0 0 Q (F0 m 186 ls []) := by
  have S9 := S
  obtain ⟨hx, hb, hml, hown, hts⟩ := S
  have in3 : ∀ w ∈ wsX30, w ∈ wsX4_divide := by decide +kernel
  have in4 : ∀ w ∈ wsX40, w ∈ wsX4_divide := by decide +kernel
  have t_m := tn_le mn
  have ho := odI_b (X % Y + X % Y) Y
  have hp1 := nd_p_pos (X % Y)
  have hpc : 1 ≤ nc := by rw [hvc.1]; exact nd_p_pos _
  refine lv_iload hx hb dX4_divide_186 (lv_at hl 3 rfl) ?_
  refine lv_bipush (v := nI (7)) hx hb dX4_divide_188 (by decide) ?_
  refine tp_i (y := iZ ((7 : Nat) : Int)) (iZ_nat _) ?_
  refine bs_ne (tgt := 196) hx hb dX4_divide_190 (by decide) (by omega) (by omega) (by omega) (by omega) (fun q1 => ?_) (fun q1 => ?_)
  · refine lv_iconst (v := nI (0)) hx hb dX4_divide_196 (by decide) ?_
    refine lv_istore (lv' := [(8, .int (nI (0))), (0, .ref (ad 0)), (1, .int (nI (k_n))), (4, .int (iZ (sc))), (5, .int (iZ (way))), (6, .int (nI (mn.toNat)))]) hx hb dX4_divide_197 hl (by decide) rfl (fun ls hl => ?_)
    refine lv_iconst (v := nI (0)) hx hb dX4_divide_199 (by decide) ?_
    refine lv_istore (lv' := [(9, .int (nI (0))), (8, .int (nI (0))), (0, .ref (ad 0)), (1, .int (nI (k_n))), (4, .int (iZ (sc))), (5, .int (iZ (way))), (6, .int (nI (mn.toNat)))]) hx hb dX4_divide_200 hl (by decide) rfl (fun ls hl => ?_)
    refine lp_X4_dbl (X := X) (Y := Y) (E := X % Y) S9 hK hT (by omega) (fun cv fa H locs ls hc h2 h3 hP hD hS hl => ?_) (nd_p (X % Y)) 0 0 fa _ _ ls (by omega) (by decide) (by rw [Nat.pow_zero, Nat.div_one, Nat.div_one, Nat.add_zero]) (fun j hj => absurd hj (Nat.not_lt_zero _)) (fun j _ hj => hva.2 j hj) hP hD hS (lv_sub hl [0, 1, 2, 3, 4, 5, 6] rfl)
    rw [Nat.div_eq_of_lt (nd_p_lt (X % Y))] at h2
    have hrr : rdn mn X Y way = (1, if awB way mn (odI (X % Y + X % Y) Y) (X / Y) = true then X / Y + 1 else X / Y) := by rw [rdn, if_neg hR, if_neg (by omega : ¬ way = 7)]
    refine lv_iload hx hb dX4_divide_259 (lv_at hl 0 rfl) ?_
    refine bz_le (tgt := 294) hx hb dX4_divide_261 (by decide) (by omega) (fun q2 => ?_) (fun q2 => ?_)
    · have hva2 : rv fa (nd_p (X % Y)) (X % Y + X % Y) := by
        have h6 : X % Y + X % Y < 10 ^ nd_p (X % Y) := by
          rcases Nat.lt_or_ge (X % Y + X % Y) (10 ^ nd_p (X % Y)) with r | r
          · exact r
          · have := Nat.div_pos r (Nat.pow_pos (n := nd_p (X % Y)) (show 0 < 10 by decide)); omega
        have h7 : nd_p (X % Y + X % Y) ≤ nd_p (X % Y) := (nd_p_le hp1).mpr h6
        have h8 : nd_p (X % Y) ≤ nd_p (X % Y + X % Y) := (nd_p_le (nd_p_pos _)).mpr (Nat.lt_of_le_of_lt (Nat.le_add_right _ _) (nd_p_lt _))
        exact ⟨by omega, h3⟩
      refine lv_iload hx hb dX4_divide_294 (lv_at hl 4 rfl) ?_
      refine lv_iload hx hb dX4_divide_296 (lv_at hl 5 rfl) ?_
      refine lv_aload_n hx hb dX4_divide_298 rfl (lv_at hl 1 rfl) ?_
      refine rg_4_a hx hb hts in4 hown hK hP 0 (by decide) mg_0 (hts _ (by decide +kernel)) dX4_divide_299 ?_
      refine lv_aload_n hx hb dX4_divide_302 rfl (lv_at hl 1 rfl) ?_
      refine rg_4_b hx hb hts in4 hown hK hP 0 (by decide) mg_0 (hts _ (by decide +kernel)) dX4_divide_303 ?_
      refine va_calli (va_runS (As := [.ref (ad 3), .ref (ad 5)]) (rest := [.int (nI (mn.toNat)), .int (iZ (way))]) ⟨hx, hb, hml, hown, hts⟩ (c_X4_sizes l D cA tT A 23 ad _ _ (a := 3) (o := 5) (f := fa) (n := nd_p (X % Y)) (b := ba) (z := za) (f1 := fb) (n1 := nb) (b1 := bb) (z1 := zb) (x := X % Y + X % Y) (y := Y) (by decide) (by decide) mg_A mg_B hva2 hvb (by omega) (by omega)) (va_cwS 2 hts gX4_divide_X4_sizes rfl rfl rfl (by decide +kernel) ⟨Nat.le_trans (Nat.le_of_ble_eq_true rfl) hRf, Nat.le_trans (Nat.le_of_ble_eq_true rfl) hRl⟩) (wd_preS hP hK hD hT hS) rfl rfl hl.1 rfl (lv_room (Nat.le_of_ble_eq_true rfl)) dX4_divide_306 ⟨Nat.zero_le _, Nat.zero_le _⟩) hS id_2 id_1 (fun r_ u t H locs ht hvm hw hB hz1 hk1 hS => ?_)
      refine c00 ?_
      obtain ⟨hP, hD⟩ := wd_back ht hB
      clear ht hvm hB hz1 hk1
      obtain ⟨hr_, hu_⟩ := hw
      subst hr_
      rw [hu_] at hP hD
      clear hu_
      have hd0 := dg_lt (X / Y) 0
      have e0 : X / Y / 10 ^ 0 = X / Y := by rw [Nat.pow_zero, Nat.div_one]
      refine lv_aload_n hx hb dX4_divide_309 rfl (lv_at hl 1 rfl) ?_
      refine rg_4_c hx hb hts in4 hown hK hP 0 (by decide) mg_0 (hts _ (by decide +kernel)) dX4_divide_310 ?_
      refine rg_3_d hx hb hts in3 hown hK hP 7 (by omega) mg_C.1 (hts _ (by decide +kernel)) dX4_divide_313 ?_
      refine lv_iconst (v := nI (0)) hx hb dX4_divide_316 (by decide) ?_
      refine rn_i hx hb hK hP (7 + 1) (by omega) mg_C.2 (by omega) (by decide) dX4_divide_317 ?_
      refine tp_i (y := nI (X / Y / 10 ^ 0 % 10)) (hvc.2 0 (by omega)) ?_
      refine lv_iconst (v := nI (2)) hx hb dX4_divide_318 (by decide) ?_
      refine lv_irem hx hb dX4_divide_319 (nI_ne0 (by omega) (by omega)) ?_
      refine tp_i (y := nI ((X / Y / 10 ^ 0 % 10) % 2)) (pk_rem (by omega) (by omega) (by omega)) ?_
      refine lv_iconst (v := nI (1)) hx hb dX4_divide_320 (by decide) ?_
      refine bi_ne (tgt := 328) hx hb dX4_divide_321 (by decide) (by omega) (by omega) (fun q3 => ?_) (fun q3 => ?_)
      · refine lv_iconst (v := nI (0)) hx hb dX4_divide_328 (by decide) ?_
        refine tp_i (y := nI (if X / Y % 2 = 1 then 1 else 0)) (by rw [if_neg (by omega)]) ?_
        refine va_calli (va_runS (As := [.int (iZ (way)), .int (nI (mn.toNat)), .int (iZ (odI (X % Y + X % Y) (Y))), .int (nI (if X / Y % 2 = 1 then 1 else 0))]) (rest := []) ⟨hx, hb, hml, hown, hts⟩ (c_X4_turns l D cA tT A 23 ad _ _ (way := way) (hf := odI (X % Y + X % Y) Y) (b := mn) (q := X / Y) (by omega) (by omega) ho.1 ho.2) (va_cwS 4 hts gX4_divide_X4_turns rfl rfl rfl (by decide +kernel) ⟨Nat.le_trans (Nat.le_of_ble_eq_true rfl) hRf, Nat.le_trans (Nat.le_of_ble_eq_true rfl) hRl⟩) (wd_preS hP hK hD hT hS) rfl rfl hl.1 rfl (lv_room (Nat.le_of_ble_eq_true rfl)) dX4_divide_329 ⟨Nat.zero_le _, Nat.zero_le _⟩) hS id_2 id_1 (fun r_ u t H locs ht hvm hw hB hz1 hk1 hS => ?_)
        refine c00 ?_
        obtain ⟨hP, hD⟩ := wd_back ht hB
        clear ht hvm hB hz1 hk1
        obtain ⟨hr_, hu_⟩ := hw
        subst hr_
        rw [hu_] at hP hD
        clear hu_
        refine bz_eq (tgt := 342) hx hb dX4_divide_332 (by decide) it_lt (fun q4 => ?_) (fun q4 => ?_)
        · have q5 := it_eq q4
          exact k2 _ fc _ nc _ H locs ls (by rw [hrr, if_neg q5]) hvc (by omega) hP hD hS (lv_sub hl [1, 2, 3, 4, 5] rfl)
        · have q5 := it_ne q4
          refine lv_aload_n hx hb dX4_divide_335 rfl (lv_at hl 1 rfl) ?_
          refine rg_4_c hx hb hts in4 hown hK hP 0 (by decide) mg_0 (hts _ (by decide +kernel)) dX4_divide_336 ?_
          refine va_callv (va_runV (As := []) (rest := []) ⟨hx, hb, hml, hown, hts⟩ (c_X3_more l D cA tT A 23 ad _ _ (a := 7) (f := fc) (n := nc) (b := bc) (z := zc) (v := X / Y) (by decide) mg_C hvc (by omega)) (cwV 0 hts gX4_divide_X3_more rfl rfl rfl (by decide +kernel) ⟨Nat.le_trans (Nat.le_of_ble_eq_true rfl) hRf, Nat.le_trans (Nat.le_of_ble_eq_true rfl) hRl⟩) (wd_preV (k := 7) hP hK hD hT hS (by decide) mg_C.1 rfl) rfl rfl hl.1 rfl (lv_room (Nat.le_of_ble_eq_true rfl)) dX4_divide_339 ⟨Nat.zero_le _, Nat.zero_le _⟩) hS id_2 id_1 (fun u t H locs ht hvm hw hB hz1 hk1 hS => ?_)
          refine c00 ?_
          obtain ⟨hP, hD⟩ := wd_back ht hB
          clear ht hvm hB hz1 hk1
          obtain ⟨f8, n8, hv8, hl8, hu_⟩ := hw
          rw [hu_] at hP hD
          clear hu_
          rw [show rw_ cA ad (mg cA ad (fa, nd_p (X % Y), ba, za) (fb, nb, bb, zb) (fc, nc, bc, zc) we rg tx tl) 7 f8 n8 bc zc = mg cA ad (fa, nd_p (X % Y), ba, za) (fb, nb, bb, zb) (f8, n8, bc, zc) we rg tx tl from mg_uc (w' := (f8, n8, bc, zc))] at hP hD
          exact k2 _ f8 _ n8 _ H locs ls (by rw [hrr, if_pos q5]) hv8 (by omega) hP hD hS (lv_sub hl [1, 2, 3, 4, 5] rfl)
      · refine lv_iconst (v := nI (1)) hx hb dX4_divide_324 (by decide) ?_
        refine lv_goto (tgt := 329) hx hb dX4_divide_325 (by decide) ?_
        refine tp_i (y := nI (if X / Y % 2 = 1 then 1 else 0)) (by rw [if_pos (by omega)]) ?_
        refine va_calli (va_runS (As := [.int (iZ (way)), .int (nI (mn.toNat)), .int (iZ (odI (X % Y + X % Y) (Y))), .int (nI (if X / Y % 2 = 1 then 1 else 0))]) (rest := []) ⟨hx, hb, hml, hown, hts⟩ (c_X4_turns l D cA tT A 23 ad _ _ (way := way) (hf := odI (X % Y + X % Y) Y) (b := mn) (q := X / Y) (by omega) (by omega) ho.1 ho.2) (va_cwS 4 hts gX4_divide_X4_turns rfl rfl rfl (by decide +kernel) ⟨Nat.le_trans (Nat.le_of_ble_eq_true rfl) hRf, Nat.le_trans (Nat.le_of_ble_eq_true rfl) hRl⟩) (wd_preS hP hK hD hT hS) rfl rfl hl.1 rfl (lv_room (Nat.le_of_ble_eq_true rfl)) dX4_divide_329 ⟨Nat.zero_le _, Nat.zero_le _⟩) hS id_2 id_1 (fun r_ u t H locs ht hvm hw hB hz1 hk1 hS => ?_)
        refine c00 ?_
        obtain ⟨hP, hD⟩ := wd_back ht hB
        clear ht hvm hB hz1 hk1
        obtain ⟨hr_, hu_⟩ := hw
        subst hr_
        rw [hu_] at hP hD
        clear hu_
        refine bz_eq (tgt := 342) hx hb dX4_divide_332 (by decide) it_lt (fun q4 => ?_) (fun q4 => ?_)
        · have q5 := it_eq q4
          exact k2 _ fc _ nc _ H locs ls (by rw [hrr, if_neg q5]) hvc (by omega) hP hD hS (lv_sub hl [1, 2, 3, 4, 5] rfl)
        · have q5 := it_ne q4
          refine lv_aload_n hx hb dX4_divide_335 rfl (lv_at hl 1 rfl) ?_
          refine rg_4_c hx hb hts in4 hown hK hP 0 (by decide) mg_0 (hts _ (by decide +kernel)) dX4_divide_336 ?_
          refine va_callv (va_runV (As := []) (rest := []) ⟨hx, hb, hml, hown, hts⟩ (c_X3_more l D cA tT A 23 ad _ _ (a := 7) (f := fc) (n := nc) (b := bc) (z := zc) (v := X / Y) (by decide) mg_C hvc (by omega)) (cwV 0 hts gX4_divide_X3_more rfl rfl rfl (by decide +kernel) ⟨Nat.le_trans (Nat.le_of_ble_eq_true rfl) hRf, Nat.le_trans (Nat.le_of_ble_eq_true rfl) hRl⟩) (wd_preV (k := 7) hP hK hD hT hS (by decide) mg_C.1 rfl) rfl rfl hl.1 rfl (lv_room (Nat.le_of_ble_eq_true rfl)) dX4_divide_339 ⟨Nat.zero_le _, Nat.zero_le _⟩) hS id_2 id_1 (fun u t H locs ht hvm hw hB hz1 hk1 hS => ?_)
          refine c00 ?_
          obtain ⟨hP, hD⟩ := wd_back ht hB
          clear ht hvm hB hz1 hk1
          obtain ⟨f8, n8, hv8, hl8, hu_⟩ := hw
          rw [hu_] at hP hD
          clear hu_
          rw [show rw_ cA ad (mg cA ad (fa, nd_p (X % Y), ba, za) (fb, nb, bb, zb) (fc, nc, bc, zc) we rg tx tl) 7 f8 n8 bc zc = mg cA ad (fa, nd_p (X % Y), ba, za) (fb, nb, bb, zb) (f8, n8, bc, zc) we rg tx tl from mg_uc (w' := (f8, n8, bc, zc))] at hP hD
          exact k2 _ f8 _ n8 _ H locs ls (by rw [hrr, if_pos q5]) hv8 (by omega) hP hD hS (lv_sub hl [1, 2, 3, 4, 5] rfl)
    · refine lv_aload_n hx hb dX4_divide_264 rfl (lv_at hl 1 rfl) ?_
      refine rg_4_a hx hb hts in4 hown hK hP 0 (by decide) mg_0 (hts _ (by decide +kernel)) dX4_divide_265 ?_
      refine rg_3_d hx hb hts in3 hown hK hP 3 (by omega) mg_A.1 (hts _ (by decide +kernel)) dX4_divide_268 ?_
      refine lv_aload_n hx hb dX4_divide_271 rfl (lv_at hl 1 rfl) ?_
      refine rg_4_a hx hb hts in4 hown hK hP 0 (by decide) mg_0 (hts _ (by decide +kernel)) dX4_divide_272 ?_
      refine rg_3_n hx hb hts in3 hown hK hP 3 (by omega) mg_A.1 (hts _ (by decide +kernel)) dX4_divide_275 ?_
      refine tp_i (y := nI (nd_p (X % Y))) rfl ?_
      refine lv_iload hx hb dX4_divide_278 (lv_at hl 0 rfl) ?_
      refine rt_i hx hb hK hP hD hS (3 + 1) (by omega) mg_A.2 (by omega) (by decide) dX4_divide_280 (fun H locs hP hD hS => ?_)
      rw [mg_sa] at hP hD
      refine lv_aload_n hx hb dX4_divide_281 rfl (lv_at hl 1 rfl) ?_
      refine rg_4_a hx hb hts in4 hown hK hP 0 (by decide) mg_0 (hts _ (by decide +kernel)) dX4_divide_282 ?_
      refine lv_dup hx hb dX4_divide_285 rfl ?_
      refine rg_3_n hx hb hts in3 hown hK hP 3 (by omega) mg_A.1 (hts _ (by decide +kernel)) dX4_divide_286 ?_
      refine tp_i (y := nI (nd_p (X % Y))) rfl ?_
      refine lv_iconst (v := nI (1)) hx hb dX4_divide_289 (by decide) ?_
      refine lv_iadd hx hb dX4_divide_290 ?_
      refine tp_i (y := nI ((nd_p (X % Y)) + 1)) (nI_add _ _) ?_
      refine rp_3_n hx hb hts in3 hown hK hP hD hS 3 (by omega) mg_A.1 (hts _ (by decide +kernel)) rfl rfl dX4_divide_291 (fun H locs hP hD hS => ?_)
      rw [mg_pa ((nd_p (X % Y)) + 1) ba za (v := nI (ba.toNat)) rfl] at hP hD
      have hva2 : rv (upd fa (nd_p (X % Y)) (nI cv)) (nd_p (X % Y) + 1) (X % Y + X % Y) := by
        have h6 : X % Y + X % Y < 10 ^ (nd_p (X % Y) + 1) := by have := nd_p_lt (X % Y); rw [Nat.pow_succ]; omega
        refine ⟨(nd_p_eq h6 (by omega)).symm, fun j hj => ?_⟩
        rcases Nat.lt_or_ge j (nd_p (X % Y)) with r | r
        · rw [pk_un (by omega)]; exact h3 j r
        · obtain rfl : j = nd_p (X % Y) := by omega
          rw [pk_us]; congr 1; omega
      refine lv_iload hx hb dX4_divide_294 (lv_at hl 4 rfl) ?_
      refine lv_iload hx hb dX4_divide_296 (lv_at hl 5 rfl) ?_
      refine lv_aload_n hx hb dX4_divide_298 rfl (lv_at hl 1 rfl) ?_
      refine rg_4_a hx hb hts in4 hown hK hP 0 (by decide) mg_0 (hts _ (by decide +kernel)) dX4_divide_299 ?_
      refine lv_aload_n hx hb dX4_divide_302 rfl (lv_at hl 1 rfl) ?_
      refine rg_4_b hx hb hts in4 hown hK hP 0 (by decide) mg_0 (hts _ (by decide +kernel)) dX4_divide_303 ?_
      refine va_calli (va_runS (As := [.ref (ad 3), .ref (ad 5)]) (rest := [.int (nI (mn.toNat)), .int (iZ (way))]) ⟨hx, hb, hml, hown, hts⟩ (c_X4_sizes l D cA tT A 23 ad _ _ (a := 3) (o := 5) (f := upd fa (nd_p (X % Y)) (nI (cv))) (n := (nd_p (X % Y)) + 1) (b := ba) (z := za) (f1 := fb) (n1 := nb) (b1 := bb) (z1 := zb) (x := X % Y + X % Y) (y := Y) (by decide) (by decide) mg_A mg_B hva2 hvb (by omega) (by omega)) (va_cwS 2 hts gX4_divide_X4_sizes rfl rfl rfl (by decide +kernel) ⟨Nat.le_trans (Nat.le_of_ble_eq_true rfl) hRf, Nat.le_trans (Nat.le_of_ble_eq_true rfl) hRl⟩) (wd_preS hP hK hD hT hS) rfl rfl hl.1 rfl (lv_room (Nat.le_of_ble_eq_true rfl)) dX4_divide_306 ⟨Nat.zero_le _, Nat.zero_le _⟩) hS id_2 id_1 (fun r_ u t H locs ht hvm hw hB hz1 hk1 hS => ?_)
      refine c00 ?_
      obtain ⟨hP, hD⟩ := wd_back ht hB
      clear ht hvm hB hz1 hk1
      obtain ⟨hr_, hu_⟩ := hw
      subst hr_
      rw [hu_] at hP hD
      clear hu_
      have hd0 := dg_lt (X / Y) 0
      have e0 : X / Y / 10 ^ 0 = X / Y := by rw [Nat.pow_zero, Nat.div_one]
      refine lv_aload_n hx hb dX4_divide_309 rfl (lv_at hl 1 rfl) ?_
      refine rg_4_c hx hb hts in4 hown hK hP 0 (by decide) mg_0 (hts _ (by decide +kernel)) dX4_divide_310 ?_
      refine rg_3_d hx hb hts in3 hown hK hP 7 (by omega) mg_C.1 (hts _ (by decide +kernel)) dX4_divide_313 ?_
      refine lv_iconst (v := nI (0)) hx hb dX4_divide_316 (by decide) ?_
      refine rn_i hx hb hK hP (7 + 1) (by omega) mg_C.2 (by omega) (by decide) dX4_divide_317 ?_
      refine tp_i (y := nI (X / Y / 10 ^ 0 % 10)) (hvc.2 0 (by omega)) ?_
      refine lv_iconst (v := nI (2)) hx hb dX4_divide_318 (by decide) ?_
      refine lv_irem hx hb dX4_divide_319 (nI_ne0 (by omega) (by omega)) ?_
      refine tp_i (y := nI ((X / Y / 10 ^ 0 % 10) % 2)) (pk_rem (by omega) (by omega) (by omega)) ?_
      refine lv_iconst (v := nI (1)) hx hb dX4_divide_320 (by decide) ?_
      refine bi_ne (tgt := 328) hx hb dX4_divide_321 (by decide) (by omega) (by omega) (fun q3 => ?_) (fun q3 => ?_)
      · refine lv_iconst (v := nI (0)) hx hb dX4_divide_328 (by decide) ?_
        refine tp_i (y := nI (if X / Y % 2 = 1 then 1 else 0)) (by rw [if_neg (by omega)]) ?_
        refine va_calli (va_runS (As := [.int (iZ (way)), .int (nI (mn.toNat)), .int (iZ (odI (X % Y + X % Y) (Y))), .int (nI (if X / Y % 2 = 1 then 1 else 0))]) (rest := []) ⟨hx, hb, hml, hown, hts⟩ (c_X4_turns l D cA tT A 23 ad _ _ (way := way) (hf := odI (X % Y + X % Y) Y) (b := mn) (q := X / Y) (by omega) (by omega) ho.1 ho.2) (va_cwS 4 hts gX4_divide_X4_turns rfl rfl rfl (by decide +kernel) ⟨Nat.le_trans (Nat.le_of_ble_eq_true rfl) hRf, Nat.le_trans (Nat.le_of_ble_eq_true rfl) hRl⟩) (wd_preS hP hK hD hT hS) rfl rfl hl.1 rfl (lv_room (Nat.le_of_ble_eq_true rfl)) dX4_divide_329 ⟨Nat.zero_le _, Nat.zero_le _⟩) hS id_2 id_1 (fun r_ u t H locs ht hvm hw hB hz1 hk1 hS => ?_)
        refine c00 ?_
        obtain ⟨hP, hD⟩ := wd_back ht hB
        clear ht hvm hB hz1 hk1
        obtain ⟨hr_, hu_⟩ := hw
        subst hr_
        rw [hu_] at hP hD
        clear hu_
        refine bz_eq (tgt := 342) hx hb dX4_divide_332 (by decide) it_lt (fun q4 => ?_) (fun q4 => ?_)
        · have q5 := it_eq q4
          exact k2 _ fc _ nc _ H locs ls (by rw [hrr, if_neg q5]) hvc (by omega) hP hD hS (lv_sub hl [1, 2, 3, 4, 5] rfl)
        · have q5 := it_ne q4
          refine lv_aload_n hx hb dX4_divide_335 rfl (lv_at hl 1 rfl) ?_
          refine rg_4_c hx hb hts in4 hown hK hP 0 (by decide) mg_0 (hts _ (by decide +kernel)) dX4_divide_336 ?_
          refine va_callv (va_runV (As := []) (rest := []) ⟨hx, hb, hml, hown, hts⟩ (c_X3_more l D cA tT A 23 ad _ _ (a := 7) (f := fc) (n := nc) (b := bc) (z := zc) (v := X / Y) (by decide) mg_C hvc (by omega)) (cwV 0 hts gX4_divide_X3_more rfl rfl rfl (by decide +kernel) ⟨Nat.le_trans (Nat.le_of_ble_eq_true rfl) hRf, Nat.le_trans (Nat.le_of_ble_eq_true rfl) hRl⟩) (wd_preV (k := 7) hP hK hD hT hS (by decide) mg_C.1 rfl) rfl rfl hl.1 rfl (lv_room (Nat.le_of_ble_eq_true rfl)) dX4_divide_339 ⟨Nat.zero_le _, Nat.zero_le _⟩) hS id_2 id_1 (fun u t H locs ht hvm hw hB hz1 hk1 hS => ?_)
          refine c00 ?_
          obtain ⟨hP, hD⟩ := wd_back ht hB
          clear ht hvm hB hz1 hk1
          obtain ⟨f8, n8, hv8, hl8, hu_⟩ := hw
          rw [hu_] at hP hD
          clear hu_
          rw [show rw_ cA ad (mg cA ad (upd fa (nd_p (X % Y)) (nI (cv)), (nd_p (X % Y)) + 1, ba, za) (fb, nb, bb, zb) (fc, nc, bc, zc) we rg tx tl) 7 f8 n8 bc zc = mg cA ad (upd fa (nd_p (X % Y)) (nI (cv)), (nd_p (X % Y)) + 1, ba, za) (fb, nb, bb, zb) (f8, n8, bc, zc) we rg tx tl from mg_uc (w' := (f8, n8, bc, zc))] at hP hD
          exact k2 _ f8 _ n8 _ H locs ls (by rw [hrr, if_pos q5]) hv8 (by omega) hP hD hS (lv_sub hl [1, 2, 3, 4, 5] rfl)
      · refine lv_iconst (v := nI (1)) hx hb dX4_divide_324 (by decide) ?_
        refine lv_goto (tgt := 329) hx hb dX4_divide_325 (by decide) ?_
        refine tp_i (y := nI (if X / Y % 2 = 1 then 1 else 0)) (by rw [if_pos (by omega)]) ?_
        refine va_calli (va_runS (As := [.int (iZ (way)), .int (nI (mn.toNat)), .int (iZ (odI (X % Y + X % Y) (Y))), .int (nI (if X / Y % 2 = 1 then 1 else 0))]) (rest := []) ⟨hx, hb, hml, hown, hts⟩ (c_X4_turns l D cA tT A 23 ad _ _ (way := way) (hf := odI (X % Y + X % Y) Y) (b := mn) (q := X / Y) (by omega) (by omega) ho.1 ho.2) (va_cwS 4 hts gX4_divide_X4_turns rfl rfl rfl (by decide +kernel) ⟨Nat.le_trans (Nat.le_of_ble_eq_true rfl) hRf, Nat.le_trans (Nat.le_of_ble_eq_true rfl) hRl⟩) (wd_preS hP hK hD hT hS) rfl rfl hl.1 rfl (lv_room (Nat.le_of_ble_eq_true rfl)) dX4_divide_329 ⟨Nat.zero_le _, Nat.zero_le _⟩) hS id_2 id_1 (fun r_ u t H locs ht hvm hw hB hz1 hk1 hS => ?_)
        refine c00 ?_
        obtain ⟨hP, hD⟩ := wd_back ht hB
        clear ht hvm hB hz1 hk1
        obtain ⟨hr_, hu_⟩ := hw
        subst hr_
        rw [hu_] at hP hD
        clear hu_
        refine bz_eq (tgt := 342) hx hb dX4_divide_332 (by decide) it_lt (fun q4 => ?_) (fun q4 => ?_)
        · have q5 := it_eq q4
          exact k2 _ fc _ nc _ H locs ls (by rw [hrr, if_neg q5]) hvc (by omega) hP hD hS (lv_sub hl [1, 2, 3, 4, 5] rfl)
        · have q5 := it_ne q4
          refine lv_aload_n hx hb dX4_divide_335 rfl (lv_at hl 1 rfl) ?_
          refine rg_4_c hx hb hts in4 hown hK hP 0 (by decide) mg_0 (hts _ (by decide +kernel)) dX4_divide_336 ?_
          refine va_callv (va_runV (As := []) (rest := []) ⟨hx, hb, hml, hown, hts⟩ (c_X3_more l D cA tT A 23 ad _ _ (a := 7) (f := fc) (n := nc) (b := bc) (z := zc) (v := X / Y) (by decide) mg_C hvc (by omega)) (cwV 0 hts gX4_divide_X3_more rfl rfl rfl (by decide +kernel) ⟨Nat.le_trans (Nat.le_of_ble_eq_true rfl) hRf, Nat.le_trans (Nat.le_of_ble_eq_true rfl) hRl⟩) (wd_preV (k := 7) hP hK hD hT hS (by decide) mg_C.1 rfl) rfl rfl hl.1 rfl (lv_room (Nat.le_of_ble_eq_true rfl)) dX4_divide_339 ⟨Nat.zero_le _, Nat.zero_le _⟩) hS id_2 id_1 (fun u t H locs ht hvm hw hB hz1 hk1 hS => ?_)
          refine c00 ?_
          obtain ⟨hP, hD⟩ := wd_back ht hB
          clear ht hvm hB hz1 hk1
          obtain ⟨f8, n8, hv8, hl8, hu_⟩ := hw
          rw [hu_] at hP hD
          clear hu_
          rw [show rw_ cA ad (mg cA ad (upd fa (nd_p (X % Y)) (nI (cv)), (nd_p (X % Y)) + 1, ba, za) (fb, nb, bb, zb) (fc, nc, bc, zc) we rg tx tl) 7 f8 n8 bc zc = mg cA ad (upd fa (nd_p (X % Y)) (nI (cv)), (nd_p (X % Y)) + 1, ba, za) (fb, nb, bb, zb) (f8, n8, bc, zc) we rg tx tl from mg_uc (w' := (f8, n8, bc, zc))] at hP hD
          exact k2 _ f8 _ n8 _ H locs ls (by rw [hrr, if_pos q5]) hv8 (by omega) hP hD hS (lv_sub hl [1, 2, 3, 4, 5] rfl)
  · exact k1 _ fc _ nc H locs ls hR (by omega) hP hD hS
