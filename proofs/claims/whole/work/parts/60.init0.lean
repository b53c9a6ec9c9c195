section NWA
variable {p : Program} {l : Launch} {e : Env} {R : Room} {s : State} {m : MethodId} {args : Array Value} {below : List Frame} {meth : Method} {c : Code} {H H0 : Heap} {locs : List Loc} {cells slots : Nat} {Q : State → Prop} {cc : ByteArray} {pc : Nat} {ls : Array Slot} {rest : List Value} {own : String} {index : Nat} {D : va_G} {cA : Nat → ClassId} {A : Nat → Prop} {ws : va_W}
theorem na_l (hx : p.tables.exec = Jvm.exec) (hb : c.code = cc) (harr : (Cond.arrayClass .long).before args s = true) (hK : va_K D vwCl (ty_s cA) s) (hP : va_P D vwCl ws H) (hD : va_D A ws) (hS : va_S A H0 H locs) (hA : ∀ q, H0.size ≤ q → A q) (hcells : cells + 1 ≤ R.cells) (hslots : slots + 64 ≤ R.slots) (hdg : decode cc pc = .ok (.newarray .long, 2)) (kk : ∀ (q : Nat) (H1 : Heap), va_P D vwCl (ws ++ [(q, (.inl (cA 0, 64, .inr (.inl (fun _ => lN 0)))))]) H1 → va_D A (ws ++ [(q, (.inl (cA 0, 64, .inr (.inl (fun _ => lN 0)))))]) → va_S A H0 H1 locs → W p l e R s m args below meth c H1 locs (cells + 1) (slots + 64) Q (F0 m (pc + 2) ls (.ref q :: rest))) : W p l e R s m args below meth c H locs cells slots Q (F0 m pc ls (.int (nI 64) :: rest)) := by
  refine va_newa (atype := .long) (ty := .long) (a0 := (64, .inr (.inl (fun _ => lN 0)))) hx hb harr rfl hK hP hD hS hA (fun _ => rfl) (by decide) (by decide) (by decide) hcells hslots hdg (fun q cB H1 hK1 hP1 hD1 hS1 => ?_)
  have e1 := va_nm_long (hK.2 0 _ rfl).2
  have e2 := va_nm_long (hK1.2 5 _ rfl).2
  obtain rfl : cB = cA 0 := Option.some.inj (e2.symm.trans e1)
  exact kk q H1 hP1 hD1 hS1
theorem na_i (hx : p.tables.exec = Jvm.exec) (hb : c.code = cc) (harr : (Cond.arrayClass .int).before args s = true) (hK : va_K D vwCl (ty_s cA) s) (hP : va_P D vwCl ws H) (hD : va_D A ws) (hS : va_S A H0 H locs) (hA : ∀ q, H0.size ≤ q → A q) (hcells : cells + 1 ≤ R.cells) (hslots : slots + 800 ≤ R.slots) (hdg : decode cc pc = .ok (.newarray .int, 2)) (kk : ∀ (q : Nat) (H1 : Heap), va_P D vwCl (ws ++ [(q, (.inl (cA 3, 800, .inl (fun _ => nI 0))))]) H1 → va_D A (ws ++ [(q, (.inl (cA 3, 800, .inl (fun _ => nI 0))))]) → va_S A H0 H1 locs → W p l e R s m args below meth c H1 locs (cells + 1) (slots + 800) Q (F0 m (pc + 2) ls (.ref q :: rest))) : W p l e R s m args below meth c H locs cells slots Q (F0 m pc ls (.int (nI 800) :: rest)) := by
  refine va_newa (atype := .int) (ty := .int) (a0 := (800, .inl (fun _ => nI 0))) hx hb harr rfl hK hP hD hS hA (fun _ => rfl) (by decide) (by decide) (by decide) hcells hslots hdg (fun q cB H1 hK1 hP1 hD1 hS1 => ?_)
  have e1 := va_nm_int (hK.2 3 _ rfl).2
  have e2 := va_nm_int (hK1.2 5 _ rfl).2
  obtain rfl : cB = cA 3 := Option.some.inj (e2.symm.trans e1)
  exact kk q H1 hP1 hD1 hS1
theorem na_t (hx : p.tables.exec = Jvm.exec) (hb : c.code = cc) (harr : (Cond.arrayClass .int).before args s = true) (hK : va_K D vwCl (ty_s cA) s) (hP : va_P D vwCl ws H) (hD : va_D A ws) (hS : va_S A H0 H locs) (hA : ∀ q, H0.size ≤ q → A q) (hcells : cells + 1 ≤ R.cells) (hslots : slots + 400 ≤ R.slots) (hdg : decode cc pc = .ok (.newarray .int, 2)) (kk : ∀ (q : Nat) (H1 : Heap), va_P D vwCl (ws ++ [(q, (.inl (cA 3, 400, .inl (fun _ => nI 0))))]) H1 → va_D A (ws ++ [(q, (.inl (cA 3, 400, .inl (fun _ => nI 0))))]) → va_S A H0 H1 locs → W p l e R s m args below meth c H1 locs (cells + 1) (slots + 400) Q (F0 m (pc + 2) ls (.ref q :: rest))) : W p l e R s m args below meth c H locs cells slots Q (F0 m pc ls (.int (nI 400) :: rest)) := by
  refine va_newa (atype := .int) (ty := .int) (a0 := (400, .inl (fun _ => nI 0))) hx hb harr rfl hK hP hD hS hA (fun _ => rfl) (by decide) (by decide) (by decide) hcells hslots hdg (fun q cB H1 hK1 hP1 hD1 hS1 => ?_)
  have e1 := va_nm_int (hK.2 3 _ rfl).2
  have e2 := va_nm_int (hK1.2 5 _ rfl).2
  obtain rfl : cB = cA 3 := Option.some.inj (e2.symm.trans e1)
  exact kk q H1 hP1 hD1 hS1
theorem na_c (hx : p.tables.exec = Jvm.exec) (hb : c.code = cc) (harr : (Cond.arrayClass .char).before args s = true) (hK : va_K D vwCl (ty_s cA) s) (hP : va_P D vwCl ws H) (hD : va_D A ws) (hS : va_S A H0 H locs) (hA : ∀ q, H0.size ≤ q → A q) (hcells : cells + 1 ≤ R.cells) (hslots : slots + 200 ≤ R.slots) (hdg : decode cc pc = .ok (.newarray .char, 2)) (kk : ∀ (q : Nat) (H1 : Heap), va_P D vwCl (ws ++ [(q, (.inl (cA 2, 200, .inl (fun _ => nI 0))))]) H1 → va_D A (ws ++ [(q, (.inl (cA 2, 200, .inl (fun _ => nI 0))))]) → va_S A H0 H1 locs → W p l e R s m args below meth c H1 locs (cells + 1) (slots + 200) Q (F0 m (pc + 2) ls (.ref q :: rest))) : W p l e R s m args below meth c H locs cells slots Q (F0 m pc ls (.int (nI 200) :: rest)) := by
  refine va_newa (atype := .char) (ty := .char) (a0 := (200, .inl (fun _ => nI 0))) hx hb harr rfl hK hP hD hS hA (fun _ => rfl) (by decide) (by decide) (by decide) hcells hslots hdg (fun q cB H1 hK1 hP1 hD1 hS1 => ?_)
  have e1 := va_nm_char (hK.2 2 _ rfl).2
  have e2 := va_nm_char (hK1.2 5 _ rfl).2
  obtain rfl : cB = cA 2 := Option.some.inj (e2.symm.trans e1)
  exact kk q H1 hP1 hD1 hS1
theorem na_q1 (hx : p.tables.exec = Jvm.exec) (hb : c.code = cc) (hown : s.vm.findClass own = some m.cls) (hcl : (Cond.classLink own index "DecimalRegisters$Decimal").before args s = true) (hov : va_AO "DecimalRegisters$Decimal" s) (hK : va_K D vwCl (ty_s cA) s) (hP : va_P D vwCl ws H) (hD : va_D A ws) (hS : va_S A H0 H locs) (hA : ∀ q, H0.size ≤ q → A q) (hcells : cells + 1 ≤ R.cells) (hslots : slots + 6 ≤ R.slots) (hdg : decode cc pc = .ok (.anewarray index, 3)) (kk : ∀ (q : Nat) (H1 : Heap), va_P D vwCl (ws ++ [(q, (.inl (cA 1, 6, .inr (.inr (.inr (.inr (fun _ => none)))))))]) H1 → va_D A (ws ++ [(q, (.inl (cA 1, 6, .inr (.inr (.inr (.inr (fun _ => none)))))))]) → va_S A H0 H1 locs → W p l e R s m args below meth c H1 locs (cells + 1) (slots + 6) Q (F0 m (pc + 3) ls (.ref q :: rest))) : W p l e R s m args below meth c H locs cells slots Q (F0 m pc ls (.int (nI 6) :: rest)) := by
  refine va_newq hx hb hown hcl hov hK hP hD hS hA (by decide) (by decide) (by decide) hcells hslots hdg (fun q cB H1 hK1 hP1 hD1 hS1 => ?_)
  have e1 := va_nmO (nm := "[LDecimalRegisters$Decimal;") (hK.2 1 _ rfl).2 (by decide +kernel)
  have e2 := va_nmO (nm := "[LDecimalRegisters$Decimal;") (hK1.2 5 _ rfl).2 (by decide +kernel)
  obtain rfl : cB = cA 1 := Option.some.inj (e2.symm.trans e1)
  exact kk q H1 hP1 hD1 hS1
theorem na_q4 (hx : p.tables.exec = Jvm.exec) (hb : c.code = cc) (hown : s.vm.findClass own = some m.cls) (hcl : (Cond.classLink own index "DecimalRegistersModel$Row").before args s = true) (hov : va_AO "DecimalRegistersModel$Row" s) (hK : va_K D vwCl (ty_s cA) s) (hP : va_P D vwCl ws H) (hD : va_D A ws) (hS : va_S A H0 H locs) (hA : ∀ q, H0.size ≤ q → A q) (hcells : cells + 1 ≤ R.cells) (hslots : slots + 6 ≤ R.slots) (hdg : decode cc pc = .ok (.anewarray index, 3)) (kk : ∀ (q : Nat) (H1 : Heap), va_P D vwCl (ws ++ [(q, (.inl (cA 4, 6, .inr (.inr (.inr (.inr (fun _ => none)))))))]) H1 → va_D A (ws ++ [(q, (.inl (cA 4, 6, .inr (.inr (.inr (.inr (fun _ => none)))))))]) → va_S A H0 H1 locs → W p l e R s m args below meth c H1 locs (cells + 1) (slots + 6) Q (F0 m (pc + 3) ls (.ref q :: rest))) : W p l e R s m args below meth c H locs cells slots Q (F0 m pc ls (.int (nI 6) :: rest)) := by
  refine va_newq hx hb hown hcl hov hK hP hD hS hA (by decide) (by decide) (by decide) hcells hslots hdg (fun q cB H1 hK1 hP1 hD1 hS1 => ?_)
  have e1 := va_nmO (nm := "[LDecimalRegistersModel$Row;") (hK.2 4 _ rfl).2 (by decide +kernel)
  have e2 := va_nmO (nm := "[LDecimalRegistersModel$Row;") (hK1.2 5 _ rfl).2 (by decide +kernel)
  obtain rfl : cB = cA 4 := Option.some.inj (e2.symm.trans e1)
  exact kk q H1 hP1 hD1 hS1
end NWA
theorem ls_ap {α : Type} {ws : List α} {k : Nat} {x y : α} (h : ws[k]? = some x) : (ws ++ [y])[k]? = some x := by
  rw [List.getElem?_append_left (List.getElem?_eq_some_iff.mp h).1]; exact h
theorem ls_set {α : Type} {ws : List α} {k : Nat} {x y z : α} (h : ws[k]? = some x) : (ws ++ [y]).set k z = ws.set k z ++ [y] :=
  List.set_append_left _ _ (List.getElem?_eq_some_iff.mp h).1
theorem ls_lst {α : Type} {ws : List α} {y : α} : (ws ++ [y])[ws.length]? = some y := by simp
theorem ls_slst {α : Type} {ws : List α} {y z : α} : (ws ++ [y]).set ws.length z = ws ++ [z] := by
  rw [List.set_append_right _ _ (Nat.le_refl _)]; simp
/-- what a constructor's start holds, and its end -/
def in_B (D : va_G) (cA : Nat → ClassId) (A : Nat → Prop) (sz : Nat) (ws : va_W) (NW : State → Prop) (U : State) : Prop := U.heap.size = sz ∧ va_P D vwCl ws U.heap ∧ va_K D vwCl (ty_s cA) U ∧ va_D A ws ∧ NW U
def in_E (D : va_G) (cA : Nat → ClassId) (A : Nat → Prop) (ws : va_W) (t : State) : Prop := va_P D vwCl ws t.heap ∧ va_K D vwCl (ty_s cA) t ∧ va_D A ws
theorem in_blind {D : va_G} {cA : Nat → ClassId} {A : Nat → Prop} {sz : Nat} {ws : va_W} {NW : State → Prop} {av : List Value} (hN : ∀ (U : State) (g : JFrame) (mk : MethodId) (a : Array Value), NW U → NW (U.calling g mk a)) : FrameBlind (va_Pc av (in_B D cA A sz ws NW)) := fun a U g mk q => by
  obtain ⟨q0, q1, qP, qK, qD, qN⟩ := q
  exact ⟨q0, q1, qP, va_K.moved (u := U) (U := U.calling g mk a) (Vm.Alike.refl U.vm) qK, qD, hN U g mk a qN⟩
theorem in_pre {D : va_G} {cA : Nat → ClassId} {A : Nat → Prop} {ws : va_W} {NW : State → Prop} {s : State} {H : Heap} {locs : List Loc} {As : List Value} {H0 : Heap} (hN : ∀ (U : State) (g : JFrame) (mk : MethodId) (a : Array Value), NW U → NW (U.calling g mk a)) (hP : va_P D vwCl ws H) (hK : va_K D vwCl (ty_s cA) s) (hD : va_D A ws) (hS : va_S A H0 H locs) (hNW : ∀ U : State, U.heap = H → s.WarmedH U.vm → NW U) : PreS s H (va_Pc As (in_B D cA A H.size ws NW)) As :=
  ⟨in_blind hN, fun U hU hW => ⟨rfl, by rw [hU], by rw [hU]; exact hP, va_K.moved hW.alike hK, hD, hNW U hU hW⟩⟩
theorem in_back {D : va_G} {cA : Nat → ClassId} {A : Nat → Prop} {ws : va_W} {t : State} {H1 : Heap} (ht : t.heap = H1) (h : in_E D cA A ws t) : va_P D vwCl ws H1 ∧ va_D A ws := ⟨by rw [← ht]; exact h.1, h.2.2⟩
theorem in_end {D : va_G} {cA : Nat → ClassId} {A : Nat → Prop} {ws : va_W} {s t : State} {H : Heap} (hP : va_P D vwCl ws H) (hK : va_K D vwCl (ty_s cA) s) (hD : va_D A ws) (ht : t.heap = H) (hW : s.WarmedH t.vm) : in_E D cA A ws t := ⟨by rw [ht]; exact hP, va_K.moved hW.alike hK, hD⟩
set_option maxHeartbeats 4000000 in
set_option maxRecDepth 100000 in
theorem c_X1_init (l : Launch) (D : va_G) (cA : Nat → ClassId) (A : Nat → Prop) (sz h0 : Nat) (ws : va_W) (k : Nat) (hk : ws[k]? = some (h0, .inr (1, [.null, .int (nI 0)]))) (hA : ∀ q, sz ≤ q → A q) : Met l yX1_init wsX1_init ({ frames := 1, cells := 1, slots := 64, locals := 12 }) (va_Pc [.ref h0] (in_B D cA A sz ws (fun _ => True))) (va_Qv (fun _ : Nat => True) (fun u t => in_E D cA A (ws.set k (h0, .inr (1, [.ref u, .int (nI (nd_s 0))])) ++ [(u, .inl (cA 0, 64, .inr (.inl (nd_A 0))))]) t) A) 1 64 A := by
  refine Met.ofW (cc := cX1_init) (maxL := 1) (ret := none) (by decide) rfl ?_
  intro p e s m args below meth c s₁ B hml hv
  obtain ⟨rfl, hsz, hP, hK, hD, hN⟩ := hv
  have hx := B.exec
  have hb := B.bytes
  have hr := B.returns
  have hts := atoms_spec (ws := wsX1_init) B.pre
  have hown : s.vm.findClass RX1 = some m.cls := findClass_of_methodNamed B.named
  have hin : meth.name = "<init>" := (name_of_methodNamed B.named B.method).1
  subst hsz
  have hS : va_S A s.heap s.heap [] := va_S.rf
  have hl := lv_entry ([.ref h0]) (n := 1) (Nat.le_of_ble_eq_true rfl)
  rw [lg_entry_eq]
  generalize (lg_sl ([.ref h0]) ++ List.replicate (1 - (lg_sl ([.ref h0])).length) Slot.unset).toArray = ls at hl ⊢
  have hl : lv_has ls 1 [(0, .ref h0)] := hl
  refine lv_aload_n hx hb dX1_init_0 rfl (lv_at hl 0 rfl) ?_
  refine W.objInit hx hb hown (hts (.methodLink RX1 1 objectInit) (by decide +kernel)) (hts (.instanceMethod objectInit) (by decide +kernel)) (hts (.code objectInit ⟨#[0xb1]⟩ 1 none) (List.mem_cons_of_mem _ (List.mem_append_left _ (List.mem_of_getElem? (i := 2) rfl)))) rfl (by rw [hml]; exact hl.1) rfl dX1_init_1 (Nat.le_of_ble_eq_true rfl) (Nat.le_of_ble_eq_true rfl) ?_
  refine W.eq (g2 := F0 m 4 ls []) rfl ?_
  refine lv_aload_n hx hb dX1_init_4 rfl (lv_at hl 0 rfl) ?_
  refine lv_bipush (v := nI 64) hx hb dX1_init_5 (by decide) ?_
  refine na_l hx hb (hts (.arrayClass .long) (by decide +kernel)) hK hP hD hS hA (Nat.le_of_ble_eq_true rfl) (Nat.le_of_ble_eq_true rfl) dX1_init_7 (fun q H hP hD hS => ?_)
  refine va_putF (ci := 1) (v := .ref q) (ty := .array .long) (C := RX1) (T := TX1) (N := 2) hx hb hts (by decide +kernel) tyX1 tyX1_ok nmX1 hown hK hP hD hS k (ls_ap hk) rfl 0 (by decide) (hts (.fieldLink RX1 9 "DecimalRegisters$Natural" "limbs" "[J") (by decide +kernel)) (fun _ h9 => h9) rfl hin rfl (by decide +kernel) rfl rfl (Nat.le_of_ble_eq_true rfl) dX1_init_9 (fun H locs hP hD hS => ?_)
  rw [ls_set hk] at hP hD
  exact W.vret hx hb hr (fun t ht hW => ⟨⟨q, rfl, trivial, by rw [nd_s0, nd_A0]; exact in_end hP hK hD ht hW⟩, hS.F ht⟩) hS.2.2 dX1_init_12
set_option maxHeartbeats 4000000 in
set_option maxRecDepth 100000 in
theorem c_X3_init (l : Launch) (D : va_G) (cA : Nat → ClassId) (A : Nat → Prop) (sz h0 : Nat) (ws : va_W) (k : Nat) (hk : ws[k]? = some (h0, .inr (3, [.null, .int (nI 0), .int (nI 0), .int (nI 0)]))) (hA : ∀ q, sz ≤ q → A q) : Met l yX3_init wsX3_init ({ frames := 1, cells := 1, slots := 800, locals := 12 }) (va_Pc [.ref h0] (in_B D cA A sz ws (fun _ => True))) (va_Qv (fun _ : Nat => True) (fun u t => in_E D cA A (ws.set k (h0, .inr (3, [.ref u, .int (nI 1), .int (nI 0), .int (nI 0)])) ++ [(u, .inl (cA 3, 800, .inl (fun _ => nI 0)))]) t) A) 1 800 A := by
  refine Met.ofW (cc := cX3_init) (maxL := 1) (ret := none) (by decide) rfl ?_
  intro p e s m args below meth c s₁ B hml hv
  obtain ⟨rfl, hsz, hP, hK, hD, hN⟩ := hv
  have hx := B.exec
  have hb := B.bytes
  have hr := B.returns
  have hts := atoms_spec (ws := wsX3_init) B.pre
  have hown : s.vm.findClass RX3 = some m.cls := findClass_of_methodNamed B.named
  have hin : meth.name = "<init>" := (name_of_methodNamed B.named B.method).1
  subst hsz
  have hS : va_S A s.heap s.heap [] := va_S.rf
  have hl := lv_entry ([.ref h0]) (n := 1) (Nat.le_of_ble_eq_true rfl)
  rw [lg_entry_eq]
  generalize (lg_sl ([.ref h0]) ++ List.replicate (1 - (lg_sl ([.ref h0])).length) Slot.unset).toArray = ls at hl ⊢
  have hl : lv_has ls 1 [(0, .ref h0)] := hl
  refine lv_aload_n hx hb dX3_init_0 rfl (lv_at hl 0 rfl) ?_
  refine W.objInit hx hb hown (hts (.methodLink RX3 1 objectInit) (by decide +kernel)) (hts (.instanceMethod objectInit) (by decide +kernel)) (hts (.code objectInit ⟨#[0xb1]⟩ 1 none) (List.mem_cons_of_mem _ (List.mem_append_left _ (List.mem_of_getElem? (i := 2) rfl)))) rfl (by rw [hml]; exact hl.1) rfl dX3_init_1 (Nat.le_of_ble_eq_true rfl) (Nat.le_of_ble_eq_true rfl) ?_
  refine W.eq (g2 := F0 m 4 ls []) rfl ?_
  refine lv_aload_n hx hb dX3_init_4 rfl (lv_at hl 0 rfl) ?_
  refine lv_sipush (v := nI 800) hx hb dX3_init_5 (by decide) ?_
  refine na_i hx hb (hts (.arrayClass .int) (by decide +kernel)) hK hP hD hS hA (Nat.le_of_ble_eq_true rfl) (Nat.le_of_ble_eq_true rfl) dX3_init_8 (fun q H hP hD hS => ?_)
  refine va_putF (ci := 3) (v := .ref q) (ty := .array .int) (C := RX3) (T := TX3) (N := 4) hx hb hts (by decide +kernel) tyX3 tyX3_ok nmX3 hown hK hP hD hS k (ls_ap hk) rfl 0 (by decide) (hts (.fieldLink RX3 7 "DecimalRegistersModel$Row" "d" "[I") (by decide +kernel)) (fun _ h9 => h9) rfl hin rfl (by decide +kernel) rfl rfl (Nat.le_of_ble_eq_true rfl) dX3_init_10 (fun H locs hP hD hS => ?_)
  rw [ls_set hk] at hP hD
  have hk2 : (ws.set k (h0, .inr (3, [.ref q, .int (nI 0), .int (nI 0), .int (nI 0)])))[k]? = some (h0, .inr (3, [.ref q, .int (nI 0), .int (nI 0), .int (nI 0)])) := by
    rw [List.getElem?_set_self (List.getElem?_eq_some_iff.mp hk).1]
  have hP : va_P D vwCl (ws.set k (h0, .inr (3, [.ref q, .int (nI 0), .int (nI 0), .int (nI 0)])) ++ [(q, .inl (cA 3, 800, .inl (fun _ => nI 0)))]) H := hP
  have hD : va_D A (ws.set k (h0, .inr (3, [.ref q, .int (nI 0), .int (nI 0), .int (nI 0)])) ++ [(q, .inl (cA 3, 800, .inl (fun _ => nI 0)))]) := hD
  refine lv_aload_n hx hb dX3_init_13 rfl (lv_at hl 0 rfl) ?_
  refine lv_iconst (v := nI 1) hx hb dX3_init_14 (by decide) ?_
  refine va_put (ci := 3) (v := .int (nI 1)) (ty := .int) (C := RX3) (T := TX3) (N := 4) hx hb hts (by decide +kernel) tyX3 tyX3_ok nmX3 hown hK hP hD hS k (ls_ap hk2) rfl 1 (by decide) (hts (.fieldLink RX3 13 "DecimalRegistersModel$Row" "n" "I") (by decide +kernel)) (fun _ h9 => h9) rfl (by decide +kernel) rfl rfl (by show 1 < 4; decide) dX3_init_15 (fun H locs hP hD hS => ?_)
  rw [ls_set hk2, List.set_set] at hP hD
  exact W.vret hx hb hr (fun t ht hW => ⟨⟨q, rfl, trivial, in_end hP hK hD ht hW⟩, hS.F ht⟩) hS.2.2 dX3_init_18
theorem arrV_cg {cI : ClassId} {N : Nat} {f g : Nat → Value} (h : ∀ j, j < N → f j = g j) : arrV cI N f = arrV cI N g := by
  have e : (fun j : Fin N => f j.val) = fun j => g j.val := funext fun j => h j.val j.isLt
  rw [arrV, arrV, e]
theorem at_q {D : va_G} {a n : Nat} {cI : ClassId} {f g : Nat → Option Nat} {H : Heap} (h : ∀ j, j < n → f j = g j) (ha : va_at D vwCl (a, .inl (cI, n, .inr (.inr (.inr (.inr f))))) H) : va_at D vwCl (a, .inl (cI, n, .inr (.inr (.inr (.inr g))))) H := by
  have e : arrV cI n (fun j => va_rf (f j)) = arrV cI n (fun j => va_rf (g j)) := arrV_cg (fun j hj => by rw [h j hj])
  have ha : H[a]? = some (arrV cI n (fun j => va_rf (f j))) := ha
  rw [e] at ha
  exact ha
