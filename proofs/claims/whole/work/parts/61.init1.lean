set_option maxHeartbeats 4000000 in
set_option maxRecDepth 100000 in
theorem c_X0_init (l : Launch) (D : va_G) (cA : Nat → ClassId) (A : Nat → Prop) (sz h0 : Nat) (ws : va_W) (k : Nat) (hk : ws[k]? = some (h0, .inr (0, [.null, .int (nI 0), .int (nI 0)]))) (hA : ∀ q, sz ≤ q → A q) : Met l yX0_init wsX0_init ({ frames := 2, cells := 2, slots := 66, locals := 32 }) (va_Pc [.ref h0] (in_B D cA A sz ws (fun U => va_Nw (.methodLinkNest RX0 9 yX1_init "DecimalRegisters") U))) (va_Qv (fun _ : Nat × Nat => True) (fun u t => in_E D cA A (ws.set k (h0, .inr (0, [.ref u.1, .int (nI 0), .int (nI 0)])) ++ [(u.1, .inr (1, [.ref u.2, .int (nI (nd_s 0))])), (u.2, .inl (cA 0, 64, .inr (.inl (nd_A 0))))]) t) A) 2 66 A := by
  refine Met.ofW (cc := cX0_init) (maxL := 1) (ret := none) (by decide) rfl ?_
  intro p e s m args below meth c s₁ B hml hv
  obtain ⟨rfl, hsz, hP, hK, hD, hN⟩ := hv
  have hx := B.exec
  have hb := B.bytes
  have hr := B.returns
  have hts := atoms_spec (ws := wsX0_init) B.pre
  have hown : s.vm.findClass RX0 = some m.cls := findClass_of_methodNamed B.named
  have hin : meth.name = "<init>" := (name_of_methodNamed B.named B.method).1
  subst hsz
  have hS : va_S A s.heap s.heap [] := va_S.rf
  have hl := lv_entry ([.ref h0]) (n := 1) (Nat.le_of_ble_eq_true rfl)
  rw [lg_entry_eq]
  generalize (lg_sl ([.ref h0]) ++ List.replicate (1 - (lg_sl ([.ref h0])).length) Slot.unset).toArray = ls at hl ⊢
  have hl : lv_has ls 1 [(0, .ref h0)] := hl
  refine lv_aload_n hx hb dX0_init_0 rfl (lv_at hl 0 rfl) ?_
  refine W.objInit hx hb hown (hts (.methodLink RX0 1 objectInit) (by decide +kernel)) (hts (.instanceMethod objectInit) (by decide +kernel)) (hts (.code objectInit ⟨#[0xb1]⟩ 1 none) (List.mem_cons_of_mem _ (List.mem_append_left _ (List.mem_append_left _ (List.mem_of_getElem? (i := 2) rfl))))) rfl (by rw [hml]; exact hl.1) rfl dX0_init_1 (Nat.le_of_ble_eq_true rfl) (Nat.le_of_ble_eq_true rfl) ?_
  refine W.eq (g2 := F0 m 4 ls []) rfl ?_
  refine lv_aload_n hx hb dX0_init_4 rfl (lv_at hl 0 rfl) ?_
  refine va_new (ci := 1) (fs := [.null, .int (nI 0)]) (C := RX1) (T := TX1) (N := 2) hx hb hts (by decide +kernel) tyX1 tyX1_ok hown (hts (.classLink RX0 7 RX1) (by decide +kernel)) (hts (.instantiable RX1 2) (by decide +kernel)) (hts (.initialized RX1) (by decide +kernel)) hK hP hD hS hA rfl (fun j hj => by rcases (show j = 0 ∨ j = 1 by omega) with rfl | rfl <;> rfl) (Nat.le_of_ble_eq_true rfl) (Nat.le_of_ble_eq_true rfl) dX0_init_5 (fun q H hP hD hS => ?_)
  refine lv_dup hx hb dX0_init_8 rfl ?_
  refine va_callv (va_runIN (As := []) (rest := [.ref q, .ref h0]) ⟨hx, hb, hml, hown, hts⟩ (c_X1_init l D cA A H.size q (ws ++ [(q, .inr (1, [.null, .int (nI 0)]))]) ws.length ls_lst (fun q9 h9 => hA q9 (Nat.le_trans hS.1 h9))) ⟨va_cnB 0 hts gX0_init_X1_init_n9 rfl rfl rfl hN (hts (.initialized RX1) (by decide +kernel)) (by decide +kernel) ⟨(Nat.le_of_ble_eq_true rfl), (Nat.le_of_ble_eq_true rfl)⟩, rfl, hts (.instanceMethod yX1_init) (by decide +kernel)⟩ (in_pre (fun _ _ _ _ _ => trivial) hP hK hD hS (fun _ _ _ => trivial)) rfl rfl hl.1 rfl (lv_room (Nat.le_of_ble_eq_true rfl)) dX0_init_9 ⟨(Nat.le_of_ble_eq_true rfl), (Nat.le_of_ble_eq_true rfl)⟩) hS id_2 id_1 (fun q1 t H locs ht hvm hw hB hz1 hk1 hS => ?_)
  obtain ⟨hP, hD⟩ := in_back ht hB
  rw [ls_slst] at hP hD
  have hk2 : (ws ++ [(q, .inr (1, [.ref q1, .int (nI (nd_s 0))]))] ++ [(q1, .inl (cA 0, 64, .inr (.inl (nd_A 0))))])[k]? = some (h0, .inr (0, [.null, .int (nI 0), .int (nI 0)])) := ls_ap (ls_ap hk)
  refine va_putF (ci := 0) (v := .ref q) (ty := .object "DecimalRegisters$Natural") (C := RX0) (T := TX0) (N := 3) hx hb hts (by decide +kernel) tyX0 tyX0_ok nmX0 hown hK hP hD hS k hk2 rfl 0 (by decide) (hts (.fieldLink RX0 10 "DecimalRegisters$Decimal" "digits" "LDecimalRegisters$Natural;") (by decide +kernel)) (fun _ h9 => h9) rfl hin rfl (by decide +kernel) rfl rfl (Nat.le_of_ble_eq_true rfl) dX0_init_12 (fun H locs hP hD hS => ?_)
  rw [ls_set (ls_ap hk), ls_set hk, List.append_assoc] at hP hD
  exact W.vret hx hb hr (fun t ht hW => ⟨⟨(q, q1), rfl, trivial, in_end hP hK hD ht hW⟩, hS.F ht⟩) hS.2.2 dX0_init_15
