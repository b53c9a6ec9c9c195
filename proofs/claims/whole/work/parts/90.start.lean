/-! THE CLAIM OUT OF ONE WALK OF THE LAW'S BODY. Your part is whole_start (and what it stands on); all else here is the same for every law, but numbers. -/
def R_law : String := "DecimalRegistersLaw"
def lw_P (b : Addr) (xs : List Int32) (args : Array Value) (s : State) : Prop := args = #[.ref b] ∧ s.IntsAt b xs ∧ xs.length ≤ 3072 ∧ (Jvm.Cond.and given_1 narrow_1).before args s = true
def lw_Q (_ : Array Value) (s : State) (o : Outcome) (t : State) : Prop := o = .returned (some (.int 1)) ∧ Framed s o t [] 600000 7302250
def lw_Z (below : List Frame) (a : Array Value) (s : State) : State → Prop := fun t => ∃ o, t.status = .running ∧ Ended t below o ∧ lw_Q a s o t
/-- the law's own end, with 1 on the stack, nothing written that was there before, its room as the claim has it -/
theorem lw_ret {p : Program} {l : Launch} {e : Env} {s : State} {m : MethodId} {below : List Frame} {meth : Method} {c : Code} {b : Nat} (hx : p.tables.exec = Jvm.exec) (hb : c.code = code) (hr : meth.sig.returnType = ret) (hlocks : meth.locks = false) {pc : Nat} {H : Heap} {ls : Array Slot} (hdg : decode code pc = .ok (.ireturn, 1)) : W p l e room_1 s m #[Value.ref b] below meth c H [] 600000 7302250 (lw_Z below #[Value.ref b] s) (F0 m pc ls [.int 1]) := by
  intro T hT X
  obtain ⟨fs, hret, hrun, hended, hW, hframe⟩ := X.leave (v := some (.int 1)) (hlocks := hlocks) (fun h => by rw [hr] at h; cases h)
  have hmeth' : T.vm.method? m = some meth := X.method'
  refine ⟨T.setFrames fs, ?_, .returned (some (.int 1)), hrun, hended, rfl, ⟨_, rfl⟩, hW, hframe⟩
  jvm_step X.here [X.here.top, hx, hb, hdg, hmeth', hr, ret, narrow_b1]
  (try refine ⟨rfl, ?_⟩); (try refine ⟨rfl, ?_⟩)
  first | (intro acts; rw [hret _ acts rfl rfl rfl]) | rw [hret _ _ rfl rfl rfl]
  exact Steps.refl _
/-- what holds at the law's entry: the machine, the code, the tables' words (any of lw_tbl by 'hts w (by decide +kernel)'), the script of L ints xs at the cell b, what the Statement gives of the start (any of its parts by flat_of_before) -/
def lw_At (p : Program) (s : State) (m : MethodId) (meth : Method) (c : Code) (b L : Nat) (xs : Nat → Int32) : Prop :=
  p.tables.exec = Jvm.exec ∧ c.code = code ∧ meth.sig.returnType = ret ∧ c.maxLocals = 4 ∧ s.vm.findClass R_law = some m.cls ∧ (∀ w ∈ lw_tbl, w.before #[Value.ref b] s = true) ∧ va_X b L xs s s.heap ∧ b < s.heap.size ∧ meth.locks = false ∧ (Jvm.Cond.and given_1 narrow_1).before #[Value.ref b] s = true
set_option maxHeartbeats 4000000 in
set_option maxRecDepth 100000 in
theorem ws_T {s : State} {b : Nat} (hts0 : ∀ w ∈ lw_tbl, w.before #[Value.ref b] s = true) (hgv : (Jvm.Cond.and given_1 narrow_1).before #[Value.ref b] s = true) : ∃ tT, st_T tT (fun q : Nat => s.heap.size ≤ q) s s.heap := by
  have hs := flat_of_before _ hgv
  have hnA : ∀ a : Nat, a < s.heap.size → ¬ (fun q : Nat => s.heap.size ≤ q) a := fun a h q => absurd h (Nat.not_lt.mpr q)
  have g0 : (Cond.arrayOf (.static "DecimalRegisters$Natural" "TENS" "[J") .long).before #[Value.ref b] s = true := hs _ (by decide +kernel)
  have g1 : (Cond.eq (.length (.static "DecimalRegisters$Natural" "TENS" "[J")) (.int 6)).before #[Value.ref b] s = true := hs _ (by decide +kernel)
  have e0 : (Cond.eq (.elem (.static "DecimalRegisters$Natural" "TENS" "[J") (.int 0)) (.long 1)).before #[Value.ref b] s = true := hs _ (by decide +kernel)
  have e1 : (Cond.eq (.elem (.static "DecimalRegisters$Natural" "TENS" "[J") (.int 1)) (.long 10)).before #[Value.ref b] s = true := hs _ (by decide +kernel)
  have e2 : (Cond.eq (.elem (.static "DecimalRegisters$Natural" "TENS" "[J") (.int 2)) (.long 100)).before #[Value.ref b] s = true := hs _ (by decide +kernel)
  have e3 : (Cond.eq (.elem (.static "DecimalRegisters$Natural" "TENS" "[J") (.int 3)) (.long 1000)).before #[Value.ref b] s = true := hs _ (by decide +kernel)
  have e4 : (Cond.eq (.elem (.static "DecimalRegisters$Natural" "TENS" "[J") (.int 4)) (.long 10000)).before #[Value.ref b] s = true := hs _ (by decide +kernel)
  have e5 : (Cond.eq (.elem (.static "DecimalRegisters$Natural" "TENS" "[J") (.int 5)) (.long 100000)).before #[Value.ref b] s = true := hs _ (by decide +kernel)
  have hel : ∀ j : Nat, j < 6 → (Term.elem (.static "DecimalRegisters$Natural" "TENS" "[J") (.int (Int32.ofNat j))).eval #[Value.ref b] s none [] s = some (Value.long (lN (10 ^ j))) := by
    intro j hj
    rcases (show j = 0 ∨ j = 1 ∨ j = 2 ∨ j = 3 ∨ j = 4 ∨ j = 5 by omega) with rfl | rfl | rfl | rfl | rfl | rfl
    · exact va_eqtl e0
    · exact va_eqtl e1
    · exact va_eqtl e2
    · exact va_eqtl e3
    · exact va_eqtl e4
    · exact va_eqtl e5
  obtain ⟨tT, h1, h2⟩ := va_Tof (N := 6) (f := fun j => .long (lN (10 ^ j))) (by decide) g0 (va_eqt g1) hel hnA
  exact ⟨tT, va_Zof (hts0 (.laysStatic "DecimalRegisters$Natural" "TENS" "[J") (by decide +kernel)) (hts0 (.initialized "DecimalRegisters$Natural") (by decide +kernel)) h1 hnA, h2⟩
theorem ab_l {args : Array Value} {s : State} (h : (Cond.arrayClass .long).before args s = true) : ∃ a, ArrOfT s a .long ∧ va_RA s a .long := by
  obtain ⟨c, k, comp, f1, f2, f3⟩ := Cond.arrayClass_spec h
  exact ⟨c, fun N z => ⟨(fun k h => by cases h), k, f2, comp, f3⟩, f1⟩
theorem ab_c {args : Array Value} {s : State} (h : (Cond.arrayClass .char).before args s = true) : ∃ a, ArrOfT s a .char ∧ va_RA s a .char := by
  obtain ⟨c, k, comp, f1, f2, f3⟩ := Cond.arrayClass_spec h
  exact ⟨c, fun N z => ⟨(fun k h => by cases h), k, f2, comp, f3⟩, f1⟩
theorem ab_i {args : Array Value} {s : State} (h : (Cond.arrayClass .int).before args s = true) : ∃ a, ArrOfT s a .int ∧ va_RA s a .int := by
  obtain ⟨c, k, comp, f1, f2, f3⟩ := Cond.arrayClass_spec h
  exact ⟨c, fun N z => ⟨(fun k h => by cases h), k, f2, comp, f3⟩, f1⟩
theorem ab_q {C : String} {s : State} (h : va_AO C s) : ∃ a, ArrOfT s a (.object C) ∧ va_RA s a (.object C) := by
  obtain ⟨comp, c, k, h1, h2, h3, h4, h5⟩ := Cond.arrayOver_spec h
  exact ⟨c, fun N z => ⟨(fun k h => by cases h), k, h3, comp, h4⟩, k, comp, h3, h4, h1, h5⟩
set_option maxHeartbeats 4000000 in
set_option maxRecDepth 100000 in
theorem ws_K {s : State} {b : Nat} (hts : ∀ w ∈ wsL_law, w.before #[Value.ref b] s = true) (n1 : va_AO RX0 s) (n2 : va_AO RX3 s) (g0 : (Cond.arrayClass .long).before #[Value.ref b] s = true) (g2 : (Cond.arrayClass .char).before #[Value.ref b] s = true) (g3 : (Cond.arrayClass .int).before #[Value.ref b] s = true) (i0 : (Cond.instantiable RX0 3).before #[Value.ref b] s = true) (i1 : (Cond.instantiable RX1 2).before #[Value.ref b] s = true) (i2 : (Cond.instantiable RX2 7).before #[Value.ref b] s = true) (i3 : (Cond.instantiable RX3 4).before #[Value.ref b] s = true) (i4 : (Cond.instantiable RX4 7).before #[Value.ref b] s = true) : ∃ (D : va_G) (cA : Nat → ClassId), va_K D vwCl (ty_s cA) s := by
  obtain ⟨c0, j0, k0⟩ := u_known (C := RX0) (T := TX0) (N := 3) (n := 3) hts inlX0 i0
  obtain ⟨c1, j1, k1⟩ := u_known (C := RX1) (T := TX1) (N := 2) (n := 2) hts inlX1 i1
  obtain ⟨c2, j2, k2⟩ := u_known (C := RX2) (T := TX2) (N := 7) (n := 7) hts inlX2 i2
  obtain ⟨c3, j3, k3⟩ := u_known (C := RX3) (T := TX3) (N := 4) (n := 4) hts inlX3 i3
  obtain ⟨c4, j4, k4⟩ := u_known (C := RX4) (T := TX4) (N := 7) (n := 7) hts inlX4 i4
  obtain ⟨a0, f0⟩ := ab_l g0
  obtain ⟨a1, f1⟩ := ab_q n1
  obtain ⟨a2, f2⟩ := ab_c g2
  obtain ⟨a3, f3⟩ := ab_i g3
  obtain ⟨a4, f4⟩ := ab_q n2
  refine ⟨(fun k => if k = 0 then c0 else if k = 1 then c1 else if k = 2 then c2 else if k = 3 then c3 else c4, fun k => if k = 0 then j0 else if k = 1 then j1 else if k = 2 then j2 else if k = 3 then j3 else j4), fun k => if k = 0 then a0 else if k = 1 then a1 else if k = 2 then a2 else if k = 3 then a3 else a4, ?_, ?_⟩
  · intro k q hq
    match k, hq with
    | 0, hq => cases hq; exact k0
    | 1, hq => cases hq; exact k1
    | 2, hq => cases hq; exact k2
    | 3, hq => cases hq; exact k3
    | 4, hq => cases hq; exact k4
    | k + 5, hq => simp at hq
  · intro k q hq
    match k, hq with
    | 0, hq => cases hq; exact f0
    | 1, hq => cases hq; exact f1
    | 2, hq => cases hq; exact f2
    | 3, hq => cases hq; exact f3
    | 4, hq => cases hq; exact f4
    | k + 5, hq => simp [ty_s] at hq
theorem in_preL {D : va_G} {cA : Nat → ClassId} {A : Nat → Prop} {ws : va_W} {NW : State → Prop} {s : State} {H : Heap} {As : List Value} (hN : ∀ (U : State) (g : JFrame) (mk : MethodId) (a : Array Value), NW U → NW (U.calling g mk a)) (hP : va_P D vwCl ws H) (hK : va_K D vwCl (ty_s cA) s) (hD : va_D A ws) (hNW : ∀ U : State, U.heap = H → s.WarmedH U.vm → NW U) : PreS s H (va_Pc As (in_B D cA A H.size ws NW)) As :=
  ⟨in_blind hN, fun U hU hW => ⟨rfl, by rw [hU], by rw [hU]; exact hP, va_K.moved hW.alike hK, hD, hNW U hU hW⟩⟩
theorem nw2_calls {tT : Nat} {A : Nat → Prop} (U : State) (g : JFrame) (mk : MethodId) (a : Array Value) (h : nw2 tT A U) : nw2 tT A (U.calling g mk a) :=
  ⟨va_Nw.same rfl rfl h.1, va_Nw.same rfl rfl h.2.1, va_Nw.same rfl rfl h.2.2.1, va_AO.moved (u := U) (U := U.calling g mk a) (Vm.Alike.refl U.vm) h.2.2.2.1, st_T.moved (u := U) (U := U.calling g mk a) (Vm.Alike.refl U.vm) h.2.2.2.2⟩
theorem nw4_calls (U : State) (g : JFrame) (mk : MethodId) (a : Array Value) (h : nw4 U) : nw4 (U.calling g mk a) :=
  ⟨va_Nw.same rfl rfl h.1, va_AO.moved (u := U) (U := U.calling g mk a) (Vm.Alike.refl U.vm) h.2⟩
theorem lw_spl {D : va_G} {A : Nat → Prop} {N : Nat} {ad : Nat → Nat} {g : Nat → va_E} {x : Nat × va_E} {H : Heap} (h : va_P D vwCl (wm_W N ad g ++ [x]) H) (hD : va_D A (wm_W N ad g ++ [x])) : va_P D vwCl (wm_W N ad g) H ∧ va_P D vwCl [x] H ∧ va_D A [x] ∧ ∀ i, i < N → ad i ≠ x.1 := by
  have hlen : (wm_W N ad g).length = N := by simp [wm_W]
  have hlast : (wm_W N ad g ++ [x])[N]? = some x := by
    rw [List.getElem?_append_right (by omega), hlen, Nat.sub_self]; rfl
  have hleft : ∀ (k : Nat) (q : Nat × va_E), (wm_W N ad g)[k]? = some q → (wm_W N ad g ++ [x])[k]? = some q := fun k q hq => by
    rw [List.getElem?_append_left (List.getElem?_eq_some_iff.mp hq).1]; exact hq
  have hone : ∀ (k : Nat) (q : Nat × va_E), [x][k]? = some q → k = 0 ∧ q = x := fun k q hq => by
    match k, hq with
    | 0, hq => cases hq; exact ⟨rfl, rfl⟩
    | k + 1, hq => simp at hq
  refine ⟨fun k q hq => h k q (hleft k q hq), fun k q hq => ?_, ⟨fun i j p q hi hj _ => ?_, fun k q hq => ?_⟩, fun i hi he => ?_⟩
  · obtain ⟨-, rfl⟩ := hone k q hq; exact h N _ hlast
  · rw [(hone i p hi).1, (hone j q hj).1]
  · obtain ⟨-, rfl⟩ := hone k q hq; exact hD.2 N _ hlast
  · have := hD.1 i N (ad i, g i) x (hleft i _ (wm_at hi rfl)) hlast he
    omega
theorem lw_new {D : va_G} {N M : Nat} {ad ad2 : Nat → Nat} {g g2 : Nat → va_E} {q4 : Nat} {E : va_E} {H H1 : Heap} (hP1 : va_P D vwCl (wm_W N ad g) H) (hne : ∀ i, i < N → ad i ≠ q4) (hk : ∀ q : Nat, q < H.size → ¬ va_A [(q4, E)] H.size q → H1[q]? = H[q]?) (hD2 : va_D (va_A [(q4, E)] H.size) (wm_W M ad2 g2)) : va_P D vwCl (wm_W N ad g) H1 ∧ ∀ i j, i < N → j < M → ad i ≠ ad2 j := by
  have hlt : ∀ i, i < N → ad i < H.size := fun i hi => (hP1 i _ (wm_at hi rfl)).lt
  have hout : ∀ i, i < N → ¬ va_A [(q4, E)] H.size (ad i) := fun i hi h => h.elim (fun ⟨k, e, w⟩ => by
    match k, w with
    | 0, w => exact hne i hi (congrArg Prod.fst (Option.some.inj w)).symm
    | k + 1, w => simp at w) (fun w => absurd (hlt i hi) (Nat.not_lt.mpr w))
  refine ⟨hP1.kept (fun k x hx => ?_), fun i j hi hj he => ?_⟩
  · obtain ⟨h1, rfl⟩ := wm_inv hx
    exact hk _ (hlt k h1) (hout k h1)
  · exact hout i hi (by rw [he]; exact hD2.2 j (ad2 j, g2 j) (wm_at hj rfl))
theorem sf0_r (i : Nat) : sf0 (2 + i) = (false, 0, 0) := by rw [sf0, if_neg (by omega)]
theorem sf0_ci : ci sf0 0 0 := by
  refine ⟨Nat.pow_pos (by decide), Nat.pow_pos (by decide), Nat.pow_pos (by decide), rfl, fun i hi => ?_⟩
  show rk (sf0 (2 + i))
  rw [sf0_r]
  exact ⟨Nat.pow_pos (by decide), by decide, by decide, fun h => by cases h⟩
theorem w0_mr : mr (fun _ => w0_) (fun i => sf0 (2 + i)) := by
  intro i hi
  show rv w0_.1 w0_.2.1 (sf0 (2 + i)).2.1 ∧ w0_.2.2 = ((sf0 (2 + i)).1, (sf0 (2 + i)).2.2)
  rw [sf0_r]
  exact ⟨⟨(nd_p1 (by decide)).symm, fun j hj => by show nI 0 = nI (0 / 10 ^ j % 10); rw [Nat.zero_div]⟩, rfl⟩
set_option maxHeartbeats 4000000 in
set_option maxRecDepth 100000 in
/-- YOUR PART: from the entry, for every script of at most 3072 ints, the law comes to its end with true -/
theorem whole_start {p : Program} {e : Env} {s : State} {m : MethodId} {below : List Frame} {meth : Method} {c : Code} (l : Launch) {b L : Nat} {xs : Nat → Int32} (hL : L ≤ 3072) (C0 : lw_At p s m meth c b L xs) : W p l e room_1 s m #[Value.ref b] below meth c s.heap [] 0 0 (lw_Z below #[Value.ref b] s) (entryFrame m ([Value.ref b] : List Value).toArray 4) := by
  obtain ⟨hx, hb, hr, hml, hown0, hts0, hX, hbl, hlocks, hgv⟩ := id C0
  have hown : s.vm.findClass RL = some m.cls := hown0
  have hts : ∀ w ∈ wsL_law, w.before #[Value.ref b] s = true := fun w h => hts0 w (wsL_law_in w h)
  have hA : ∀ q : Nat, s.heap.size ≤ q → (fun q : Nat => s.heap.size ≤ q) q := fun _ h => h
  obtain ⟨tT, hT⟩ := ws_T hts0 hgv
  have n1 : va_Nw (.methodLinkNest RX2 15 yX0_init "DecimalRegisters") s := va_Nw.of rfl (hts0 _ (by decide +kernel))
  have n2 : va_Nw (.methodLinkNest RX2 33 yX1_init "DecimalRegisters") s := va_Nw.of rfl (hts0 _ (by decide +kernel))
  have n3 : va_Nw (.methodLinkNest RX0 9 yX1_init "DecimalRegisters") s := va_Nw.of rfl (hts0 _ (by decide +kernel))
  have n4 : va_Nw (.methodLinkNest RX4 15 yX3_init "DecimalRegistersModel") s := va_Nw.of rfl (hts0 _ (by decide +kernel))
  have n5 : va_AO RX0 s := va_AO.of (hts0 (.arrayOver (.object RX0)) (by decide +kernel))
  have n6 : va_AO RX3 s := va_AO.of (hts0 (.arrayOver (.object RX3)) (by decide +kernel))
  obtain ⟨D, cA, hK⟩ := ws_K hts n5 n6 (hts0 _ (by decide +kernel)) (hts0 _ (by decide +kernel)) (hts0 _ (by decide +kernel)) (hts0 _ (by decide +kernel)) (hts0 _ (by decide +kernel)) (hts0 _ (by decide +kernel)) (hts0 _ (by decide +kernel)) (hts0 _ (by decide +kernel))
  have hS : va_S (fun q : Nat => s.heap.size ≤ q) s.heap s.heap [] := va_S.rf
  have hP : va_P D vwCl [] s.heap := fun k q h => by simp at h
  have hD : va_D (fun q : Nat => s.heap.size ≤ q) [] := ⟨fun i j p q h => by simp at h, fun k q h => by simp at h⟩
  have hl := lv_entry ([.ref b]) (n := 4) (Nat.le_of_ble_eq_true rfl)
  rw [lg_entry_eq]
  generalize (lg_sl ([.ref b]) ++ List.replicate (4 - (lg_sl ([.ref b])).length) Slot.unset).toArray = ls at hl ⊢
  have hl : lv_has ls 4 [(0, .ref b)] := hl
  refine va_new (ci := 2) (fs := [.null, .null, .null, .null, .null, .null, .int (nI 0)]) (C := RX2) (T := TX2) (N := 7) hx hb hts inlX2 tyX2 tyX2_ok hown (hts (.classLink RL 7 RX2) (by decide +kernel)) (hts (.instantiable RX2 7) (by decide +kernel)) (hts (.initialized RX2) (by decide +kernel)) hK hP hD hS hA rfl (fun j hj => by rcases (show j = 0 ∨ j = 1 ∨ j = 2 ∨ j = 3 ∨ j = 4 ∨ j = 5 ∨ j = 6 by omega) with rfl | rfl | rfl | rfl | rfl | rfl | rfl <;> rfl) (Nat.le_of_ble_eq_true rfl) (Nat.le_of_ble_eq_true rfl) dL_law_0 (fun q2 H hP hD hS => ?_)
  have hP : va_P D vwCl [(q2, .inr (2, [.null, .null, .null, .null, .null, .null, .int (nI 0)]))] H := hP
  have hD : va_D (fun q : Nat => s.heap.size ≤ q) [(q2, .inr (2, [.null, .null, .null, .null, .null, .null, .int (nI 0)]))] := hD
  refine lv_dup hx hb dL_law_3 rfl ?_
  have hF : ∀ q, va_A [(q2, .inr (2, [.null, .null, .null, .null, .null, .null, .int (nI 0)]))] H.size q → (fun q : Nat => s.heap.size ≤ q) q := fun q h => h.elim (fun ⟨k, e, w⟩ => hD.2 k (q, e) w) (fun w => hA q (Nat.le_trans hS.1 w))
  refine va_callv (va_runI (As := []) (rest := [.ref q2]) ⟨hx, hb, hml, hown, hts⟩ (c_X2_init l D cA tT (va_A [(q2, .inr (2, [.null, .null, .null, .null, .null, .null, .int (nI 0)]))] H.size) H.size q2 (fun q h => Or.inr h)) (cwI 0 hts gL_law_X2_init rfl rfl rfl (hts (.initialized RX2) (by decide +kernel)) (hts (.methodLink RL 9 yX2_init) (by decide +kernel)) (hts (.instanceMethod yX2_init) (by decide +kernel)) rfl (by decide +kernel) ⟨(Nat.le_of_ble_eq_true rfl), (Nat.le_of_ble_eq_true rfl)⟩) (in_preL nw2_calls hP hK ⟨hD.1, fun k q h => Or.inl ⟨k, q.2, h⟩⟩ (fun U hU hW => ⟨va_Nw.warmM hW n1, va_Nw.warmM hW n2, va_Nw.warmM hW n3, va_AO.moved hW.alike n5, by rw [hU]; exact ((hT.kept hS.2.1).narrow hF).moved hW.alike⟩)) rfl rfl hl.1 rfl (lv_room (Nat.le_of_ble_eq_true rfl)) dL_law_4 ⟨(Nat.le_of_ble_eq_true rfl), (Nat.le_of_ble_eq_true rfl)⟩) hS (fun q _ h => hF q h) hF (fun ad1 t H1 locs ht hvm hw hB hz1 hk1 hS1 => ?_)
  obtain ⟨hP1, hD1a⟩ := wd_back ht hB
  have hD1 : va_D (fun q : Nat => s.heap.size ≤ q) (wm_W 31 ad1 (cg cA ad1 sf0 0 0 (fun _ => nI 0) 0)) := ⟨hD1a.1, fun k q h => hF _ (hD1a.2 k q h)⟩
  have hw1 : ad1 0 = q2 := hw
  clear hF hP hD hB hk1 hz1 hvm ht hS hD1a hw
  subst hw1
  refine lv_astore_n (lv' := [(1, .ref (ad1 0)), (0, .ref b)]) hx hb dL_law_7 rfl hl (by decide) rfl (fun ls hl => ?_)
  refine va_new (ci := 4) (fs := [.null, .null, .null, .null, .null, .null, .int (nI 0)]) (C := RX4) (T := TX4) (N := 7) hx hb hts inlX4 tyX4 tyX4_ok hown (hts (.classLink RL 10 RX4) (by decide +kernel)) (hts (.instantiable RX4 7) (by decide +kernel)) (hts (.initialized RX4) (by decide +kernel)) hK hP1 hD1 hS1 hA rfl (fun j hj => by rcases (show j = 0 ∨ j = 1 ∨ j = 2 ∨ j = 3 ∨ j = 4 ∨ j = 5 ∨ j = 6 by omega) with rfl | rfl | rfl | rfl | rfl | rfl | rfl <;> rfl) (Nat.le_of_ble_eq_true rfl) (Nat.le_of_ble_eq_true rfl) dL_law_8 (fun q4 H hP hD hS => ?_)
  obtain ⟨hP1b, hP4, hD4, hne⟩ := lw_spl hP hD
  clear hP1
  refine lv_dup hx hb dL_law_11 rfl ?_
  have hF : ∀ q, va_A [(q4, .inr (4, [.null, .null, .null, .null, .null, .null, .int (nI 0)]))] H.size q → (fun q : Nat => s.heap.size ≤ q) q := fun q h => h.elim (fun ⟨k, e, w⟩ => hD4.2 k (q, e) w) (fun w => hA q (Nat.le_trans hS.1 w))
  refine va_callv (va_runI (As := []) (rest := [.ref q4]) ⟨hx, hb, hml, hown, hts⟩ (c_X4_init l D cA (va_A [(q4, .inr (4, [.null, .null, .null, .null, .null, .null, .int (nI 0)]))] H.size) H.size q4 (fun q h => Or.inr h)) (cwI 0 hts gL_law_X4_init rfl rfl rfl (hts (.initialized RX4) (by decide +kernel)) (hts (.methodLink RL 12 yX4_init) (by decide +kernel)) (hts (.instanceMethod yX4_init) (by decide +kernel)) rfl (by decide +kernel) ⟨(Nat.le_of_ble_eq_true rfl), (Nat.le_of_ble_eq_true rfl)⟩) (in_preL nw4_calls hP4 hK ⟨hD4.1, fun k q h => Or.inl ⟨k, q.2, h⟩⟩ (fun U hU hW => ⟨va_Nw.warmM hW n4, va_AO.moved hW.alike n6⟩)) rfl rfl hl.1 rfl (lv_room (Nat.le_of_ble_eq_true rfl)) dL_law_12 ⟨(Nat.le_of_ble_eq_true rfl), (Nat.le_of_ble_eq_true rfl)⟩) hS (fun q _ h => hF q h) hF (fun ad2 t H2 locs2 ht hvm hw hB hz1 hk1 hS2 => ?_)
  obtain ⟨hP2, hD2a⟩ := wd_back ht hB
  obtain ⟨hP1, hap⟩ := lw_new hP1b hne hk1 hD2a
  have hD2 : va_D (fun q : Nat => s.heap.size ≤ q) (wm_W 23 ad2 (mg cA ad2 w0_ w0_ w0_ w0_ (fun _ => w0_) (fun _ => nI 0) 0)) := ⟨hD2a.1, fun k q h => hF _ (hD2a.2 k q h)⟩
  have hw1 : ad2 0 = q4 := hw
  clear hF hP hD hP4 hD4 hne hB hk1 hz1 hvm ht hS hP1b hD2a hw
  subst hw1
  refine lv_astore_n (lv' := [(2, .ref (ad2 0)), (1, .ref (ad1 0)), (0, .ref b)]) hx hb dL_law_15 rfl hl (by decide) rfl (fun ls hl => ?_)
  refine lv_iconst (v := nI 0) hx hb dL_law_16 (by decide) ?_
  refine lv_istore_n (lv' := [(3, .int (nI 0)), (2, .ref (ad2 0)), (1, .ref (ad1 0)), (0, .ref b)]) hx hb dL_law_17 rfl hl (by decide) rfl (fun ls hl => ?_)
  refine lw_loop ⟨hx, hb, hml, hown, hts, hX, hbl, hK, hT, wm_D hD1, wm_D hD2, hap⟩ (by omega) (fun H locs ls hS => ?_) (L + 1) 0 (Nat.zero_le L) (by omega) H2 locs2 sf0 0 0 (fun _ => nI 0) w0_ w0_ w0_ w0_ (fun _ => w0_) (fun _ => nI 0) [] ⟨sf0_ci, w0_mr, tr_nil _, tr_nil _, Nat.zero_le _, hP1, hP2, hS2⟩ ls (lv_sub hl [0, 3, 2, 1] rfl)
  refine lv_iconst (v := 1) hx hb dL_law_874 (by decide) ?_
  refine va_forget (fun q hq => hS.2.2 q hq) ?_
  refine W.widen (k := 600000) (n := 7302250) (by decide) (by decide) ?_
  exact lw_ret hx hb hr hlocks dL_law_875
