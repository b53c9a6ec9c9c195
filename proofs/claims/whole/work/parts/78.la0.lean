section LW
variable {p : Program} {l : Launch} {e : Env} {R : Room} {s : State} {m : MethodId} {args : Array Value} {below : List Frame} {meth : Method} {c : Code} {H H0 : Heap} {locs : List Loc} {cells slots : Nat} {Q : State → Prop} {cc : ByteArray} {pc : Nat} {ls : Array Slot} {rest : List Value}
/-- an int of the script, k places behind i -/
theorem la_arg {A : Nat → Prop} {b L i : Nat} {xs : Nat → Int32} {kz : Int} {lv : List (Nat × Value)} (k : Nat) (hx : p.tables.exec = Jvm.exec) (hb : c.code = cc) (hX : va_X b L xs s s.heap) (hbl : b < s.heap.size) (hbA : ¬ A b) (hS : va_S A s.heap H locs) (hl : lv_has ls 4 lv) (h0 : lv[1]? = some (0, .ref b)) (h3 : lv[0]? = some (3, .int (nI i)))
    (d0 : decode cc pc = .ok (.aload_n 0, 1)) (d1 : decode cc (pc + 1) = .ok (.iload_n 3, 1)) (d2 : decode cc (pc + 1 + 1) = .ok (.iconst kz, 1)) (d3 : decode cc (pc + 1 + 1 + 1) = .ok (.iadd, 1)) (d4 : decode cc (pc + 1 + 1 + 1 + 1) = .ok (.iaload, 1)) (hk : Int32.ofInt kz = nI k) (hi : i + k < L) (hL : L < 2 ^ 31)
    (kk : W p l e R s m args below meth c H locs cells slots Q (F0 m (pc + 1 + 1 + 1 + 1 + 1) ls (.int (iZ (xs (i + k)).toInt) :: rest))) : W p l e R s m args below meth c H locs cells slots Q (F0 m pc ls rest) := by
  refine lv_aload_n hx hb d0 rfl (lv_at hl 1 h0) ?_
  refine lv_iload_n hx hb d1 rfl (lv_at hl 0 h3) ?_
  refine lv_iconst (v := nI k) hx hb d2 hk ?_
  refine lv_iadd hx hb d3 ?_
  refine tp_i (y := nI (i + k)) (nI_add _ _) ?_
  refine va_sld hx hb hX hbl hbA hS (vp_in_nI hi hL) d4 ?_
  refine tp_i (y := iZ (xs (i + k)).toInt) ?_ kk
  rw [nI_clamp (by omega), iZ_self]
end LW
theorem xb1 (x : Int32) : -2147483648 ≤ x.toInt := by have := Int32.le_toInt x; omega
theorem xb2 (x : Int32) : x.toInt < 2147483648 := by have := Int32.toInt_lt x; omega
/-- a long of two ints -/
def vv (a b : Int) : Int64 := (iZ a).toInt64 <<< ((nI 32).toInt64 &&& 63) ||| ((iZ b).toInt64 &&& 4294967295)
theorem lgc (x : Int64) : lg_cmp x x = 0 := by
  have h : ¬ x > x := by
    intro h
    exact Int.lt_irrefl _ (Int64.lt_iff_toInt_lt.mp h)
  simp [lg_cmp, h]
theorem lw_sub {A : Nat → Prop} {N : Nat} {ad : Nat → Nat} {g : Nat → va_E} {H0 H : Heap} {locs : List Loc} (hD : va_D A (wm_W N ad g)) (hS : va_S A H0 H locs) (hA : ∀ q, H0.size ≤ q → A q) : ∀ q, va_A (wm_W N ad g) H.size q → A q := fun q h => h.elim (fun ⟨k, e, w⟩ => hD.2 k (q, e) w) (fun w => hA q (Nat.le_trans hS.1 w))
theorem lw_preV {D : va_G} {cA : Nat → ClassId} {tT : Nat} {A : Nat → Prop} {N : Nat} {ad : Nat → Nat} {g : Nat → va_E} {s : State} {H : Heap} {locs : List Loc} {As : List Value} {ci k : Nat} {fs : List Value} {q : vw_C} (hP : va_P D vwCl (wm_W N ad g) H) (hK : va_K D vwCl (ty_s cA) s) (hD : va_D A (wm_W N ad g)) (hT : st_T tT A s s.heap) (hS : va_S A s.heap H locs) (hA : ∀ q, s.heap.size ≤ q → A q) (hk : k < N) (he : g k = .inr (ci, fs)) (hc : vwCl[ci]? = some q) : PreV s H q.1 (ad k) (va_Pc (.ref (ad k) :: As) (wd_B D cA tT (va_A (wm_W N ad g) H.size) N ad H.size g)) As :=
  ⟨wd_blind, va_recv hK hP hc (wm_at hk he), fun U hU hW => ⟨rfl, by rw [hU], by rw [hU]; exact hP, va_K.moved hW.alike hK, ⟨hD.1, fun k q h => Or.inl ⟨k, q.2, h⟩⟩, by rw [hU]; exact ((hT.kept hS.2.1).narrow (lw_sub hD hS hA)).moved hW.alike⟩⟩
theorem lw_kept {D : va_G} {N1 N2 : Nat} {ad1 ad2 : Nat → Nat} {g1 g2 : Nat → va_E} {H H1 : Heap} (hP2 : va_P D vwCl (wm_W N2 ad2 g2) H) (hk : ∀ q : Nat, q < H.size → ¬ va_A (wm_W N1 ad1 g1) H.size q → H1[q]? = H[q]?) (hap : ∀ i j, i < N1 → j < N2 → ad1 i ≠ ad2 j) : va_P D vwCl (wm_W N2 ad2 g2) H1 := hP2.kept (fun k x hx => by
  obtain ⟨h1, rfl⟩ := wm_inv hx
  have hlt : ad2 k < H.size := (hP2 k _ hx).lt
  refine hk _ hlt (fun h => h.elim (fun ⟨i, e, w⟩ => ?_) (fun w => absurd hlt (Nat.not_lt.mpr w)))
  obtain ⟨h2, e2⟩ := wm_inv w
  exact hap i k h2 h1 (congrArg Prod.fst e2).symm)
/-- the law's surroundings: the machine, the words, the script, the two objects apart -/
def lw_C (p : Program) (s : State) (m : MethodId) (c : Code) (b L : Nat) (xs : Nat → Int32) (D : va_G) (cA : Nat → ClassId) (tT : Nat) (ad1 ad2 : Nat → Nat) : Prop :=
  p.tables.exec = Jvm.exec ∧ c.code = cL_law ∧ c.maxLocals = 4 ∧ s.vm.findClass RL = some m.cls ∧ (∀ w ∈ wsL_law, w.before #[Value.ref b] s = true) ∧ va_X b L xs s s.heap ∧ b < s.heap.size ∧ va_K D vwCl (ty_s cA) s ∧ st_T tT (fun q : Nat => s.heap.size ≤ q) s s.heap ∧
  va_D (fun q : Nat => s.heap.size ≤ q) (wm_W 31 ad1 (fun _ => .inr (0, []))) ∧ va_D (fun q : Nat => s.heap.size ≤ q) (wm_W 23 ad2 (fun _ => .inr (0, []))) ∧ ∀ i j, i < 31 → j < 23 → ad1 i ≠ ad2 j
/-- the two objects agree -/
def lw_I (s : State) (D : va_G) (cA : Nat → ClassId) (ad1 ad2 : Nat → Nat) (H : Heap) (locs : List Loc) (sf : Nat → Bool × Nat × Int) (x y : Nat) (tx : Nat → Int32) (wa wb wc we : RWt) (rg : Nat → RWt) (tx2 : Nat → Int32) (T : List Nat) : Prop :=
  ci sf x y ∧ mr rg (fun i => sf (2 + i)) ∧ tr tx T ∧ tr tx2 T ∧ T.length ≤ 200 ∧ va_P D vwCl (wm_W 31 ad1 (cg cA ad1 sf x y tx T.length)) H ∧ va_P D vwCl (wm_W 23 ad2 (mg cA ad2 wa wb wc we rg tx2 T.length)) H ∧ va_S (fun q : Nat => s.heap.size ≤ q) s.heap H locs
