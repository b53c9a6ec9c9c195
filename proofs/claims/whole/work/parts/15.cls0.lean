section TP2
variable {p : Program} {l : Launch} {e : Env} {R : Room} {s : State} {m : MethodId} {args : Array Value} {below : List Frame} {meth : Method} {c : Code} {H : Heap} {locs : List Loc} {cells slots : Nat} {Q : State → Prop} {pc : Nat} {ls : Array Slot} {rest : List Value} {v0 : Value}
theorem tp_i2 {x y : Int32} (h : x = y) (k : W p l e R s m args below meth c H locs cells slots Q (F0 m pc ls (v0 :: .int y :: rest))) : W p l e R s m args below meth c H locs cells slots Q (F0 m pc ls (v0 :: .int x :: rest)) := by rw [h]; exact k
theorem by_ne {cc : ByteArray} (hx : p.tables.exec = Jvm.exec) (hb : c.code = cc) {a : Int} {off : Int} {tgt : Nat} (hdg : decode cc pc = .ok (.ifCond .ne off, 3)) (ht : (pc : Int) + off = (tgt : Int)) (a1 : -2147483648 ≤ a) (a2 : a < 2147483648) (kt : a ≠ 0 → W p l e R s m args below meth c H locs cells slots Q (F0 m tgt ls rest)) (kf : a = 0 → W p l e R s m args below meth c H locs cells slots Q (F0 m (pc + 3) ls rest)) : W p l e R s m args below meth c H locs cells slots Q (F0 m pc ls (.int (iZ a) :: rest)) :=
  lv_if_ne hx hb hdg ht (fun h => kt (fun q => h ((iZ_eq a1 a2 (by decide) (by decide)).mpr q))) (fun h => kf ((iZ_eq a1 a2 (by decide) (by decide)).mp h))
theorem bs_ne {cc : ByteArray} (hx : p.tables.exec = Jvm.exec) (hb : c.code = cc) {a b : Int} {off : Int} {tgt : Nat} (hdg : decode cc pc = .ok (.if_icmp .ne off, 3)) (ht : (pc : Int) + off = (tgt : Int)) (a1 : -2147483648 ≤ a) (a2 : a < 2147483648) (b1 : -2147483648 ≤ b) (b2 : b < 2147483648) (kt : a ≠ b → W p l e R s m args below meth c H locs cells slots Q (F0 m tgt ls rest)) (kf : a = b → W p l e R s m args below meth c H locs cells slots Q (F0 m (pc + 3) ls rest)) : W p l e R s m args below meth c H locs cells slots Q (F0 m pc ls (.int (iZ b) :: .int (iZ a) :: rest)) :=
  lv_icmp_ne hx hb hdg ht (fun h => kt (fun q => h ((iZ_eq a1 a2 b1 b2).mpr q))) (fun h => kf ((iZ_eq a1 a2 b1 b2).mp h))
end TP2
/-- the world of the class: decimal e at 7 + 3 e (0 the result, 1 one, 2 + i register i), top at 3, bottom at 5, the text at 2 -/
def cg (cA : Nat → ClassId) (ad : Nat → Nat) (sg : Nat → Bool × Nat × Int) (x y : Nat) (tx : Nat → Int32) (tl : Nat) : Nat → va_E := fun k =>
  if k = 0 then .inr (2, [.ref (ad 1), .ref (ad (7 + 3 * 0)), .ref (ad (7 + 3 * 1)), .ref (ad 3), .ref (ad 5), .ref (ad 2), .int (nI tl)])
  else if k = 1 then .inl (cA 1, 6, .inr (.inr (.inr (.inr (fun i => some (ad (7 + 3 * (2 + i))))))))
  else if k = 2 then .inl (cA 2, 200, .inl tx)
  else if k = 3 then .inr (1, [.ref (ad (3 + 1)), .int (nI (nd_s x))])
  else if k = 4 then .inl (cA 0, 64, .inr (.inl (nd_A x)))
  else if k = 5 then .inr (1, [.ref (ad (5 + 1)), .int (nI (nd_s y))])
  else if k = 6 then .inl (cA 0, 64, .inr (.inl (nd_A y)))
  else if (k - 7) % 3 = 0 then cD ad k (sg ((k - 7) / 3))
  else if (k - 7) % 3 = 1 then .inr (1, [.ref (ad (k + 1)), .int (nI (nd_s (sg ((k - 7) / 3)).2.1))])
  else .inl (cA 0, 64, .inr (.inl (nd_A (sg ((k - 7) / 3)).2.1)))
section CG
variable {cA : Nat → ClassId} {ad : Nat → Nat} {sg : Nat → Bool × Nat × Int} {x y : Nat} {tx : Nat → Int32} {tl : Nat}
theorem cg_0 : cg cA ad sg x y tx tl 0 = .inr (2, [.ref (ad 1), .ref (ad (7 + 3 * 0)), .ref (ad (7 + 3 * 1)), .ref (ad 3), .ref (ad 5), .ref (ad 2), .int (nI tl)]) := rfl
theorem cg_1 : cg cA ad sg x y tx tl 1 = .inl (cA 1, 6, .inr (.inr (.inr (.inr (fun i => some (ad (7 + 3 * (2 + i)))))))) := rfl
theorem cg_2 : cg cA ad sg x y tx tl 2 = .inl (cA 2, 200, .inl tx) := rfl
theorem cg_T : is_N cA ad (cg cA ad sg x y tx tl) 3 x := ⟨rfl, rfl⟩
theorem cg_B : is_N cA ad (cg cA ad sg x y tx tl) 5 y := ⟨rfl, rfl⟩
theorem cg_d (e : Nat) : cg cA ad sg x y tx tl (7 + 3 * e) = cD ad (7 + 3 * e) (sg e) := by
  simp only [cg]
  rw [if_neg (by omega), if_neg (by omega), if_neg (by omega), if_neg (by omega), if_neg (by omega), if_neg (by omega), if_neg (by omega), if_pos (by omega), show (7 + 3 * e - 7) / 3 = e by omega]
theorem cg_n (e : Nat) : is_N cA ad (cg cA ad sg x y tx tl) (7 + 3 * e + 1) (sg e).2.1 := by
  constructor
  · simp only [cg]
    rw [if_neg (by omega), if_neg (by omega), if_neg (by omega), if_neg (by omega), if_neg (by omega), if_neg (by omega), if_neg (by omega), if_neg (by omega), if_pos (by omega), show (7 + 3 * e + 1 - 7) / 3 = e by omega]
  · simp only [cg]
    rw [if_neg (by omega), if_neg (by omega), if_neg (by omega), if_neg (by omega), if_neg (by omega), if_neg (by omega), if_neg (by omega), if_neg (by omega), if_neg (by omega), show (7 + 3 * e + 1 + 1 - 7) / 3 = e by omega]
theorem cg_D (e : Nat) : is_D cA ad (cg cA ad sg x y tx tl) (7 + 3 * e) (sg e) := ⟨cg_d e, cg_n e⟩
theorem cg_ext {w : Nat → va_E} (h0 : w 0 = cg cA ad sg x y tx tl 0) (h1 : w 1 = cg cA ad sg x y tx tl 1) (h2 : w 2 = cg cA ad sg x y tx tl 2) (hT : is_N cA ad w 3 x) (hB : is_N cA ad w 5 y) (hd : ∀ e, is_D cA ad w (7 + 3 * e) (sg e)) : w = cg cA ad sg x y tx tl := by
  funext k
  rcases (show k = 0 ∨ k = 1 ∨ k = 2 ∨ k = 3 ∨ k = 3 + 1 ∨ k = 5 ∨ k = 5 + 1 ∨ 7 ≤ k by omega) with r | r | r | r | r | r | r | r
  · rw [r, h0]
  · rw [r, h1]
  · rw [r, h2]
  · rw [r, hT.1]; rfl
  · rw [r, hT.2]; rfl
  · rw [r, hB.1]; rfl
  · rw [r, hB.2]; rfl
  · obtain ⟨e, he⟩ : ∃ e, k = 7 + 3 * e ∨ k = 7 + 3 * e + 1 ∨ k = 7 + 3 * e + 1 + 1 := ⟨(k - 7) / 3, by omega⟩
    rcases he with he | he | he
    · rw [he, (hd e).1, cg_d]
    · rw [he, (hd e).2.1, (cg_n e).1]
    · rw [he, (hd e).2.2, (cg_n e).2]
theorem cg_upT (x' : Nat) : nN cA ad (cg cA ad sg x y tx tl) 3 x' = cg cA ad sg x' y tx tl :=
  cg_ext (nw_ne (by decide) (by decide)) (nw_ne (by decide) (by decide)) (nw_ne (by decide) (by decide)) nN_is (is_nw (by decide) (by decide) (by decide) cg_B) (fun e => ⟨(nw_ne (by omega) (by omega)).trans (cg_d e), is_nw (by omega) (by omega) (by omega) (cg_n e)⟩)
theorem cg_upB (y' : Nat) : nN cA ad (cg cA ad sg x y tx tl) 5 y' = cg cA ad sg x y' tx tl :=
  cg_ext (nw_ne (by decide) (by decide)) (nw_ne (by decide) (by decide)) (nw_ne (by decide) (by decide)) (is_nw (by decide) (by decide) (by decide) cg_T) nN_is (fun e => ⟨(nw_ne (by omega) (by omega)).trans (cg_d e), is_nw (by omega) (by omega) (by omega) (cg_n e)⟩)
theorem cg_upN (e n' : Nat) : nN cA ad (cg cA ad sg x y tx tl) (7 + 3 * e + 1) n' = cg cA ad (va_up sg e ((sg e).1, n', (sg e).2.2)) x y tx tl := by
  refine cg_ext (nw_ne (by omega) (by omega)) (nw_ne (by omega) (by omega)) (nw_ne (by omega) (by omega)) (is_nw (by omega) (by omega) (by omega) cg_T) (is_nw (by omega) (by omega) (by omega) cg_B) (fun e' => ?_)
  by_cases h : e' = e
  · subst h
    rw [va_up_self]
    exact ⟨(nw_ne (by omega) (by omega)).trans (cg_d e'), nN_is⟩
  · rw [va_up_ne _ _ h]
    exact ⟨(nw_ne (by omega) (by omega)).trans (cg_d e'), is_nw (by omega) (by omega) (by omega) (cg_n e')⟩
theorem is_up {g : Nat → va_E} {k o n : Nat} {v : va_E} (h1 : k ≠ o) (h2 : k ≠ o + 1) (h : is_N cA ad g o n) : is_N cA ad (va_up g k v) o n := ⟨(va_up_ne _ _ (Ne.symm h1)).trans h.1, (va_up_ne _ _ (Ne.symm h2)).trans h.2⟩
theorem cg_upC (e : Nat) (b : Bool) (z : Int) : va_up (cg cA ad sg x y tx tl) (7 + 3 * e) (cD ad (7 + 3 * e) (b, (sg e).2.1, z)) = cg cA ad (va_up sg e (b, (sg e).2.1, z)) x y tx tl := by
  refine cg_ext (va_up_ne _ _ (by omega)) (va_up_ne _ _ (by omega)) (va_up_ne _ _ (by omega)) (is_up (by omega) (by omega) cg_T) (is_up (by omega) (by omega) cg_B) (fun e' => ?_)
  by_cases h : e' = e
  · subst h
    rw [va_up_self]
    exact ⟨va_up_self _ _ _, is_up (by omega) (by omega) (cg_n e')⟩
  · rw [va_up_ne _ _ h]
    exact ⟨(va_up_ne _ _ (by omega)).trans (cg_d e'), is_up (by omega) (by omega) (cg_n e')⟩
theorem cg_upM (e : Nat) (b : Bool) {v : Int32} (hv : v = nI b.toNat) {z : Int} (hz : z = (sg e).2.2) : va_up (cg cA ad sg x y tx tl) (7 + 3 * e) (.inr (0, [.ref (ad (7 + 3 * e + 1)), .int v, .int (iZ z)])) = cg cA ad (va_up sg e (b, (sg e).2)) x y tx tl := by
  subst hv hz; exact cg_upC e b (sg e).2.2
theorem cg_upS (e : Nat) (z : Int) {b : Bool} (hb : b = (sg e).1) : va_up (cg cA ad sg x y tx tl) (7 + 3 * e) (.inr (0, [.ref (ad (7 + 3 * e + 1)), .int (nI b.toNat), .int (iZ z)])) = cg cA ad (va_up sg e ((sg e).1, (sg e).2.1, z)) x y tx tl := by
  subst hb; exact cg_upC e (sg e).1 z
theorem cg_upD (e : Nat) (d : Bool × Nat × Int) : dw cA ad (cg cA ad sg x y tx tl) (7 + 3 * e) d = cg cA ad (va_up sg e d) x y tx tl := by
  rw [dw]
  refine cg_ext ((nw_ne (by omega) (by omega)).trans (va_up_ne _ _ (by omega))) ((nw_ne (by omega) (by omega)).trans (va_up_ne _ _ (by omega))) ((nw_ne (by omega) (by omega)).trans (va_up_ne _ _ (by omega))) (is_nw (by omega) (by omega) (by omega) (is_up (by omega) (by omega) cg_T)) (is_nw (by omega) (by omega) (by omega) (is_up (by omega) (by omega) cg_B)) (fun e' => ?_)
  by_cases h : e' = e
  · subst h
    rw [va_up_self]
    exact ⟨(nw_ne (by omega) (by omega)).trans (va_up_self _ _ _), nN_is⟩
  · rw [va_up_ne _ _ h]
    exact ⟨(nw_ne (by omega) (by omega)).trans ((va_up_ne _ _ (by omega)).trans (cg_d e')), is_nw (by omega) (by omega) (by omega) (is_up (by omega) (by omega) (cg_n e'))⟩
theorem cg_upL (tl' : Nat) : va_up (cg cA ad sg x y tx tl) 0 (.inr (2, [.ref (ad 1), .ref (ad (7 + 3 * 0)), .ref (ad (7 + 3 * 1)), .ref (ad 3), .ref (ad 5), .ref (ad 2), .int (nI tl')])) = cg cA ad sg x y tx tl' :=
  cg_ext (va_up_self _ _ _) (va_up_ne _ _ (by decide)) (va_up_ne _ _ (by decide)) (is_up (by decide) (by decide) cg_T) (is_up (by decide) (by decide) cg_B) (fun e => ⟨(va_up_ne _ _ (by omega)).trans (cg_d e), is_up (by omega) (by omega) (cg_n e)⟩)
theorem cg_upX (tx' : Nat → Int32) : va_up (cg cA ad sg x y tx tl) 2 (.inl (cA 2, 200, .inl tx')) = cg cA ad sg x y tx' tl :=
  cg_ext (va_up_ne _ _ (by decide)) (va_up_ne _ _ (by decide)) (va_up_self _ _ _) (is_up (by decide) (by decide) cg_T) (is_up (by decide) (by decide) cg_B) (fun e => ⟨(va_up_ne _ _ (by omega)).trans (cg_d e), is_up (by omega) (by omega) (cg_n e)⟩)
end CG
