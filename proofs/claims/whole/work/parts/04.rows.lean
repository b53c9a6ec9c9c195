/-! rows for tops, branches over numbers, arrays by numbers; a Natural's raw world -/
theorem nI_zero_eq {a : Nat} (ha : a < 2 ^ 31) : nI a = 0 ↔ a = 0 := by
  rw [← nI_0]; exact nI_eq ha (by decide)
def iZ (z : Int) : Int32 := Int32.ofInt z
theorem iZ_toInt {z : Int} (h1 : -2147483648 ≤ z) (h2 : z < 2147483648) : (iZ z).toInt = z := by
  rw [iZ]; exact Int32.toInt_ofInt_of_le (by simpa using h1) (by simpa using h2)
theorem iZ_self (x : Int32) : iZ x.toInt = x := Int32.ofInt_toInt x
theorem iZ_nat (n : Nat) : nI n = iZ (n : Int) := Int32.ofInt_eq_ofNat.symm
theorem iZ_add (a b : Int) : iZ a + iZ b = iZ (a + b) := (Int32.ofInt_add a b).symm
theorem iZ_sub (a b : Int) : iZ a - iZ b = iZ (a - b) := (Int32.ofInt_sub a b).symm
theorem iZ_neg (a : Int) : -iZ a = iZ (-a) := (Int32.ofInt_neg a).symm
theorem iZ_le {a b : Int} (a1 : -2147483648 ≤ a) (a2 : a < 2147483648) (b1 : -2147483648 ≤ b) (b2 : b < 2147483648) : iZ a ≤ iZ b ↔ a ≤ b := by
  rw [Int32.le_iff_toInt_le, iZ_toInt a1 a2, iZ_toInt b1 b2]
theorem iZ_lt {a b : Int} (a1 : -2147483648 ≤ a) (a2 : a < 2147483648) (b1 : -2147483648 ≤ b) (b2 : b < 2147483648) : iZ a < iZ b ↔ a < b := by
  rw [Int32.lt_iff_toInt_lt, iZ_toInt a1 a2, iZ_toInt b1 b2]
theorem iZ_eq {a b : Int} (a1 : -2147483648 ≤ a) (a2 : a < 2147483648) (b1 : -2147483648 ≤ b) (b2 : b < 2147483648) : iZ a = iZ b ↔ a = b := by
  constructor
  · intro h
    have := congrArg Int32.toInt h
    rwa [iZ_toInt a1 a2, iZ_toInt b1 b2] at this
  · intro h; rw [h]
def lZ (z : Int) : Int64 := Int64.ofInt z
theorem lZ_toInt {z : Int} (h1 : -9223372036854775808 ≤ z) (h2 : z < 9223372036854775808) : (lZ z).toInt = z := by
  rw [lZ]; exact Int64.toInt_ofInt_of_le (by simpa using h1) (by simpa using h2)
theorem lZ_self (x : Int64) : lZ x.toInt = x := Int64.ofInt_toInt x
theorem lZ_nat (n : Nat) : lN n = lZ (n : Int) := Int64.ofInt_eq_ofNat.symm
theorem lZ_add (a b : Int) : lZ a + lZ b = lZ (a + b) := (Int64.ofInt_add a b).symm
theorem lZ_sub (a b : Int) : lZ a - lZ b = lZ (a - b) := (Int64.ofInt_sub a b).symm
theorem lZ_mul (a b : Int) : lZ a * lZ b = lZ (a * b) := (Int64.ofInt_mul a b).symm
theorem lZ_neg (a : Int) : -lZ a = lZ (-a) := (Int64.ofInt_neg a).symm
theorem lZ_le {a b : Int} (a1 : -9223372036854775808 ≤ a) (a2 : a < 9223372036854775808) (b1 : -9223372036854775808 ≤ b) (b2 : b < 9223372036854775808) : lZ a ≤ lZ b ↔ a ≤ b := by
  rw [Int64.le_iff_toInt_le, lZ_toInt a1 a2, lZ_toInt b1 b2]
theorem lZ_lt {a b : Int} (a1 : -9223372036854775808 ≤ a) (a2 : a < 9223372036854775808) (b1 : -9223372036854775808 ≤ b) (b2 : b < 9223372036854775808) : lZ a < lZ b ↔ a < b := by
  rw [Int64.lt_iff_toInt_lt, lZ_toInt a1 a2, lZ_toInt b1 b2]
theorem lZ_eq {a b : Int} (a1 : -9223372036854775808 ≤ a) (a2 : a < 9223372036854775808) (b1 : -9223372036854775808 ≤ b) (b2 : b < 9223372036854775808) : lZ a = lZ b ↔ a = b := by
  constructor
  · intro h
    have := congrArg Int64.toInt h
    rwa [lZ_toInt a1 a2, lZ_toInt b1 b2] at this
  · intro h; rw [h]
section RW
variable {p : Program} {l : Launch} {e : Env} {R : Room} {s : State} {m : MethodId} {args : Array Value} {below : List Frame} {meth : Method} {c : Code} {H H0 : Heap} {locs : List Loc} {cells slots : Nat} {Q : State → Prop} {cc : ByteArray} {pc : Nat} {ls : Array Slot} {rest : List Value} {Ts : List Cond} {own : String} {index : Nat} {D : va_G} {cA : Nat → ClassId} {tT : Nat} {A : Nat → Prop} {N : Nat} {ad : Nat → Nat} {G g : Nat → va_E}
theorem tp_i {x y : Int32} (h : x = y) (k : W p l e R s m args below meth c H locs cells slots Q (F0 m pc ls (.int y :: rest))) : W p l e R s m args below meth c H locs cells slots Q (F0 m pc ls (.int x :: rest)) := by rw [h]; exact k
theorem tp_l {x y : Int64} (h : x = y) (k : W p l e R s m args below meth c H locs cells slots Q (F0 m pc ls (.long y :: rest))) : W p l e R s m args below meth c H locs cells slots Q (F0 m pc ls (.long x :: rest)) := by rw [h]; exact k
theorem tp_v {x y : Value} (h : x = y) (k : W p l e R s m args below meth c H locs cells slots Q (F0 m pc ls (y :: rest))) : W p l e R s m args below meth c H locs cells slots Q (F0 m pc ls (x :: rest)) := by rw [h]; exact k
theorem nI_ic (n : Nat) : Int32.ofInt (n : Int) = nI n := Int32.ofInt_eq_ofNat
theorem bi_eq (hx : p.tables.exec = Jvm.exec) (hb : c.code = cc) {a b : Nat} {off : Int} {tgt : Nat} (hdg : decode cc pc = .ok (.if_icmp .eq off, 3)) (ht : (pc : Int) + off = (tgt : Int)) (ha : a < 2 ^ 31) (hb2 : b < 2 ^ 31) (kt : a = b → W p l e R s m args below meth c H locs cells slots Q (F0 m tgt ls rest)) (kf : ¬ a = b → W p l e R s m args below meth c H locs cells slots Q (F0 m (pc + 3) ls rest)) : W p l e R s m args below meth c H locs cells slots Q (F0 m pc ls (.int (nI b) :: .int (nI a) :: rest)) :=
  lv_icmp_eq hx hb hdg ht (fun h => kt ((nI_eq ha hb2).mp h)) (fun h => kf (fun q => h ((nI_eq ha hb2).mpr q)))
theorem bz_eq (hx : p.tables.exec = Jvm.exec) (hb : c.code = cc) {a : Nat} {off : Int} {tgt : Nat} (hdg : decode cc pc = .ok (.ifCond .eq off, 3)) (ht : (pc : Int) + off = (tgt : Int)) (ha : a < 2 ^ 31) (kt : a = 0 → W p l e R s m args below meth c H locs cells slots Q (F0 m tgt ls rest)) (kf : ¬ a = 0 → W p l e R s m args below meth c H locs cells slots Q (F0 m (pc + 3) ls rest)) : W p l e R s m args below meth c H locs cells slots Q (F0 m pc ls (.int (nI a) :: rest)) :=
  have hb2 : 0 < 2 ^ 31 := by decide
  lv_if_eq hx hb hdg ht (fun h => kt ((nI_eq ha hb2).mp (by rw [nI_0]; exact h))) (fun h => kf (fun q => h (by rw [← nI_0]; exact (nI_eq ha hb2).mpr q)))
theorem bL_eq (hx : p.tables.exec = Jvm.exec) (hb : c.code = cc) {x y : Int64} {off : Int} {tgt : Nat} (hd0 : decode cc pc = .ok (.lcmp, 1)) (hdg : decode cc (pc + 1) = .ok (.ifCond .eq off, 3)) (ht : ((pc + 1 : Nat) : Int) + off = (tgt : Int)) (kt : x = y → W p l e R s m args below meth c H locs cells slots Q (F0 m tgt ls rest)) (kf : ¬ x = y → W p l e R s m args below meth c H locs cells slots Q (F0 m (pc + 1 + 3) ls rest)) : W p l e R s m args below meth c H locs cells slots Q (F0 m pc ls (.long y :: .long x :: rest)) :=
  W.lcmp hx hb hd0 (lv_if_eq hx hb hdg ht (fun h => kt ((lg_cmp_eq x y).mp h)) (fun h => kf (fun q => h ((lg_cmp_eq x y).mpr q))))
theorem bl_eq (hx : p.tables.exec = Jvm.exec) (hb : c.code = cc) {a b : Nat} {off : Int} {tgt : Nat} (hd0 : decode cc pc = .ok (.lcmp, 1)) (hdg : decode cc (pc + 1) = .ok (.ifCond .eq off, 3)) (ht : ((pc + 1 : Nat) : Int) + off = (tgt : Int)) (ha : a < 2 ^ 63) (hb2 : b < 2 ^ 63) (kt : a = b → W p l e R s m args below meth c H locs cells slots Q (F0 m tgt ls rest)) (kf : ¬ a = b → W p l e R s m args below meth c H locs cells slots Q (F0 m (pc + 1 + 3) ls rest)) : W p l e R s m args below meth c H locs cells slots Q (F0 m pc ls (.long (lN b) :: .long (lN a) :: rest)) :=
  bL_eq hx hb hd0 hdg ht (fun h => kt ((pk_lEQ ha hb2).mp h)) (fun h => kf (fun q => h ((pk_lEQ ha hb2).mpr q)))
theorem bs_eq (hx : p.tables.exec = Jvm.exec) (hb : c.code = cc) {a b : Int} {off : Int} {tgt : Nat} (hdg : decode cc pc = .ok (.if_icmp .eq off, 3)) (ht : (pc : Int) + off = (tgt : Int)) (a1 : -2147483648 ≤ a) (a2 : a < 2147483648) (b1 : -2147483648 ≤ b) (b2 : b < 2147483648) (kt : a = b → W p l e R s m args below meth c H locs cells slots Q (F0 m tgt ls rest)) (kf : ¬ a = b → W p l e R s m args below meth c H locs cells slots Q (F0 m (pc + 3) ls rest)) : W p l e R s m args below meth c H locs cells slots Q (F0 m pc ls (.int (iZ b) :: .int (iZ a) :: rest)) :=
  lv_icmp_eq hx hb hdg ht (fun h => kt ((iZ_eq a1 a2 b1 b2).mp h)) (fun h => kf (fun q => h ((iZ_eq a1 a2 b1 b2).mpr q)))
theorem by_eq (hx : p.tables.exec = Jvm.exec) (hb : c.code = cc) {a : Int} {off : Int} {tgt : Nat} (hdg : decode cc pc = .ok (.ifCond .eq off, 3)) (ht : (pc : Int) + off = (tgt : Int)) (a1 : -2147483648 ≤ a) (a2 : a < 2147483648) (kt : a = 0 → W p l e R s m args below meth c H locs cells slots Q (F0 m tgt ls rest)) (kf : ¬ a = 0 → W p l e R s m args below meth c H locs cells slots Q (F0 m (pc + 3) ls rest)) : W p l e R s m args below meth c H locs cells slots Q (F0 m pc ls (.int (iZ a) :: rest)) :=
  have b1 : (-2147483648 : Int) ≤ 0 := by decide
  have b2 : (0 : Int) < 2147483648 := by decide
  lv_if_eq hx hb hdg ht (fun h => kt ((iZ_eq a1 a2 b1 b2).mp h)) (fun h => kf (fun q => h ((iZ_eq a1 a2 b1 b2).mpr q)))
theorem bi_lt (hx : p.tables.exec = Jvm.exec) (hb : c.code = cc) {a b : Nat} {off : Int} {tgt : Nat} (hdg : decode cc pc = .ok (.if_icmp .lt off, 3)) (ht : (pc : Int) + off = (tgt : Int)) (ha : a < 2 ^ 31) (hb2 : b < 2 ^ 31) (kt : a < b → W p l e R s m args below meth c H locs cells slots Q (F0 m tgt ls rest)) (kf : ¬ a < b → W p l e R s m args below meth c H locs cells slots Q (F0 m (pc + 3) ls rest)) : W p l e R s m args below meth c H locs cells slots Q (F0 m pc ls (.int (nI b) :: .int (nI a) :: rest)) :=
  lv_icmp_lt hx hb hdg ht (fun h => kt ((nI_ltI ha hb2).mp h)) (fun h => kf (fun q => h ((nI_ltI ha hb2).mpr q)))
theorem bz_lt (hx : p.tables.exec = Jvm.exec) (hb : c.code = cc) {a : Nat} {off : Int} {tgt : Nat} (hdg : decode cc pc = .ok (.ifCond .lt off, 3)) (ht : (pc : Int) + off = (tgt : Int)) (ha : a < 2 ^ 31) (kt : a < 0 → W p l e R s m args below meth c H locs cells slots Q (F0 m tgt ls rest)) (kf : ¬ a < 0 → W p l e R s m args below meth c H locs cells slots Q (F0 m (pc + 3) ls rest)) : W p l e R s m args below meth c H locs cells slots Q (F0 m pc ls (.int (nI a) :: rest)) :=
  have hb2 : 0 < 2 ^ 31 := by decide
  lv_if_lt hx hb hdg ht (fun h => kt ((nI_ltI ha hb2).mp (by rw [nI_0]; exact h))) (fun h => kf (fun q => h (by rw [← nI_0]; exact (nI_ltI ha hb2).mpr q)))
theorem bL_lt (hx : p.tables.exec = Jvm.exec) (hb : c.code = cc) {x y : Int64} {off : Int} {tgt : Nat} (hd0 : decode cc pc = .ok (.lcmp, 1)) (hdg : decode cc (pc + 1) = .ok (.ifCond .lt off, 3)) (ht : ((pc + 1 : Nat) : Int) + off = (tgt : Int)) (kt : x < y → W p l e R s m args below meth c H locs cells slots Q (F0 m tgt ls rest)) (kf : ¬ x < y → W p l e R s m args below meth c H locs cells slots Q (F0 m (pc + 1 + 3) ls rest)) : W p l e R s m args below meth c H locs cells slots Q (F0 m pc ls (.long y :: .long x :: rest)) :=
  W.lcmp hx hb hd0 (lv_if_lt hx hb hdg ht (fun h => kt ((lg_cmp_lt x y).mp h)) (fun h => kf (fun q => h ((lg_cmp_lt x y).mpr q))))
theorem bl_lt (hx : p.tables.exec = Jvm.exec) (hb : c.code = cc) {a b : Nat} {off : Int} {tgt : Nat} (hd0 : decode cc pc = .ok (.lcmp, 1)) (hdg : decode cc (pc + 1) = .ok (.ifCond .lt off, 3)) (ht : ((pc + 1 : Nat) : Int) + off = (tgt : Int)) (ha : a < 2 ^ 63) (hb2 : b < 2 ^ 63) (kt : a < b → W p l e R s m args below meth c H locs cells slots Q (F0 m tgt ls rest)) (kf : ¬ a < b → W p l e R s m args below meth c H locs cells slots Q (F0 m (pc + 1 + 3) ls rest)) : W p l e R s m args below meth c H locs cells slots Q (F0 m pc ls (.long (lN b) :: .long (lN a) :: rest)) :=
  bL_lt hx hb hd0 hdg ht (fun h => kt ((pk_lLT ha hb2).mp h)) (fun h => kf (fun q => h ((pk_lLT ha hb2).mpr q)))
theorem bs_lt (hx : p.tables.exec = Jvm.exec) (hb : c.code = cc) {a b : Int} {off : Int} {tgt : Nat} (hdg : decode cc pc = .ok (.if_icmp .lt off, 3)) (ht : (pc : Int) + off = (tgt : Int)) (a1 : -2147483648 ≤ a) (a2 : a < 2147483648) (b1 : -2147483648 ≤ b) (b2 : b < 2147483648) (kt : a < b → W p l e R s m args below meth c H locs cells slots Q (F0 m tgt ls rest)) (kf : ¬ a < b → W p l e R s m args below meth c H locs cells slots Q (F0 m (pc + 3) ls rest)) : W p l e R s m args below meth c H locs cells slots Q (F0 m pc ls (.int (iZ b) :: .int (iZ a) :: rest)) :=
  lv_icmp_lt hx hb hdg ht (fun h => kt ((iZ_lt a1 a2 b1 b2).mp h)) (fun h => kf (fun q => h ((iZ_lt a1 a2 b1 b2).mpr q)))
theorem by_lt (hx : p.tables.exec = Jvm.exec) (hb : c.code = cc) {a : Int} {off : Int} {tgt : Nat} (hdg : decode cc pc = .ok (.ifCond .lt off, 3)) (ht : (pc : Int) + off = (tgt : Int)) (a1 : -2147483648 ≤ a) (a2 : a < 2147483648) (kt : a < 0 → W p l e R s m args below meth c H locs cells slots Q (F0 m tgt ls rest)) (kf : ¬ a < 0 → W p l e R s m args below meth c H locs cells slots Q (F0 m (pc + 3) ls rest)) : W p l e R s m args below meth c H locs cells slots Q (F0 m pc ls (.int (iZ a) :: rest)) :=
  have b1 : (-2147483648 : Int) ≤ 0 := by decide
  have b2 : (0 : Int) < 2147483648 := by decide
  lv_if_lt hx hb hdg ht (fun h => kt ((iZ_lt a1 a2 b1 b2).mp h)) (fun h => kf (fun q => h ((iZ_lt a1 a2 b1 b2).mpr q)))
theorem bi_le (hx : p.tables.exec = Jvm.exec) (hb : c.code = cc) {a b : Nat} {off : Int} {tgt : Nat} (hdg : decode cc pc = .ok (.if_icmp .le off, 3)) (ht : (pc : Int) + off = (tgt : Int)) (ha : a < 2 ^ 31) (hb2 : b < 2 ^ 31) (kt : a ≤ b → W p l e R s m args below meth c H locs cells slots Q (F0 m tgt ls rest)) (kf : ¬ a ≤ b → W p l e R s m args below meth c H locs cells slots Q (F0 m (pc + 3) ls rest)) : W p l e R s m args below meth c H locs cells slots Q (F0 m pc ls (.int (nI b) :: .int (nI a) :: rest)) :=
  lv_icmp_le hx hb hdg ht (fun h => kt ((nI_leI ha hb2).mp h)) (fun h => kf (fun q => h ((nI_leI ha hb2).mpr q)))
theorem bz_le (hx : p.tables.exec = Jvm.exec) (hb : c.code = cc) {a : Nat} {off : Int} {tgt : Nat} (hdg : decode cc pc = .ok (.ifCond .le off, 3)) (ht : (pc : Int) + off = (tgt : Int)) (ha : a < 2 ^ 31) (kt : a ≤ 0 → W p l e R s m args below meth c H locs cells slots Q (F0 m tgt ls rest)) (kf : ¬ a ≤ 0 → W p l e R s m args below meth c H locs cells slots Q (F0 m (pc + 3) ls rest)) : W p l e R s m args below meth c H locs cells slots Q (F0 m pc ls (.int (nI a) :: rest)) :=
  have hb2 : 0 < 2 ^ 31 := by decide
  lv_if_le hx hb hdg ht (fun h => kt ((nI_leI ha hb2).mp (by rw [nI_0]; exact h))) (fun h => kf (fun q => h (by rw [← nI_0]; exact (nI_leI ha hb2).mpr q)))
theorem bL_le (hx : p.tables.exec = Jvm.exec) (hb : c.code = cc) {x y : Int64} {off : Int} {tgt : Nat} (hd0 : decode cc pc = .ok (.lcmp, 1)) (hdg : decode cc (pc + 1) = .ok (.ifCond .le off, 3)) (ht : ((pc + 1 : Nat) : Int) + off = (tgt : Int)) (kt : x ≤ y → W p l e R s m args below meth c H locs cells slots Q (F0 m tgt ls rest)) (kf : ¬ x ≤ y → W p l e R s m args below meth c H locs cells slots Q (F0 m (pc + 1 + 3) ls rest)) : W p l e R s m args below meth c H locs cells slots Q (F0 m pc ls (.long y :: .long x :: rest)) :=
  W.lcmp hx hb hd0 (lv_if_le hx hb hdg ht (fun h => kt ((lg_cmp_le x y).mp h)) (fun h => kf (fun q => h ((lg_cmp_le x y).mpr q))))
theorem bl_le (hx : p.tables.exec = Jvm.exec) (hb : c.code = cc) {a b : Nat} {off : Int} {tgt : Nat} (hd0 : decode cc pc = .ok (.lcmp, 1)) (hdg : decode cc (pc + 1) = .ok (.ifCond .le off, 3)) (ht : ((pc + 1 : Nat) : Int) + off = (tgt : Int)) (ha : a < 2 ^ 63) (hb2 : b < 2 ^ 63) (kt : a ≤ b → W p l e R s m args below meth c H locs cells slots Q (F0 m tgt ls rest)) (kf : ¬ a ≤ b → W p l e R s m args below meth c H locs cells slots Q (F0 m (pc + 1 + 3) ls rest)) : W p l e R s m args below meth c H locs cells slots Q (F0 m pc ls (.long (lN b) :: .long (lN a) :: rest)) :=
  bL_le hx hb hd0 hdg ht (fun h => kt ((pk_lLE ha hb2).mp h)) (fun h => kf (fun q => h ((pk_lLE ha hb2).mpr q)))
theorem bs_le (hx : p.tables.exec = Jvm.exec) (hb : c.code = cc) {a b : Int} {off : Int} {tgt : Nat} (hdg : decode cc pc = .ok (.if_icmp .le off, 3)) (ht : (pc : Int) + off = (tgt : Int)) (a1 : -2147483648 ≤ a) (a2 : a < 2147483648) (b1 : -2147483648 ≤ b) (b2 : b < 2147483648) (kt : a ≤ b → W p l e R s m args below meth c H locs cells slots Q (F0 m tgt ls rest)) (kf : ¬ a ≤ b → W p l e R s m args below meth c H locs cells slots Q (F0 m (pc + 3) ls rest)) : W p l e R s m args below meth c H locs cells slots Q (F0 m pc ls (.int (iZ b) :: .int (iZ a) :: rest)) :=
  lv_icmp_le hx hb hdg ht (fun h => kt ((iZ_le a1 a2 b1 b2).mp h)) (fun h => kf (fun q => h ((iZ_le a1 a2 b1 b2).mpr q)))
theorem by_le (hx : p.tables.exec = Jvm.exec) (hb : c.code = cc) {a : Int} {off : Int} {tgt : Nat} (hdg : decode cc pc = .ok (.ifCond .le off, 3)) (ht : (pc : Int) + off = (tgt : Int)) (a1 : -2147483648 ≤ a) (a2 : a < 2147483648) (kt : a ≤ 0 → W p l e R s m args below meth c H locs cells slots Q (F0 m tgt ls rest)) (kf : ¬ a ≤ 0 → W p l e R s m args below meth c H locs cells slots Q (F0 m (pc + 3) ls rest)) : W p l e R s m args below meth c H locs cells slots Q (F0 m pc ls (.int (iZ a) :: rest)) :=
  have b1 : (-2147483648 : Int) ≤ 0 := by decide
  have b2 : (0 : Int) < 2147483648 := by decide
  lv_if_le hx hb hdg ht (fun h => kt ((iZ_le a1 a2 b1 b2).mp h)) (fun h => kf (fun q => h ((iZ_le a1 a2 b1 b2).mpr q)))
theorem bi_gt (hx : p.tables.exec = Jvm.exec) (hb : c.code = cc) {a b : Nat} {off : Int} {tgt : Nat} (hdg : decode cc pc = .ok (.if_icmp .gt off, 3)) (ht : (pc : Int) + off = (tgt : Int)) (ha : a < 2 ^ 31) (hb2 : b < 2 ^ 31) (kt : b < a → W p l e R s m args below meth c H locs cells slots Q (F0 m tgt ls rest)) (kf : ¬ b < a → W p l e R s m args below meth c H locs cells slots Q (F0 m (pc + 3) ls rest)) : W p l e R s m args below meth c H locs cells slots Q (F0 m pc ls (.int (nI b) :: .int (nI a) :: rest)) :=
  lv_icmp_gt hx hb hdg ht (fun h => kt ((nI_ltI hb2 ha).mp h)) (fun h => kf (fun q => h ((nI_ltI hb2 ha).mpr q)))
theorem bz_gt (hx : p.tables.exec = Jvm.exec) (hb : c.code = cc) {a : Nat} {off : Int} {tgt : Nat} (hdg : decode cc pc = .ok (.ifCond .gt off, 3)) (ht : (pc : Int) + off = (tgt : Int)) (ha : a < 2 ^ 31) (kt : 0 < a → W p l e R s m args below meth c H locs cells slots Q (F0 m tgt ls rest)) (kf : ¬ 0 < a → W p l e R s m args below meth c H locs cells slots Q (F0 m (pc + 3) ls rest)) : W p l e R s m args below meth c H locs cells slots Q (F0 m pc ls (.int (nI a) :: rest)) :=
  have hb2 : 0 < 2 ^ 31 := by decide
  lv_if_gt hx hb hdg ht (fun h => kt ((nI_ltI hb2 ha).mp (by rw [nI_0]; exact h))) (fun h => kf (fun q => h (by rw [← nI_0]; exact (nI_ltI hb2 ha).mpr q)))
theorem bL_gt (hx : p.tables.exec = Jvm.exec) (hb : c.code = cc) {x y : Int64} {off : Int} {tgt : Nat} (hd0 : decode cc pc = .ok (.lcmp, 1)) (hdg : decode cc (pc + 1) = .ok (.ifCond .gt off, 3)) (ht : ((pc + 1 : Nat) : Int) + off = (tgt : Int)) (kt : y < x → W p l e R s m args below meth c H locs cells slots Q (F0 m tgt ls rest)) (kf : ¬ y < x → W p l e R s m args below meth c H locs cells slots Q (F0 m (pc + 1 + 3) ls rest)) : W p l e R s m args below meth c H locs cells slots Q (F0 m pc ls (.long y :: .long x :: rest)) :=
  W.lcmp hx hb hd0 (lv_if_gt hx hb hdg ht (fun h => kt ((lg_cmp_gt x y).mp h)) (fun h => kf (fun q => h ((lg_cmp_gt x y).mpr q))))
theorem bl_gt (hx : p.tables.exec = Jvm.exec) (hb : c.code = cc) {a b : Nat} {off : Int} {tgt : Nat} (hd0 : decode cc pc = .ok (.lcmp, 1)) (hdg : decode cc (pc + 1) = .ok (.ifCond .gt off, 3)) (ht : ((pc + 1 : Nat) : Int) + off = (tgt : Int)) (ha : a < 2 ^ 63) (hb2 : b < 2 ^ 63) (kt : b < a → W p l e R s m args below meth c H locs cells slots Q (F0 m tgt ls rest)) (kf : ¬ b < a → W p l e R s m args below meth c H locs cells slots Q (F0 m (pc + 1 + 3) ls rest)) : W p l e R s m args below meth c H locs cells slots Q (F0 m pc ls (.long (lN b) :: .long (lN a) :: rest)) :=
  bL_gt hx hb hd0 hdg ht (fun h => kt ((pk_lLT hb2 ha).mp h)) (fun h => kf (fun q => h ((pk_lLT hb2 ha).mpr q)))
theorem bs_gt (hx : p.tables.exec = Jvm.exec) (hb : c.code = cc) {a b : Int} {off : Int} {tgt : Nat} (hdg : decode cc pc = .ok (.if_icmp .gt off, 3)) (ht : (pc : Int) + off = (tgt : Int)) (a1 : -2147483648 ≤ a) (a2 : a < 2147483648) (b1 : -2147483648 ≤ b) (b2 : b < 2147483648) (kt : b < a → W p l e R s m args below meth c H locs cells slots Q (F0 m tgt ls rest)) (kf : ¬ b < a → W p l e R s m args below meth c H locs cells slots Q (F0 m (pc + 3) ls rest)) : W p l e R s m args below meth c H locs cells slots Q (F0 m pc ls (.int (iZ b) :: .int (iZ a) :: rest)) :=
  lv_icmp_gt hx hb hdg ht (fun h => kt ((iZ_lt b1 b2 a1 a2).mp h)) (fun h => kf (fun q => h ((iZ_lt b1 b2 a1 a2).mpr q)))
theorem by_gt (hx : p.tables.exec = Jvm.exec) (hb : c.code = cc) {a : Int} {off : Int} {tgt : Nat} (hdg : decode cc pc = .ok (.ifCond .gt off, 3)) (ht : (pc : Int) + off = (tgt : Int)) (a1 : -2147483648 ≤ a) (a2 : a < 2147483648) (kt : 0 < a → W p l e R s m args below meth c H locs cells slots Q (F0 m tgt ls rest)) (kf : ¬ 0 < a → W p l e R s m args below meth c H locs cells slots Q (F0 m (pc + 3) ls rest)) : W p l e R s m args below meth c H locs cells slots Q (F0 m pc ls (.int (iZ a) :: rest)) :=
  have b1 : (-2147483648 : Int) ≤ 0 := by decide
  have b2 : (0 : Int) < 2147483648 := by decide
  lv_if_gt hx hb hdg ht (fun h => kt ((iZ_lt b1 b2 a1 a2).mp h)) (fun h => kf (fun q => h ((iZ_lt b1 b2 a1 a2).mpr q)))
theorem bi_ge (hx : p.tables.exec = Jvm.exec) (hb : c.code = cc) {a b : Nat} {off : Int} {tgt : Nat} (hdg : decode cc pc = .ok (.if_icmp .ge off, 3)) (ht : (pc : Int) + off = (tgt : Int)) (ha : a < 2 ^ 31) (hb2 : b < 2 ^ 31) (kt : b ≤ a → W p l e R s m args below meth c H locs cells slots Q (F0 m tgt ls rest)) (kf : ¬ b ≤ a → W p l e R s m args below meth c H locs cells slots Q (F0 m (pc + 3) ls rest)) : W p l e R s m args below meth c H locs cells slots Q (F0 m pc ls (.int (nI b) :: .int (nI a) :: rest)) :=
  lv_icmp_ge hx hb hdg ht (fun h => kt ((nI_leI hb2 ha).mp h)) (fun h => kf (fun q => h ((nI_leI hb2 ha).mpr q)))
theorem bz_ge (hx : p.tables.exec = Jvm.exec) (hb : c.code = cc) {a : Nat} {off : Int} {tgt : Nat} (hdg : decode cc pc = .ok (.ifCond .ge off, 3)) (ht : (pc : Int) + off = (tgt : Int)) (ha : a < 2 ^ 31) (kt : 0 ≤ a → W p l e R s m args below meth c H locs cells slots Q (F0 m tgt ls rest)) (kf : ¬ 0 ≤ a → W p l e R s m args below meth c H locs cells slots Q (F0 m (pc + 3) ls rest)) : W p l e R s m args below meth c H locs cells slots Q (F0 m pc ls (.int (nI a) :: rest)) :=
  have hb2 : 0 < 2 ^ 31 := by decide
  lv_if_ge hx hb hdg ht (fun h => kt ((nI_leI hb2 ha).mp (by rw [nI_0]; exact h))) (fun h => kf (fun q => h (by rw [← nI_0]; exact (nI_leI hb2 ha).mpr q)))
theorem bL_ge (hx : p.tables.exec = Jvm.exec) (hb : c.code = cc) {x y : Int64} {off : Int} {tgt : Nat} (hd0 : decode cc pc = .ok (.lcmp, 1)) (hdg : decode cc (pc + 1) = .ok (.ifCond .ge off, 3)) (ht : ((pc + 1 : Nat) : Int) + off = (tgt : Int)) (kt : y ≤ x → W p l e R s m args below meth c H locs cells slots Q (F0 m tgt ls rest)) (kf : ¬ y ≤ x → W p l e R s m args below meth c H locs cells slots Q (F0 m (pc + 1 + 3) ls rest)) : W p l e R s m args below meth c H locs cells slots Q (F0 m pc ls (.long y :: .long x :: rest)) :=
  W.lcmp hx hb hd0 (lv_if_ge hx hb hdg ht (fun h => kt ((lg_cmp_ge x y).mp h)) (fun h => kf (fun q => h ((lg_cmp_ge x y).mpr q))))
theorem bl_ge (hx : p.tables.exec = Jvm.exec) (hb : c.code = cc) {a b : Nat} {off : Int} {tgt : Nat} (hd0 : decode cc pc = .ok (.lcmp, 1)) (hdg : decode cc (pc + 1) = .ok (.ifCond .ge off, 3)) (ht : ((pc + 1 : Nat) : Int) + off = (tgt : Int)) (ha : a < 2 ^ 63) (hb2 : b < 2 ^ 63) (kt : b ≤ a → W p l e R s m args below meth c H locs cells slots Q (F0 m tgt ls rest)) (kf : ¬ b ≤ a → W p l e R s m args below meth c H locs cells slots Q (F0 m (pc + 1 + 3) ls rest)) : W p l e R s m args below meth c H locs cells slots Q (F0 m pc ls (.long (lN b) :: .long (lN a) :: rest)) :=
  bL_ge hx hb hd0 hdg ht (fun h => kt ((pk_lLE hb2 ha).mp h)) (fun h => kf (fun q => h ((pk_lLE hb2 ha).mpr q)))
theorem bs_ge (hx : p.tables.exec = Jvm.exec) (hb : c.code = cc) {a b : Int} {off : Int} {tgt : Nat} (hdg : decode cc pc = .ok (.if_icmp .ge off, 3)) (ht : (pc : Int) + off = (tgt : Int)) (a1 : -2147483648 ≤ a) (a2 : a < 2147483648) (b1 : -2147483648 ≤ b) (b2 : b < 2147483648) (kt : b ≤ a → W p l e R s m args below meth c H locs cells slots Q (F0 m tgt ls rest)) (kf : ¬ b ≤ a → W p l e R s m args below meth c H locs cells slots Q (F0 m (pc + 3) ls rest)) : W p l e R s m args below meth c H locs cells slots Q (F0 m pc ls (.int (iZ b) :: .int (iZ a) :: rest)) :=
  lv_icmp_ge hx hb hdg ht (fun h => kt ((iZ_le b1 b2 a1 a2).mp h)) (fun h => kf (fun q => h ((iZ_le b1 b2 a1 a2).mpr q)))
theorem by_ge (hx : p.tables.exec = Jvm.exec) (hb : c.code = cc) {a : Int} {off : Int} {tgt : Nat} (hdg : decode cc pc = .ok (.ifCond .ge off, 3)) (ht : (pc : Int) + off = (tgt : Int)) (a1 : -2147483648 ≤ a) (a2 : a < 2147483648) (kt : 0 ≤ a → W p l e R s m args below meth c H locs cells slots Q (F0 m tgt ls rest)) (kf : ¬ 0 ≤ a → W p l e R s m args below meth c H locs cells slots Q (F0 m (pc + 3) ls rest)) : W p l e R s m args below meth c H locs cells slots Q (F0 m pc ls (.int (iZ a) :: rest)) :=
  have b1 : (-2147483648 : Int) ≤ 0 := by decide
  have b2 : (0 : Int) < 2147483648 := by decide
  lv_if_ge hx hb hdg ht (fun h => kt ((iZ_le b1 b2 a1 a2).mp h)) (fun h => kf (fun q => h ((iZ_le b1 b2 a1 a2).mpr q)))
theorem bi_ne (hx : p.tables.exec = Jvm.exec) (hb : c.code = cc) {a b : Nat} {off : Int} {tgt : Nat} (hdg : decode cc pc = .ok (.if_icmp .ne off, 3)) (ht : (pc : Int) + off = (tgt : Int)) (ha : a < 2 ^ 31) (hb2 : b < 2 ^ 31) (kt : a ≠ b → W p l e R s m args below meth c H locs cells slots Q (F0 m tgt ls rest)) (kf : a = b → W p l e R s m args below meth c H locs cells slots Q (F0 m (pc + 3) ls rest)) : W p l e R s m args below meth c H locs cells slots Q (F0 m pc ls (.int (nI b) :: .int (nI a) :: rest)) :=
  lv_icmp_ne hx hb hdg ht (fun h => kt (fun q => h ((nI_eq ha hb2).mpr q))) (fun h => kf ((nI_eq ha hb2).mp h))
theorem bz_ne (hx : p.tables.exec = Jvm.exec) (hb : c.code = cc) {a : Nat} {off : Int} {tgt : Nat} (hdg : decode cc pc = .ok (.ifCond .ne off, 3)) (ht : (pc : Int) + off = (tgt : Int)) (ha : a < 2 ^ 31) (kt : a ≠ 0 → W p l e R s m args below meth c H locs cells slots Q (F0 m tgt ls rest)) (kf : a = 0 → W p l e R s m args below meth c H locs cells slots Q (F0 m (pc + 3) ls rest)) : W p l e R s m args below meth c H locs cells slots Q (F0 m pc ls (.int (nI a) :: rest)) :=
  lv_if_ne hx hb hdg ht (fun h => kt (fun q => h ((nI_zero_eq ha).mpr q))) (fun h => kf ((nI_zero_eq ha).mp h))
theorem bL_ne (hx : p.tables.exec = Jvm.exec) (hb : c.code = cc) {x y : Int64} {off : Int} {tgt : Nat} (hd0 : decode cc pc = .ok (.lcmp, 1)) (hdg : decode cc (pc + 1) = .ok (.ifCond .ne off, 3)) (ht : ((pc + 1 : Nat) : Int) + off = (tgt : Int)) (kt : x ≠ y → W p l e R s m args below meth c H locs cells slots Q (F0 m tgt ls rest)) (kf : x = y → W p l e R s m args below meth c H locs cells slots Q (F0 m (pc + 1 + 3) ls rest)) : W p l e R s m args below meth c H locs cells slots Q (F0 m pc ls (.long y :: .long x :: rest)) :=
  W.lcmp hx hb hd0 (lv_if_ne hx hb hdg ht (fun h => kt (fun q => h ((lg_cmp_eq x y).mpr q))) (fun h => kf ((lg_cmp_eq x y).mp h)))
theorem bl_ne (hx : p.tables.exec = Jvm.exec) (hb : c.code = cc) {a b : Nat} {off : Int} {tgt : Nat} (hd0 : decode cc pc = .ok (.lcmp, 1)) (hdg : decode cc (pc + 1) = .ok (.ifCond .ne off, 3)) (ht : ((pc + 1 : Nat) : Int) + off = (tgt : Int)) (ha : a < 2 ^ 63) (hb2 : b < 2 ^ 63) (kt : a ≠ b → W p l e R s m args below meth c H locs cells slots Q (F0 m tgt ls rest)) (kf : a = b → W p l e R s m args below meth c H locs cells slots Q (F0 m (pc + 1 + 3) ls rest)) : W p l e R s m args below meth c H locs cells slots Q (F0 m pc ls (.long (lN b) :: .long (lN a) :: rest)) :=
  bL_ne hx hb hd0 hdg ht (fun h => kt (fun q => h ((pk_lEQ ha hb2).mpr q))) (fun h => kf ((pk_lEQ ha hb2).mp h))
theorem rn_l (hx : p.tables.exec = Jvm.exec) (hb : c.code = cc) (hK : va_K D vwCl (ty_s cA) s) (hP : va_P D vwCl (wm_W N ad G) H) (k : Nat) (hk : k < N) {n : Nat} {f : Nat → Int64} (hg : G k = .inl (cA 0, n, .inr (.inl f))) {i : Nat} (hi : i < n) (hn : n < 2 ^ 31) (hdg : decode cc pc = .ok (.laload, 1)) (kk : W p l e R s m args below meth c H locs cells slots Q (F0 m (pc + 1) ls (.long (f i) :: rest))) : W p l e R s m args below meth c H locs cells slots Q (F0 m pc ls (.int (nI i) :: .ref (ad k) :: rest)) :=
  ra_l hx hb hK hP k hk hg (vp_in_nI hi hn) hdg (by rw [nI_clamp (by omega)]; exact kk)
theorem rt_l (hx : p.tables.exec = Jvm.exec) (hb : c.code = cc) (hK : va_K D vwCl (ty_s cA) s) (hP : va_P D vwCl (wm_W N ad G) H) (hD : va_D A (wm_W N ad G)) (hS : va_S A H0 H locs) (k : Nat) (hk : k < N) {n : Nat} {f : Nat → Int64} (hg : G k = .inl (cA 0, n, .inr (.inl f))) {i : Nat} {x : Int64} (hi : i < n) (hn : n < 2 ^ 31) (hdg : decode cc pc = .ok (.lastore, 1)) (kk : ∀ (H1 : Heap) (locs1 : List Loc), va_P D vwCl (wm_W N ad (va_up G k (.inl (cA 0, n, .inr (.inl (vp_updL f i x)))))) H1 → va_D A (wm_W N ad (va_up G k (.inl (cA 0, n, .inr (.inl (vp_updL f i x)))))) → va_S A H0 H1 locs1 → W p l e R s m args below meth c H1 locs1 cells slots Q (F0 m (pc + 1) ls rest)) : W p l e R s m args below meth c H locs cells slots Q (F0 m pc ls (.long x :: .int (nI i) :: .ref (ad k) :: rest)) :=
  rs_l hx hb hK hP hD hS k hk hg (vp_in_nI hi hn) hdg (by rw [nI_clamp (by omega)]; exact kk)
theorem rn_i (hx : p.tables.exec = Jvm.exec) (hb : c.code = cc) (hK : va_K D vwCl (ty_s cA) s) (hP : va_P D vwCl (wm_W N ad G) H) (k : Nat) (hk : k < N) {n : Nat} {f : Nat → Int32} (hg : G k = .inl (cA 3, n, .inl f)) {i : Nat} (hi : i < n) (hn : n < 2 ^ 31) (hdg : decode cc pc = .ok (.iaload, 1)) (kk : W p l e R s m args below meth c H locs cells slots Q (F0 m (pc + 1) ls (.int (f i) :: rest))) : W p l e R s m args below meth c H locs cells slots Q (F0 m pc ls (.int (nI i) :: .ref (ad k) :: rest)) :=
  ra_i hx hb hK hP k hk hg (vp_in_nI hi hn) hdg (by rw [nI_clamp (by omega)]; exact kk)
theorem rt_i (hx : p.tables.exec = Jvm.exec) (hb : c.code = cc) (hK : va_K D vwCl (ty_s cA) s) (hP : va_P D vwCl (wm_W N ad G) H) (hD : va_D A (wm_W N ad G)) (hS : va_S A H0 H locs) (k : Nat) (hk : k < N) {n : Nat} {f : Nat → Int32} (hg : G k = .inl (cA 3, n, .inl f)) {i : Nat} {x : Int32} (hi : i < n) (hn : n < 2 ^ 31) (hdg : decode cc pc = .ok (.iastore, 1)) (kk : ∀ (H1 : Heap) (locs1 : List Loc), va_P D vwCl (wm_W N ad (va_up G k (.inl (cA 3, n, .inl (upd f i x))))) H1 → va_D A (wm_W N ad (va_up G k (.inl (cA 3, n, .inl (upd f i x))))) → va_S A H0 H1 locs1 → W p l e R s m args below meth c H1 locs1 cells slots Q (F0 m (pc + 1) ls rest)) : W p l e R s m args below meth c H locs cells slots Q (F0 m pc ls (.int x :: .int (nI i) :: .ref (ad k) :: rest)) :=
  rs_i hx hb hK hP hD hS k hk hg (vp_in_nI hi hn) hdg (by rw [nI_clamp (by omega)]; exact kk)
theorem rn_c (hx : p.tables.exec = Jvm.exec) (hb : c.code = cc) (hK : va_K D vwCl (ty_s cA) s) (hP : va_P D vwCl (wm_W N ad G) H) (k : Nat) (hk : k < N) {n : Nat} {f : Nat → Int32} (hg : G k = .inl (cA 2, n, .inl f)) {i : Nat} (hi : i < n) (hn : n < 2 ^ 31) (hdg : decode cc pc = .ok (.caload, 1)) (kk : W p l e R s m args below meth c H locs cells slots Q (F0 m (pc + 1) ls (.int (f i) :: rest))) : W p l e R s m args below meth c H locs cells slots Q (F0 m pc ls (.int (nI i) :: .ref (ad k) :: rest)) :=
  ra_c hx hb hK hP k hk hg (vp_in_nI hi hn) hdg (by rw [nI_clamp (by omega)]; exact kk)
theorem rt_c (hx : p.tables.exec = Jvm.exec) (hb : c.code = cc) (hK : va_K D vwCl (ty_s cA) s) (hP : va_P D vwCl (wm_W N ad G) H) (hD : va_D A (wm_W N ad G)) (hS : va_S A H0 H locs) (k : Nat) (hk : k < N) {n : Nat} {f : Nat → Int32} (hg : G k = .inl (cA 2, n, .inl f)) {i : Nat} {x : Int32} (hi : i < n) (hn : n < 2 ^ 31) (hdg : decode cc pc = .ok (.castore, 1)) (kk : ∀ (H1 : Heap) (locs1 : List Loc), va_P D vwCl (wm_W N ad (va_up G k (.inl (cA 2, n, .inl (upd f i (vp_nar .char x)))))) H1 → va_D A (wm_W N ad (va_up G k (.inl (cA 2, n, .inl (upd f i (vp_nar .char x)))))) → va_S A H0 H1 locs1 → W p l e R s m args below meth c H1 locs1 cells slots Q (F0 m (pc + 1) ls rest)) : W p l e R s m args below meth c H locs cells slots Q (F0 m pc ls (.int x :: .int (nI i) :: .ref (ad k) :: rest)) :=
  rs_c hx hb hK hP hD hS k hk hg (vp_in_nI hi hn) hdg (by rw [nI_clamp (by omega)]; exact kk)
theorem rn_q1 (hx : p.tables.exec = Jvm.exec) (hb : c.code = cc) (hK : va_K D vwCl (ty_s cA) s) (hP : va_P D vwCl (wm_W N ad G) H) (k : Nat) (hk : k < N) {n : Nat} {f : Nat → Option Nat} (hg : G k = .inl (cA 1, n, .inr (.inr (.inr (.inr f))))) {i : Nat} (hi : i < n) (hn : n < 2 ^ 31) (hdg : decode cc pc = .ok (.aaload, 1)) (kk : W p l e R s m args below meth c H locs cells slots Q (F0 m (pc + 1) ls (va_rf (f i) :: rest))) : W p l e R s m args below meth c H locs cells slots Q (F0 m pc ls (.int (nI i) :: .ref (ad k) :: rest)) :=
  ra_q1 hx hb hK hP k hk hg (vp_in_nI hi hn) hdg (by rw [nI_clamp (by omega)]; exact kk)
theorem rn_q4 (hx : p.tables.exec = Jvm.exec) (hb : c.code = cc) (hK : va_K D vwCl (ty_s cA) s) (hP : va_P D vwCl (wm_W N ad G) H) (k : Nat) (hk : k < N) {n : Nat} {f : Nat → Option Nat} (hg : G k = .inl (cA 4, n, .inr (.inr (.inr (.inr f))))) {i : Nat} (hi : i < n) (hn : n < 2 ^ 31) (hdg : decode cc pc = .ok (.aaload, 1)) (kk : W p l e R s m args below meth c H locs cells slots Q (F0 m (pc + 1) ls (va_rf (f i) :: rest))) : W p l e R s m args below meth c H locs cells slots Q (F0 m pc ls (.int (nI i) :: .ref (ad k) :: rest)) :=
  ra_q4 hx hb hK hP k hk hg (vp_in_nI hi hn) hdg (by rw [nI_clamp (by omega)]; exact kk)
end RW
/-- a Natural's cells, raw: limbs f, size sv, at a and a + 1 -/
def nw_ (cA : Nat → ClassId) (ad : Nat → Nat) (g : Nat → va_E) (a : Nat) (f : Nat → Int64) (sv : Int32) : Nat → va_E := fun j => if j = a then .inr (1, [.ref (ad (a + 1)), .int sv]) else if j = a + 1 then .inl (cA 0, 64, .inr (.inl f)) else g j
theorem nw_o {cA : Nat → ClassId} {ad : Nat → Nat} {g : Nat → va_E} {a : Nat} {f : Nat → Int64} {sv : Int32} : nw_ cA ad g a f sv a = .inr (1, [.ref (ad (a + 1)), .int sv]) := by simp [nw_]
theorem nw_l {cA : Nat → ClassId} {ad : Nat → Nat} {g : Nat → va_E} {a : Nat} {f : Nat → Int64} {sv : Int32} : nw_ cA ad g a f sv (a + 1) = .inl (cA 0, 64, .inr (.inl f)) := by simp [nw_]
theorem nw_ne {cA : Nat → ClassId} {ad : Nat → Nat} {g : Nat → va_E} {a j : Nat} {f : Nat → Int64} {sv : Int32} (h1 : j ≠ a) (h2 : j ≠ a + 1) : nw_ cA ad g a f sv j = g j := by simp [nw_, h1, h2]
theorem nw_so {cA : Nat → ClassId} {ad : Nat → Nat} {g : Nat → va_E} {a : Nat} {f : Nat → Int64} {sv v : Int32} : va_up (nw_ cA ad g a f sv) a (.inr (1, [.ref (ad (a + 1)), .int v])) = nw_ cA ad g a f v := by
  funext j
  simp only [va_up, nw_]
  by_cases h : j = a <;> simp [h]
theorem nw_sl {cA : Nat → ClassId} {ad : Nat → Nat} {g : Nat → va_E} {a : Nat} {f f' : Nat → Int64} {sv : Int32} : va_up (nw_ cA ad g a f sv) (a + 1) (.inl (cA 0, 64, .inr (.inl f'))) = nw_ cA ad g a f' sv := by
  funext j
  simp only [va_up, nw_]
  by_cases h : j = a
  · subst h; simp
  · by_cases h2 : j = a + 1 <;> simp [h, h2]
theorem nw_nw {cA : Nat → ClassId} {ad : Nat → Nat} {g : Nat → va_E} {a : Nat} {f f' : Nat → Int64} {sv sv' : Int32} : nw_ cA ad (nw_ cA ad g a f sv) a f' sv' = nw_ cA ad g a f' sv' := by
  funext j
  simp only [nw_]
  by_cases h : j = a
  · simp [h]
  · by_cases h2 : j = a + 1 <;> simp [h, h2]
/-- the limbs of a number -/
def nd_A (n : Nat) : Nat → Int64 := fun j => lN (nd_d n j)
/-- a Natural at a that holds n -/
def is_N (cA : Nat → ClassId) (ad : Nat → Nat) (g : Nat → va_E) (a n : Nat) : Prop := g a = .inr (1, [.ref (ad (a + 1)), .int (nI (nd_s n))]) ∧ g (a + 1) = .inl (cA 0, 64, .inr (.inl (nd_A n)))
abbrev nN (cA : Nat → ClassId) (ad : Nat → Nat) (g : Nat → va_E) (a n : Nat) : Nat → va_E := nw_ cA ad g a (nd_A n) (nI (nd_s n))
theorem nw_self {cA : Nat → ClassId} {ad : Nat → Nat} {g : Nat → va_E} {a n : Nat} (h : is_N cA ad g a n) : nN cA ad g a n = g := by
  funext j
  by_cases h1 : j = a
  · subst h1; rw [nN, nw_o, h.1]
  · by_cases h2 : j = a + 1
    · subst h2; rw [nN, nw_l, h.2]
    · rw [nN, nw_ne h1 h2]
theorem nN_is {cA : Nat → ClassId} {ad : Nat → Nat} {g : Nat → va_E} {a n : Nat} : is_N cA ad (nN cA ad g a n) a n := ⟨nw_o, nw_l⟩
theorem nI_inc (a k : Nat) : nI a + Int32.ofInt (k : Int) = nI (a + k) := by rw [nI_ic]; exact nI_add a k
theorem nI_dec (a : Nat) : nI (a + 1) + Int32.ofInt (-1) = nI a := pk_m1 a
/-- a number that counts down to -1: t - 1 -/
def dn : Nat → Int32
  | 0 => iZ (-1)
  | t + 1 => nI t
theorem dn_dec (t : Nat) : nI t + Int32.ofInt (-1) = dn t := by
  cases t with
  | zero => rfl
  | succ t => exact pk_m1 t
theorem dn_sub (t : Nat) : nI t - nI 1 = dn t := by
  cases t with
  | zero => rfl
  | succ t => exact pk_sub (Nat.succ_le_succ (Nat.zero_le t))
theorem nI_sub1 (k : Nat) : nI (k + 1) - nI 1 = nI k := pk_sub (Nat.succ_le_succ (Nat.zero_le k))
theorem lN_ne0 {n : Nat} (h0 : 0 < n) (h : n < 2 ^ 63) : ¬ lN n = 0 := by
  intro q
  have := (pk_lEQ (a := n) (b := 0) h (by decide)).mp q
  omega
theorem nd_s64 {n : Nat} (h : n < 1000000 ^ 64) : nd_s n ≤ 64 := nd_s_le 64 n h
theorem nd_A0 : nd_A 0 = fun _ => lN 0 := by funext j; rw [nd_A, nd_d0]

