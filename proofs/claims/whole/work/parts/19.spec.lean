/-! what each call answers and makes of the registers, in numbers -/
/-- a register that is in order -/
def rk (d : Bool × Nat × Int) : Prop := d.2.1 < 10 ^ 190 ∧ -6 ≤ d.2.2 ∧ d.2.2 ≤ 6 ∧ (d.1 = true → d.2.1 ≠ 0)
def rks (rh : Nat → Bool × Nat × Int) : Prop := ∀ i, i < 6 → rk (rh i)
/-- the class's numbers in order -/
def ci (sf : Nat → Bool × Nat × Int) (x y : Nat) : Prop := x < 1000000 ^ 64 ∧ y < 1000000 ^ 64 ∧ (sf 0).2.1 < 1000000 ^ 64 ∧ sf 1 = (false, 1, 0) ∧ rks (fun i => sf (2 + i))
/-- register k becomes d, if it is kept -/
def kpr (rh : Nat → Bool × Nat × Int) (k : Nat) (d : Bool × Nat × Int) : Int32 × (Nat → Bool × Nat × Int) :=
  if 190 < nd_p d.2.1 ∨ ¬ (-6 ≤ d.2.2 ∧ d.2.2 ≤ 6) then (iZ (-3), rh) else (nI (nd_p d.2.1), va_up rh k (sn d.1 d.2.1, d.2))
/-- rounding: 1 and the number, or 0 -/
def rdn (b : Bool) (X Y : Nat) (way : Int) : Nat × Nat :=
  if X % Y = 0 then (1, X / Y) else if way = 7 then (0, X / Y) else (1, if awB way b (odI (X % Y + X % Y) Y) (X / Y) then X / Y + 1 else X / Y)
/-- the quotient at a scale -/
def qX (d1 d2 : Bool × Nat × Int) (sc : Int) : Nat := d1.2.1 * 10 ^ (sc + d2.2.2 - d1.2.2).toNat
def qY (d1 d2 : Bool × Nat × Int) (sc : Int) : Nat := d2.2.1 * 10 ^ (-(sc + d2.2.2 - d1.2.2)).toNat
def kqr (rh : Nat → Bool × Nat × Int) (k : Nat) (d1 d2 : Bool × Nat × Int) (sc way : Int) : Int32 × (Nat → Bool × Nat × Int) :=
  if -6 ≤ sc ∧ sc ≤ 6 then (if (rdn (d1.1 != d2.1) (qX d1 d2 sc) (qY d1 d2 sc) way).1 = 0 then (iZ (-4), rh) else kpr rh k (d1.1 != d2.1, (rdn (d1.1 != d2.1) (qX d1 d2 sc) (qY d1 d2 sc) way).2, sc)) else (iZ (-3), rh)
/-- the t-th power -/
def pw (d : Bool × Nat × Int) : Nat → Bool × Nat × Int
  | 0 => (false, 1, 0)
  | t + 1 => (sn ((pw d t).1 != d.1) ((pw d t).2.1 * d.2.1), (pw d t).2.1 * d.2.1, (pw d t).2.2 + d.2.2)
theorem kp_kpr (sf : Nat → Bool × Nat × Int) (k : Nat) : (kp sf k).1 = (kpr (fun i => sf (2 + i)) k (sf 0)).1 ∧ (fun i => (kp sf k).2 (2 + i)) = (kpr (fun i => sf (2 + i)) k (sf 0)).2 ∧ (kp sf k).2 0 = sf 0 ∧ (kp sf k).2 1 = sf 1 := by
  rw [kp, kpr]
  split
  · exact ⟨rfl, rfl, rfl, rfl⟩
  · refine ⟨rfl, ?_, va_up_ne _ _ (by omega), va_up_ne _ _ (by omega)⟩
    funext i
    by_cases h : i = k
    · subst h; dsimp only; rw [va_up_self, va_up_self]
    · dsimp only; rw [va_up_ne _ _ (by omega), va_up_ne _ _ h]
theorem sn_ok {b : Bool} {n : Nat} (h : sn b n = true) : n ≠ 0 := by
  rw [sn, Bool.and_eq_true, decide_eq_true_iff] at h; exact h.2
theorem sn_rk {d : Bool × Nat × Int} (h : d.1 = true → d.2.1 ≠ 0) : sn d.1 d.2.1 = d.1 := by
  rw [sn]
  cases hb : d.1
  · rfl
  · simp [h hb]
theorem kpr_rks {rh : Nat → Bool × Nat × Int} {k : Nat} {d : Bool × Nat × Int} (h : rks rh) : rks (kpr rh k d).2 := by
  rw [kpr]
  split
  · exact h
  · rename_i q
    intro i hi
    show rk (va_up rh k _ i)
    by_cases e : i = k
    · subst e
      rw [va_up_self]
      have hp : nd_p d.2.1 ≤ 190 := by
        rcases Nat.lt_or_ge 190 (nd_p d.2.1) with w | w
        · exact absurd (Or.inl w) q
        · exact w
      have hz : -6 ≤ d.2.2 ∧ d.2.2 ≤ 6 := Decidable.of_not_not (fun w => q (Or.inr w))
      exact ⟨(nd_p_le (by decide)).mp hp, hz.1, hz.2, fun w => sn_ok w⟩
    · rw [va_up_ne _ _ e]; exact h i hi
/-- the class's numbers behind keep -/
theorem ci_kp {sf : Nat → Bool × Nat × Int} {x y x1 y1 k : Nat} (h : ci sf x y) (h1 : x1 < 1000000 ^ 64) (h2 : y1 < 1000000 ^ 64) : ci (kp sf k).2 x1 y1 := by
  obtain ⟨a1, a2, a3, a4⟩ := kp_kpr sf k
  refine ⟨h1, h2, by rw [a3]; exact h.2.2.1, by rw [a4]; exact h.2.2.2.1, ?_⟩
  rw [a2]; exact kpr_rks h.2.2.2.2
theorem rh_up0 {sf : Nat → Bool × Nat × Int} {d : Bool × Nat × Int} : (fun i => va_up sf 0 d (2 + i)) = (fun i => sf (2 + i)) := by
  funext i; exact va_up_ne _ _ (by omega)
theorem ci_up0 {sf : Nat → Bool × Nat × Int} {x y x1 y1 : Nat} {d : Bool × Nat × Int} (h : ci sf x y) (h1 : x1 < 1000000 ^ 64) (h2 : y1 < 1000000 ^ 64) (hd : d.2.1 < 1000000 ^ 64) : ci (va_up sf 0 d) x1 y1 := by
  refine ⟨h1, h2, by rw [va_up_self]; exact hd, by rw [va_up_ne _ _ (by decide)]; exact h.2.2.2.1, ?_⟩
  rw [rh_up0]; exact h.2.2.2.2
/-- the text: chars -/
def tr (tx : Nat → Int32) (T : List Nat) : Prop := ∀ k, k < T.length → tx k = nI (T.getD k 0)
theorem tr_nil (tx : Nat → Int32) : tr tx [] := fun k hk => absurd hk (Nat.not_lt_zero _)
theorem tr_ap {tx : Nat → Int32} {T : List Nat} {q : Nat} (h : tr tx T) : tr (upd tx T.length (nI q)) (T ++ [q]) := by
  intro k hk
  rw [List.length_append, List.length_singleton] at hk
  rcases Nat.lt_or_ge k T.length with r | r
  · rw [pk_un (by omega), h k r, List.getD_eq_getElem?_getD, List.getD_eq_getElem?_getD, List.getElem?_append_left r]
  · obtain rfl : k = T.length := by omega
    rw [pk_us]; simp
/-- the figures with the point, from a place down -/
def fgs (n : Nat) (z : Int) : Nat → List Nat
  | 0 => []
  | k + 1 => (48 + n / 10 ^ k % 10) :: (if 0 < k ∧ (k : Int) = z then 46 :: fgs n z k else fgs n z k)
theorem fgs_len (n : Nat) (z : Int) (k : Nat) : (fgs n z k).length ≤ 2 * k := by
  induction k with
  | zero => exact Nat.le_refl _
  | succ k ih =>
    rw [fgs]; split
    · simp only [List.length_cons]; omega
    · simp only [List.length_cons]; omega
/-- the text of a decimal -/
def wr (d : Bool × Nat × Int) : List Nat :=
  (if d.1 then [45] else []) ++ fgs d.2.1 d.2.2 ((max ((nd_p d.2.1 : Int) - 1) d.2.2).toNat + 1) ++ (if d.2.1 = 0 then [] else List.replicate (-d.2.2).toNat 48)
/-- the calls -/
def sp_load (rh : Nat → Bool × Nat × Int) (k : Int) (v : Int64) (sc : Int) : Int32 × (Nat → Bool × Nat × Int) :=
  if (0 ≤ k ∧ k < 6) then (if -6 ≤ sc ∧ sc ≤ 6 then (nI 0, va_up rh k.toNat (decide (v.toInt < 0), v.toInt.natAbs, sc)) else (iZ (-3), rh)) else (iZ (-1), rh)
def sp_push (rh : Nat → Bool × Nat × Int) (k : Int) (v : Int64) : Int32 × (Nat → Bool × Nat × Int) :=
  if (0 ≤ k ∧ k < 6) then kpr rh k.toNat ((rh k.toNat).1, (rh k.toNat).2.1 * 10 ^ 18 + v.toInt.natAbs % 10 ^ 18, (rh k.toNat).2.2) else (iZ (-1), rh)
def sp_reckon (rh : Nat → Bool × Nat × Int) (op k i j : Int) : Int32 × (Nat → Bool × Nat × Int) :=
  if (0 ≤ k ∧ k < 6) ∧ (0 ≤ i ∧ i < 6) ∧ (0 ≤ j ∧ j < 6) ∧ 0 ≤ op ∧ op ≤ 4 then
    kpr rh k.toNat (if op = 0 then sm (rh i.toNat) (rh j.toNat) (rh j.toNat).1 else if op = 1 then sm (rh i.toNat) (rh j.toNat) (!(rh j.toNat).1) else if op = 2 then (sn ((rh i.toNat).1 != (rh j.toNat).1) ((rh i.toNat).2.1 * (rh j.toNat).2.1), (rh i.toNat).2.1 * (rh j.toNat).2.1, (rh i.toNat).2.2 + (rh j.toNat).2.2) else if op = 3 then (if 0 ≤ cmpD (rh i.toNat) (rh j.toNat) then rh i.toNat else rh j.toNat) else (if cmpD (rh i.toNat) (rh j.toNat) ≤ 0 then rh i.toNat else rh j.toNat))
  else (iZ (-1), rh)
def sp_divide (rh : Nat → Bool × Nat × Int) (k i j sc way : Int) : Int32 × (Nat → Bool × Nat × Int) :=
  if (0 ≤ k ∧ k < 6) ∧ (0 ≤ i ∧ i < 6) ∧ (0 ≤ j ∧ j < 6) ∧ 0 ≤ way ∧ way ≤ 7 then (if (rh j.toNat).2.1 = 0 then (iZ (-2), rh) else kqr rh k.toNat (rh i.toNat) (rh j.toNat) sc way) else (iZ (-1), rh)
def sp_scale (rh : Nat → Bool × Nat × Int) (k i sc way : Int) : Int32 × (Nat → Bool × Nat × Int) :=
  if (0 ≤ k ∧ k < 6) ∧ (0 ≤ i ∧ i < 6) ∧ 0 ≤ way ∧ way ≤ 7 then kqr rh k.toNat (rh i.toNat) (false, 1, 0) sc way else (iZ (-1), rh)
def sp_part (rh : Nat → Bool × Nat × Int) (q r i j : Int) : Int32 × (Nat → Bool × Nat × Int) :=
  if (0 ≤ q ∧ q < 6) ∧ (0 ≤ r ∧ r < 6) ∧ (0 ≤ i ∧ i < 6) ∧ (0 ≤ j ∧ j < 6) ∧ q ≠ r then (if (rh j.toNat).2.1 = 0 then (iZ (-2), rh) else
    if 190 < nd_p (aX (rh i.toNat) (rh j.toNat) / aX (rh j.toNat) (rh i.toNat)) then (iZ (-3), rh) else
    (nI (nd_p (aX (rh i.toNat) (rh j.toNat) / aX (rh j.toNat) (rh i.toNat))), va_up (va_up rh q.toNat (sn ((rh i.toNat).1 != (rh j.toNat).1) (aX (rh i.toNat) (rh j.toNat) / aX (rh j.toNat) (rh i.toNat)), aX (rh i.toNat) (rh j.toNat) / aX (rh j.toNat) (rh i.toNat), 0)) r.toNat (sn (rh i.toNat).1 (aX (rh i.toNat) (rh j.toNat) % aX (rh j.toNat) (rh i.toNat)), aX (rh i.toNat) (rh j.toNat) % aX (rh j.toNat) (rh i.toNat), max (rh i.toNat).2.2 (rh j.toNat).2.2))) else (iZ (-1), rh)
/-- rounding to a precision: d has more digits than p -/
def rnd (rh : Nat → Bool × Nat × Int) (k : Nat) (d : Bool × Nat × Int) (p : Nat) (way : Int) : Int32 × (Nat → Bool × Nat × Int) :=
  if (rdn d.1 d.2.1 (10 ^ (nd_p d.2.1 - p)) way).1 = 0 then (iZ (-4), rh) else
  if p < nd_p (rdn d.1 d.2.1 (10 ^ (nd_p d.2.1 - p)) way).2 then kpr rh k (d.1, (rdn d.1 d.2.1 (10 ^ (nd_p d.2.1 - p)) way).2 / 10, d.2.2 - ((nd_p d.2.1 - p : Nat) : Int) - 1)
  else kpr rh k (d.1, (rdn d.1 d.2.1 (10 ^ (nd_p d.2.1 - p)) way).2, d.2.2 - ((nd_p d.2.1 - p : Nat) : Int))
def sp_round (rh : Nat → Bool × Nat × Int) (k i p way : Int) : Int32 × (Nat → Bool × Nat × Int) :=
  if (0 ≤ k ∧ k < 6) ∧ (0 ≤ i ∧ i < 6) ∧ 0 ≤ way ∧ way ≤ 7 ∧ 1 ≤ p ∧ (nd_p (rh i.toNat).2.1 : Int) - p ≤ 18 then (if (nd_p (rh i.toNat).2.1 : Int) ≤ p then kpr rh k.toNat (rh i.toNat) else rnd rh k.toNat (rh i.toNat) p.toNat way) else (iZ (-1), rh)
def sp_turn (rh : Nat → Bool × Nat × Int) (op k i : Int) : Int32 × (Nat → Bool × Nat × Int) :=
  if (0 ≤ k ∧ k < 6) ∧ (0 ≤ i ∧ i < 6) ∧ 0 ≤ op ∧ op ≤ 2 then kpr rh k.toNat (if op = 0 then (false, (rh i.toNat).2) else if op = 1 then (!(rh i.toNat).1, (rh i.toNat).2) else if (rh i.toNat).2.1 = 0 then ((rh i.toNat).1, (rh i.toNat).2.1, 0) else ((rh i.toNat).1, (rh i.toNat).2.1 / 10 ^ zz_ (rh i.toNat).2.1, (rh i.toNat).2.2 - (zz_ (rh i.toNat).2.1 : Int))) else (iZ (-1), rh)
def sp_move (rh : Nat → Bool × Nat × Int) (op k i n : Int) : Int32 × (Nat → Bool × Nat × Int) :=
  if (0 ≤ k ∧ k < 6) ∧ (0 ≤ i ∧ i < 6) ∧ 0 ≤ op ∧ op ≤ 1 ∧ -12 ≤ n ∧ n ≤ 12 then kpr rh k.toNat (if op = 1 ∧ (rh i.toNat).2.2 - n < 0 then ((rh i.toNat).1, (rh i.toNat).2.1 * 10 ^ (-((rh i.toNat).2.2 - n)).toNat, 0) else ((rh i.toNat).1, (rh i.toNat).2.1, (rh i.toNat).2.2 - n)) else (iZ (-1), rh)
def sp_power (rh : Nat → Bool × Nat × Int) (k i n : Int) : Int32 × (Nat → Bool × Nat × Int) :=
  if (0 ≤ k ∧ k < 6) ∧ (0 ≤ i ∧ i < 6) ∧ 0 ≤ n ∧ n ≤ 40 then (if 190 < n.toNat * nd_p (rh i.toNat).2.1 then (iZ (-3), rh) else kpr rh k.toNat (pw (rh i.toNat) n.toNat)) else (iZ (-1), rh)
def sp_compare (rh : Nat → Bool × Nat × Int) (i j : Int) : Int32 := if (0 ≤ i ∧ i < 6) ∧ (0 ≤ j ∧ j < 6) then iZ (cmpD (rh i.toNat) (rh j.toNat)) else iZ (-2)
def sp_same (rh : Nat → Bool × Nat × Int) (i j : Int) : Int32 := if (0 ≤ i ∧ i < 6) ∧ (0 ≤ j ∧ j < 6) then (if rh i.toNat = rh j.toNat then nI 1 else nI 0) else nI 0
def sp_look (rh : Nat → Bool × Nat × Int) (what i : Int) : Int32 :=
  if (0 ≤ i ∧ i < 6) then (if what = 0 then iZ (sI (rh i.toNat)) else if what = 1 then nI (nd_p (rh i.toNat).2.1) else if what = 2 then iZ (rh i.toNat).2.2 else iZ (-1)) else if what = 2 then nI 1000 else iZ (-1)
def sp_digit (rh : Nat → Bool × Nat × Int) (i n : Int) : Int32 := if (0 ≤ i ∧ i < 6) ∧ 0 ≤ n ∧ n < nd_p (rh i.toNat).2.1 then nI ((rh i.toNat).2.1 / 10 ^ n.toNat % 10) else iZ (-1)
/-- the whole part: digits over the scale -/
def wh (d : Bool × Nat × Int) : Nat := d.2.1 * 10 ^ (-d.2.2).toNat / 10 ^ d.2.2.toNat
def sp_whole (rh : Nat → Bool × Nat × Int) (i : Int) : Int64 := if (0 ≤ i ∧ i < 6) then (if (rh i.toNat).1 then -lN (wh (rh i.toNat)) else lN (wh (rh i.toNat))) else lN 0
def sp_write (rh : Nat → Bool × Nat × Int) (T : List Nat) (i : Int) : Int32 × List Nat := if (0 ≤ i ∧ i < 6) then (nI (wr (rh i.toNat)).length, wr (rh i.toNat)) else (iZ (-1), T)
def sp_octet (T : List Nat) (k : Int) : Int32 := if 0 ≤ k ∧ k < T.length then nI (T.getD k.toNat 0) else iZ (-1)
