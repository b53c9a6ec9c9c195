/-! the reference's rows -/
def rw_ (cA : Nat → ClassId) (ad : Nat → Nat) (g : Nat → va_E) (a : Nat) (f : Nat → Int32) (n : Nat) (b : Bool) (z : Int) : Nat → va_E := fun j => if j = a then .inr (3, [.ref (ad (a + 1)), .int (nI n), .int (nI b.toNat), .int (iZ z)]) else if j = a + 1 then .inl (cA 3, 800, .inl f) else g j
section RWS
variable {cA : Nat → ClassId} {ad : Nat → Nat} {g : Nat → va_E} {a j : Nat} {f f' : Nat → Int32} {n n' : Nat} {b b' : Bool} {z z' : Int}
theorem rw_o : rw_ cA ad g a f n b z a = .inr (3, [.ref (ad (a + 1)), .int (nI n), .int (nI b.toNat), .int (iZ z)]) := by simp [rw_]
theorem rw_l : rw_ cA ad g a f n b z (a + 1) = .inl (cA 3, 800, .inl f) := by simp [rw_]
theorem rw_ne (h1 : j ≠ a) (h2 : j ≠ a + 1) : rw_ cA ad g a f n b z j = g j := by simp [rw_, h1, h2]
theorem rw_so : va_up (rw_ cA ad g a f n b z) a (.inr (3, [.ref (ad (a + 1)), .int (nI n'), .int (nI b'.toNat), .int (iZ z')])) = rw_ cA ad g a f n' b' z' := by
  funext j
  simp only [va_up, rw_]
  by_cases h : j = a <;> simp [h]
theorem rw_sb (b' : Bool) {v : Int32} (hv : v = nI b'.toNat) : va_up (rw_ cA ad g a f n b z) a (.inr (3, [.ref (ad (a + 1)), .int (nI n), .int v, .int (iZ z)])) = rw_ cA ad g a f n b' z := by
  subst hv; exact rw_so
theorem rw_sl : va_up (rw_ cA ad g a f n b z) (a + 1) (.inl (cA 3, 800, .inl f')) = rw_ cA ad g a f' n b z := by
  funext j
  simp only [va_up, rw_]
  by_cases h : j = a
  · subst h; simp
  · by_cases h2 : j = a + 1 <;> simp [h, h2]
theorem rw_rw : rw_ cA ad (rw_ cA ad g a f n b z) a f' n' b' z' = rw_ cA ad g a f' n' b' z' := by
  funext j
  simp only [rw_]
  by_cases h : j = a
  · simp [h]
  · by_cases h2 : j = a + 1 <;> simp [h, h2]
end RWS
def is_R (cA : Nat → ClassId) (ad : Nat → Nat) (g : Nat → va_E) (a : Nat) (f : Nat → Int32) (n : Nat) (b : Bool) (z : Int) : Prop := g a = .inr (3, [.ref (ad (a + 1)), .int (nI n), .int (nI b.toNat), .int (iZ z)]) ∧ g (a + 1) = .inl (cA 3, 800, .inl f)
theorem rw_self {cA : Nat → ClassId} {ad : Nat → Nat} {g : Nat → va_E} {a : Nat} {f : Nat → Int32} {n : Nat} {b : Bool} {z : Int} (h : is_R cA ad g a f n b z) : rw_ cA ad g a f n b z = g := by
  funext j
  by_cases h1 : j = a
  · subst h1; rw [rw_o, h.1]
  · by_cases h2 : j = a + 1
    · subst h2; rw [rw_l, h.2]
    · rw [rw_ne h1 h2]
theorem rw_is {cA : Nat → ClassId} {ad : Nat → Nat} {g : Nat → va_E} {a : Nat} {f : Nat → Int32} {n : Nat} {b : Bool} {z : Int} : is_R cA ad (rw_ cA ad g a f n b z) a f n b z := ⟨rw_o, rw_l⟩
theorem is_rw {cA : Nat → ClassId} {ad : Nat → Nat} {g : Nat → va_E} {a o : Nat} {f f' : Nat → Int32} {n n' : Nat} {b b' : Bool} {z z' : Int} (h1 : a ≠ o) (h2 : a ≠ o + 1) (h3 : a + 1 ≠ o) (h : is_R cA ad g o f' n' b' z') : is_R cA ad (rw_ cA ad g a f n b z) o f' n' b' z' :=
  ⟨(rw_ne (by omega) (by omega)).trans h.1, (rw_ne (by omega) (by omega)).trans h.2⟩
/-- the digits of a number in n places; with no 0 in front -/
def dv (f : Nat → Int32) (n m : Nat) : Prop := m < 10 ^ n ∧ ∀ j, j < n → f j = nI (m / 10 ^ j % 10)
def rv (f : Nat → Int32) (n m : Nat) : Prop := n = nd_p m ∧ ∀ j, j < n → f j = nI (m / 10 ^ j % 10)
theorem rv_dv {f : Nat → Int32} {n m : Nat} (h : rv f n m) : dv f n m := ⟨by rw [h.1]; exact nd_p_lt m, h.2⟩
theorem dv_rv {f : Nat → Int32} {n m : Nat} (h : dv f n m) (hn : 1 ≤ n) : rv f (nd_p m) m := ⟨rfl, fun j hj => h.2 j (Nat.lt_of_lt_of_le hj ((nd_p_le hn).mpr h.1))⟩
theorem dg_lt (m j : Nat) : m / 10 ^ j % 10 < 10 := Nat.mod_lt _ (by decide)
theorem rv_0 {f : Nat → Int32} {n m : Nat} (h : rv f n m) : m = 0 ↔ n = 1 ∧ m / 10 ^ 0 % 10 = 0 := by
  obtain ⟨h1, -⟩ := h
  constructor
  · intro e; subst e; rw [nd_p1 (by decide)] at h1; exact ⟨h1, by decide⟩
  · intro e
    have h2 : m < 10 ^ 1 := by
      have := nd_p_lt m
      rw [← h1, e.1] at this; exact this
    have h3 := e.2
    rw [Nat.pow_zero, Nat.div_one] at h3
    omega
theorem tp_q (x : Nat) (k : Nat) : x / 10 ^ (k + 1) = x / 10 ^ k / 10 := by rw [Nat.pow_succ, Nat.div_div_eq_div_mul]
/-- the first n of one, the rest of another -/
def tk {α : Type} (f g : Nat → α) (n : Nat) : Nat → α := fun j => if j < n then f j else g j
theorem tk_lt {α : Type} {f g : Nat → α} {n j : Nat} (h : j < n) : tk f g n j = f j := if_pos h
theorem tk_0 {α : Type} (f g : Nat → α) : tk f g 0 = g := by funext j; exact if_neg (Nat.not_lt_zero j)
theorem tk_s (f g : Nat → Int32) (n : Nat) : upd (tk f g n) n (f n) = tk f g (n + 1) := by
  funext j
  by_cases h : j = n
  · subst h; rw [pk_us, tk_lt (by omega)]
  · rw [pk_un h]
    simp only [tk]
    by_cases h2 : j < n
    · rw [if_pos h2, if_pos (by omega)]
    · rw [if_neg h2, if_neg (by omega)]
