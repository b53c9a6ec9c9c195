/-! limbs of six digits, decimal digits: pure rows -/
def nd_d (n j : Nat) : Nat := n / 1000000 ^ j % 1000000
theorem nd_q (n j : Nat) : n / 1000000 ^ (j + 1) = n / 1000000 ^ j / 1000000 := by
  rw [Nat.pow_succ, Nat.div_div_eq_div_mul]
theorem nd_q0 (n : Nat) : n / 1000000 ^ 0 = n := by simp
theorem nd_lt (n j : Nat) : nd_d n j < 1000000 := Nat.mod_lt _ (by decide)
/-- how many limbs -/
def nd_s (n : Nat) : Nat := if h : n = 0 then 0 else nd_s (n / 1000000) + 1
termination_by n
decreasing_by omega
theorem nd_s0 : nd_s 0 = 0 := by rw [nd_s]; simp
theorem nd_sp {n : Nat} (h : n ≠ 0) : nd_s n = nd_s (n / 1000000) + 1 := by rw [nd_s]; simp [h]
theorem nd_s_lt (n : Nat) : n < 1000000 ^ nd_s n := by
  induction n using Nat.strongRecOn with
  | ind n ih =>
    by_cases h : n = 0
    · subst h; rw [nd_s0]; decide
    · rw [nd_sp h, Nat.pow_succ]
      have := ih (n / 1000000) (by omega)
      omega
theorem nd_s_le (k : Nat) : ∀ n : Nat, n < 1000000 ^ k → nd_s n ≤ k := by
  induction k with
  | zero => intro n h; have : n = 0 := by simpa using h
            subst this; rw [nd_s0]; exact Nat.le_refl _
  | succ k ih =>
    intro n h
    by_cases h0 : n = 0
    · subst h0; rw [nd_s0]; omega
    · rw [nd_sp h0]
      rw [Nat.pow_succ] at h
      have := ih (n / 1000000) (by omega)
      omega
theorem nd_s_iff {n k : Nat} : nd_s n ≤ k ↔ n < 1000000 ^ k :=
  ⟨fun h => Nat.lt_of_lt_of_le (nd_s_lt n) (Nat.pow_le_pow_right (by decide) h), nd_s_le k n⟩
theorem nd_s_gt {n k : Nat} : k < nd_s n ↔ 1000000 ^ k ≤ n := by
  have := @nd_s_iff n k
  omega
theorem nd_s_z {n : Nat} : nd_s n = 0 ↔ n = 0 := by
  constructor
  · intro h
    have := nd_s_lt n
    rw [h] at this
    simpa using this
  · intro h; subst h; exact nd_s0
theorem nd_qz {n k j : Nat} (h : n < 1000000 ^ k) (hj : k ≤ j) : n / 1000000 ^ j = 0 :=
  Nat.div_eq_of_lt (Nat.lt_of_lt_of_le h (Nat.pow_le_pow_right (by decide) hj))
theorem nd_dz {n k j : Nat} (h : n < 1000000 ^ k) (hj : k ≤ j) : nd_d n j = 0 := by
  rw [nd_d, nd_qz h hj]
theorem nd_d0 (j : Nat) : nd_d 0 j = 0 := by simp [nd_d]
/-- the highest limb is not 0 -/
theorem nd_top {n k : Nat} (h : nd_s n = k + 1) : nd_d n k ≠ 0 := by
  have h1 : 1000000 ^ k ≤ n := nd_s_gt.mp (by omega)
  have h2 : n < 1000000 ^ (k + 1) := by rw [← h]; exact nd_s_lt n
  have h3 : n / 1000000 ^ k < 1000000 := by
    rw [Nat.div_lt_iff_lt_mul (Nat.pow_pos (by decide)), Nat.mul_comm, ← Nat.pow_succ]; exact h2
  have h4 : 1 ≤ n / 1000000 ^ k := by
    rw [Nat.le_div_iff_mul_le (Nat.pow_pos (by decide))]; omega
  rw [nd_d, Nat.mod_eq_of_lt h3]
  omega
/-- a highest limb that is 0: the size is less -/
theorem nd_shrink {n k : Nat} (h : n < 1000000 ^ (k + 1)) (h0 : nd_d n k = 0) : n < 1000000 ^ k := by
  have h3 : n / 1000000 ^ k < 1000000 := by
    rw [Nat.div_lt_iff_lt_mul (Nat.pow_pos (by decide)), Nat.mul_comm, ← Nat.pow_succ]; exact h
  rw [nd_d, Nat.mod_eq_of_lt h3] at h0
  rcases Nat.lt_or_ge n (1000000 ^ k) with q | q
  · exact q
  · have : 1 ≤ n / 1000000 ^ k := by
      rw [Nat.le_div_iff_mul_le (Nat.pow_pos (by decide))]; omega
    omega
theorem nd_size {n k : Nat} (h : n < 1000000 ^ (k + 1)) (h0 : nd_d n k ≠ 0) : nd_s n = k + 1 := by
  have h1 := nd_s_le _ n h
  have h2 : k < nd_s n := by
    rw [nd_s_gt]
    rcases Nat.lt_or_ge n (1000000 ^ k) with q | q
    · exact absurd (nd_dz q (Nat.le_refl k)) h0
    · exact q
  omega
/-- numbers with the same limbs are the same -/
theorem nd_ext (k : Nat) : ∀ a b : Nat, a < 1000000 ^ k → b < 1000000 ^ k → (∀ j, j < k → nd_d a j = nd_d b j) → a = b := by
  induction k with
  | zero => intro a b ha hb _; simp at ha hb; omega
  | succ k ih =>
    intro a b ha hb h
    have h0 := h 0 (by omega)
    simp [nd_d] at h0
    rw [Nat.pow_succ] at ha hb
    have := ih (a / 1000000) (b / 1000000) (by omega) (by omega) (fun j hj => by
      have := h (j + 1) (by omega)
      rw [nd_d, nd_d, Nat.pow_succ, Nat.mul_comm, ← Nat.div_div_eq_div_mul, ← Nat.div_div_eq_div_mul] at this
      exact this)
    omega
/-- the sum of limbs -/
def nd_v (f : Nat → Nat) : Nat → Nat
  | 0 => 0
  | k + 1 => nd_v f k + f k * 1000000 ^ k
theorem nd_v_congr {f g : Nat → Nat} {k : Nat} (h : ∀ j, j < k → f j = g j) : nd_v f k = nd_v g k := by
  induction k with
  | zero => rfl
  | succ k ih => rw [nd_v, nd_v, ih (fun j hj => h j (by omega)), h k (by omega)]
theorem nd_v_lt {f : Nat → Nat} {k : Nat} (h : ∀ j, j < k → f j < 1000000) : nd_v f k < 1000000 ^ k := by
  induction k with
  | zero => simp [nd_v]
  | succ k ih =>
    rw [nd_v, Nat.pow_succ]
    have h1 := ih (fun j hj => h j (by omega))
    have h2 := Nat.mul_le_mul_right (1000000 ^ k) (show f k ≤ 999999 by have := h k (by omega); omega)
    omega
theorem nd_v_d {f : Nat → Nat} {k : Nat} (h : ∀ j, j < k → f j < 1000000) : ∀ j, j < k → nd_d (nd_v f k) j = f j := by
  induction k with
  | zero => intro j hj; omega
  | succ k ih =>
    intro j hj
    have h1 := nd_v_lt (fun j hj => h j (Nat.lt_succ_of_lt hj)) (k := k)
    rw [nd_v]
    rcases Nat.lt_or_ge j k with q | q
    · rw [← ih (fun j hj => h j (by omega)) j q, nd_d, nd_d]
      obtain ⟨d, rfl⟩ : ∃ d, k = j + (d + 1) := ⟨k - j - 1, by omega⟩
      rw [show f (j + (d + 1)) * 1000000 ^ (j + (d + 1)) = 1000000 ^ j * (1000000 * (f (j + (d + 1)) * 1000000 ^ d)) by
        rw [Nat.pow_add, Nat.pow_succ]; simp only [Nat.mul_comm, Nat.mul_left_comm]]
      rw [Nat.add_mul_div_left _ _ (Nat.pow_pos (by decide))]
      omega
    · have : j = k := by omega
      subst this
      rw [nd_d, Nat.mul_comm, Nat.add_mul_div_left _ _ (Nat.pow_pos (by decide)), Nat.div_eq_of_lt h1, Nat.zero_add, Nat.mod_eq_of_lt (h j (by omega))]
theorem nd_v_of (n k : Nat) : nd_v (nd_d n) k = n % 1000000 ^ k := by
  induction k with
  | zero => simp [nd_v, Nat.mod_one]
  | succ k ih =>
    rw [nd_v, ih, nd_d, Nat.pow_succ, Nat.mod_mul, Nat.mul_comm]
theorem nd_v_self {n k : Nat} (h : n < 1000000 ^ k) : nd_v (nd_d n) k = n := by rw [nd_v_of, Nat.mod_eq_of_lt h]
/-- decimal digits: how many (of 0: 1) -/
def nd_p (n : Nat) : Nat := if h : n < 10 then 1 else nd_p (n / 10) + 1
termination_by n
decreasing_by omega
theorem nd_p1 {n : Nat} (h : n < 10) : nd_p n = 1 := by rw [nd_p]; simp [h]
theorem nd_pp {n : Nat} (h : ¬ n < 10) : nd_p n = nd_p (n / 10) + 1 := by rw [nd_p]; simp [h]
theorem nd_p_pos (n : Nat) : 1 ≤ nd_p n := by
  by_cases h : n < 10
  · rw [nd_p1 h]; exact Nat.le_refl _
  · rw [nd_pp h]; omega
theorem nd_p_iff (k : Nat) : ∀ n : Nat, nd_p n ≤ k + 1 ↔ n < 10 ^ (k + 1) := by
  induction k with
  | zero =>
    intro n
    by_cases h : n < 10
    · rw [nd_p1 h]; simp [h]
    · rw [nd_pp h]; have := nd_p_pos (n / 10); simp; omega
  | succ k ih =>
    intro n
    by_cases h : n < 10
    · rw [nd_p1 h]
      have : 10 ^ 1 ≤ 10 ^ (k + 1 + 1) := Nat.pow_le_pow_right (by decide) (by omega)
      omega
    · rw [nd_pp h, Nat.pow_succ]
      have := ih (n / 10)
      omega
theorem nd_p_le {n k : Nat} (h0 : 1 ≤ k) : nd_p n ≤ k ↔ n < 10 ^ k := by
  obtain ⟨j, rfl⟩ : ∃ j, k = j + 1 := ⟨k - 1, by omega⟩
  exact nd_p_iff j n
theorem nd_p_lt (n : Nat) : n < 10 ^ nd_p n := (nd_p_le (nd_p_pos n)).mp (Nat.le_refl _)
theorem nd_p_ge {n k : Nat} (h0 : 1 ≤ k) : k < nd_p n ↔ 10 ^ k ≤ n := by
  have := @nd_p_le n k h0
  omega
/-- a digit out of its limb -/
theorem nd_fig (n q r : Nat) (hr : r < 6) : nd_d n q / 10 ^ r % 10 = n / 10 ^ (6 * q + r) % 10 := by
  have e : (1000000 : Nat) ^ q = 10 ^ (6 * q) := by rw [Nat.pow_mul]
  rw [nd_d, e, Nat.pow_add, ← Nat.div_div_eq_div_mul]
  generalize n / 10 ^ (6 * q) = x
  rcases (show r = 0 ∨ r = 1 ∨ r = 2 ∨ r = 3 ∨ r = 4 ∨ r = 5 by omega) with rfl | rfl | rfl | rfl | rfl | rfl <;> simp <;> omega
theorem nd_e6 (q : Nat) : (1000000 : Nat) ^ q = 10 ^ (6 * q) := by rw [Nat.pow_mul]
