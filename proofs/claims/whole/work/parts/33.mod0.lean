/-! the reference's world: rows a 3, b 5, c 7, e 9, register i 11 + 2 i; registers 1, text 2 -/
abbrev RWt : Type := (Nat → Int32) × Nat × Bool × Int
def rO (ad : Nat → Nat) (k : Nat) (w : RWt) : va_E := .inr (3, [.ref (ad (k + 1)), .int (nI w.2.1), .int (nI w.2.2.1.toNat), .int (iZ w.2.2.2)])
def rL (cA : Nat → ClassId) (w : RWt) : va_E := .inl (cA 3, 800, .inl w.1)
def mg (cA : Nat → ClassId) (ad : Nat → Nat) (wa wb wc we : RWt) (rg : Nat → RWt) (tx : Nat → Int32) (tl : Nat) : Nat → va_E := fun k =>
  if k = 0 then .inr (4, [.ref (ad 1), .ref (ad 3), .ref (ad 5), .ref (ad 7), .ref (ad 9), .ref (ad 2), .int (nI tl)])
  else if k = 1 then .inl (cA 4, 6, .inr (.inr (.inr (.inr (fun i => some (ad (11 + 2 * i)))))))
  else if k = 2 then .inl (cA 3, 400, .inl tx)
  else if k = 3 then rO ad 3 wa else if k = 4 then rL cA wa
  else if k = 5 then rO ad 5 wb else if k = 6 then rL cA wb
  else if k = 7 then rO ad 7 wc else if k = 8 then rL cA wc
  else if k = 9 then rO ad 9 we else if k = 10 then rL cA we
  else if (k - 11) % 2 = 0 then rO ad k (rg ((k - 11) / 2)) else rL cA (rg ((k - 11) / 2))
abbrev isRw (cA : Nat → ClassId) (ad : Nat → Nat) (g : Nat → va_E) (k : Nat) (w : RWt) : Prop := is_R cA ad g k w.1 w.2.1 w.2.2.1 w.2.2.2
abbrev rwW (cA : Nat → ClassId) (ad : Nat → Nat) (g : Nat → va_E) (k : Nat) (w : RWt) : Nat → va_E := rw_ cA ad g k w.1 w.2.1 w.2.2.1 w.2.2.2
section MG
variable {cA : Nat → ClassId} {ad : Nat → Nat} {wa wb wc we w' : RWt} {rg : Nat → RWt} {tx : Nat → Int32} {tl : Nat}
theorem mg_0 : mg cA ad wa wb wc we rg tx tl 0 = .inr (4, [.ref (ad 1), .ref (ad 3), .ref (ad 5), .ref (ad 7), .ref (ad 9), .ref (ad 2), .int (nI tl)]) := rfl
theorem mg_1 : mg cA ad wa wb wc we rg tx tl 1 = .inl (cA 4, 6, .inr (.inr (.inr (.inr (fun i => some (ad (11 + 2 * i))))))) := rfl
theorem mg_2 : mg cA ad wa wb wc we rg tx tl 2 = .inl (cA 3, 400, .inl tx) := rfl
theorem mg_A : isRw cA ad (mg cA ad wa wb wc we rg tx tl) 3 wa := ⟨rfl, rfl⟩
theorem mg_B : isRw cA ad (mg cA ad wa wb wc we rg tx tl) 5 wb := ⟨rfl, rfl⟩
theorem mg_C : isRw cA ad (mg cA ad wa wb wc we rg tx tl) 7 wc := ⟨rfl, rfl⟩
theorem mg_E : isRw cA ad (mg cA ad wa wb wc we rg tx tl) 9 we := ⟨rfl, rfl⟩
theorem mg_G (i : Nat) : isRw cA ad (mg cA ad wa wb wc we rg tx tl) (11 + 2 * i) (rg i) := by
  constructor
  · simp only [mg]
    rw [if_neg (by omega), if_neg (by omega), if_neg (by omega), if_neg (by omega), if_neg (by omega), if_neg (by omega), if_neg (by omega), if_neg (by omega), if_neg (by omega), if_neg (by omega), if_neg (by omega), if_pos (by omega), show (11 + 2 * i - 11) / 2 = i by omega]; rfl
  · simp only [mg]
    rw [if_neg (by omega), if_neg (by omega), if_neg (by omega), if_neg (by omega), if_neg (by omega), if_neg (by omega), if_neg (by omega), if_neg (by omega), if_neg (by omega), if_neg (by omega), if_neg (by omega), if_neg (by omega), show (11 + 2 * i + 1 - 11) / 2 = i by omega]; rfl
theorem mg_ext {w : Nat → va_E} (h0 : w 0 = mg cA ad wa wb wc we rg tx tl 0) (h1 : w 1 = mg cA ad wa wb wc we rg tx tl 1) (h2 : w 2 = mg cA ad wa wb wc we rg tx tl 2) (hA : isRw cA ad w 3 wa) (hB : isRw cA ad w 5 wb) (hC : isRw cA ad w 7 wc) (hE : isRw cA ad w 9 we) (hG : ∀ i, isRw cA ad w (11 + 2 * i) (rg i)) : w = mg cA ad wa wb wc we rg tx tl := by
  funext k
  rcases (show k = 0 ∨ k = 1 ∨ k = 2 ∨ k = 3 ∨ k = 3 + 1 ∨ k = 5 ∨ k = 5 + 1 ∨ k = 7 ∨ k = 7 + 1 ∨ k = 9 ∨ k = 9 + 1 ∨ 11 ≤ k by omega) with r | r | r | r | r | r | r | r | r | r | r | r
  · rw [r, h0]
  · rw [r, h1]
  · rw [r, h2]
  · rw [r, hA.1]; rfl
  · rw [r, hA.2]; rfl
  · rw [r, hB.1]; rfl
  · rw [r, hB.2]; rfl
  · rw [r, hC.1]; rfl
  · rw [r, hC.2]; rfl
  · rw [r, hE.1]; rfl
  · rw [r, hE.2]; rfl
  · obtain ⟨i, hi⟩ : ∃ i, k = 11 + 2 * i ∨ k = 11 + 2 * i + 1 := ⟨(k - 11) / 2, by omega⟩
    rcases hi with hi | hi
    · rw [hi, (hG i).1, (mg_G i).1]
    · rw [hi, (hG i).2, (mg_G i).2]
theorem mg_ua : rwW cA ad (mg cA ad wa wb wc we rg tx tl) 3 w' = mg cA ad w' wb wc we rg tx tl :=
  mg_ext (rw_ne (by decide) (by decide)) (rw_ne (by decide) (by decide)) (rw_ne (by decide) (by decide)) (rw_is) (is_rw (by decide) (by decide) (by decide) mg_B) (is_rw (by decide) (by decide) (by decide) mg_C) (is_rw (by decide) (by decide) (by decide) mg_E) (fun i => is_rw (by omega) (by omega) (by omega) (mg_G i))
theorem mg_ub : rwW cA ad (mg cA ad wa wb wc we rg tx tl) 5 w' = mg cA ad wa w' wc we rg tx tl :=
  mg_ext (rw_ne (by decide) (by decide)) (rw_ne (by decide) (by decide)) (rw_ne (by decide) (by decide)) (is_rw (by decide) (by decide) (by decide) mg_A) (rw_is) (is_rw (by decide) (by decide) (by decide) mg_C) (is_rw (by decide) (by decide) (by decide) mg_E) (fun i => is_rw (by omega) (by omega) (by omega) (mg_G i))
theorem mg_uc : rwW cA ad (mg cA ad wa wb wc we rg tx tl) 7 w' = mg cA ad wa wb w' we rg tx tl :=
  mg_ext (rw_ne (by decide) (by decide)) (rw_ne (by decide) (by decide)) (rw_ne (by decide) (by decide)) (is_rw (by decide) (by decide) (by decide) mg_A) (is_rw (by decide) (by decide) (by decide) mg_B) (rw_is) (is_rw (by decide) (by decide) (by decide) mg_E) (fun i => is_rw (by omega) (by omega) (by omega) (mg_G i))
theorem mg_ue : rwW cA ad (mg cA ad wa wb wc we rg tx tl) 9 w' = mg cA ad wa wb wc w' rg tx tl :=
  mg_ext (rw_ne (by decide) (by decide)) (rw_ne (by decide) (by decide)) (rw_ne (by decide) (by decide)) (is_rw (by decide) (by decide) (by decide) mg_A) (is_rw (by decide) (by decide) (by decide) mg_B) (is_rw (by decide) (by decide) (by decide) mg_C) (rw_is) (fun i => is_rw (by omega) (by omega) (by omega) (mg_G i))
theorem mg_ug (i : Nat) : rwW cA ad (mg cA ad wa wb wc we rg tx tl) (11 + 2 * i) w' = mg cA ad wa wb wc we (va_up rg i w') tx tl := by
  refine mg_ext (rw_ne (by omega) (by omega)) (rw_ne (by omega) (by omega)) (rw_ne (by omega) (by omega)) (is_rw (by omega) (by omega) (by omega) mg_A) (is_rw (by omega) (by omega) (by omega) mg_B) (is_rw (by omega) (by omega) (by omega) mg_C) (is_rw (by omega) (by omega) (by omega) mg_E) (fun j => ?_)
  by_cases h : j = i
  · subst h; rw [va_up_self]; exact rw_is
  · rw [va_up_ne _ _ h]; exact is_rw (by omega) (by omega) (by omega) (mg_G j)
theorem mg_pa (n' : Nat) (b' : Bool) (z' : Int) {v : Int32} (hv : v = nI b'.toNat) : va_up (mg cA ad wa wb wc we rg tx tl) (3) (.inr (3, [.ref (ad (3 + 1)), .int (nI n'), .int v, .int (iZ z')])) = mg cA ad (wa.1, n', b', z') wb wc we rg tx tl := by
  subst hv
  have h := rw_self (mg_A : isRw cA ad (mg cA ad wa wb wc we rg tx tl) (3) wa)
  exact (congrArg (fun q => va_up q (3) (.inr (3, [.ref (ad (3 + 1)), .int (nI n'), .int (nI b'.toNat), .int (iZ z')]))) h.symm).trans (rw_so.trans (mg_ua : rwW cA ad (mg cA ad wa wb wc we rg tx tl) (3) (wa.1, n', b', z') = _))
theorem mg_sa (f' : Nat → Int32) : va_up (mg cA ad wa wb wc we rg tx tl) (3 + 1) (.inl (cA 3, 800, .inl f')) = mg cA ad (f', wa.2) wb wc we rg tx tl := by
  have h := rw_self (mg_A : isRw cA ad (mg cA ad wa wb wc we rg tx tl) (3) wa)
  exact (congrArg (fun q => va_up q (3 + 1) (.inl (cA 3, 800, .inl f'))) h.symm).trans (rw_sl.trans (mg_ua : rwW cA ad (mg cA ad wa wb wc we rg tx tl) (3) (f', wa.2) = _))
theorem mg_pb (n' : Nat) (b' : Bool) (z' : Int) {v : Int32} (hv : v = nI b'.toNat) : va_up (mg cA ad wa wb wc we rg tx tl) (5) (.inr (3, [.ref (ad (5 + 1)), .int (nI n'), .int v, .int (iZ z')])) = mg cA ad wa (wb.1, n', b', z') wc we rg tx tl := by
  subst hv
  have h := rw_self (mg_B : isRw cA ad (mg cA ad wa wb wc we rg tx tl) (5) wb)
  exact (congrArg (fun q => va_up q (5) (.inr (3, [.ref (ad (5 + 1)), .int (nI n'), .int (nI b'.toNat), .int (iZ z')]))) h.symm).trans (rw_so.trans (mg_ub : rwW cA ad (mg cA ad wa wb wc we rg tx tl) (5) (wb.1, n', b', z') = _))
theorem mg_sb (f' : Nat → Int32) : va_up (mg cA ad wa wb wc we rg tx tl) (5 + 1) (.inl (cA 3, 800, .inl f')) = mg cA ad wa (f', wb.2) wc we rg tx tl := by
  have h := rw_self (mg_B : isRw cA ad (mg cA ad wa wb wc we rg tx tl) (5) wb)
  exact (congrArg (fun q => va_up q (5 + 1) (.inl (cA 3, 800, .inl f'))) h.symm).trans (rw_sl.trans (mg_ub : rwW cA ad (mg cA ad wa wb wc we rg tx tl) (5) (f', wb.2) = _))
theorem mg_pc (n' : Nat) (b' : Bool) (z' : Int) {v : Int32} (hv : v = nI b'.toNat) : va_up (mg cA ad wa wb wc we rg tx tl) (7) (.inr (3, [.ref (ad (7 + 1)), .int (nI n'), .int v, .int (iZ z')])) = mg cA ad wa wb (wc.1, n', b', z') we rg tx tl := by
  subst hv
  have h := rw_self (mg_C : isRw cA ad (mg cA ad wa wb wc we rg tx tl) (7) wc)
  exact (congrArg (fun q => va_up q (7) (.inr (3, [.ref (ad (7 + 1)), .int (nI n'), .int (nI b'.toNat), .int (iZ z')]))) h.symm).trans (rw_so.trans (mg_uc : rwW cA ad (mg cA ad wa wb wc we rg tx tl) (7) (wc.1, n', b', z') = _))
theorem mg_sc (f' : Nat → Int32) : va_up (mg cA ad wa wb wc we rg tx tl) (7 + 1) (.inl (cA 3, 800, .inl f')) = mg cA ad wa wb (f', wc.2) we rg tx tl := by
  have h := rw_self (mg_C : isRw cA ad (mg cA ad wa wb wc we rg tx tl) (7) wc)
  exact (congrArg (fun q => va_up q (7 + 1) (.inl (cA 3, 800, .inl f'))) h.symm).trans (rw_sl.trans (mg_uc : rwW cA ad (mg cA ad wa wb wc we rg tx tl) (7) (f', wc.2) = _))
theorem mg_pe (n' : Nat) (b' : Bool) (z' : Int) {v : Int32} (hv : v = nI b'.toNat) : va_up (mg cA ad wa wb wc we rg tx tl) (9) (.inr (3, [.ref (ad (9 + 1)), .int (nI n'), .int v, .int (iZ z')])) = mg cA ad wa wb wc (we.1, n', b', z') rg tx tl := by
  subst hv
  have h := rw_self (mg_E : isRw cA ad (mg cA ad wa wb wc we rg tx tl) (9) we)
  exact (congrArg (fun q => va_up q (9) (.inr (3, [.ref (ad (9 + 1)), .int (nI n'), .int (nI b'.toNat), .int (iZ z')]))) h.symm).trans (rw_so.trans (mg_ue : rwW cA ad (mg cA ad wa wb wc we rg tx tl) (9) (we.1, n', b', z') = _))
theorem mg_se (f' : Nat → Int32) : va_up (mg cA ad wa wb wc we rg tx tl) (9 + 1) (.inl (cA 3, 800, .inl f')) = mg cA ad wa wb wc (f', we.2) rg tx tl := by
  have h := rw_self (mg_E : isRw cA ad (mg cA ad wa wb wc we rg tx tl) (9) we)
  exact (congrArg (fun q => va_up q (9 + 1) (.inl (cA 3, 800, .inl f'))) h.symm).trans (rw_sl.trans (mg_ue : rwW cA ad (mg cA ad wa wb wc we rg tx tl) (9) (f', we.2) = _))
theorem mg_pg (i : Nat) (n' : Nat) (b' : Bool) (z' : Int) {v : Int32} (hv : v = nI b'.toNat) : va_up (mg cA ad wa wb wc we rg tx tl) (11 + 2 * i) (.inr (3, [.ref (ad (11 + 2 * i + 1)), .int (nI n'), .int v, .int (iZ z')])) = mg cA ad wa wb wc we (va_up rg i ((rg i).1, n', b', z')) tx tl := by
  subst hv
  have h := rw_self (mg_G i : isRw cA ad (mg cA ad wa wb wc we rg tx tl) (11 + 2 * i) (rg i))
  exact (congrArg (fun q => va_up q (11 + 2 * i) (.inr (3, [.ref (ad (11 + 2 * i + 1)), .int (nI n'), .int (nI b'.toNat), .int (iZ z')]))) h.symm).trans (rw_so.trans (mg_ug i : rwW cA ad (mg cA ad wa wb wc we rg tx tl) (11 + 2 * i) ((rg i).1, n', b', z') = _))
theorem mg_sg (i : Nat) (f' : Nat → Int32) : va_up (mg cA ad wa wb wc we rg tx tl) (11 + 2 * i + 1) (.inl (cA 3, 800, .inl f')) = mg cA ad wa wb wc we (va_up rg i (f', (rg i).2)) tx tl := by
  have h := rw_self (mg_G i : isRw cA ad (mg cA ad wa wb wc we rg tx tl) (11 + 2 * i) (rg i))
  exact (congrArg (fun q => va_up q (11 + 2 * i + 1) (.inl (cA 3, 800, .inl f'))) h.symm).trans (rw_sl.trans (mg_ug i : rwW cA ad (mg cA ad wa wb wc we rg tx tl) (11 + 2 * i) (f', (rg i).2) = _))
theorem is_upR {g : Nat → va_E} {k o : Nat} {v : va_E} {w : RWt} (h1 : k ≠ o) (h2 : k ≠ o + 1) (h : isRw cA ad g o w) : isRw cA ad (va_up g k v) o w := ⟨(va_up_ne _ _ (Ne.symm h1)).trans h.1, (va_up_ne _ _ (Ne.symm h2)).trans h.2⟩
theorem mg_L (tl' : Nat) : va_up (mg cA ad wa wb wc we rg tx tl) 0 (.inr (4, [.ref (ad 1), .ref (ad 3), .ref (ad 5), .ref (ad 7), .ref (ad 9), .ref (ad 2), .int (nI tl')])) = mg cA ad wa wb wc we rg tx tl' :=
  mg_ext (va_up_self _ _ _) (va_up_ne _ _ (by decide)) (va_up_ne _ _ (by decide)) (is_upR (by decide) (by decide) mg_A) (is_upR (by decide) (by decide) mg_B) (is_upR (by decide) (by decide) mg_C) (is_upR (by decide) (by decide) mg_E) (fun i => is_upR (by omega) (by omega) (mg_G i))
theorem mg_X (tx' : Nat → Int32) : va_up (mg cA ad wa wb wc we rg tx tl) 2 (.inl (cA 3, 400, .inl tx')) = mg cA ad wa wb wc we rg tx' tl :=
  mg_ext (va_up_ne _ _ (by decide)) (va_up_ne _ _ (by decide)) (va_up_self _ _ _) (is_upR (by decide) (by decide) mg_A) (is_upR (by decide) (by decide) mg_B) (is_upR (by decide) (by decide) mg_C) (is_upR (by decide) (by decide) mg_E) (fun i => is_upR (by omega) (by omega) (mg_G i))
end MG
/-- the reference's registers hold what the specification says -/
def mr (rg : Nat → RWt) (rh : Nat → Bool × Nat × Int) : Prop := ∀ i, i < 6 → rv (rg i).1 (rg i).2.1 (rh i).2.1 ∧ (rg i).2.2 = ((rh i).1, (rh i).2.2)
theorem mr_up {rg : Nat → RWt} {rh : Nat → Bool × Nat × Int} {k : Nat} {w : RWt} {d : Bool × Nat × Int} (h : mr rg rh) (h1 : rv w.1 w.2.1 d.2.1) (h2 : w.2.2 = (d.1, d.2.2)) : mr (va_up rg k w) (va_up rh k d) := by
  intro i hi
  by_cases e : i = k
  · subst e; rw [va_up_self, va_up_self]; exact ⟨h1, h2⟩
  · rw [va_up_ne _ _ e, va_up_ne _ _ e]; exact h i hi
