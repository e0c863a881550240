/-! the class: codes of a text -/
/-- the class's step for a code -/
def cmC (c : Int32) : Int32 := if nI 10000 ≤ c then nI 9999 - c else if 0 ≤ c then c else if c = -10 then -4 else c - 4
theorem cm_num {j : Nat} (h : j < 10000) : cmC (nI j) = nI j := by
  rw [cmC, if_neg (nI_ge h (by decide)), if_pos (nI_pos' (by omega))]
theorem cm_name {i : Nat} (h : i < 3) : cmC (nI (10000 + i)) = -1 - nI i := by
  rcases (show i = 0 ∨ i = 1 ∨ i = 2 by omega) with rfl | rfl | rfl <;> decide +kernel
theorem cm_not : cmC (-10) = -4 := by decide +kernel
theorem cm_op {j : Nat} (h1 : 1 ≤ j) (h9 : j ≤ 9) : cmC (0 - nI j) = -4 - nI j := by
  rcases (show j = 1 ∨ j = 2 ∨ j = 3 ∨ j = 4 ∨ j = 5 ∨ j = 6 ∨ j = 7 ∨ j = 8 ∨ j = 9 by omega) with rfl | rfl | rfl | rfl | rfl | rfl | rfl | rfl | rfl <;> decide +kernel
/-- operands among the first k codes -/
def cG (g : Nat → Int32) : Nat → Nat
  | 0 => 0
  | k + 1 => cG g k + (if 0 ≤ g k then 1 else 0)
theorem dp_cG (g : Nat → Int32) : ∀ k, dpN g k ≤ cG g k := by
  intro k
  induction k with
  | zero => exact Nat.le_refl _
  | succ k ih =>
    rw [dpN, cG]
    by_cases h : 0 ≤ g k
    · rw [if_pos h, if_pos h]; omega
    · rw [if_neg h, if_neg h]; split <;> omega
theorem cG_mono (g : Nat → Int32) {k : Nat} : ∀ m, k ≤ m → cG g k ≤ cG g m := by
  intro m
  induction m with
  | zero => intro h; rw [show k = 0 by omega]; exact Nat.le_refl _
  | succ m ih =>
    intro h
    by_cases e : k = m + 1
    · rw [e]; exact Nat.le_refl _
    · have := ih (by omega)
      rw [cG]
      omega
theorem dp_lt {g : Nat → Int32} {k m : Nat} (hk : k < m) (h : 0 ≤ g k) : dpN g k < cG g m := by
  have h1 := dp_cG g k
  have h2 := cG_mono g (k := k + 1) m (by omega)
  rw [cG, if_pos h] at h2
  omega
theorem cO_cG {g : Nat → Int32} : ∀ (xs : List Int32) (p : Nat), (∀ i, i < xs.length → g (p + i) = xs.getD i 0) → cG g (p + xs.length) = cG g p + cO xs := by
  intro xs
  induction xs with
  | nil => intro p _; rfl
  | cons x xs ih =>
    intro p h
    have h0 : g p = x := h 0 (by simp)
    have := ih (p + 1) (fun i hi => by
      have := h (i + 1) (by simp; omega)
      rw [List.getD_cons_succ] at this
      rw [← this]
      congr 1
      omega)
    rw [List.length_cons, show p + (xs.length + 1) = p + 1 + xs.length by omega, this, cG, h0, cO]
    omega
