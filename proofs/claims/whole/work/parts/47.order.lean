/-! the order by insertion -/
theorem insL_at {f : Nat → Int32} {x : Nat} : ∀ (l : List Nat) (p : Nat), p ≤ l.length → (∀ j, j < p → ¬ s_turn f x < s_turn f (l.getD j 0)) → (p < l.length → s_turn f x < s_turn f (l.getD p 0)) → insL f x l = l.take p ++ x :: l.drop p := by
  intro l
  induction l with
  | nil =>
    intro p hp _ _
    have : p = 0 := by simpa using hp
    subst this
    rfl
  | cons a r ih =>
    intro p hp h1 h2
    cases p with
    | zero =>
      have := h2 (by simp)
      rw [insL, if_pos (by simpa using this)]
      rfl
    | succ p =>
      have h0 := h1 0 (by omega)
      rw [insL, if_neg (by simpa using h0), ih p (by simpa using hp) (fun j hj => by have := h1 (j + 1) (by omega); rwa [List.getD_cons_succ] at this) (fun hj => by have := h2 (by simpa using hj); rwa [List.getD_cons_succ] at this)]
      rfl
theorem ordA_ins {f : Nat → Int32} {i p : Nat} (hp : p ≤ i) (h1 : 0 < p → ¬ s_turn f i < s_turn f (ordA f i (p - 1))) (h2 : p < i → s_turn f i < s_turn f (ordA f i p)) : ∀ j, j ≤ i → ordA f (i + 1) j = if j < p then ordA f i j else if j = p then i else ordA f i (j - 1) := by
  intro j hj
  have hl := len_ordL f i
  have h1' : ∀ k, k < p → ¬ s_turn f i < s_turn f ((ordL f i).getD k 0) := fun k hk => by
    by_cases e : k = p - 1
    · rw [e]; exact h1 (by omega)
    · have hb := ordA_bf (f := f) (i := k) (j := p - 1) (n := i) (by omega) (by omega)
      have h3 := h1 (by omega)
      intro h4
      rw [show (ordL f i).getD k 0 = ordA f i k from rfl] at h4
      simp only [bf, Int32.lt_iff_toInt_lt, ← Int32.toInt_inj] at hb h3 h4
      omega
  rw [ordA, ordL, insL_at (ordL f i) p (by omega) h1' (fun h => h2 (by omega)), List.getD_eq_getElem?_getD]
  by_cases e1 : j < p
  · rw [if_pos e1, List.getElem?_append_left (by rw [List.length_take]; omega), List.getElem?_take, if_pos e1, ordA, List.getD_eq_getElem?_getD]
  · rw [if_neg e1, List.getElem?_append_right (by rw [List.length_take]; omega), List.length_take, show min p (ordL f i).length = p by omega]
    by_cases e2 : j = p
    · rw [if_pos e2, e2, Nat.sub_self]
      rfl
    · rw [if_neg e2, show j - p = (j - p - 1) + 1 by omega, List.getElem?_cons_succ, List.getElem?_drop, show p + (j - p - 1) = j - 1 by omega, ordA, List.getD_eq_getElem?_getD]
