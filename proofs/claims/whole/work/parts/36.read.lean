/-! reading a text: the descent, and what waits -/
/-- place, a word ended there, codes, operands -/
abbrev RS := Nat × Bool × List Int32 × Nat
def isPb (a : Nat → Int32) (T p : Nat) (w : Bool) (key : Int32) : Bool := decide (tK a T p w = 2 ∨ (tK a T p w = 1 ∧ tE a T p - tS a T p = 1 ∧ ¬ s_name key (tV a T p) < 0))
theorem isPb_iff {a : Nat → Int32} {T p : Nat} {w : Bool} {key : Int32} : isPb a T p w key = true ↔ isPt a T p w key := decide_eq_true_iff
def r_nx (a : Nat → Int32) (T : Nat) (σ : RS) : RS := (tE a T σ.1, tWb a T σ.1, σ.2.2.1, σ.2.2.2)
def r_ap (σ : RS) (xs : List Int32) : RS := (σ.1, σ.2.1, σ.2.2.1 ++ xs, σ.2.2.2)
def r_cs (σ : RS) (xs : List Int32) : RS := (σ.1, σ.2.1, xs, σ.2.2.2)
def r_pt (a : Nat → Int32) (T : Nat) (key : Int32) (σ : RS) : RS := (tE a T σ.1, tWb a T σ.1, σ.2.2.1 ++ [ptC a T σ.1 σ.2.1 key], σ.2.2.2 + 1)
/-- the sign that is looked at; 0: none -/
def r_sg (a : Nat → Int32) (T : Nat) (σ : RS) : Int32 := if tK a T σ.1 σ.2.1 = 3 then s_sign (tV a T σ.1) else 0
def r_wk (a : Nat → Int32) (T l : Nat) (σ : RS) : Int32 := if rk (r_sg a T σ) = l + 1 then r_sg a T σ else 0
def r_ch (a : Nat → Int32) (T : Nat) (σ : RS) (c : Nat) : Bool := decide (tK a T σ.1 σ.2.1 = 3 ∧ tV a T σ.1 = nI c)
def r_rows (f : RS → Bool × RS) (a : Nat → Int32) (T l : Nat) : Nat → RS → Bool × RS
  | 0, σ => (true, σ)
  | i + 1, σ => if r_wk a T l σ = 0 then (true, σ) else if (f (r_nx a T σ)).1 = true then r_rows f a T l i (r_ap (f (r_nx a T σ)).2 [r_wk a T l σ]) else (false, (f (r_nx a T σ)).2)
def rd (a : Nat → Int32) (T : Nat) (key : Int32) : Nat → Nat → Nat → Nat → RS → Bool × RS
  | 0, _, _, _, σ => (false, σ)
  | d + 1, l, pr, b, σ => if l = 5 then
      (if isPb a T σ.1 σ.2.1 key = true then (true, r_pt a T key σ)
       else if r_ch a T σ 33 = true ∧ b < 8 then (if (rd a T key d 5 pr (b + 1) (r_nx a T σ)).1 = true then (true, r_ap (rd a T key d 5 pr (b + 1) (r_nx a T σ)).2 [-10]) else (false, (rd a T key d 5 pr (b + 1) (r_nx a T σ)).2))
       else if r_ch a T σ 40 = true ∧ pr < 8 then (if (rd a T key d 0 (pr + 1) b (r_nx a T σ)).1 = true ∧ r_ch a T (rd a T key d 0 (pr + 1) b (r_nx a T σ)).2 41 = true then (true, r_nx a T (rd a T key d 0 (pr + 1) b (r_nx a T σ)).2) else (false, (rd a T key d 0 (pr + 1) b (r_nx a T σ)).2))
       else (false, σ))
    else if (rd a T key d (l + 1) pr b σ).1 = true then r_rows (rd a T key d (l + 1) pr b) a T l (if l = 2 then 1 else 96) (rd a T key d (l + 1) pr b σ).2 else (false, (rd a T key d (l + 1) pr b σ).2)
theorem tK3 {a : Nat → Int32} {T p : Nat} {w : Bool} (h : tK a T p w = 3) : ¬ tS a T p = T := fun e => by rw [tK, if_pos e] at h; omega
theorem r_ch_s {a : Nat → Int32} {T c : Nat} {σ : RS} (h : r_ch a T σ c = true) : ¬ tS a T σ.1 = T := tK3 (decide_eq_true_iff.mp h).1
theorem r_sg_s {a : Nat → Int32} {T : Nat} {σ : RS} (h : ¬ r_sg a T σ = 0) : tK a T σ.1 σ.2.1 = 3 := by
  rw [r_sg] at h
  by_cases e : tK a T σ.1 σ.2.1 = 3
  · exact e
  · rw [if_neg e] at h; exact absurd rfl h
theorem r_wk_s {a : Nat → Int32} {T l : Nat} {σ : RS} (h : ¬ r_wk a T l σ = 0) : ¬ r_sg a T σ = 0 ∧ rk (r_sg a T σ) = l + 1 ∧ r_wk a T l σ = r_sg a T σ := by
  unfold r_wk at h ⊢
  by_cases e : rk (r_sg a T σ) = l + 1
  · rw [if_pos e] at h ⊢; exact ⟨h, e, rfl⟩
  · rw [if_neg e] at h; exact absurd rfl h
theorem r_nx_pos {a : Nat → Int32} {T : Nat} {σ : RS} (h : σ.1 ≤ T) (hs : ¬ tS a T σ.1 = T) : σ.1 < (r_nx a T σ).1 ∧ (r_nx a T σ).1 ≤ T := by
  have h1 := tE_gt h hs
  have h2 := tS_ge a T σ.1
  exact ⟨show σ.1 < tE a T σ.1 by omega, tE_le h⟩
/-- the place goes on, and stays on the tape -/
def rdP (T : Nat) (f : RS → Bool × RS) : Prop := ∀ σ : RS, σ.1 ≤ T → σ.1 ≤ (f σ).2.1 ∧ (f σ).2.1 ≤ T ∧ ((f σ).1 = true → σ.1 < (f σ).2.1)
theorem rows_pos {a : Nat → Int32} {T l : Nat} {f : RS → Bool × RS} (hf : rdP T f) : ∀ i σ, σ.1 ≤ T → σ.1 ≤ (r_rows f a T l i σ).2.1 ∧ (r_rows f a T l i σ).2.1 ≤ T := by
  intro i
  induction i with
  | zero => intro σ h; exact ⟨Nat.le_refl _, h⟩
  | succ i ih =>
    intro σ h
    rw [r_rows]
    by_cases e : r_wk a T l σ = 0
    · rw [if_pos e]; exact ⟨Nat.le_refl _, h⟩
    · rw [if_neg e]
      have h1 := r_nx_pos h (tK3 (r_sg_s (r_wk_s e).1))
      have h2 := hf (r_nx a T σ) h1.2
      by_cases e2 : (f (r_nx a T σ)).1 = true
      · rw [if_pos e2]
        have h3 := ih (r_ap (f (r_nx a T σ)).2 [r_wk a T l σ]) h2.2.1
        exact ⟨by have := h3.1; have h4 : (r_ap (f (r_nx a T σ)).2 [r_wk a T l σ]).1 = (f (r_nx a T σ)).2.1 := rfl; omega, h3.2⟩
      · rw [if_neg e2]; exact ⟨show σ.1 ≤ (f (r_nx a T σ)).2.1 by omega, h2.2.1⟩
theorem rd_pos (a : Nat → Int32) (T : Nat) (key : Int32) : ∀ d l pr b, rdP T (rd a T key d l pr b) := by
  intro d
  induction d with
  | zero => intro l pr b σ h; exact ⟨Nat.le_refl _, h, fun q => absurd q Bool.false_ne_true⟩
  | succ d ih =>
    intro l pr b σ h
    rw [rd]
    by_cases hl : l = 5
    · rw [if_pos hl]
      by_cases h1 : isPb a T σ.1 σ.2.1 key = true
      · rw [if_pos h1]
        have hs := (tK12 (show tK a T σ.1 σ.2.1 = 1 ∨ tK a T σ.1 σ.2.1 = 2 from (isPb_iff.mp h1).elim Or.inr (fun q => Or.inl q.1))).1
        have := r_nx_pos h hs
        exact ⟨Nat.le_of_lt this.1, this.2, fun _ => this.1⟩
      · rw [if_neg h1]
        by_cases h2 : r_ch a T σ 33 = true ∧ b < 8
        · rw [if_pos h2]
          have h3 := r_nx_pos h (r_ch_s h2.1)
          have h4 := ih 5 pr (b + 1) (r_nx a T σ) h3.2
          split
          · exact ⟨show σ.1 ≤ (rd a T key d 5 pr (b + 1) (r_nx a T σ)).2.1 by omega, h4.2.1, fun _ => show σ.1 < (rd a T key d 5 pr (b + 1) (r_nx a T σ)).2.1 by omega⟩
          · exact ⟨show σ.1 ≤ (rd a T key d 5 pr (b + 1) (r_nx a T σ)).2.1 by omega, h4.2.1, fun q => absurd q Bool.false_ne_true⟩
        · rw [if_neg h2]
          by_cases h5 : r_ch a T σ 40 = true ∧ pr < 8
          · rw [if_pos h5]
            have h3 := r_nx_pos h (r_ch_s h5.1)
            have h4 := ih 0 (pr + 1) b (r_nx a T σ) h3.2
            split
            · rename_i h6
              have h7 := r_nx_pos h4.2.1 (r_ch_s h6.2)
              exact ⟨show σ.1 ≤ (r_nx a T (rd a T key d 0 (pr + 1) b (r_nx a T σ)).2).1 by omega, h7.2, fun _ => show σ.1 < (r_nx a T (rd a T key d 0 (pr + 1) b (r_nx a T σ)).2).1 by omega⟩
            · exact ⟨show σ.1 ≤ (rd a T key d 0 (pr + 1) b (r_nx a T σ)).2.1 by omega, h4.2.1, fun q => absurd q Bool.false_ne_true⟩
          · rw [if_neg h5]; exact ⟨Nat.le_refl _, h, fun q => absurd q Bool.false_ne_true⟩
    · rw [if_neg hl]
      have h4 := ih (l + 1) pr b σ h
      split
      · rename_i h6
        have h7 := rows_pos (a := a) (l := l) (ih (l + 1) pr b) (if l = 2 then 1 else 96) _ h4.2.1
        have h8 := h4.2.2 h6
        exact ⟨by omega, h7.2, fun _ => by omega⟩
      · exact ⟨h4.1, h4.2.1, fun q => absurd q Bool.false_ne_true⟩
/-- nothing settles -/
def tight (m : Nat) (W : List Int32) : Prop := stl m W = ([], W)
theorem tight_mono {m m' : Nat} {W : List Int32} (h : tight m W) (hm : m ≤ m') : tight m' W := by
  cases W with
  | nil => rfl
  | cons x xs =>
    unfold tight at h ⊢
    rw [stl] at h ⊢
    by_cases e : x = -11
    · rw [if_pos e]
    · rw [if_neg e] at h ⊢
      by_cases e2 : rk x < m
      · rw [if_pos (show rk x < m' by omega)]
      · rw [if_neg e2] at h
        exact absurd (congrArg Prod.fst h) (by simp)
def bop (l : Nat) (x : Int32) : Prop := ¬ x = -11 ∧ ¬ x = -10 ∧ l ≤ rk x
theorem stl_app {l m : Nat} {W : List Int32} (hm : m ≤ l) : ∀ pe : List Int32, (∀ x, x ∈ pe → bop l x) → stl m (pe ++ W) = (pe ++ (stl m W).1, (stl m W).2) := by
  intro pe
  induction pe with
  | nil => intro _; rfl
  | cons x xs ih =>
    intro h
    have hx := h x (by simp)
    rw [List.cons_append, stl, if_neg hx.1, if_neg (by have := hx.2.2; omega), ih (fun y hy => h y (by simp [hy]))]
    rfl
theorem stl_rep {W : List Int32} (h : tight 6 W) : ∀ j, stl 6 (List.replicate j (-10) ++ W) = (List.replicate j (-10), W) := by
  intro j
  induction j with
  | zero => exact h
  | succ j ih =>
    rw [List.replicate_succ, List.cons_append, stl, if_neg (by decide), if_neg (by decide), ih]
theorem nb_app {W : List Int32} {l : Nat} : ∀ pe : List Int32, (∀ x, x ∈ pe → bop l x) → nb (pe ++ W) = nb W := by
  intro pe
  induction pe with
  | nil => intro _; rfl
  | cons x xs ih =>
    intro h
    rw [List.cons_append, nb, ih (fun y hy => h y (by simp [hy])), if_neg (h x (by simp)).2.1, Nat.add_zero]
/-- no sign of this level or a closer one is looked at, but for a second test -/
def rdE (a : Nat → Int32) (T l : Nat) (σ : RS) (ts : Nat → Bool) (pr : Nat) : Prop := ∀ l', l ≤ l' → l' ≤ 4 → r_wk a T l' σ = 0 ∨ (l' = 2 ∧ ts pr = true)
def tsu (ts : Nat → Bool) (k : Nat) (x : Bool) : Nat → Bool := fun i => if i = k then x else ts i
