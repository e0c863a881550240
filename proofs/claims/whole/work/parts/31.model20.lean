/-! the reference: words and signs of the tape -/
def isLb (x : Int32) : Bool := decide (nI 97 ≤ x ∧ x ≤ nI 122)
def isDb (x : Int32) : Bool := decide (nI 48 ≤ x ∧ x ≤ nI 57)
def isSb (x : Int32) : Bool := decide (x = nI 32)
/-- how far a run of such bytes goes -/
def rn (a : Nat → Int32) (P : Int32 → Bool) : Nat → Nat → Nat
  | 0, p => p
  | r + 1, p => if P (a p) = true then rn a P r (p + 1) else p
theorem rn_ge {a : Nat → Int32} {P : Int32 → Bool} : ∀ r p, p ≤ rn a P r p := by
  intro r
  induction r with
  | zero => intro p; exact Nat.le_refl _
  | succ r ih => intro p; rw [rn]; split; have := ih (p + 1); omega; exact Nat.le_refl _
theorem rn_le {a : Nat → Int32} {P : Int32 → Bool} : ∀ r p, rn a P r p ≤ p + r := by
  intro r
  induction r with
  | zero => intro p; exact Nat.le_refl _
  | succ r ih => intro p; rw [rn]; split; have := ih (p + 1); omega; omega
theorem rn_all {a : Nat → Int32} {P : Int32 → Bool} : ∀ r p j, p ≤ j → j < rn a P r p → P (a j) = true := by
  intro r
  induction r with
  | zero => intro p j h1 h2; rw [rn] at h2; omega
  | succ r ih =>
    intro p j h1 h2
    rw [rn] at h2
    split at h2
    · rename_i hp
      by_cases e : j = p
      · rw [e]; exact hp
      · exact ih (p + 1) j (by omega) h2
    · omega
theorem rn_end {a : Nat → Int32} {P : Int32 → Bool} : ∀ r p, rn a P r p < p + r → P (a (rn a P r p)) = false := by
  intro r
  induction r with
  | zero => intro p h; rw [rn] at h; omega
  | succ r ih =>
    intro p h
    rw [rn] at h ⊢
    split
    · rename_i hp
      rw [if_pos hp] at h
      exact ih (p + 1) (by omega)
    · rename_i hp
      cases hq : P (a p) with
      | true => exact absurd hq hp
      | false => rfl
/-- where the next word or sign begins -/
def tS (a : Nat → Int32) (T p : Nat) : Nat := rn a isSb (T - p) p
def tE (a : Nat → Int32) (T p : Nat) : Nat := if tS a T p = T then tS a T p else if isLb (a (tS a T p)) = true then rn a isLb (T - tS a T p) (tS a T p) else if isDb (a (tS a T p)) = true then rn a isDb (T - tS a T p) (tS a T p) else tS a T p + 1
def tW (a : Nat → Int32) (T p : Nat) : Prop := ¬ tS a T p = T ∧ (isLb (a (tS a T p)) = true ∨ isDb (a (tS a T p)) = true)
def tK (a : Nat → Int32) (T p : Nat) (w : Bool) : Nat := if tS a T p = T then 0 else if isLb (a (tS a T p)) = true then (if w = true ∧ tS a T p = p then 4 else 1) else if isDb (a (tS a T p)) = true then (if w = true ∧ tS a T p = p then 4 else if tE a T p - tS a T p ≤ 4 then 2 else 4) else 3
/-- a number of at most four figures -/
def vl (a : Nat → Int32) (s : Nat) : Nat → Int32
  | 0 => nI 0
  | k + 1 => if k < 4 then nI 10 * vl a s k + a (s + k) - nI 48 else vl a s k
def tV (a : Nat → Int32) (T p : Nat) : Int32 := if isDb (a (tS a T p)) = true then vl a (tS a T p) (tE a T p - tS a T p) else a (tS a T p)
theorem tS_ge (a : Nat → Int32) (T p : Nat) : p ≤ tS a T p := rn_ge _ _
theorem tS_le {a : Nat → Int32} {T p : Nat} (h : p ≤ T) : tS a T p ≤ T := by have := rn_le (a := a) (P := isSb) (T - p) p; unfold tS; omega
theorem L_notD {x : Int32} (h : isLb x = true) : isDb x = false := by
  rw [isLb, decide_eq_true_eq] at h
  rw [isDb, decide_eq_false_iff_not]
  rintro ⟨-, h2⟩
  have h1 := Int32.le_iff_toInt_le.mp h.1
  have h3 := Int32.le_iff_toInt_le.mp h2
  rw [nI_toInt (by decide)] at h1 h3
  omega
theorem i_nlt {x y : Int32} (h : y < x) : ¬ x ≤ y := by rw [Int32.le_iff_toInt_le]; rw [Int32.lt_iff_toInt_lt] at h; omega
set_option maxRecDepth 100000 in
set_option maxHeartbeats 4000000 in
theorem m7_isLetter (l : Launch) (E : Ex) (S : Sx) (im : Mem) (M : Nat) (hM : ML S M) (T : Nat) (hT : T ≤ 96) (ht : im M 11 = nI T) (k : Nat) (hk : k < 1000) : Mt l E yX7_isLetter cX7_isLetter 2 (some .boolean) 1 0 0 [.ref M, .int (nI k)] S im (pI (pB S im (k < T ∧ isLb (im (M + 9) k) = true))) := by
  refine Mt.of (by decide +kernel) rfl rfl (Nat.le_of_ble_eq_true rfl) ?_
  intro κ hκ C ρ
  subst hκ
  show V E κ 2 0 0 0 [some (.ref M), some (.int (nI k))] [] S im
  refine z_iload_n (pc := 0) C dX7_isLetter_0 rfl ?_
  refine z_aload_n (pc := 1) C dX7_isLetter_1 rfl ?_
  refine gX7_203 (pc := 2) C dX7_isLetter_2 (ml_K hM) ?_
  refine z_eqi (y := nI T) (ht) ?_
  refine z_icmp_geN (pc := 5) C 34 dX7_isLetter_5 (by decide) (by omega) (by omega) (fun c_5 => ?_) (fun c_5 => ?_)
  · 
    refine z_iconstN (pc := 34) C 0 dX7_isLetter_34 ?_
    exact z_zret (pc := 35) C ρ dX7_isLetter_35 (by decide) (⟨_, rfl, Or.inr ⟨fun h => absurd h.1 (by omega), rfl, rfl, rfl⟩⟩)
  · 
    refine z_aload_n (pc := 8) C dX7_isLetter_8 rfl ?_
    refine gX7_39 (pc := 9) C dX7_isLetter_9 (ml_K hM) (ml_r10 hM) ?_
    refine z_iload_n (pc := 12) C dX7_isLetter_12 rfl ?_
    refine z_iald (pc := 13) C dX7_isLetter_13 (ml_a9 hM) (ml_n9 hM) (by omega) (by decide) ?_
    refine z_bipushN (pc := 14) C 97 (by decide) dX7_isLetter_14 ?_
    refine z_icmp_lt (pc := 16) C 34 dX7_isLetter_16 (by decide) (fun c_16 => ?_) (fun c_16 => ?_)
    · 
      refine z_iconstN (pc := 34) C 0 dX7_isLetter_34 ?_
      exact z_zret (pc := 35) C ρ dX7_isLetter_35 (by decide) (⟨_, rfl, Or.inr ⟨fun h => by have h2 := h.2; rw [isLb, decide_eq_true_eq] at h2; exact i_nlt c_16 h2.1, rfl, rfl, rfl⟩⟩)
    · 
      refine z_aload_n (pc := 19) C dX7_isLetter_19 rfl ?_
      refine gX7_39 (pc := 20) C dX7_isLetter_20 (ml_K hM) (ml_r10 hM) ?_
      refine z_iload_n (pc := 23) C dX7_isLetter_23 rfl ?_
      refine z_iald (pc := 24) C dX7_isLetter_24 (ml_a9 hM) (ml_n9 hM) (by omega) (by decide) ?_
      refine z_bipushN (pc := 25) C 122 (by decide) dX7_isLetter_25 ?_
      refine z_icmp_gt (pc := 27) C 34 dX7_isLetter_27 (by decide) (fun c_27 => ?_) (fun c_27 => ?_)
      · 
        refine z_iconstN (pc := 34) C 0 dX7_isLetter_34 ?_
        exact z_zret (pc := 35) C ρ dX7_isLetter_35 (by decide) (⟨_, rfl, Or.inr ⟨fun h => by have h2 := h.2; rw [isLb, decide_eq_true_eq] at h2; exact i_nlt c_27 h2.2, rfl, rfl, rfl⟩⟩)
      · 
        refine z_iconstN (pc := 30) C 1 dX7_isLetter_30 ?_
        refine z_goto (pc := 31) C 35 dX7_isLetter_31 (by decide) ?_
        exact z_zret (pc := 35) C ρ dX7_isLetter_35 (by decide) (⟨_, rfl, Or.inl ⟨⟨by omega, by rw [isLb, decide_eq_true_eq]; exact ⟨i_le c_16, i_le c_27⟩⟩, rfl, rfl, rfl⟩⟩)
set_option maxRecDepth 100000 in
set_option maxHeartbeats 4000000 in
theorem m7_isFigure (l : Launch) (E : Ex) (S : Sx) (im : Mem) (M : Nat) (hM : ML S M) (T : Nat) (hT : T ≤ 96) (ht : im M 11 = nI T) (k : Nat) (hk : k < 1000) : Mt l E yX7_isFigure cX7_isFigure 2 (some .boolean) 1 0 0 [.ref M, .int (nI k)] S im (pI (pB S im (k < T ∧ isDb (im (M + 9) k) = true))) := by
  refine Mt.of (by decide +kernel) rfl rfl (Nat.le_of_ble_eq_true rfl) ?_
  intro κ hκ C ρ
  subst hκ
  show V E κ 2 0 0 0 [some (.ref M), some (.int (nI k))] [] S im
  refine z_iload_n (pc := 0) C dX7_isFigure_0 rfl ?_
  refine z_aload_n (pc := 1) C dX7_isFigure_1 rfl ?_
  refine gX7_203 (pc := 2) C dX7_isFigure_2 (ml_K hM) ?_
  refine z_eqi (y := nI T) (ht) ?_
  refine z_icmp_geN (pc := 5) C 34 dX7_isFigure_5 (by decide) (by omega) (by omega) (fun c_5 => ?_) (fun c_5 => ?_)
  · 
    refine z_iconstN (pc := 34) C 0 dX7_isFigure_34 ?_
    exact z_zret (pc := 35) C ρ dX7_isFigure_35 (by decide) (⟨_, rfl, Or.inr ⟨fun h => absurd h.1 (by omega), rfl, rfl, rfl⟩⟩)
  · 
    refine z_aload_n (pc := 8) C dX7_isFigure_8 rfl ?_
    refine gX7_39 (pc := 9) C dX7_isFigure_9 (ml_K hM) (ml_r10 hM) ?_
    refine z_iload_n (pc := 12) C dX7_isFigure_12 rfl ?_
    refine z_iald (pc := 13) C dX7_isFigure_13 (ml_a9 hM) (ml_n9 hM) (by omega) (by decide) ?_
    refine z_bipushN (pc := 14) C 48 (by decide) dX7_isFigure_14 ?_
    refine z_icmp_lt (pc := 16) C 34 dX7_isFigure_16 (by decide) (fun c_16 => ?_) (fun c_16 => ?_)
    · 
      refine z_iconstN (pc := 34) C 0 dX7_isFigure_34 ?_
      exact z_zret (pc := 35) C ρ dX7_isFigure_35 (by decide) (⟨_, rfl, Or.inr ⟨fun h => by have h2 := h.2; rw [isDb, decide_eq_true_eq] at h2; exact i_nlt c_16 h2.1, rfl, rfl, rfl⟩⟩)
    · 
      refine z_aload_n (pc := 19) C dX7_isFigure_19 rfl ?_
      refine gX7_39 (pc := 20) C dX7_isFigure_20 (ml_K hM) (ml_r10 hM) ?_
      refine z_iload_n (pc := 23) C dX7_isFigure_23 rfl ?_
      refine z_iald (pc := 24) C dX7_isFigure_24 (ml_a9 hM) (ml_n9 hM) (by omega) (by decide) ?_
      refine z_bipushN (pc := 25) C 57 (by decide) dX7_isFigure_25 ?_
      refine z_icmp_gt (pc := 27) C 34 dX7_isFigure_27 (by decide) (fun c_27 => ?_) (fun c_27 => ?_)
      · 
        refine z_iconstN (pc := 34) C 0 dX7_isFigure_34 ?_
        exact z_zret (pc := 35) C ρ dX7_isFigure_35 (by decide) (⟨_, rfl, Or.inr ⟨fun h => by have h2 := h.2; rw [isDb, decide_eq_true_eq] at h2; exact i_nlt c_27 h2.2, rfl, rfl, rfl⟩⟩)
      · 
        refine z_iconstN (pc := 30) C 1 dX7_isFigure_30 ?_
        refine z_goto (pc := 31) C 35 dX7_isFigure_31 (by decide) ?_
        exact z_zret (pc := 35) C ρ dX7_isFigure_35 (by decide) (⟨_, rfl, Or.inl ⟨⟨by omega, by rw [isDb, decide_eq_true_eq]; exact ⟨i_le c_16, i_le c_27⟩⟩, rfl, rfl, rfl⟩⟩)
def gGo (M : Nat) (im : Mem) (T p : Nat) (w : Bool) (im' : Mem) : Prop := im' M 13 = nI (tS (im (M + 9)) T p) ∧ im' M 14 = nI (tK (im (M + 9)) T p w) ∧ im' M 12 = nI (tE (im (M + 9)) T p) ∧ (tW (im (M + 9)) T p → im' M 16 = nI (tE (im (M + 9)) T p)) ∧ (¬ tW (im (M + 9)) T p → im' M 16 = im M 16) ∧ (¬ tS (im (M + 9)) T p = T → im' M 15 = tV (im (M + 9)) T p) ∧ (∀ j, j ≠ 12 → j ≠ 13 → j ≠ 14 → j ≠ 15 → j ≠ 16 → im' M j = im M j) ∧ ∀ c, c ≠ M → im' c = im c
/-- whether a word ended here -/
def wOk (x : Int32) (p : Nat) (w : Bool) : Prop := (w = true → x = nI p) ∧ (w = false → ∀ j, p ≤ j → j < 1000 → ¬ nI j = x)
