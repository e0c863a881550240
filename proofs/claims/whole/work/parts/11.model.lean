/-! numbers; the reference's object: M, its rows at M + 1 .. M + 25 -/
def pB (S : Sx) (im : Mem) (P : Prop) : Int32 → Sx → Mem → Prop := fun v S' im' => (P ∧ nI 1 = v ∧ S = S' ∧ im = im') ∨ (¬ P ∧ nI 0 = v ∧ S = S' ∧ im = im')
def pE (S : Sx) (im : Mem) (x : Int32) : Int32 → Sx → Mem → Prop := fun v S' im' => x = v ∧ S = S' ∧ im = im'
def pM (S : Sx) (im : Mem) : Sx → Mem → Prop := fun S' im' => S = S' ∧ im = im'
theorem rng {a b : Nat} (ha : a < 2 ^ 31) (hb : b < 2 ^ 31) {x : Int32} : (nI a ≤ x ∧ x ≤ nI b) ↔ ∃ k, a ≤ k ∧ k ≤ b ∧ x = nI k := by
  constructor
  · rintro ⟨h1, h2⟩
    have h2' := Int32.le_iff_toInt_le.mp h2
    rw [nI_toInt hb] at h2'
    have h1' := Int32.le_iff_toInt_le.mp h1
    rw [nI_toInt ha] at h1'
    have h3 : ¬ x < 0 := by
      intro h
      have := Int32.lt_iff_toInt_lt.mp h
      rw [Int32.toInt_zero] at this
      omega
    obtain ⟨j, hj, rfl⟩ := nI_of h3
    rw [nI_toInt hj] at h1' h2'
    exact ⟨j, by omega, by omega, rfl⟩
  · rintro ⟨k, h1, h2, rfl⟩
    exact ⟨nI_le h1 (by omega), nI_le h2 hb⟩
theorem up2_s (im : Mem) (q k : Nat) (v : Int32) : up2 im q k v q = upd (im q) k v := up_s _ _ _
theorem up2_n (im : Mem) {q a : Nat} (k : Nat) (v : Int32) (h : a ≠ q) : up2 im q k v a = im a := up_n _ _ h
theorem upd_s (f : Nat → Int32) (k : Nat) (v : Int32) : upd f k v k = v := by simp [upd]
theorem upd_n (f : Nat → Int32) {k j : Nat} (v : Int32) (h : j ≠ k) : upd f k v j = f j := by simp [upd, h]
theorem in_lamp {n : Nat} (hn : n ≤ 10) {x : Int32} : (nI 0 ≤ x ∧ x ≤ nI n - nI 1) ↔ ∃ k, k < n ∧ x = nI k := by
  cases n with
  | zero =>
    constructor
    · rintro ⟨h1, h2⟩
      exfalso
      have h1' := Int32.le_iff_toInt_le.mp h1
      have h2' := Int32.le_iff_toInt_le.mp h2
      rw [show (nI 0 - nI 1).toInt = -1 by decide +kernel] at h2'
      rw [show (nI 0).toInt = 0 by decide +kernel] at h1'
      omega
    · rintro ⟨k, h, -⟩
      omega
  | succ m =>
    rw [pk_sub (by omega : 1 ≤ m + 1), rng (by decide) (by omega)]
    constructor
    · rintro ⟨k, -, h, e⟩
      exact ⟨k, by omega, e⟩
    · rintro ⟨k, h, e⟩
      exact ⟨k, by omega, by omega, e⟩
def mfl : List Nat := [1, 2, 3, 0, 0, 4, 5, 6, 7, 8, 9, 0, 0, 0, 0, 0, 0, 0, 10, 11, 12, 0, 0, 13, 0, 14, 15, 16, 17, 18, 19, 20, 21, 22, 23, 24, 25, 0]
def mkd : List Nat := [7, 8, 8, 8, 8, 9, 8, 8, 8, 8, 10, 8, 8, 8, 9, 8, 8, 8, 8, 8, 8, 8, 8, 8, 8, 8]
def mln : List Nat := [0, 1450, 1450, 1450, 10, 10, 78, 10, 10, 96, 11, 4, 96, 96, 10, 96, 4, 4, 4, 96, 5, 5, 5, 120, 24, 60]
/-- the reference's cells -/
def ML (S : Sx) (M : Nat) : Prop := (∀ j, j < 26 → S.2.1 (M + j) = mkd.getD j 0 ∧ S.2.2.1 (M + j) = mln.getD j 0) ∧ ∀ k, k < 38 → mfl.getD k 0 ≠ 0 → S.2.2.2 M k = some (M + mfl.getD k 0)
theorem ml_K {S : Sx} {M : Nat} (h : ML S M) : S.2.1 M = 7 := (h.1 0 (by decide)).1
theorem ml_r0 {S : Sx} {M : Nat} (h : ML S M) : S.2.2.2 M 0 = some (M + 1) := h.2 0 (by decide) (by decide)
theorem ml_r1 {S : Sx} {M : Nat} (h : ML S M) : S.2.2.2 M 1 = some (M + 2) := h.2 1 (by decide) (by decide)
theorem ml_r2 {S : Sx} {M : Nat} (h : ML S M) : S.2.2.2 M 2 = some (M + 3) := h.2 2 (by decide) (by decide)
theorem ml_r5 {S : Sx} {M : Nat} (h : ML S M) : S.2.2.2 M 5 = some (M + 4) := h.2 5 (by decide) (by decide)
theorem ml_r6 {S : Sx} {M : Nat} (h : ML S M) : S.2.2.2 M 6 = some (M + 5) := h.2 6 (by decide) (by decide)
theorem ml_r7 {S : Sx} {M : Nat} (h : ML S M) : S.2.2.2 M 7 = some (M + 6) := h.2 7 (by decide) (by decide)
theorem ml_r8 {S : Sx} {M : Nat} (h : ML S M) : S.2.2.2 M 8 = some (M + 7) := h.2 8 (by decide) (by decide)
theorem ml_r9 {S : Sx} {M : Nat} (h : ML S M) : S.2.2.2 M 9 = some (M + 8) := h.2 9 (by decide) (by decide)
theorem ml_r10 {S : Sx} {M : Nat} (h : ML S M) : S.2.2.2 M 10 = some (M + 9) := h.2 10 (by decide) (by decide)
theorem ml_r18 {S : Sx} {M : Nat} (h : ML S M) : S.2.2.2 M 18 = some (M + 10) := h.2 18 (by decide) (by decide)
theorem ml_r19 {S : Sx} {M : Nat} (h : ML S M) : S.2.2.2 M 19 = some (M + 11) := h.2 19 (by decide) (by decide)
theorem ml_r20 {S : Sx} {M : Nat} (h : ML S M) : S.2.2.2 M 20 = some (M + 12) := h.2 20 (by decide) (by decide)
theorem ml_r23 {S : Sx} {M : Nat} (h : ML S M) : S.2.2.2 M 23 = some (M + 13) := h.2 23 (by decide) (by decide)
theorem ml_r25 {S : Sx} {M : Nat} (h : ML S M) : S.2.2.2 M 25 = some (M + 14) := h.2 25 (by decide) (by decide)
theorem ml_r26 {S : Sx} {M : Nat} (h : ML S M) : S.2.2.2 M 26 = some (M + 15) := h.2 26 (by decide) (by decide)
theorem ml_r27 {S : Sx} {M : Nat} (h : ML S M) : S.2.2.2 M 27 = some (M + 16) := h.2 27 (by decide) (by decide)
theorem ml_r28 {S : Sx} {M : Nat} (h : ML S M) : S.2.2.2 M 28 = some (M + 17) := h.2 28 (by decide) (by decide)
theorem ml_r29 {S : Sx} {M : Nat} (h : ML S M) : S.2.2.2 M 29 = some (M + 18) := h.2 29 (by decide) (by decide)
theorem ml_r30 {S : Sx} {M : Nat} (h : ML S M) : S.2.2.2 M 30 = some (M + 19) := h.2 30 (by decide) (by decide)
theorem ml_r31 {S : Sx} {M : Nat} (h : ML S M) : S.2.2.2 M 31 = some (M + 20) := h.2 31 (by decide) (by decide)
theorem ml_r32 {S : Sx} {M : Nat} (h : ML S M) : S.2.2.2 M 32 = some (M + 21) := h.2 32 (by decide) (by decide)
theorem ml_r33 {S : Sx} {M : Nat} (h : ML S M) : S.2.2.2 M 33 = some (M + 22) := h.2 33 (by decide) (by decide)
theorem ml_r34 {S : Sx} {M : Nat} (h : ML S M) : S.2.2.2 M 34 = some (M + 23) := h.2 34 (by decide) (by decide)
theorem ml_r35 {S : Sx} {M : Nat} (h : ML S M) : S.2.2.2 M 35 = some (M + 24) := h.2 35 (by decide) (by decide)
theorem ml_r36 {S : Sx} {M : Nat} (h : ML S M) : S.2.2.2 M 36 = some (M + 25) := h.2 36 (by decide) (by decide)
theorem ml_a1 {S : Sx} {M : Nat} (h : ML S M) : S.2.1 (M + 1) = 8 := (h.1 1 (by decide)).1
theorem ml_n1 {S : Sx} {M : Nat} (h : ML S M) : S.2.2.1 (M + 1) = 1450 := (h.1 1 (by decide)).2
theorem ml_a2 {S : Sx} {M : Nat} (h : ML S M) : S.2.1 (M + 2) = 8 := (h.1 2 (by decide)).1
theorem ml_n2 {S : Sx} {M : Nat} (h : ML S M) : S.2.2.1 (M + 2) = 1450 := (h.1 2 (by decide)).2
theorem ml_a3 {S : Sx} {M : Nat} (h : ML S M) : S.2.1 (M + 3) = 8 := (h.1 3 (by decide)).1
theorem ml_n3 {S : Sx} {M : Nat} (h : ML S M) : S.2.2.1 (M + 3) = 1450 := (h.1 3 (by decide)).2
theorem ml_a4 {S : Sx} {M : Nat} (h : ML S M) : S.2.1 (M + 4) = 8 := (h.1 4 (by decide)).1
theorem ml_n4 {S : Sx} {M : Nat} (h : ML S M) : S.2.2.1 (M + 4) = 10 := (h.1 4 (by decide)).2
theorem ml_a5 {S : Sx} {M : Nat} (h : ML S M) : S.2.1 (M + 5) = 9 := (h.1 5 (by decide)).1
theorem ml_n5 {S : Sx} {M : Nat} (h : ML S M) : S.2.2.1 (M + 5) = 10 := (h.1 5 (by decide)).2
theorem ml_a6 {S : Sx} {M : Nat} (h : ML S M) : S.2.1 (M + 6) = 8 := (h.1 6 (by decide)).1
theorem ml_n6 {S : Sx} {M : Nat} (h : ML S M) : S.2.2.1 (M + 6) = 78 := (h.1 6 (by decide)).2
theorem ml_a7 {S : Sx} {M : Nat} (h : ML S M) : S.2.1 (M + 7) = 8 := (h.1 7 (by decide)).1
theorem ml_n7 {S : Sx} {M : Nat} (h : ML S M) : S.2.2.1 (M + 7) = 10 := (h.1 7 (by decide)).2
theorem ml_a8 {S : Sx} {M : Nat} (h : ML S M) : S.2.1 (M + 8) = 8 := (h.1 8 (by decide)).1
theorem ml_n8 {S : Sx} {M : Nat} (h : ML S M) : S.2.2.1 (M + 8) = 10 := (h.1 8 (by decide)).2
theorem ml_a9 {S : Sx} {M : Nat} (h : ML S M) : S.2.1 (M + 9) = 8 := (h.1 9 (by decide)).1
theorem ml_n9 {S : Sx} {M : Nat} (h : ML S M) : S.2.2.1 (M + 9) = 96 := (h.1 9 (by decide)).2
theorem ml_a10 {S : Sx} {M : Nat} (h : ML S M) : S.2.1 (M + 10) = 10 := (h.1 10 (by decide)).1
theorem ml_n10 {S : Sx} {M : Nat} (h : ML S M) : S.2.2.1 (M + 10) = 11 := (h.1 10 (by decide)).2
theorem ml_a11 {S : Sx} {M : Nat} (h : ML S M) : S.2.1 (M + 11) = 8 := (h.1 11 (by decide)).1
theorem ml_n11 {S : Sx} {M : Nat} (h : ML S M) : S.2.2.1 (M + 11) = 4 := (h.1 11 (by decide)).2
theorem ml_a12 {S : Sx} {M : Nat} (h : ML S M) : S.2.1 (M + 12) = 8 := (h.1 12 (by decide)).1
theorem ml_n12 {S : Sx} {M : Nat} (h : ML S M) : S.2.2.1 (M + 12) = 96 := (h.1 12 (by decide)).2
theorem ml_a13 {S : Sx} {M : Nat} (h : ML S M) : S.2.1 (M + 13) = 8 := (h.1 13 (by decide)).1
theorem ml_n13 {S : Sx} {M : Nat} (h : ML S M) : S.2.2.1 (M + 13) = 96 := (h.1 13 (by decide)).2
theorem ml_a14 {S : Sx} {M : Nat} (h : ML S M) : S.2.1 (M + 14) = 9 := (h.1 14 (by decide)).1
theorem ml_n14 {S : Sx} {M : Nat} (h : ML S M) : S.2.2.1 (M + 14) = 10 := (h.1 14 (by decide)).2
theorem ml_a15 {S : Sx} {M : Nat} (h : ML S M) : S.2.1 (M + 15) = 8 := (h.1 15 (by decide)).1
theorem ml_n15 {S : Sx} {M : Nat} (h : ML S M) : S.2.2.1 (M + 15) = 96 := (h.1 15 (by decide)).2
theorem ml_a16 {S : Sx} {M : Nat} (h : ML S M) : S.2.1 (M + 16) = 8 := (h.1 16 (by decide)).1
theorem ml_n16 {S : Sx} {M : Nat} (h : ML S M) : S.2.2.1 (M + 16) = 4 := (h.1 16 (by decide)).2
theorem ml_a17 {S : Sx} {M : Nat} (h : ML S M) : S.2.1 (M + 17) = 8 := (h.1 17 (by decide)).1
theorem ml_n17 {S : Sx} {M : Nat} (h : ML S M) : S.2.2.1 (M + 17) = 4 := (h.1 17 (by decide)).2
theorem ml_a18 {S : Sx} {M : Nat} (h : ML S M) : S.2.1 (M + 18) = 8 := (h.1 18 (by decide)).1
theorem ml_n18 {S : Sx} {M : Nat} (h : ML S M) : S.2.2.1 (M + 18) = 4 := (h.1 18 (by decide)).2
theorem ml_a19 {S : Sx} {M : Nat} (h : ML S M) : S.2.1 (M + 19) = 8 := (h.1 19 (by decide)).1
theorem ml_n19 {S : Sx} {M : Nat} (h : ML S M) : S.2.2.1 (M + 19) = 96 := (h.1 19 (by decide)).2
theorem ml_a20 {S : Sx} {M : Nat} (h : ML S M) : S.2.1 (M + 20) = 8 := (h.1 20 (by decide)).1
theorem ml_n20 {S : Sx} {M : Nat} (h : ML S M) : S.2.2.1 (M + 20) = 5 := (h.1 20 (by decide)).2
theorem ml_a21 {S : Sx} {M : Nat} (h : ML S M) : S.2.1 (M + 21) = 8 := (h.1 21 (by decide)).1
theorem ml_n21 {S : Sx} {M : Nat} (h : ML S M) : S.2.2.1 (M + 21) = 5 := (h.1 21 (by decide)).2
theorem ml_a22 {S : Sx} {M : Nat} (h : ML S M) : S.2.1 (M + 22) = 8 := (h.1 22 (by decide)).1
theorem ml_n22 {S : Sx} {M : Nat} (h : ML S M) : S.2.2.1 (M + 22) = 5 := (h.1 22 (by decide)).2
theorem ml_a23 {S : Sx} {M : Nat} (h : ML S M) : S.2.1 (M + 23) = 8 := (h.1 23 (by decide)).1
theorem ml_n23 {S : Sx} {M : Nat} (h : ML S M) : S.2.2.1 (M + 23) = 120 := (h.1 23 (by decide)).2
theorem ml_a24 {S : Sx} {M : Nat} (h : ML S M) : S.2.1 (M + 24) = 8 := (h.1 24 (by decide)).1
theorem ml_n24 {S : Sx} {M : Nat} (h : ML S M) : S.2.2.1 (M + 24) = 24 := (h.1 24 (by decide)).2
theorem ml_a25 {S : Sx} {M : Nat} (h : ML S M) : S.2.1 (M + 25) = 8 := (h.1 25 (by decide)).1
theorem ml_n25 {S : Sx} {M : Nat} (h : ML S M) : S.2.2.1 (M + 25) = 60 := (h.1 25 (by decide)).2
