/-! texts: the law of two numbers, the row of a text worked out, the text that counts -/
def s_two (s a b : Int32) : Int32 := if s = -1 then (if ¬ a = 0 ∨ ¬ b = 0 then nI 1 else nI 0) else if s = -2 then (if ¬ a = 0 ∧ ¬ b = 0 then nI 1 else nI 0) else if s = -3 then (if a < b then nI 1 else nI 0) else if s = -4 then (if a = b then nI 1 else nI 0) else if s = -5 then (if b < a then nI 1 else nI 0) else if s = -6 then a + b else if s = -7 then a - b else if s = -8 then a * b else if b = 0 then nI 0 else a / b
set_option maxRecDepth 100000 in
set_option maxHeartbeats 4000000 in
theorem m7_two (l : Launch) (E : Ex) (S : Sx) (im : Mem) (s a b : Int32) : Mt l E yX7_two cX7_two 3 (some .int) 1 0 0 [.int s, .int a, .int b] S im (pI (pE S im (s_two s a b))) := by
  refine Mt.of (by decide +kernel) rfl rfl (Nat.le_of_ble_eq_true rfl) ?_
  intro κ hκ C ρ
  subst hκ
  show V E κ 3 0 0 0 [some (.int s), some (.int a), some (.int b)] [] S im
  refine z_iload_n (pc := 0) C dX7_two_0 rfl ?_
  by_cases hs_m8 : s = (-8)
  · 
    refine z_eqi (y := (-8)) hs_m8 ?_
    refine z_tableIn (off := 116) (pc := 1) C 117 dX7_two_1 (by decide) (by decide) (by decide +kernel) (by decide) ?_
    refine z_iload_n (pc := 117) C dX7_two_117 rfl ?_
    refine z_iload_n (pc := 118) C dX7_two_118 rfl ?_
    refine z_imul (pc := 119) C dX7_two_119 ?_
    exact z_iret (pc := 120) C ρ dX7_two_120 (⟨_, rfl, by simp [s_two, *], rfl, rfl⟩)
  by_cases hs_m7 : s = (-7)
  · 
    refine z_eqi (y := (-7)) hs_m7 ?_
    refine z_tableIn (off := 112) (pc := 1) C 113 dX7_two_1 (by decide) (by decide) (by decide +kernel) (by decide) ?_
    refine z_iload_n (pc := 113) C dX7_two_113 rfl ?_
    refine z_iload_n (pc := 114) C dX7_two_114 rfl ?_
    refine z_isub (pc := 115) C dX7_two_115 ?_
    exact z_iret (pc := 116) C ρ dX7_two_116 (⟨_, rfl, by simp [s_two, *], rfl, rfl⟩)
  by_cases hs_m6 : s = (-6)
  · 
    refine z_eqi (y := (-6)) hs_m6 ?_
    refine z_tableIn (off := 108) (pc := 1) C 109 dX7_two_1 (by decide) (by decide) (by decide +kernel) (by decide) ?_
    refine z_iload_n (pc := 109) C dX7_two_109 rfl ?_
    refine z_iload_n (pc := 110) C dX7_two_110 rfl ?_
    refine z_iadd (pc := 111) C dX7_two_111 ?_
    exact z_iret (pc := 112) C ρ dX7_two_112 (⟨_, rfl, by simp [s_two, *], rfl, rfl⟩)
  by_cases hs_m5 : s = (-5)
  · 
    refine z_eqi (y := (-5)) hs_m5 ?_
    refine z_tableIn (off := 97) (pc := 1) C 98 dX7_two_1 (by decide) (by decide) (by decide +kernel) (by decide) ?_
    refine z_iload_n (pc := 98) C dX7_two_98 rfl ?_
    refine z_iload_n (pc := 99) C dX7_two_99 rfl ?_
    refine z_icmp_le (pc := 100) C 107 dX7_two_100 (by decide) (fun c_100 => ?_) (fun c_100 => ?_)
    · 
      refine z_iconstN (pc := 107) C 0 dX7_two_107 ?_
      exact z_iret (pc := 108) C ρ dX7_two_108 (⟨_, rfl, by first | simp [s_two, *, Int32.not_lt.mpr c_100] | simp [s_two, *, Int32.not_le.mp c_100], rfl, rfl⟩)
    · 
      refine z_iconstN (pc := 103) C 1 dX7_two_103 ?_
      refine z_goto (pc := 104) C 108 dX7_two_104 (by decide) ?_
      exact z_iret (pc := 108) C ρ dX7_two_108 (⟨_, rfl, by first | simp [s_two, *, Int32.not_lt.mpr c_100] | simp [s_two, *, Int32.not_le.mp c_100], rfl, rfl⟩)
  by_cases hs_m4 : s = (-4)
  · 
    refine z_eqi (y := (-4)) hs_m4 ?_
    refine z_tableIn (off := 86) (pc := 1) C 87 dX7_two_1 (by decide) (by decide) (by decide +kernel) (by decide) ?_
    refine z_iload_n (pc := 87) C dX7_two_87 rfl ?_
    refine z_iload_n (pc := 88) C dX7_two_88 rfl ?_
    refine z_icmp_ne (pc := 89) C 96 dX7_two_89 (by decide) (fun c_89 => ?_) (fun c_89 => ?_)
    · 
      refine z_iconstN (pc := 96) C 0 dX7_two_96 ?_
      exact z_iret (pc := 97) C ρ dX7_two_97 (⟨_, rfl, by simp [s_two, *], rfl, rfl⟩)
    · 
      refine z_iconstN (pc := 92) C 1 dX7_two_92 ?_
      refine z_goto (pc := 93) C 97 dX7_two_93 (by decide) ?_
      exact z_iret (pc := 97) C ρ dX7_two_97 (⟨_, rfl, by simp [s_two, *], rfl, rfl⟩)
  by_cases hs_m3 : s = (-3)
  · 
    refine z_eqi (y := (-3)) hs_m3 ?_
    refine z_tableIn (off := 75) (pc := 1) C 76 dX7_two_1 (by decide) (by decide) (by decide +kernel) (by decide) ?_
    refine z_iload_n (pc := 76) C dX7_two_76 rfl ?_
    refine z_iload_n (pc := 77) C dX7_two_77 rfl ?_
    refine z_icmp_ge (pc := 78) C 85 dX7_two_78 (by decide) (fun c_78 => ?_) (fun c_78 => ?_)
    · 
      refine z_iconstN (pc := 85) C 0 dX7_two_85 ?_
      exact z_iret (pc := 86) C ρ dX7_two_86 (⟨_, rfl, by first | simp [s_two, *, Int32.not_lt.mpr c_78] | simp [s_two, *, Int32.not_le.mp c_78], rfl, rfl⟩)
    · 
      refine z_iconstN (pc := 81) C 1 dX7_two_81 ?_
      refine z_goto (pc := 82) C 86 dX7_two_82 (by decide) ?_
      exact z_iret (pc := 86) C ρ dX7_two_86 (⟨_, rfl, by first | simp [s_two, *, Int32.not_lt.mpr c_78] | simp [s_two, *, Int32.not_le.mp c_78], rfl, rfl⟩)
  by_cases hs_m2 : s = (-2)
  · 
    refine z_eqi (y := (-2)) hs_m2 ?_
    refine z_tableIn (off := 61) (pc := 1) C 62 dX7_two_1 (by decide) (by decide) (by decide +kernel) (by decide) ?_
    refine z_iload_n (pc := 62) C dX7_two_62 rfl ?_
    refine z_if_eq (pc := 63) C 74 dX7_two_63 (by decide) (fun c_63 => ?_) (fun c_63 => ?_)
    · 
      refine z_iconstN (pc := 74) C 0 dX7_two_74 ?_
      exact z_iret (pc := 75) C ρ dX7_two_75 (⟨_, rfl, by simp [s_two, *], rfl, rfl⟩)
    · 
      refine z_iload_n (pc := 66) C dX7_two_66 rfl ?_
      refine z_if_eq (pc := 67) C 74 dX7_two_67 (by decide) (fun c_67 => ?_) (fun c_67 => ?_)
      · 
        refine z_iconstN (pc := 74) C 0 dX7_two_74 ?_
        exact z_iret (pc := 75) C ρ dX7_two_75 (⟨_, rfl, by simp [s_two, *], rfl, rfl⟩)
      · 
        refine z_iconstN (pc := 70) C 1 dX7_two_70 ?_
        refine z_goto (pc := 71) C 75 dX7_two_71 (by decide) ?_
        exact z_iret (pc := 75) C ρ dX7_two_75 (⟨_, rfl, by simp [s_two, *], rfl, rfl⟩)
  by_cases hs_m1 : s = (-1)
  · 
    refine z_eqi (y := (-1)) hs_m1 ?_
    refine z_tableIn (off := 47) (pc := 1) C 48 dX7_two_1 (by decide) (by decide) (by decide +kernel) (by decide) ?_
    refine z_iload_n (pc := 48) C dX7_two_48 rfl ?_
    refine z_if_ne (pc := 49) C 56 dX7_two_49 (by decide) (fun c_49 => ?_) (fun c_49 => ?_)
    · 
      refine z_iconstN (pc := 56) C 1 dX7_two_56 ?_
      refine z_goto (pc := 57) C 61 dX7_two_57 (by decide) ?_
      exact z_iret (pc := 61) C ρ dX7_two_61 (⟨_, rfl, by simp [s_two, *], rfl, rfl⟩)
    · 
      refine z_iload_n (pc := 52) C dX7_two_52 rfl ?_
      refine z_if_eq (pc := 53) C 60 dX7_two_53 (by decide) (fun c_53 => ?_) (fun c_53 => ?_)
      · 
        refine z_iconstN (pc := 60) C 0 dX7_two_60 ?_
        exact z_iret (pc := 61) C ρ dX7_two_61 (⟨_, rfl, by simp [s_two, *], rfl, rfl⟩)
      · 
        refine z_iconstN (pc := 56) C 1 dX7_two_56 ?_
        refine z_goto (pc := 57) C 61 dX7_two_57 (by decide) ?_
        exact z_iret (pc := 61) C ρ dX7_two_61 (⟨_, rfl, by simp [s_two, *], rfl, rfl⟩)
  refine z_tableOut (pc := 1) C 121 dX7_two_1 (by have q_0 := lv_neT hs_m8 (show ((-8) : Int32).toInt = -8 by decide); have q_1 := lv_neT hs_m7 (show ((-7) : Int32).toInt = -7 by decide); have q_2 := lv_neT hs_m6 (show ((-6) : Int32).toInt = -6 by decide); have q_3 := lv_neT hs_m5 (show ((-5) : Int32).toInt = -5 by decide); have q_4 := lv_neT hs_m4 (show ((-4) : Int32).toInt = -4 by decide); have q_5 := lv_neT hs_m3 (show ((-3) : Int32).toInt = -3 by decide); have q_6 := lv_neT hs_m2 (show ((-2) : Int32).toInt = -2 by decide); have q_7 := lv_neT hs_m1 (show ((-1) : Int32).toInt = -1 by decide); omega) (by decide) ?_
  refine z_iload_n (pc := 121) C dX7_two_121 rfl ?_
  refine z_if_ne (pc := 122) C 129 dX7_two_122 (by decide) (fun c_122 => ?_) (fun c_122 => ?_)
  · 
    refine z_iload_n (pc := 129) C dX7_two_129 rfl ?_
    refine z_iload_n (pc := 130) C dX7_two_130 rfl ?_
    refine z_idiv (pc := 131) C dX7_two_131 (c_122) ?_
    exact z_iret (pc := 132) C ρ dX7_two_132 (⟨_, rfl, by simp [s_two, *], rfl, rfl⟩)
  · 
    refine z_iconstN (pc := 125) C 0 dX7_two_125 ?_
    refine z_goto (pc := 126) C 132 dX7_two_126 (by decide) ?_
    exact z_iret (pc := 132) C ρ dX7_two_132 (⟨_, rfl, by simp [s_two, *], rfl, rfl⟩)
/-- the text that counts for a key, of the first t ones; -1: none -/
def s_cnt (f : Nat → Int32) (key : Int32) : Nat → Int32
  | 0 => -1
  | t + 1 => if f (78 + 2 * t) / nI 1000 = key then nI t else s_cnt f key t
theorem dec_nI (m : Nat) : nI m + Int32.ofInt (-1) = nI m - nI 1 := by
  rw [Int32.sub_eq_add_neg]; rfl
set_option maxRecDepth 100000 in
set_option maxHeartbeats 4000000 in
theorem m7_counts (l : Launch) (E : Ex) (S : Sx) (im : Mem) (M : Nat) (hM : ML S M) (key : Int32) (n7 : Nat) (hn7 : n7 ≤ 14) (h7 : im (M + 1) 7 = nI n7) : Mt l E yX7_counts cX7_counts 3 (some .int) 1 0 0 [.ref M, .int key] S im (pI (pE S im (s_cnt (im (M + 1)) key n7))) := by
  refine Mt.of (by decide +kernel) rfl rfl (Nat.le_of_ble_eq_true rfl) ?_
  intro κ hκ C ρ
  subst hκ
  show V E κ 3 0 0 0 [some (.ref M), some (.int key), none] [] S im
  have loop : ∀ m, m ≤ 14 → s_cnt (im (M + 1)) key m = s_cnt (im (M + 1)) key n7 → V E κ 3 0 0 10 [some (.ref M), some (.int key), some (.int (nI m - nI 1))] [] S im := by
    intro m
    induction m with
    | zero =>
      intro _ hm
      refine z_iload_n (pc := 10) C dX7_counts_10 rfl ?_
      refine z_if_ltT (pc := 11) C 41 dX7_counts_11 (by decide) (by decide +kernel) ?_
      refine z_iconst (v := -1) (pc := 41) C dX7_counts_41 (by decide) ?_
      exact z_iret (pc := 42) C ρ dX7_counts_42 ⟨_, rfl, hm.symm, rfl, rfl⟩
    | succ m ih =>
      intro hm hc
      rw [show nI (m + 1) - nI 1 = nI m from nI_pred m]
      refine z_iload_n (pc := 10) C dX7_counts_10 rfl ?_
      refine z_if_ltF (pc := 11) C 41 dX7_counts_11 (by decide) (nI_pos (by omega)) ?_
      refine z_aload_n (pc := 14) C dX7_counts_14 rfl ?_
      refine gX7_9 (pc := 15) C dX7_counts_15 (ml_K hM) (ml_r0 hM) ?_
      refine z_bipushN (pc := 18) C 78 (by decide) dX7_counts_18 ?_
      refine z_iconstN (pc := 20) C 2 dX7_counts_20 ?_
      refine z_iload_n (pc := 21) C dX7_counts_21 rfl ?_
      refine z_imulN (pc := 22) C dX7_counts_22 ?_
      refine z_iaddN (pc := 23) C dX7_counts_23 ?_
      refine z_iald (pc := 24) C dX7_counts_24 (ml_a1 hM) (ml_n1 hM) (by omega) (by decide) ?_
      refine z_sipush (v := nI 1000) (pc := 25) C dX7_counts_25 (by decide +kernel) ?_
      refine z_idiv (pc := 28) C dX7_counts_28 (by decide) ?_
      refine z_iload_n (pc := 29) C dX7_counts_29 rfl ?_
      refine z_icmp_ne (pc := 30) C 35 dX7_counts_30 (by decide) (fun c_30 => ?_) (fun c_30 => ?_)
      · 
        refine z_iinc (pc := 35) C dX7_counts_35 rfl (dec_nI m) (by decide) rfl ?_
        refine z_goto (pc := 38) C 10 dX7_counts_38 (by decide) ?_
        exact ih (by omega) (by rw [← hc, s_cnt, if_neg c_30])
      · 
        refine z_iload_n (pc := 33) C dX7_counts_33 rfl ?_
        exact z_iret (pc := 34) C ρ dX7_counts_34 (⟨_, rfl, by rw [← hc, s_cnt, if_pos c_30], rfl, rfl⟩)
  refine z_aload_n (pc := 0) C dX7_counts_0 rfl ?_
  refine gX7_9 (pc := 1) C dX7_counts_1 (ml_K hM) (ml_r0 hM) ?_
  refine z_bipushN (pc := 4) C 7 (by decide) dX7_counts_4 ?_
  refine z_iald (pc := 6) C dX7_counts_6 (ml_a1 hM) (ml_n1 hM) (by omega) (by decide) ?_
  refine z_eqi (y := nI n7) (h7) ?_
  refine z_iconstN (pc := 7) C 1 dX7_counts_7 ?_
  refine z_isub (pc := 8) C dX7_counts_8 ?_
  refine z_istore_n (pc := 9) C dX7_counts_9 (by decide) rfl ?_
  exact loop n7 (by omega) rfl
/-- one step of a text's row, on a stack whose top stands first; c of 10000 and on: a fact -/
def evC (fa : Nat → Int32) (c : Int32) (st : List Int32) : List Int32 :=
  if 0 ≤ c then (if nI 10000 ≤ c then fa (c - nI 10000).toNatClampNeg else c) :: st
  else if c = -10 then (match st with | a :: r => (if a = 0 then nI 1 else nI 0) :: r | [] => [])
  else (match st with | b :: a :: r => s_two c a b :: r | r => r)
/-- the stack behind k steps -/
def evN (fa : Nat → Int32) (g : Nat → Int32) : Nat → List Int32
  | 0 => []
  | k + 1 => evC fa (g k) (evN fa g k)
/-- how many stand on it -/
def dpN (g : Nat → Int32) : Nat → Nat
  | 0 => 0
  | k + 1 => if 0 ≤ g k then dpN g k + 1 else if g k = -10 then dpN g k else dpN g k - 1
/-- a row of m steps that can be worked out -/
def RP (nn : Nat) (g : Nat → Int32) (m : Nat) : Prop := m ≤ 96 ∧ dpN g m = 1 ∧ ∀ k, k < m → (∃ j, j < 10000 + nn ∧ g k = nI j) ∨ (g k = -10 ∧ 1 ≤ dpN g k) ∨ (∃ j, 1 ≤ j ∧ j ≤ 9 ∧ g k = 0 - nI j ∧ 2 ≤ dpN g k)
theorem neg_nI : ∀ j : Nat, 1 ≤ j → j ≤ 9 → ¬ 0 ≤ 0 - nI j ∧ ¬ 0 - nI j = -10 := by
  intro j h1 h2
  have : ∀ j : Fin 10, 1 ≤ j.val → ¬ 0 ≤ 0 - nI j.val ∧ ¬ 0 - nI j.val = -10 := by decide +kernel
  exact this ⟨j, by omega⟩ h1
theorem evN_len {fa g : Nat → Int32} {nn m : Nat} (hnn : nn ≤ 3) (h : RP nn g m) : ∀ k, k ≤ m → (evN fa g k).length = dpN g k := by
  intro k
  induction k with
  | zero => intro _; rfl
  | succ k ih =>
    intro hk
    have h1 := ih (by omega)
    rw [evN, dpN]
    unfold evC
    rcases h.2.2 k (by omega) with ⟨j, hj, e⟩ | ⟨e, hd⟩ | ⟨j, h3, h4, e, hd⟩
    · have : 0 ≤ g k := by rw [e]; exact nI_pos' (by omega)
      rw [if_pos this, if_pos this, List.length_cons, h1]
    · have : ¬ (0 : Int32) ≤ -10 := by decide
      rw [e, if_neg this, if_neg this, if_pos rfl, if_pos rfl]
      cases hs : evN fa g k with
      | nil => rw [hs] at h1; simp at h1; omega
      | cons a r => rw [hs] at h1; exact h1
    · obtain ⟨n1, n2⟩ := neg_nI j h3 h4
      rw [e, if_neg n1, if_neg n1, if_neg n2, if_neg n2]
      cases hs : evN fa g k with
      | nil => rw [hs] at h1; simp at h1; omega
      | cons b r =>
        cases r with
        | nil => rw [hs] at h1; simp at h1; omega
        | cons a r => rw [hs] at h1; simp only [List.length_cons] at h1 ⊢; omega
theorem dpN_le (g : Nat → Int32) : ∀ k, dpN g k ≤ k := by
  intro k
  induction k with
  | zero => exact Nat.le_refl _
  | succ k ih =>
    rw [dpN]
    split
    · omega
    · split <;> omega
/-- an array holds a stack: the top stands last -/
def stk (a : Nat → Int32) (st : List Int32) : Prop := ∀ i, i < st.length → a i = st.getD (st.length - 1 - i) 0
theorem stk_push {a : Nat → Int32} {st : List Int32} (h : stk a st) (x : Int32) : stk (upd a st.length x) (x :: st) := by
  intro i hi
  rw [List.length_cons] at hi ⊢
  by_cases e : i = st.length
  · subst e; rw [upd_s]; simp
  · rw [upd_n _ _ e, h i (by omega)]
    rw [show st.length + 1 - 1 - i = (st.length - 1 - i) + 1 by omega, List.getD_cons_succ]
theorem stk_top {a : Nat → Int32} {x : Int32} {st : List Int32} (h : stk a (x :: st)) : a st.length = x := by
  rw [h st.length (by simp)]; simp
theorem stk_set {a : Nat → Int32} {x : Int32} {st : List Int32} (h : stk a (x :: st)) (y : Int32) : stk (upd a st.length y) (y :: st) := by
  intro i hi
  rw [List.length_cons] at hi
  by_cases e : i = st.length
  · subst e; rw [upd_s]; simp
  · rw [upd_n _ _ e, h i (by simpa using hi)]
    simp only [List.length_cons]
    rw [show st.length + 1 - 1 - i = (st.length - 1 - i) + 1 by omega, List.getD_cons_succ, List.getD_cons_succ]
theorem stk_two {a : Nat → Int32} {x y : Int32} {st : List Int32} (h : stk a (x :: y :: st)) : a (st.length + 1) = x ∧ a st.length = y := by
  constructor
  · exact stk_top h
  · have := h st.length (by simp only [List.length_cons]; omega)
    rw [this]
    simp only [List.length_cons]
    rw [show st.length + 1 + 1 - 1 - st.length = 1 by omega]
    rfl
theorem stk_bin {a : Nat → Int32} {x y : Int32} {st : List Int32} (h : stk a (x :: y :: st)) (z : Int32) : stk (upd a st.length z) (z :: st) := by
  intro i hi
  rw [List.length_cons] at hi
  by_cases e : i = st.length
  · subst e; rw [upd_s]; simp
  · rw [upd_n _ _ e, h i (by simp only [List.length_cons]; omega)]
    simp only [List.length_cons]
    rw [show st.length + 1 + 1 - 1 - i = ((st.length - 1 - i) + 1) + 1 by omega, List.getD_cons_succ, List.getD_cons_succ, show st.length + 1 - 1 - i = (st.length - 1 - i) + 1 by omega, List.getD_cons_succ]
/-- the row of text t in the numbers f -/
def s_row (f : Nat → Int32) (t : Nat) : Nat → Int32 := fun k => f (106 + 96 * t + k)
/-- what a text gives -/
def s_val (f : Nat → Int32) (t m : Nat) (fa : Nat → Int32) : Int32 := (evN fa (s_row f t) m).headD 0
/-- a text as it is kept -/
def nnm (key : Nat) : Nat := if key = 0 then 3 else 2
theorem nnm_le (key : Nat) : nnm key ≤ 3 := by unfold nnm; split <;> decide
def TxOk (f : Nat → Int32) (t key m : Nat) : Prop := key < 3 ∧ f (78 + 2 * t) = nI (1000 * key + m) ∧ RP (nnm key) (s_row f t) m
theorem evN_congr {fa fb g : Nat → Int32} {nn m : Nat} (hnn : nn ≤ 3) (h : RP nn g m) (he : ∀ i, i < nn → fa i = fb i) : ∀ k, k ≤ m → evN fa g k = evN fb g k := by
  intro k
  induction k with
  | zero => intro _; rfl
  | succ k ih =>
    intro hk
    rw [evN, evN, ih (by omega)]
    unfold evC
    rcases h.2.2 k (by omega) with ⟨j, hj, e⟩ | ⟨e, hd⟩ | ⟨j, h3, h4, e, hd⟩
    · have h0 : 0 ≤ g k := by rw [e]; exact nI_pos' (by omega)
      rw [if_pos h0, if_pos h0, e]
      by_cases hj2 : 10000 ≤ j
      · rw [if_pos (nI_le hj2 (by omega)), if_pos (nI_le hj2 (by omega)), pk_sub hj2, nI_clamp (by omega), he _ (by omega)]
      · rw [if_neg (nI_ge (by omega) (by omega)), if_neg (nI_ge (by omega) (by omega))]
    · have : ¬ (0 : Int32) ≤ -10 := by decide
      rw [e, if_neg this, if_neg this]
    · obtain ⟨n1, n2⟩ := neg_nI j h3 h4
      rw [e, if_neg n1, if_neg n1]
theorem im_stk {im : Mem} {M : Nat} (k : Nat) (x : Int32) : up2 im (M + 15) k x (M + 15) = upd (im (M + 15)) k x := up2_s _ _ _ _
set_option maxRecDepth 100000 in
set_option maxHeartbeats 4000000 in
theorem m7_worksOut (l : Launch) (E : Ex) (S : Sx) (im : Mem) (M : Nat) (hM : ML S M) (t key m : Nat) (ht : t < 14) (hok : TxOk (im (M + 1)) t key m) : Mt l E yX7_worksOut cX7_worksOut 6 (some .int) 2 0 0 [.ref M, .int (nI t)] S im (pI (fun v S' im' => s_val (im (M + 1)) t m (im (M + 16)) = v ∧ S = S' ∧ ∀ a, a ≠ M + 15 → im' a = im a)) := by
  refine Mt.of (by decide +kernel) rfl rfl (Nat.le_of_ble_eq_true rfl) ?_
  intro κ hκ C ρ
  subst hκ
  show V E κ 6 0 0 0 [some (.ref M), some (.int (nI t)), none, none, none, none] [] S im
  have loop : ∀ (r k d : Nat) (im' : Mem) (lx : Option Value), k + r = m → d = dpN (s_row (im (M + 1)) t) k → (∀ a, a ≠ M + 15 → im' a = im a) → stk (im' (M + 15)) (evN (im (M + 16)) (s_row (im (M + 1)) t) k) → V E κ 6 0 0 21 [some (.ref M), some (.int (nI t)), some (.int (nI d)), some (.int (nI m)), some (.int (nI k)), lx] [] S im' := by
    intro r
    induction r with
    | zero =>
      intro k d im' lx hk hd hf hs
      have hkm : k = m := by omega
      subst hkm
      have hm96 := hok.2.2.1
      have hd1 : d = 1 := by rw [hd]; exact hok.2.2.2.1
      have hlen := evN_len (fa := im (M + 16)) (nnm_le key) hok.2.2 k (Nat.le_refl _)
      refine z_iload (pc := 21) C dX7_worksOut_21 rfl ?_
      refine z_iload_n (pc := 23) C dX7_worksOut_23 rfl ?_
      refine z_icmp_geT (pc := 24) C 155 dX7_worksOut_24 (by decide) (nI_le (Nat.le_refl _) (by omega)) ?_
      refine z_aload_n (pc := 155) C dX7_worksOut_155 rfl ?_
      refine gX7_58 (pc := 156) C dX7_worksOut_156 (ml_K hM) (ml_r26 hM) ?_
      refine z_iconstN (pc := 159) C 0 dX7_worksOut_159 ?_
      refine z_iald (pc := 160) C dX7_worksOut_160 (ml_a15 hM) (ml_n15 hM) (by omega) (by decide) ?_
      exact z_iret (pc := 161) C ρ dX7_worksOut_161 (⟨_, rfl, by rw [hs 0 (by rw [hlen]; omega), hlen, ← hd, hd1, s_val]; cases evN (im (M + 16)) (s_row (im (M + 1)) t) k <;> rfl, rfl, hf⟩)
    | succ r ih =>
      intro k d im' lx hk hd hf hs
      have hkm : k < m := by omega
      have hrow := hok.2.2.2.2 k hkm
      have hlen := evN_len (fa := im (M + 16)) (nnm_le key) hok.2.2 k (by omega)
      have hd96 : d ≤ k := by rw [hd]; exact dpN_le _ k
      rw [← hd] at hlen hrow
      have hnext : ∀ x, x = evN (im (M + 16)) (s_row (im (M + 1)) t) (k + 1) → x = evC (im (M + 16)) (s_row (im (M + 1)) t k) (evN (im (M + 16)) (s_row (im (M + 1)) t) k) := fun x hx => hx
      generalize hst : evN (im (M + 16)) (s_row (im (M + 1)) t) k = st at hs hlen hnext
      have hm96 := hok.2.2.1
      have hnn := nnm_le key
      refine z_iload (pc := 21) C dX7_worksOut_21 rfl ?_
      refine z_iload_n (pc := 23) C dX7_worksOut_23 rfl ?_
      refine z_icmp_geF (pc := 24) C 155 dX7_worksOut_24 (by decide) (nI_ge (by omega) (by omega)) ?_
      refine z_aload_n (pc := 27) C dX7_worksOut_27 rfl ?_
      refine gX7_9 (pc := 28) C dX7_worksOut_28 (ml_K hM) (ml_r0 hM) ?_
      refine z_bipushN (pc := 31) C 106 (by decide) dX7_worksOut_31 ?_
      refine z_bipushN (pc := 33) C 96 (by decide) dX7_worksOut_33 ?_
      refine z_iload_n (pc := 35) C dX7_worksOut_35 rfl ?_
      refine z_imulN (pc := 36) C dX7_worksOut_36 ?_
      refine z_iaddN (pc := 37) C dX7_worksOut_37 ?_
      refine z_iload (pc := 38) C dX7_worksOut_38 rfl ?_
      refine z_iaddN (pc := 40) C dX7_worksOut_40 ?_
      refine z_iald (pc := 41) C dX7_worksOut_41 (ml_a1 hM) (ml_n1 hM) (by omega) (by decide) ?_
      refine z_eqi (y := s_row (im (M + 1)) t k) (by rw [hf _ (by omega)]; rfl) ?_
      refine z_istore (pc := 42) C dX7_worksOut_42 (by decide) rfl ?_
      rcases hrow with ⟨j, hj, e⟩ | ⟨e, hd1⟩ | ⟨j, h3, h4, e, hd1⟩
      ·
        rw [e] at hnext ⊢
        have hdp : dpN (s_row (im (M + 1)) t) (k + 1) = d + 1 := by rw [dpN, e, if_pos (nI_pos' (by omega)), ← hd]
        refine z_iload (pc := 44) C dX7_worksOut_44 rfl ?_
        refine z_if_ltF (pc := 46) C 85 dX7_worksOut_46 (by decide) (Int32.not_lt.mpr (nI_pos' (by omega))) ?_
        refine z_aload_n (pc := 49) C dX7_worksOut_49 rfl ?_
        refine gX7_58 (pc := 50) C dX7_worksOut_50 (ml_K hM) (ml_r26 hM) ?_
        refine z_iload_n (pc := 53) C dX7_worksOut_53 rfl ?_
        refine z_iload (pc := 54) C dX7_worksOut_54 rfl ?_
        refine z_sipush (v := nI 10000) (pc := 56) C dX7_worksOut_56 (by decide +kernel) ?_
        refine z_icmp_geN (pc := 59) C 67 dX7_worksOut_59 (by decide) (by omega) (by omega) (fun c_59 => ?_) (fun c_59 => ?_)
        · 
          have hj2 : j - 10000 < 3 := by omega
          have hj3 : evC (im (M + 16)) (nI j) st = im (M + 16) (j - 10000) :: st := by
            unfold evC; rw [if_pos (nI_pos' (by omega)), if_pos (nI_le c_59 (by omega)), pk_sub c_59, nI_clamp (by omega)]
          refine z_aload_n (pc := 67) C dX7_worksOut_67 rfl ?_
          refine gX7_61 (pc := 68) C dX7_worksOut_68 (ml_K hM) (ml_r27 hM) ?_
          refine z_iload (pc := 71) C dX7_worksOut_71 rfl ?_
          refine z_sipush (v := nI 10000) (pc := 73) C dX7_worksOut_73 (by decide +kernel) ?_
          refine z_isubN (pc := 76) C dX7_worksOut_76 (c_59) ?_
          refine z_iald (pc := 77) C dX7_worksOut_77 (ml_a16 hM) (ml_n16 hM) (by omega) (by decide) ?_
          refine z_iast (pc := 78) C dX7_worksOut_78 (ml_a15 hM) (ml_n15 hM) (by omega) (by decide) ?_
          refine z_iincN (pc := 79) C 1 dX7_worksOut_79 rfl (by decide) rfl ?_
          refine z_goto (pc := 82) C 149 dX7_worksOut_82 (by decide) ?_
          refine z_iincN (pc := 149) C 1 dX7_worksOut_149 rfl (by decide) rfl ?_
          refine z_goto (pc := 152) C 21 dX7_worksOut_152 (by decide) ?_
          refine ih (k + 1) (d + 1) _ _ (by omega) hdp.symm (fun a ha => by rw [up2_n _ _ _ ha]; exact hf a ha) ?_
          rw [up2_s, hnext _ rfl, hj3, ← hlen]
          first | exact stk_push hs _ | (rw [hf (M + 16) (by omega)]; exact stk_push hs _)
        · 
          have hj3 : evC (im (M + 16)) (nI j) st = nI j :: st := by
            unfold evC; rw [if_pos (nI_pos' (by omega)), if_neg (nI_ge (by omega) (by omega))]
          refine z_iload (pc := 62) C dX7_worksOut_62 rfl ?_
          refine z_goto (pc := 64) C 78 dX7_worksOut_64 (by decide) ?_
          refine z_iast (pc := 78) C dX7_worksOut_78 (ml_a15 hM) (ml_n15 hM) (by omega) (by decide) ?_
          refine z_iincN (pc := 79) C 1 dX7_worksOut_79 rfl (by decide) rfl ?_
          refine z_goto (pc := 82) C 149 dX7_worksOut_82 (by decide) ?_
          refine z_iincN (pc := 149) C 1 dX7_worksOut_149 rfl (by decide) rfl ?_
          refine z_goto (pc := 152) C 21 dX7_worksOut_152 (by decide) ?_
          refine ih (k + 1) (d + 1) _ _ (by omega) hdp.symm (fun a ha => by rw [up2_n _ _ _ ha]; exact hf a ha) ?_
          rw [up2_s, hnext _ rfl, hj3, ← hlen]
          first | exact stk_push hs _ | (rw [hf (M + 16) (by omega)]; exact stk_push hs _)
      ·
        rw [e] at hnext ⊢
        obtain ⟨x, rest, rfl⟩ : ∃ x rest, st = x :: rest := by cases st with | nil => simp at hlen; omega | cons x rest => exact ⟨x, rest, rfl⟩
        rw [List.length_cons] at hlen
        have hx : im' (M + 15) (d - 1) = x ∧ d - 1 = rest.length := by rw [show d - 1 = rest.length by omega]; exact ⟨stk_top hs, rfl⟩
        have hdp : dpN (s_row (im (M + 1)) t) (k + 1) = d := by rw [dpN, e, if_neg (by decide), if_pos rfl, ← hd]
        have hj3 : evC (im (M + 16)) (-10) (x :: rest) = (if x = 0 then nI 1 else nI 0) :: rest := by unfold evC; rw [if_neg (by decide), if_pos rfl]
        refine z_iload (pc := 44) C dX7_worksOut_44 rfl ?_
        refine z_if_ltT (pc := 46) C 85 dX7_worksOut_46 (by decide) (by decide) ?_
        refine z_iload (pc := 85) C dX7_worksOut_85 rfl ?_
        refine z_bipush (v := -10) (pc := 87) C dX7_worksOut_87 (by decide) ?_
        refine z_icmp_neF (pc := 89) C 119 dX7_worksOut_89 (by decide) (rfl) ?_
        refine z_aload_n (pc := 92) C dX7_worksOut_92 rfl ?_
        refine gX7_58 (pc := 93) C dX7_worksOut_93 (ml_K hM) (ml_r26 hM) ?_
        refine z_iload_n (pc := 96) C dX7_worksOut_96 rfl ?_
        refine z_iconstN (pc := 97) C 1 dX7_worksOut_97 ?_
        refine z_isubN (pc := 98) C dX7_worksOut_98 (by omega) ?_
        refine z_aload_n (pc := 99) C dX7_worksOut_99 rfl ?_
        refine gX7_58 (pc := 100) C dX7_worksOut_100 (ml_K hM) (ml_r26 hM) ?_
        refine z_iload_n (pc := 103) C dX7_worksOut_103 rfl ?_
        refine z_iconstN (pc := 104) C 1 dX7_worksOut_104 ?_
        refine z_isubN (pc := 105) C dX7_worksOut_105 (by omega) ?_
        refine z_iald (pc := 106) C dX7_worksOut_106 (ml_a15 hM) (ml_n15 hM) (by omega) (by decide) ?_
        refine z_eqi (y := x) (hx.1) ?_
        refine z_if_ne (pc := 107) C 114 dX7_worksOut_107 (by decide) (fun c_107 => ?_) (fun c_107 => ?_)
        · 
          refine z_iconstN (pc := 114) C 0 dX7_worksOut_114 ?_
          refine z_iast (pc := 115) C dX7_worksOut_115 (ml_a15 hM) (ml_n15 hM) (by omega) (by decide) ?_
          refine z_goto (pc := 116) C 149 dX7_worksOut_116 (by decide) ?_
          refine z_iincN (pc := 149) C 1 dX7_worksOut_149 rfl (by decide) rfl ?_
          refine z_goto (pc := 152) C 21 dX7_worksOut_152 (by decide) ?_
          refine ih (k + 1) d _ _ (by omega) hdp.symm (fun a ha => by rw [up2_n _ _ _ ha]; exact hf a ha) ?_
          rw [up2_s, hnext _ rfl, hj3, hx.2]
          first | (rw [if_pos c_107]; exact stk_set hs _) | (rw [if_neg c_107]; exact stk_set hs _)
        · 
          refine z_iconstN (pc := 110) C 1 dX7_worksOut_110 ?_
          refine z_goto (pc := 111) C 115 dX7_worksOut_111 (by decide) ?_
          refine z_iast (pc := 115) C dX7_worksOut_115 (ml_a15 hM) (ml_n15 hM) (by omega) (by decide) ?_
          refine z_goto (pc := 116) C 149 dX7_worksOut_116 (by decide) ?_
          refine z_iincN (pc := 149) C 1 dX7_worksOut_149 rfl (by decide) rfl ?_
          refine z_goto (pc := 152) C 21 dX7_worksOut_152 (by decide) ?_
          refine ih (k + 1) d _ _ (by omega) hdp.symm (fun a ha => by rw [up2_n _ _ _ ha]; exact hf a ha) ?_
          rw [up2_s, hnext _ rfl, hj3, hx.2]
          first | (rw [if_pos c_107]; exact stk_set hs _) | (rw [if_neg c_107]; exact stk_set hs _)
      ·
        obtain ⟨n1, n2⟩ := neg_nI j h3 h4
        rw [e] at hnext ⊢
        obtain ⟨y, x, rest, rfl⟩ : ∃ y x rest, st = y :: x :: rest := by
          cases st with
          | nil => simp at hlen; omega
          | cons y r2 =>
            cases r2 with
            | nil => simp at hlen; omega
            | cons x rest => exact ⟨y, x, rest, rfl⟩
        simp only [List.length_cons] at hlen
        have hx := stk_two hs
        have e1 : d - 1 = rest.length + 1 := by omega
        have e2 : d - 1 - 1 = rest.length := by omega
        have hdp : dpN (s_row (im (M + 1)) t) (k + 1) = d - 1 := by rw [dpN, e, if_neg n1, if_neg n2, ← hd]
        have hj3 : evC (im (M + 16)) (0 - nI j) (y :: x :: rest) = s_two (0 - nI j) x y :: rest := by unfold evC; rw [if_neg n1, if_neg n2]
        refine z_iload (pc := 44) C dX7_worksOut_44 rfl ?_
        refine z_if_ltT (pc := 46) C 85 dX7_worksOut_46 (by decide) (Int32.not_le.mp n1) ?_
        refine z_iload (pc := 85) C dX7_worksOut_85 rfl ?_
        refine z_bipush (v := -10) (pc := 87) C dX7_worksOut_87 (by decide) ?_
        refine z_icmp_neT (pc := 89) C 119 dX7_worksOut_89 (by decide) (n2) ?_
        refine z_iinc (pc := 119) C dX7_worksOut_119 rfl (by rw [dec_nI, pk_sub (by omega)]) (by decide) rfl ?_
        refine z_aload_n (pc := 122) C dX7_worksOut_122 rfl ?_
        refine gX7_58 (pc := 123) C dX7_worksOut_123 (ml_K hM) (ml_r26 hM) ?_
        refine z_iload_n (pc := 126) C dX7_worksOut_126 rfl ?_
        refine z_iconstN (pc := 127) C 1 dX7_worksOut_127 ?_
        refine z_isubN (pc := 128) C dX7_worksOut_128 (by omega) ?_
        refine z_iload (pc := 129) C dX7_worksOut_129 rfl ?_
        refine z_aload_n (pc := 131) C dX7_worksOut_131 rfl ?_
        refine gX7_58 (pc := 132) C dX7_worksOut_132 (ml_K hM) (ml_r26 hM) ?_
        refine z_iload_n (pc := 135) C dX7_worksOut_135 rfl ?_
        refine z_iconstN (pc := 136) C 1 dX7_worksOut_136 ?_
        refine z_isubN (pc := 137) C dX7_worksOut_137 (by omega) ?_
        refine z_iald (pc := 138) C dX7_worksOut_138 (ml_a15 hM) (ml_n15 hM) (by omega) (by decide) ?_
        refine z_aload_n (pc := 139) C dX7_worksOut_139 rfl ?_
        refine gX7_58 (pc := 140) C dX7_worksOut_140 (ml_K hM) (ml_r26 hM) ?_
        refine z_iload_n (pc := 143) C dX7_worksOut_143 rfl ?_
        refine z_iald (pc := 144) C dX7_worksOut_144 (ml_a15 hM) (ml_n15 hM) (by omega) (by decide) ?_
        refine kX7_266 (pc := 145) C dX7_worksOut_145 (m7_two κ.2.1 E S im' (0 - nI j) (im' (M + 15) (d - 1 - 1)) (im' (M + 15) (d - 1))) (by decide) (Nat.le_of_ble_eq_true rfl) (Nat.le_refl _) (Nat.le_refl _) (fun v_145 S_145 im_145 h_145 => ?_)
        obtain ⟨rfl, rfl, rfl⟩ := h_145
        refine z_iast (pc := 148) C dX7_worksOut_148 (ml_a15 hM) (ml_n15 hM) (by omega) (by decide) ?_
        refine z_iincN (pc := 149) C 1 dX7_worksOut_149 rfl (by decide) rfl ?_
        refine z_goto (pc := 152) C 21 dX7_worksOut_152 (by decide) ?_
        refine ih (k + 1) (d - 1) _ _ (by omega) hdp.symm (fun a ha => by rw [up2_n _ _ _ ha]; exact hf a ha) ?_
        rw [up2_s, hnext _ rfl, hj3, e2, e1, hx.1, hx.2]
        exact stk_bin hs _
  refine z_iconstN (pc := 0) C 0 dX7_worksOut_0 ?_
  refine z_istore_n (pc := 1) C dX7_worksOut_1 (by decide) rfl ?_
  refine z_aload_n (pc := 2) C dX7_worksOut_2 rfl ?_
  refine gX7_9 (pc := 3) C dX7_worksOut_3 (ml_K hM) (ml_r0 hM) ?_
  refine z_bipushN (pc := 6) C 78 (by decide) dX7_worksOut_6 ?_
  refine z_iconstN (pc := 8) C 2 dX7_worksOut_8 ?_
  refine z_iload_n (pc := 9) C dX7_worksOut_9 rfl ?_
  refine z_imulN (pc := 10) C dX7_worksOut_10 ?_
  refine z_iaddN (pc := 11) C dX7_worksOut_11 ?_
  refine z_iald (pc := 12) C dX7_worksOut_12 (ml_a1 hM) (ml_n1 hM) (by omega) (by decide) ?_
  refine z_eqi (y := nI (1000 * key + m)) (hok.2.1) ?_
  refine z_sipush (v := nI 1000) (pc := 13) C dX7_worksOut_13 (by decide +kernel) ?_
  refine z_irem (pc := 16) C dX7_worksOut_16 (by decide) ?_
  refine z_eqi (y := nI m) (by rw [pk_rem (by have := hok.2.2.1; have := hok.1; omega) (by decide) (by decide)]; congr 1; have := hok.2.2.1; omega) ?_
  refine z_istore_n (pc := 17) C dX7_worksOut_17 (by decide) rfl ?_
  refine z_iconstN (pc := 18) C 0 dX7_worksOut_18 ?_
  refine z_istore (pc := 19) C dX7_worksOut_19 (by decide) rfl ?_
  exact loop m 0 0 im _ (by omega) rfl (fun _ _ => rfl) (fun i hi => absurd hi (Nat.not_lt_zero i))
