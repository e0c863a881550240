/-! the class: one lamp, second half -/
def s_mx (x y : Int32) : Int32 := if x < y then y else x
def s_mn (x y : Int32) : Int32 := if y < x then y else x
def s_burC (k o p : Int32) : Int32 := if k = nI 1 then (o * nI 10 + p) / nI 2 else if k = nI 2 then s_mx (p - nI 20) (nI 0) else if k = nI 3 then o * nI 10 else if k = nI 4 then s_mx (p - nI 20) (nI 0) / nI 2 else if k = nI 5 then nI 9999 else p
def s_drC (k o m : Int32) : Int32 := if k = nI 4 then s_mn (s_mn (m / nI 10) o + nI 5) o else if k = nI 5 then nI 0 else s_mn (m / nI 10) o
set_option maxRecDepth 100000 in
set_option maxHeartbeats 4000000 in
theorem c0_burns (l : Launch) (E : Ex) (S : Sx) (im : Mem) (q : Nat) (hq : S.2.1 q = 0) (x : Int32) : Mt l E yX0_burns cX0_burns 3 (some .int) 1 0 0 [.ref q, .int x] S im (pI (pE S im (s_burC (im q 0) (im q 2) x))) := by
  refine Mt.of (by decide +kernel) rfl rfl (Nat.le_of_ble_eq_true rfl) ?_
  intro κ hκ C ρ
  subst hκ
  show V E κ 3 0 0 0 [some (.ref q), some (.int x), none] [] S im
  refine z_iload_n (pc := 0) C dX0_burns_0 rfl ?_
  refine z_bipushN (pc := 1) C 20 (by decide) dX0_burns_1 ?_
  refine z_isub (pc := 3) C dX0_burns_3 ?_
  refine z_iconstN (pc := 4) C 0 dX0_burns_4 ?_
  refine z_max (pc := 5) C dX0_burns_5 wm_X0_41 (by decide) (Nat.le_of_ble_eq_true rfl) (Nat.zero_le _) (Nat.zero_le _) ?_
  refine z_istore_n (pc := 8) C dX0_burns_8 (by decide) rfl ?_
  refine z_aload_n (pc := 9) C dX0_burns_9 rfl ?_
  refine gX0_11 (pc := 10) C dX0_burns_10 hq ?_
  by_cases hs_1 : im q 0 = nI 1
  · 
    refine z_eqi (y := nI 1) hs_1 ?_
    refine z_tableIn (off := 35) (pc := 13) C 48 dX0_burns_13 (by decide) (by decide) (by decide +kernel) (by decide) ?_
    refine z_aload_n (pc := 48) C dX0_burns_48 rfl ?_
    refine gX0_18 (pc := 49) C dX0_burns_49 hq ?_
    refine z_bipushN (pc := 52) C 10 (by decide) dX0_burns_52 ?_
    refine z_imul (pc := 54) C dX0_burns_54 ?_
    refine z_iload_n (pc := 55) C dX0_burns_55 rfl ?_
    refine z_iadd (pc := 56) C dX0_burns_56 ?_
    refine z_iconstN (pc := 57) C 2 dX0_burns_57 ?_
    refine z_idiv (pc := 58) C dX0_burns_58 (by decide) ?_
    exact z_iret (pc := 59) C ρ dX0_burns_59 (⟨_, rfl, by simp only [s_burC, s_mx, if_pos hs_1], rfl, rfl⟩)
  by_cases hs_2 : im q 0 = nI 2
  · 
    refine z_eqi (y := nI 2) hs_2 ?_
    refine z_tableIn (off := 55) (pc := 13) C 68 dX0_burns_13 (by decide) (by decide) (by decide +kernel) (by decide) ?_
    refine z_iload_n (pc := 68) C dX0_burns_68 rfl ?_
    exact z_iret (pc := 69) C ρ dX0_burns_69 (⟨_, rfl, by simp only [s_burC, s_mx, if_neg hs_1, if_pos hs_2], rfl, rfl⟩)
  by_cases hs_3 : im q 0 = nI 3
  · 
    refine z_eqi (y := nI 3) hs_3 ?_
    refine z_tableIn (off := 47) (pc := 13) C 60 dX0_burns_13 (by decide) (by decide) (by decide +kernel) (by decide) ?_
    refine z_aload_n (pc := 60) C dX0_burns_60 rfl ?_
    refine gX0_18 (pc := 61) C dX0_burns_61 hq ?_
    refine z_bipushN (pc := 64) C 10 (by decide) dX0_burns_64 ?_
    refine z_imul (pc := 66) C dX0_burns_66 ?_
    exact z_iret (pc := 67) C ρ dX0_burns_67 (⟨_, rfl, by simp only [s_burC, s_mx, if_neg hs_1, if_neg hs_2, if_pos hs_3], rfl, rfl⟩)
  by_cases hs_4 : im q 0 = nI 4
  · 
    refine z_eqi (y := nI 4) hs_4 ?_
    refine z_tableIn (off := 57) (pc := 13) C 70 dX0_burns_13 (by decide) (by decide) (by decide +kernel) (by decide) ?_
    refine z_iload_n (pc := 70) C dX0_burns_70 rfl ?_
    refine z_iconstN (pc := 71) C 2 dX0_burns_71 ?_
    refine z_idiv (pc := 72) C dX0_burns_72 (by decide) ?_
    exact z_iret (pc := 73) C ρ dX0_burns_73 (⟨_, rfl, by simp only [s_burC, s_mx, if_neg hs_1, if_neg hs_2, if_neg hs_3, if_pos hs_4], rfl, rfl⟩)
  by_cases hs_5 : im q 0 = nI 5
  · 
    refine z_eqi (y := nI 5) hs_5 ?_
    refine z_tableIn (off := 61) (pc := 13) C 74 dX0_burns_13 (by decide) (by decide) (by decide +kernel) (by decide) ?_
    refine z_sipush (v := nI 9999) (pc := 74) C dX0_burns_74 (by decide +kernel) ?_
    exact z_iret (pc := 77) C ρ dX0_burns_77 (⟨_, rfl, by simp only [s_burC, s_mx, if_neg hs_1, if_neg hs_2, if_neg hs_3, if_neg hs_4, if_pos hs_5], rfl, rfl⟩)
  refine z_tableOut (pc := 13) C 78 dX0_burns_13 (by have q_0 := lv_neT hs_1 (show (nI 1 : Int32).toInt = 1 by decide); have q_1 := lv_neT hs_2 (show (nI 2 : Int32).toInt = 2 by decide); have q_2 := lv_neT hs_3 (show (nI 3 : Int32).toInt = 3 by decide); have q_3 := lv_neT hs_4 (show (nI 4 : Int32).toInt = 4 by decide); have q_4 := lv_neT hs_5 (show (nI 5 : Int32).toInt = 5 by decide); omega) (by decide) ?_
  refine z_iload_n (pc := 78) C dX0_burns_78 rfl ?_
  exact z_iret (pc := 79) C ρ dX0_burns_79 (⟨_, rfl, by simp only [s_burC, s_mx, if_neg hs_1, if_neg hs_2, if_neg hs_3, if_neg hs_4, if_neg hs_5], rfl, rfl⟩)
set_option maxRecDepth 100000 in
set_option maxHeartbeats 4000000 in
theorem c0_drunkIn (l : Launch) (E : Ex) (S : Sx) (im : Mem) (q : Nat) (hq : S.2.1 q = 0) (x : Int32) : Mt l E yX0_drunkIn cX0_drunkIn 3 (some .int) 1 0 0 [.ref q, .int x] S im (pI (pE S im (s_drC (im q 0) (im q 2) x))) := by
  refine Mt.of (by decide +kernel) rfl rfl (Nat.le_of_ble_eq_true rfl) ?_
  intro κ hκ C ρ
  subst hκ
  show V E κ 3 0 0 0 [some (.ref q), some (.int x), none] [] S im
  refine z_iload_n (pc := 0) C dX0_drunkIn_0 rfl ?_
  refine z_bipushN (pc := 1) C 10 (by decide) dX0_drunkIn_1 ?_
  refine z_idiv (pc := 3) C dX0_drunkIn_3 (by decide) ?_
  refine z_aload_n (pc := 4) C dX0_drunkIn_4 rfl ?_
  refine gX0_18 (pc := 5) C dX0_drunkIn_5 hq ?_
  refine z_min (pc := 8) C dX0_drunkIn_8 wm_X0_47 (by decide) (Nat.le_of_ble_eq_true rfl) (Nat.zero_le _) (Nat.zero_le _) ?_
  refine z_istore_n (pc := 11) C dX0_drunkIn_11 (by decide) rfl ?_
  refine z_aload_n (pc := 12) C dX0_drunkIn_12 rfl ?_
  refine gX0_11 (pc := 13) C dX0_drunkIn_13 hq ?_
  by_cases hs_4 : im q 0 = nI 4
  · 
    refine z_eqi (y := nI 4) hs_4 ?_
    refine z_lookup (off := 28) (pc := 16) C 44 dX0_drunkIn_16 (by decide +kernel) (by decide +kernel) (by decide) ?_
    refine z_iload_n (pc := 44) C dX0_drunkIn_44 rfl ?_
    refine z_iconstN (pc := 45) C 5 dX0_drunkIn_45 ?_
    refine z_iadd (pc := 46) C dX0_drunkIn_46 ?_
    refine z_aload_n (pc := 47) C dX0_drunkIn_47 rfl ?_
    refine gX0_18 (pc := 48) C dX0_drunkIn_48 hq ?_
    refine z_min (pc := 51) C dX0_drunkIn_51 wm_X0_47 (by decide) (Nat.le_of_ble_eq_true rfl) (Nat.zero_le _) (Nat.zero_le _) ?_
    exact z_iret (pc := 54) C ρ dX0_drunkIn_54 (⟨_, rfl, by rw [s_drC, if_pos hs_4]; rfl, rfl, rfl⟩)
  by_cases hs_5 : im q 0 = nI 5
  · 
    refine z_eqi (y := nI 5) hs_5 ?_
    refine z_lookup (off := 39) (pc := 16) C 55 dX0_drunkIn_16 (by decide +kernel) (by decide +kernel) (by decide) ?_
    refine z_iconstN (pc := 55) C 0 dX0_drunkIn_55 ?_
    exact z_iret (pc := 56) C ρ dX0_drunkIn_56 (⟨_, rfl, by simp only [s_drC, s_mn, if_neg hs_4, if_pos hs_5], rfl, rfl⟩)
  refine z_lookup (pc := 16) C 57 dX0_drunkIn_16 (by decide +kernel) (off := 41) (by show Op.lookupswitch.offset [(4, 28), (5, 39)] 41 _ = _; rw [lv_osw hs_4 (show (nI 4 : Int32).toInt = 4 by decide), lv_osw hs_5 (show (nI 5 : Int32).toInt = 5 by decide)]; rfl) (by decide) ?_
  refine z_iload_n (pc := 57) C dX0_drunkIn_57 rfl ?_
  exact z_iret (pc := 58) C ρ dX0_drunkIn_58 (⟨_, rfl, by simp only [s_drC, s_mn, if_neg hs_4, if_neg hs_5], rfl, rfl⟩)
set_option maxRecDepth 100000 in
set_option maxHeartbeats 4000000 in
theorem c6_held (l : Launch) (E : Ex) (S : Sx) (im : Mem) (x a b : Int32) : Mt l E yX6_held cX6_held 3 (some .int) 1 0 0 [.int x, .int a, .int b] S im (pI (pE S im (s_mx a (s_mn b x)))) := by
  refine Mt.of (by decide +kernel) rfl rfl (Nat.le_of_ble_eq_true rfl) ?_
  intro κ hκ C ρ
  subst hκ
  show V E κ 3 0 0 0 [some (.int x), some (.int a), some (.int b)] [] S im
  refine z_iload_n (pc := 0) C dX6_held_0 rfl ?_
  refine z_iload_n (pc := 1) C dX6_held_1 rfl ?_
  refine z_iload_n (pc := 2) C dX6_held_2 rfl ?_
  refine z_min (pc := 3) C dX6_held_3 wm_X6_117 (by decide) (Nat.le_of_ble_eq_true rfl) (Nat.zero_le _) (Nat.zero_le _) ?_
  refine z_max (pc := 6) C dX6_held_6 wm_X6_324 (by decide) (Nat.le_of_ble_eq_true rfl) (Nat.zero_le _) (Nat.zero_le _) ?_
  exact z_iret (pc := 9) C ρ dX6_held_9 (⟨_, rfl, rfl, rfl, rfl⟩)
def s_mostC (x : Int32) : Int32 := if x = nI 1 then nI 99 else if x = nI 2 then nI 999 else if x = nI 3 then nI 99 else nI 9999
set_option maxRecDepth 100000 in
set_option maxHeartbeats 4000000 in
theorem c6_mostOf (l : Launch) (E : Ex) (S : Sx) (im : Mem) (x : Int32) : Mt l E yX6_mostOf cX6_mostOf 1 (some .int) 1 0 0 [.int x] S im (pI (pE S im (s_mostC x))) := by
  refine Mt.of (by decide +kernel) rfl rfl (Nat.le_of_ble_eq_true rfl) ?_
  intro κ hκ C ρ
  subst hκ
  show V E κ 1 0 0 0 [some (.int x)] [] S im
  refine z_iload_n (pc := 0) C dX6_mostOf_0 rfl ?_
  by_cases hs_1 : x = nI 1
  · 
    refine z_eqi (y := nI 1) hs_1 ?_
    refine z_tableIn (off := 27) (pc := 1) C 28 dX6_mostOf_1 (by decide) (by decide) (by decide +kernel) (by decide) ?_
    refine z_bipushN (pc := 28) C 99 (by decide) dX6_mostOf_28 ?_
    exact z_iret (pc := 30) C ρ dX6_mostOf_30 (⟨_, rfl, by simp only [s_mostC, if_pos hs_1], rfl, rfl⟩)
  by_cases hs_2 : x = nI 2
  · 
    refine z_eqi (y := nI 2) hs_2 ?_
    refine z_tableIn (off := 30) (pc := 1) C 31 dX6_mostOf_1 (by decide) (by decide) (by decide +kernel) (by decide) ?_
    refine z_sipush (v := nI 999) (pc := 31) C dX6_mostOf_31 (by decide +kernel) ?_
    exact z_iret (pc := 34) C ρ dX6_mostOf_34 (⟨_, rfl, by simp only [s_mostC, if_neg hs_1, if_pos hs_2], rfl, rfl⟩)
  by_cases hs_3 : x = nI 3
  · 
    refine z_eqi (y := nI 3) hs_3 ?_
    refine z_tableIn (off := 34) (pc := 1) C 35 dX6_mostOf_1 (by decide) (by decide) (by decide +kernel) (by decide) ?_
    refine z_bipushN (pc := 35) C 99 (by decide) dX6_mostOf_35 ?_
    exact z_iret (pc := 37) C ρ dX6_mostOf_37 (⟨_, rfl, by simp only [s_mostC, if_neg hs_1, if_neg hs_2, if_pos hs_3], rfl, rfl⟩)
  refine z_tableOut (pc := 1) C 38 dX6_mostOf_1 (by have q_0 := lv_neT hs_1 (show (nI 1 : Int32).toInt = 1 by decide); have q_1 := lv_neT hs_2 (show (nI 2 : Int32).toInt = 2 by decide); have q_2 := lv_neT hs_3 (show (nI 3 : Int32).toInt = 3 by decide); omega) (by decide) ?_
  refine z_sipush (v := nI 9999) (pc := 38) C dX6_mostOf_38 (by decide +kernel) ?_
  exact z_iret (pc := 41) C ρ dX6_mostOf_41 (⟨_, rfl, by simp only [s_mostC, if_neg hs_1, if_neg hs_2, if_neg hs_3], rfl, rfl⟩)
/-! numbers that stay small -/
def inR (lo hi : Int) (x : Int32) : Prop := lo ≤ x.toInt ∧ x.toInt ≤ hi
theorem add_toI {x y : Int32} {a b c d : Int} (hx : inR a b x) (hy : inR c d y) (h1 : -2147483648 ≤ a + c) (h2 : b + d ≤ 2147483647) : (x + y).toInt = x.toInt + y.toInt := by
  obtain ⟨x1, x2⟩ := hx
  obtain ⟨y1, y2⟩ := hy
  rw [Int32.toInt_add, Int.bmod_def]
  split <;> omega
theorem sub_toI {x y : Int32} {a b c d : Int} (hx : inR a b x) (hy : inR c d y) (h1 : -2147483648 ≤ a - d) (h2 : b - c ≤ 2147483647) : (x - y).toInt = x.toInt - y.toInt := by
  obtain ⟨x1, x2⟩ := hx
  obtain ⟨y1, y2⟩ := hy
  rw [Int32.toInt_sub, Int.bmod_def]
  split <;> omega
theorem nI_inR {k : Nat} (h : k < 2 ^ 31) : inR k k (nI k) := by
  unfold inR
  rw [nI_toInt h]
  omega
theorem mx_toI (x y : Int32) : (s_mx x y).toInt = if x.toInt < y.toInt then y.toInt else x.toInt := by
  unfold s_mx
  by_cases h : x < y
  · rw [if_pos h, if_pos (Int32.lt_iff_toInt_lt.mp h)]
  · rw [if_neg h, if_neg (fun q => h (Int32.lt_iff_toInt_lt.mpr q))]
theorem mn_toI (x y : Int32) : (s_mn x y).toInt = if y.toInt < x.toInt then y.toInt else x.toInt := by
  unfold s_mn
  by_cases h : y < x
  · rw [if_pos h, if_pos (Int32.lt_iff_toInt_lt.mp h)]
  · rw [if_neg h, if_neg (fun q => h (Int32.lt_iff_toInt_lt.mpr q))]
theorem held_within (x : Int32) {a b : Int32} (h : a.toInt ≤ b.toInt) : s_mx a (s_mn b x) = s_within x a b := by
  rw [← Int32.toInt_inj, mx_toI, mn_toI]
  unfold s_within
  by_cases h1 : a ≤ x
  · rw [if_pos h1]
    have h1' := Int32.le_iff_toInt_le.mp h1
    by_cases h2 : x ≤ b
    · rw [if_pos h2]
      have h2' := Int32.le_iff_toInt_le.mp h2
      split <;> split <;> omega
    · rw [if_neg h2]
      rw [Int32.le_iff_toInt_le] at h2
      split <;> split <;> omega
  · rw [if_neg h1]
    rw [Int32.le_iff_toInt_le] at h1
    split <;> split <;> omega
theorem bare_eq {x : Int32} (h : inR 0 9999 x) : s_mx (x - nI 20) (nI 0) = s_bare x := by
  have h20 := nI_inR (k := 20) (by decide)
  have e := sub_toI h h20 (by decide) (by decide)
  rw [← Int32.toInt_inj, mx_toI, e, nI_toInt (by decide), nI_toInt (by decide)]
  unfold s_bare
  by_cases h1 : nI 20 ≤ x
  · rw [if_pos h1, e, nI_toInt (by decide)]
    rw [Int32.le_iff_toInt_le, nI_toInt (by decide)] at h1
    split <;> omega
  · rw [if_neg h1, nI_toInt (by decide)]
    rw [Int32.le_iff_toInt_le, nI_toInt (by decide)] at h1
    split <;> omega
theorem bur_eq {k o x : Int32} (h : inR 0 9999 x) : s_burC k o x = s_burn k o x := by
  unfold s_burC s_burn
  rw [bare_eq h, Int32.mul_comm o (nI 10)]
theorem wor_eq (k p : Int32) (hp : inR 0 99 p) : s_worC k p = s_worth k p := by
  unfold s_worC s_worth
  rw [Int32.mul_comm (p + nI 6) (nI 2)]
  have e : nI 99 - p - nI 4 = nI 95 - p := by
    have e1 := sub_toI (nI_inR (k := 99) (by decide)) hp (by decide) (by decide)
    have e2 := sub_toI (nI_inR (k := 95) (by decide)) hp (by decide) (by decide)
    have h1 : inR 0 99 (nI 99 - p) := by unfold inR; rw [e1, nI_toInt (by decide)]; obtain ⟨a, b⟩ := hp; omega
    rw [← Int32.toInt_inj, sub_toI h1 (nI_inR (k := 4) (by decide)) (by decide) (by decide), e1, e2, nI_toInt (by decide), nI_toInt (by decide), nI_toInt (by decide)]
    omega
  rw [e]
