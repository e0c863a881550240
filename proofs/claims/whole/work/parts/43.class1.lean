/-! the class: small things; one lamp -/
set_option maxRecDepth 100000 in
set_option maxHeartbeats 4000000 in
theorem c6_within (l : Launch) (E : Ex) (S : Sx) (im : Mem) (x a b : Int32) : Mt l E yX6_within cX6_within 3 (some .boolean) 1 0 0 [.int x, .int a, .int b] S im (pI (pB S im (a ≤ x ∧ x ≤ b))) := by
  refine Mt.of (by decide +kernel) rfl rfl (Nat.le_of_ble_eq_true rfl) ?_
  intro κ hκ C ρ
  subst hκ
  show V E κ 3 0 0 0 [some (.int x), some (.int a), some (.int b)] [] S im
  refine z_iload_n (pc := 0) C dX6_within_0 rfl ?_
  refine z_iload_n (pc := 1) C dX6_within_1 rfl ?_
  refine z_icmp_gt (pc := 2) C 14 dX6_within_2 (by decide) (fun c_2 => ?_) (fun c_2 => ?_)
  · 
    refine z_iconstN (pc := 14) C 0 dX6_within_14 ?_
    exact z_zret (pc := 15) C ρ dX6_within_15 (by decide) (⟨_, rfl, Or.inr ⟨fun h => i_nlt c_2 h.1, rfl, rfl, rfl⟩⟩)
  · 
    refine z_iload_n (pc := 5) C dX6_within_5 rfl ?_
    refine z_iload_n (pc := 6) C dX6_within_6 rfl ?_
    refine z_icmp_gt (pc := 7) C 14 dX6_within_7 (by decide) (fun c_7 => ?_) (fun c_7 => ?_)
    · 
      refine z_iconstN (pc := 14) C 0 dX6_within_14 ?_
      exact z_zret (pc := 15) C ρ dX6_within_15 (by decide) (⟨_, rfl, Or.inr ⟨fun h => i_nlt c_7 h.2, rfl, rfl, rfl⟩⟩)
    · 
      refine z_iconstN (pc := 10) C 1 dX6_within_10 ?_
      refine z_goto (pc := 11) C 15 dX6_within_11 (by decide) ?_
      exact z_zret (pc := 15) C ρ dX6_within_15 (by decide) (⟨_, rfl, Or.inl ⟨⟨i_le c_2, i_le c_7⟩, rfl, rfl, rfl⟩⟩)
set_option maxRecDepth 100000 in
set_option maxHeartbeats 4000000 in
theorem c6_isSheet (l : Launch) (E : Ex) (S : Sx) (im : Mem) (x : Int32) : Mt l E yX6_isSheet cX6_isSheet 1 (some .boolean) 2 0 0 [.int x] S im (pI (pB S im (isSh x))) := by
  refine Mt.of (by decide +kernel) rfl rfl (Nat.le_of_ble_eq_true rfl) ?_
  intro κ hκ C ρ
  subst hκ
  show V E κ 1 0 0 0 [some (.int x)] [] S im
  refine z_iload_n (pc := 0) C dX6_isSheet_0 rfl ?_
  refine z_iconstN (pc := 1) C 0 dX6_isSheet_1 ?_
  refine z_iconstN (pc := 2) C 3 dX6_isSheet_2 ?_
  refine kX6_56 (pc := 3) C dX6_isSheet_3 (c6_within κ.2.1 E S im x (nI 0) (nI 3)) (by decide) (Nat.le_of_ble_eq_true rfl) (Nat.le_refl _) (Nat.le_refl _) (fun v_3 S_3 im_3 h_3 => ?_)
  rcases h_3 with ⟨hb_3, rfl, rfl, rfl⟩ | ⟨hb_3, rfl, rfl, rfl⟩
  · 
    exact z_zret (pc := 6) C ρ dX6_isSheet_6 (by decide) (⟨_, rfl, by first | exact Or.inl ⟨hb_3, rfl, rfl, rfl⟩ | exact Or.inr ⟨hb_3, rfl, rfl, rfl⟩⟩)
  · 
    exact z_zret (pc := 6) C ρ dX6_isSheet_6 (by decide) (⟨_, rfl, by first | exact Or.inl ⟨hb_3, rfl, rfl, rfl⟩ | exact Or.inr ⟨hb_3, rfl, rfl, rfl⟩⟩)
set_option maxRecDepth 100000 in
set_option maxHeartbeats 4000000 in
theorem c6_isSlot (l : Launch) (E : Ex) (S : Sx) (im : Mem) (x : Int32) : Mt l E yX6_isSlot cX6_isSlot 1 (some .boolean) 2 0 0 [.int x] S im (pI (pB S im (isSl x))) := by
  refine Mt.of (by decide +kernel) rfl rfl (Nat.le_of_ble_eq_true rfl) ?_
  intro κ hκ C ρ
  subst hκ
  show V E κ 1 0 0 0 [some (.int x)] [] S im
  refine z_iload_n (pc := 0) C dX6_isSlot_0 rfl ?_
  refine z_iconstN (pc := 1) C 0 dX6_isSlot_1 ?_
  refine z_iconstN (pc := 2) C 4 dX6_isSlot_2 ?_
  refine kX6_56 (pc := 3) C dX6_isSlot_3 (c6_within κ.2.1 E S im x (nI 0) (nI 4)) (by decide) (Nat.le_of_ble_eq_true rfl) (Nat.le_refl _) (Nat.le_refl _) (fun v_3 S_3 im_3 h_3 => ?_)
  rcases h_3 with ⟨hb_3, rfl, rfl, rfl⟩ | ⟨hb_3, rfl, rfl, rfl⟩
  · 
    exact z_zret (pc := 6) C ρ dX6_isSlot_6 (by decide) (⟨_, rfl, by first | exact Or.inl ⟨hb_3, rfl, rfl, rfl⟩ | exact Or.inr ⟨hb_3, rfl, rfl, rfl⟩⟩)
  · 
    exact z_zret (pc := 6) C ρ dX6_isSlot_6 (by decide) (⟨_, rfl, by first | exact Or.inl ⟨hb_3, rfl, rfl, rfl⟩ | exact Or.inr ⟨hb_3, rfl, rfl, rfl⟩⟩)
set_option maxRecDepth 100000 in
set_option maxHeartbeats 4000000 in
theorem c0_isKind (l : Launch) (E : Ex) (S : Sx) (im : Mem) (x : Int32) : Mt l E yX0_isKind cX0_isKind 1 (some .boolean) 1 0 0 [.int x] S im (pI (pB S im (nI 0 ≤ x ∧ x ≤ nI 5))) := by
  refine Mt.of (by decide +kernel) rfl rfl (Nat.le_of_ble_eq_true rfl) ?_
  intro κ hκ C ρ
  subst hκ
  show V E κ 1 0 0 0 [some (.int x)] [] S im
  refine z_iconstN (pc := 0) C 0 dX0_isKind_0 ?_
  refine z_iload_n (pc := 1) C dX0_isKind_1 rfl ?_
  refine z_icmp_gt (pc := 2) C 15 dX0_isKind_2 (by decide) (fun c_2 => ?_) (fun c_2 => ?_)
  · 
    refine z_iconstN (pc := 15) C 0 dX0_isKind_15 ?_
    exact z_zret (pc := 16) C ρ dX0_isKind_16 (by decide) (⟨_, rfl, Or.inr ⟨fun h => i_nlt c_2 h.1, rfl, rfl, rfl⟩⟩)
  · 
    refine z_iload_n (pc := 5) C dX0_isKind_5 rfl ?_
    refine z_bipushN (pc := 6) C 6 (by decide) dX0_isKind_6 ?_
    refine z_icmp_ge (pc := 8) C 15 dX0_isKind_8 (by decide) (fun c_8 => ?_) (fun c_8 => ?_)
    · 
      refine z_iconstN (pc := 15) C 0 dX0_isKind_15 ?_
      exact z_zret (pc := 16) C ρ dX0_isKind_16 (by decide) (⟨_, rfl, Or.inr ⟨fun h => by have h2 := h.2; rw [Int32.le_iff_toInt_le, nI_toInt (by decide)] at h2 c_8; omega, rfl, rfl, rfl⟩⟩)
    · 
      refine z_iconstN (pc := 11) C 1 dX0_isKind_11 ?_
      refine z_goto (pc := 12) C 16 dX0_isKind_12 (by decide) ?_
      exact z_zret (pc := 16) C ρ dX0_isKind_16 (by decide) (⟨_, rfl, Or.inl ⟨⟨i_le c_2, by rw [Int32.le_iff_toInt_le]; rw [Int32.le_iff_toInt_le] at c_8; rw [nI_toInt (by decide)] at *; omega⟩, rfl, rfl, rfl⟩⟩)
def s_part (g : Nat → Int32) (x : Int32) : Int32 := if x = nI 1 then g 1 else if x = nI 2 then g 2 else if x = nI 3 then g 3 else if x = nI 4 then g 4 else if x = nI 5 then g 5 else if x = nI 6 then g 6 else g 0
set_option maxRecDepth 100000 in
set_option maxHeartbeats 4000000 in
theorem c0_part (l : Launch) (E : Ex) (S : Sx) (im : Mem) (q : Nat) (hq : S.2.1 q = 0) (x : Int32) : Mt l E yX0_part cX0_part 2 (some .int) 1 0 0 [.ref q, .int x] S im (pI (pE S im (s_part (im q) x))) := by
  refine Mt.of (by decide +kernel) rfl rfl (Nat.le_of_ble_eq_true rfl) ?_
  intro κ hκ C ρ
  subst hκ
  show V E κ 2 0 0 0 [some (.ref q), some (.int x)] [] S im
  refine z_iload_n (pc := 0) C dX0_part_0 rfl ?_
  by_cases hs_1 : x = nI 1
  · 
    refine z_eqi (y := nI 1) hs_1 ?_
    refine z_tableIn (off := 39) (pc := 1) C 40 dX0_part_1 (by decide) (by decide) (by decide +kernel) (by decide) ?_
    refine z_aload_n (pc := 40) C dX0_part_40 rfl ?_
    refine gX0_15 (pc := 41) C dX0_part_41 hq ?_
    exact z_iret (pc := 44) C ρ dX0_part_44 (⟨_, rfl, by simp only [s_part, if_pos hs_1], rfl, rfl⟩)
  by_cases hs_2 : x = nI 2
  · 
    refine z_eqi (y := nI 2) hs_2 ?_
    refine z_tableIn (off := 44) (pc := 1) C 45 dX0_part_1 (by decide) (by decide) (by decide +kernel) (by decide) ?_
    refine z_aload_n (pc := 45) C dX0_part_45 rfl ?_
    refine gX0_18 (pc := 46) C dX0_part_46 hq ?_
    exact z_iret (pc := 49) C ρ dX0_part_49 (⟨_, rfl, by simp only [s_part, if_neg hs_1, if_pos hs_2], rfl, rfl⟩)
  by_cases hs_3 : x = nI 3
  · 
    refine z_eqi (y := nI 3) hs_3 ?_
    refine z_tableIn (off := 49) (pc := 1) C 50 dX0_part_1 (by decide) (by decide) (by decide +kernel) (by decide) ?_
    refine z_aload_n (pc := 50) C dX0_part_50 rfl ?_
    refine gX0_21 (pc := 51) C dX0_part_51 hq ?_
    exact z_iret (pc := 54) C ρ dX0_part_54 (⟨_, rfl, by simp only [s_part, if_neg hs_1, if_neg hs_2, if_pos hs_3], rfl, rfl⟩)
  by_cases hs_4 : x = nI 4
  · 
    refine z_eqi (y := nI 4) hs_4 ?_
    refine z_tableIn (off := 54) (pc := 1) C 55 dX0_part_1 (by decide) (by decide) (by decide +kernel) (by decide) ?_
    refine z_aload_n (pc := 55) C dX0_part_55 rfl ?_
    refine gX0_24 (pc := 56) C dX0_part_56 hq ?_
    exact z_iret (pc := 59) C ρ dX0_part_59 (⟨_, rfl, by simp only [s_part, if_neg hs_1, if_neg hs_2, if_neg hs_3, if_pos hs_4], rfl, rfl⟩)
  by_cases hs_5 : x = nI 5
  · 
    refine z_eqi (y := nI 5) hs_5 ?_
    refine z_tableIn (off := 59) (pc := 1) C 60 dX0_part_1 (by decide) (by decide) (by decide +kernel) (by decide) ?_
    refine z_aload_n (pc := 60) C dX0_part_60 rfl ?_
    refine gX0_27 (pc := 61) C dX0_part_61 hq ?_
    exact z_iret (pc := 64) C ρ dX0_part_64 (⟨_, rfl, by simp only [s_part, if_neg hs_1, if_neg hs_2, if_neg hs_3, if_neg hs_4, if_pos hs_5], rfl, rfl⟩)
  by_cases hs_6 : x = nI 6
  · 
    refine z_eqi (y := nI 6) hs_6 ?_
    refine z_tableIn (off := 64) (pc := 1) C 65 dX0_part_1 (by decide) (by decide) (by decide +kernel) (by decide) ?_
    refine z_aload_n (pc := 65) C dX0_part_65 rfl ?_
    refine gX0_30 (pc := 66) C dX0_part_66 hq ?_
    exact z_iret (pc := 69) C ρ dX0_part_69 (⟨_, rfl, by simp only [s_part, if_neg hs_1, if_neg hs_2, if_neg hs_3, if_neg hs_4, if_neg hs_5, if_pos hs_6], rfl, rfl⟩)
  refine z_tableOut (pc := 1) C 70 dX0_part_1 (by have q_0 := lv_neT hs_1 (show (nI 1 : Int32).toInt = 1 by decide); have q_1 := lv_neT hs_2 (show (nI 2 : Int32).toInt = 2 by decide); have q_2 := lv_neT hs_3 (show (nI 3 : Int32).toInt = 3 by decide); have q_3 := lv_neT hs_4 (show (nI 4 : Int32).toInt = 4 by decide); have q_4 := lv_neT hs_5 (show (nI 5 : Int32).toInt = 5 by decide); have q_5 := lv_neT hs_6 (show (nI 6 : Int32).toInt = 6 by decide); omega) (by decide) ?_
  refine z_aload_n (pc := 70) C dX0_part_70 rfl ?_
  refine gX0_11 (pc := 71) C dX0_part_71 hq ?_
  exact z_iret (pc := 74) C ρ dX0_part_74 (⟨_, rfl, by simp only [s_part, if_neg hs_1, if_neg hs_2, if_neg hs_3, if_neg hs_4, if_neg hs_5, if_neg hs_6], rfl, rfl⟩)
def s_worC (k p : Int32) : Int32 := if k = nI 1 then p + nI 6 else if k = nI 2 then nI 99 - p else if k = nI 3 then (p + nI 6) * nI 2 else if k = nI 4 then nI 99 - p - nI 4 else if k = nI 5 then nI 3 else p
set_option maxRecDepth 100000 in
set_option maxHeartbeats 4000000 in
theorem c0_worth (l : Launch) (E : Ex) (S : Sx) (im : Mem) (q : Nat) (hq : S.2.1 q = 0)  : Mt l E yX0_worth cX0_worth 3 (some .int) 1 0 0 [.ref q] S im (pI (pE S im (s_worC (im q 0) (im q 1)))) := by
  refine Mt.of (by decide +kernel) rfl rfl (Nat.le_of_ble_eq_true rfl) ?_
  intro κ hκ C ρ
  subst hκ
  show V E κ 3 0 0 0 [some (.ref q), none, none] [] S im
  refine z_aload_n (pc := 0) C dX0_worth_0 rfl ?_
  refine gX0_15 (pc := 1) C dX0_worth_1 hq ?_
  refine z_bipushN (pc := 4) C 6 (by decide) dX0_worth_4 ?_
  refine z_iadd (pc := 6) C dX0_worth_6 ?_
  refine z_istore_n (pc := 7) C dX0_worth_7 (by decide) rfl ?_
  refine z_bipushN (pc := 8) C 99 (by decide) dX0_worth_8 ?_
  refine z_aload_n (pc := 10) C dX0_worth_10 rfl ?_
  refine gX0_15 (pc := 11) C dX0_worth_11 hq ?_
  refine z_isub (pc := 14) C dX0_worth_14 ?_
  refine z_istore_n (pc := 15) C dX0_worth_15 (by decide) rfl ?_
  refine z_aload_n (pc := 16) C dX0_worth_16 rfl ?_
  refine gX0_11 (pc := 17) C dX0_worth_17 hq ?_
  by_cases hs_1 : im q 0 = nI 1
  · 
    refine z_eqi (y := nI 1) hs_1 ?_
    refine z_tableIn (off := 36) (pc := 20) C 56 dX0_worth_20 (by decide) (by decide) (by decide +kernel) (by decide) ?_
    refine z_iload_n (pc := 56) C dX0_worth_56 rfl ?_
    exact z_iret (pc := 57) C ρ dX0_worth_57 (⟨_, rfl, by simp only [s_worC, if_pos hs_1], rfl, rfl⟩)
  by_cases hs_2 : im q 0 = nI 2
  · 
    refine z_eqi (y := nI 2) hs_2 ?_
    refine z_tableIn (off := 42) (pc := 20) C 62 dX0_worth_20 (by decide) (by decide) (by decide +kernel) (by decide) ?_
    refine z_iload_n (pc := 62) C dX0_worth_62 rfl ?_
    exact z_iret (pc := 63) C ρ dX0_worth_63 (⟨_, rfl, by simp only [s_worC, if_neg hs_1, if_pos hs_2], rfl, rfl⟩)
  by_cases hs_3 : im q 0 = nI 3
  · 
    refine z_eqi (y := nI 3) hs_3 ?_
    refine z_tableIn (off := 38) (pc := 20) C 58 dX0_worth_20 (by decide) (by decide) (by decide +kernel) (by decide) ?_
    refine z_iload_n (pc := 58) C dX0_worth_58 rfl ?_
    refine z_iconstN (pc := 59) C 2 dX0_worth_59 ?_
    refine z_imul (pc := 60) C dX0_worth_60 ?_
    exact z_iret (pc := 61) C ρ dX0_worth_61 (⟨_, rfl, by simp only [s_worC, if_neg hs_1, if_neg hs_2, if_pos hs_3], rfl, rfl⟩)
  by_cases hs_4 : im q 0 = nI 4
  · 
    refine z_eqi (y := nI 4) hs_4 ?_
    refine z_tableIn (off := 44) (pc := 20) C 64 dX0_worth_20 (by decide) (by decide) (by decide +kernel) (by decide) ?_
    refine z_iload_n (pc := 64) C dX0_worth_64 rfl ?_
    refine z_iconstN (pc := 65) C 4 dX0_worth_65 ?_
    refine z_isub (pc := 66) C dX0_worth_66 ?_
    exact z_iret (pc := 67) C ρ dX0_worth_67 (⟨_, rfl, by simp only [s_worC, if_neg hs_1, if_neg hs_2, if_neg hs_3, if_pos hs_4], rfl, rfl⟩)
  by_cases hs_5 : im q 0 = nI 5
  · 
    refine z_eqi (y := nI 5) hs_5 ?_
    refine z_tableIn (off := 48) (pc := 20) C 68 dX0_worth_20 (by decide) (by decide) (by decide +kernel) (by decide) ?_
    refine z_iconstN (pc := 68) C 3 dX0_worth_68 ?_
    exact z_iret (pc := 69) C ρ dX0_worth_69 (⟨_, rfl, by simp only [s_worC, if_neg hs_1, if_neg hs_2, if_neg hs_3, if_neg hs_4, if_pos hs_5], rfl, rfl⟩)
  refine z_tableOut (pc := 20) C 70 dX0_worth_20 (by have q_0 := lv_neT hs_1 (show (nI 1 : Int32).toInt = 1 by decide); have q_1 := lv_neT hs_2 (show (nI 2 : Int32).toInt = 2 by decide); have q_2 := lv_neT hs_3 (show (nI 3 : Int32).toInt = 3 by decide); have q_3 := lv_neT hs_4 (show (nI 4 : Int32).toInt = 4 by decide); have q_4 := lv_neT hs_5 (show (nI 5 : Int32).toInt = 5 by decide); omega) (by decide) ?_
  refine z_aload_n (pc := 70) C dX0_worth_70 rfl ?_
  refine gX0_15 (pc := 71) C dX0_worth_71 hq ?_
  exact z_iret (pc := 74) C ρ dX0_worth_74 (⟨_, rfl, by simp only [s_worC, if_neg hs_1, if_neg hs_2, if_neg hs_3, if_neg hs_4, if_neg hs_5], rfl, rfl⟩)
set_option maxRecDepth 100000 in
set_option maxHeartbeats 4000000 in
theorem c0_isDry (l : Launch) (E : Ex) (S : Sx) (im : Mem) (q : Nat) (hq : S.2.1 q = 0)  : Mt l E yX0_isDry cX0_isDry 1 (some .boolean) 1 0 0 [.ref q] S im (pI (pB S im (im q 2 = 0 ∧ ¬ im q 0 = nI 5))) := by
  refine Mt.of (by decide +kernel) rfl rfl (Nat.le_of_ble_eq_true rfl) ?_
  intro κ hκ C ρ
  subst hκ
  show V E κ 1 0 0 0 [some (.ref q)] [] S im
  refine z_aload_n (pc := 0) C dX0_isDry_0 rfl ?_
  refine gX0_18 (pc := 1) C dX0_isDry_1 hq ?_
  refine z_if_ne (pc := 4) C 19 dX0_isDry_4 (by decide) (fun c_4 => ?_) (fun c_4 => ?_)
  · 
    refine z_iconstN (pc := 19) C 0 dX0_isDry_19 ?_
    exact z_zret (pc := 20) C ρ dX0_isDry_20 (by decide) (⟨_, rfl, Or.inr ⟨fun h => c_4 h.1, rfl, rfl, rfl⟩⟩)
  · 
    refine z_aload_n (pc := 7) C dX0_isDry_7 rfl ?_
    refine gX0_11 (pc := 8) C dX0_isDry_8 hq ?_
    refine z_iconstN (pc := 11) C 5 dX0_isDry_11 ?_
    refine z_icmp_eq (pc := 12) C 19 dX0_isDry_12 (by decide) (fun c_12 => ?_) (fun c_12 => ?_)
    · 
      refine z_iconstN (pc := 19) C 0 dX0_isDry_19 ?_
      exact z_zret (pc := 20) C ρ dX0_isDry_20 (by decide) (⟨_, rfl, Or.inr ⟨fun h => h.2 c_12, rfl, rfl, rfl⟩⟩)
    · 
      refine z_iconstN (pc := 15) C 1 dX0_isDry_15 ?_
      refine z_goto (pc := 16) C 20 dX0_isDry_16 (by decide) ?_
      exact z_zret (pc := 20) C ρ dX0_isDry_20 (by decide) (⟨_, rfl, Or.inl ⟨⟨c_4, c_12⟩, rfl, rfl, rfl⟩⟩)
set_option maxRecDepth 100000 in
set_option maxHeartbeats 4000000 in
theorem c0_becomes (l : Launch) (E : Ex) (S : Sx) (im : Mem) (q : Nat) (hq : S.2.1 q = 0) (p : Nat) (hp : S.2.1 p = 0) (hne : p ≠ q) : Mt l E yX0_becomes cX0_becomes 2 none 1 0 0 [.ref q, .ref p] S im (pV (fun S' im' => S = S' ∧ (∀ j, im' q j = if j < 7 then im p j else im q j) ∧ ∀ c, c ≠ q → im' c = im c)) := by
  refine Mt.of (by decide +kernel) rfl rfl (Nat.le_of_ble_eq_true rfl) ?_
  intro κ hκ C ρ
  subst hκ
  show V E κ 2 0 0 0 [some (.ref q), some (.ref p)] [] S im
  refine z_aload_n (pc := 0) C dX0_becomes_0 rfl ?_
  refine z_aload_n (pc := 1) C dX0_becomes_1 rfl ?_
  refine gX0_11 (pc := 2) C dX0_becomes_2 hp ?_
  refine pX0_11 (pc := 5) C dX0_becomes_5 hq ?_
  refine z_aload_n (pc := 8) C dX0_becomes_8 rfl ?_
  refine z_aload_n (pc := 9) C dX0_becomes_9 rfl ?_
  refine gX0_15 (pc := 10) C dX0_becomes_10 hp ?_
  refine pX0_15 (pc := 13) C dX0_becomes_13 hq ?_
  refine z_aload_n (pc := 16) C dX0_becomes_16 rfl ?_
  refine z_aload_n (pc := 17) C dX0_becomes_17 rfl ?_
  refine gX0_18 (pc := 18) C dX0_becomes_18 hp ?_
  refine pX0_18 (pc := 21) C dX0_becomes_21 hq ?_
  refine z_aload_n (pc := 24) C dX0_becomes_24 rfl ?_
  refine z_aload_n (pc := 25) C dX0_becomes_25 rfl ?_
  refine gX0_21 (pc := 26) C dX0_becomes_26 hp ?_
  refine pX0_21 (pc := 29) C dX0_becomes_29 hq ?_
  refine z_aload_n (pc := 32) C dX0_becomes_32 rfl ?_
  refine z_aload_n (pc := 33) C dX0_becomes_33 rfl ?_
  refine gX0_24 (pc := 34) C dX0_becomes_34 hp ?_
  refine pX0_24 (pc := 37) C dX0_becomes_37 hq ?_
  refine z_aload_n (pc := 40) C dX0_becomes_40 rfl ?_
  refine z_aload_n (pc := 41) C dX0_becomes_41 rfl ?_
  refine gX0_27 (pc := 42) C dX0_becomes_42 hp ?_
  refine pX0_27 (pc := 45) C dX0_becomes_45 hq ?_
  refine z_aload_n (pc := 48) C dX0_becomes_48 rfl ?_
  refine z_aload_n (pc := 49) C dX0_becomes_49 rfl ?_
  refine gX0_30 (pc := 50) C dX0_becomes_50 hp ?_
  refine pX0_30 (pc := 53) C dX0_becomes_53 hq ?_
  exact z_vret (pc := 56) C ρ dX0_becomes_56 (⟨rfl, rfl, fun j => by simp only [up2_at, up2_n _ _ _ hne]; by_cases h : j < 7; (rw [if_pos h]; rcases (show j = 0 ∨ j = 1 ∨ j = 2 ∨ j = 3 ∨ j = 4 ∨ j = 5 ∨ j = 6 by omega) with rfl | rfl | rfl | rfl | rfl | rfl | rfl <;> rfl); rw [if_neg h, if_neg (by omega), if_neg (by omega), if_neg (by omega), if_neg (by omega), if_neg (by omega), if_neg (by omega), if_neg (by omega)], fun c hc => by simp only [up2_n _ _ _ hc]⟩)
