/-! the reference: images, count, feed, lay -/
/-- the first 1450 of a, behind them b -/
def cpA (a b : Nat → Int32) : Nat → Int32 := fun j => if j < 1450 then a j else b j
set_option maxRecDepth 100000 in
set_option maxHeartbeats 4000000 in
theorem m7_copyAll (l : Launch) (E : Ex) (S : Sx) (im : Mem) (a b : Nat) (hab : a ≠ b) (hKa : S.2.1 a = 8) (hNa : S.2.2.1 a = 1450) (hKb : S.2.1 b = 8) (hNb : S.2.2.1 b = 1450) : Mt l E yX7_copyAll cX7_copyAll 3 none 1 0 0 [.ref a, .ref b] S im (pV (fun S' im' => S = S' ∧ im' b = cpA (im a) (im b) ∧ ∀ c, c ≠ b → im' c = im c)) := by
  refine Mt.of (by decide +kernel) rfl rfl (Nat.le_of_ble_eq_true rfl) ?_
  intro κ hκ C ρ
  subst hκ
  show V E κ 3 0 0 0 [some (.ref a), some (.ref b), none] [] S im
  have loop : ∀ (r q : Nat) (im' : Mem), q + r = 1450 → (∀ j, im' b j = if j < q then im a j else im b j) → (∀ c, c ≠ b → im' c = im c) → V E κ 3 0 0 2 [some (.ref a), some (.ref b), some (.int (nI q))] [] S im' := by
    intro r
    induction r with
    | zero =>
      intro q im' hq hb ho
      refine z_iload_n (pc := 2) C dX7_copyAll_2 rfl ?_
      refine z_sipush (v := nI 1450) (pc := 3) C dX7_copyAll_3 (by decide +kernel) ?_
      refine z_icmp_geT (pc := 6) C 21 dX7_copyAll_6 (by decide) (nI_le (by omega) (by omega)) ?_
      exact z_vret (pc := 21) C ρ dX7_copyAll_21 (⟨rfl, rfl, by funext j; rw [hb j, show q = 1450 by omega]; rfl, ho⟩)
    | succ r ih =>
      intro q im' hq hb ho
      refine z_iload_n (pc := 2) C dX7_copyAll_2 rfl ?_
      refine z_sipush (v := nI 1450) (pc := 3) C dX7_copyAll_3 (by decide +kernel) ?_
      refine z_icmp_geF (pc := 6) C 21 dX7_copyAll_6 (by decide) (nI_ge (by omega) (by omega)) ?_
      refine z_aload_n (pc := 9) C dX7_copyAll_9 rfl ?_
      refine z_iload_n (pc := 10) C dX7_copyAll_10 rfl ?_
      refine z_aload_n (pc := 11) C dX7_copyAll_11 rfl ?_
      refine z_iload_n (pc := 12) C dX7_copyAll_12 rfl ?_
      refine z_iald (pc := 13) C dX7_copyAll_13 hKa hNa (by omega) (by decide) ?_
      refine z_eqi (y := im a q) (by rw [ho _ hab]) ?_
      refine z_iast (pc := 14) C dX7_copyAll_14 hKb hNb (by omega) (by decide) ?_
      refine z_iincN (pc := 15) C 1 dX7_copyAll_15 rfl (by decide) rfl ?_
      refine z_goto (pc := 18) C 2 dX7_copyAll_18 (by decide) ?_
      refine ih (q + 1) _ (by omega) (fun j => ?_) (fun c h => by rw [up2_n _ _ _ h]; exact ho c h)
      rw [up2_s]
      by_cases e : j = q
      · rw [e, upd_s, if_pos (by omega)]
      · rw [upd_n _ _ e, hb j]
        by_cases e2 : j < q
        · rw [if_pos e2, if_pos (by omega)]
        · rw [if_neg e2, if_neg (by omega)]
  refine z_iconstN (pc := 0) C 0 dX7_copyAll_0 ?_
  refine z_istore_n (pc := 1) C dX7_copyAll_1 (by decide) rfl ?_
  exact loop 1450 0 im (by omega) (fun j => by rw [if_neg (by omega)]) (fun _ _ => rfl)
set_option maxRecDepth 100000 in
set_option maxHeartbeats 4000000 in
theorem m7_keep (l : Launch) (E : Ex) (S : Sx) (im : Mem) (M : Nat) (hM : ML S M) (n n7 : Nat) (f : Nat → Int32) (hf0 : im (M + 1) = f) (hok : MOk f n n7)  : Mt l E yX7_keep cX7_keep 1 (some .int) 2 0 0 [.ref M] S im (pI (fun v S' im' => nI n = v ∧ S = S' ∧ im' (M + 2) = cpA f (im (M + 2)) ∧ im' M = upd (im M) 3 1 ∧ ∀ a, a ≠ M → a ≠ M + 2 → im' a = im a)) := by
  refine Mt.of (by decide +kernel) rfl rfl (Nat.le_of_ble_eq_true rfl) ?_
  intro κ hκ C ρ
  subst hκ
  show V E κ 1 0 0 0 [some (.ref M)] [] S im
  refine z_aload_n (pc := 0) C dX7_keep_0 rfl ?_
  refine gX7_9 (pc := 1) C dX7_keep_1 (ml_K hM) (ml_r0 hM) ?_
  refine z_aload_n (pc := 4) C dX7_keep_4 rfl ?_
  refine gX7_13 (pc := 5) C dX7_keep_5 (ml_K hM) (ml_r1 hM) ?_
  refine kX7_284 (pc := 8) C dX7_keep_8 (m7_copyAll κ.2.1 E S im (M + 1) (M + 2) (by omega) (ml_a1 hM) (ml_n1 hM) (ml_a2 hM) (ml_n2 hM)) (by decide) (Nat.le_of_ble_eq_true rfl) (Nat.le_refl _) (Nat.le_refl _) (fun S_8 im_8 h_8 => ?_)
  obtain ⟨rfl, hc, ho⟩ := h_8
  refine z_aload_n (pc := 11) C dX7_keep_11 rfl ?_
  refine z_iconstN (pc := 12) C 1 dX7_keep_12 ?_
  refine pX7_280 (pc := 13) C dX7_keep_13 (ml_K hM) (Or.inr rfl) ?_
  refine z_aload_n (pc := 16) C dX7_keep_16 rfl ?_
  refine gX7_9 (pc := 17) C dX7_keep_17 (ml_K hM) (ml_r0 hM) ?_
  refine z_iconstN (pc := 20) C 1 dX7_keep_20 ?_
  refine z_iald (pc := 21) C dX7_keep_21 (ml_a1 hM) (ml_n1 hM) (by omega) (by decide) ?_
  refine z_eqi (y := nI n) (by rw [up2_n _ _ _ (by omega), ho _ (by omega), hf0]; exact hok.1.2) ?_
  exact z_iret (pc := 22) C ρ dX7_keep_22 (⟨_, rfl, rfl, rfl, by rw [up2_n _ _ _ (by omega), hc, hf0], by rw [up2_s, ho _ (by omega)]; rfl, fun a q1 q2 => by rw [up2_n _ _ _ q1]; exact ho a q2⟩)
def r_back (hi : Int32) (g : Nat → Int32) : Int32 := if hi = 0 then -1000000002 else g 1
set_option maxRecDepth 100000 in
set_option maxHeartbeats 4000000 in
theorem m7_back (l : Launch) (E : Ex) (S : Sx) (im : Mem) (M : Nat) (hM : ML S M)  : Mt l E yX7_back cX7_back 1 (some .int) 2 0 0 [.ref M] S im (pI (fun v S' im' => r_back (im M 3) (im (M + 2)) = v ∧ S = S' ∧ im' (M + 1) = (if im M 3 = 0 then im (M + 1) else cpA (im (M + 2)) (im (M + 1))) ∧ ∀ a, a ≠ M + 1 → im' a = im a)) := by
  refine Mt.of (by decide +kernel) rfl rfl (Nat.le_of_ble_eq_true rfl) ?_
  intro κ hκ C ρ
  subst hκ
  show V E κ 1 0 0 0 [some (.ref M)] [] S im
  refine z_aload_n (pc := 0) C dX7_back_0 rfl ?_
  refine gX7_280 (pc := 1) C dX7_back_1 (ml_K hM) ?_
  refine z_if_ne (pc := 4) C 11 dX7_back_4 (by decide) (fun c_4 => ?_) (fun c_4 => ?_)
  · 
    refine z_aload_n (pc := 11) C dX7_back_11 rfl ?_
    refine gX7_13 (pc := 12) C dX7_back_12 (ml_K hM) (ml_r1 hM) ?_
    refine z_aload_n (pc := 15) C dX7_back_15 rfl ?_
    refine gX7_9 (pc := 16) C dX7_back_16 (ml_K hM) (ml_r0 hM) ?_
    refine kX7_284 (pc := 19) C dX7_back_19 (m7_copyAll κ.2.1 E S im (M + 2) (M + 1) (by omega) (ml_a2 hM) (ml_n2 hM) (ml_a1 hM) (ml_n1 hM)) (by decide) (Nat.le_of_ble_eq_true rfl) (Nat.le_refl _) (Nat.le_refl _) (fun S_19 im_19 h_19 => ?_)
    obtain ⟨rfl, hc, ho⟩ := h_19
    refine z_aload_n (pc := 22) C dX7_back_22 rfl ?_
    refine gX7_9 (pc := 23) C dX7_back_23 (ml_K hM) (ml_r0 hM) ?_
    refine z_iconstN (pc := 26) C 1 dX7_back_26 ?_
    refine z_iald (pc := 27) C dX7_back_27 (ml_a1 hM) (ml_n1 hM) (by omega) (by decide) ?_
    refine z_eqi (y := im (M + 2) 1) (by rw [hc]; rfl) ?_
    exact z_iret (pc := 28) C ρ dX7_back_28 (⟨_, rfl, by simp only [r_back, if_neg c_4], rfl, by simp only [if_neg c_4]; exact hc, ho⟩)
  · 
    refine z_ldcw (pc := 7) C dX7_back_7 wk_X7_276 ?_
    exact z_iret (pc := 10) C ρ dX7_back_10 (⟨_, rfl, by simp only [r_back, if_pos c_4], rfl, by simp only [if_pos c_4], fun _ _ => rfl⟩)
def r_count (f : Nat → Int32) (wt tp x : Int32) : Int32 := if x = nI 0 then f 1 else if x = nI 1 then f 2 else if x = nI 2 then f 3 else if x = nI 3 then f 4 else if x = nI 4 then f 5 else if x = nI 5 then f 7 else if x = nI 6 then wt else if x = nI 7 then tp else if x = nI 8 then f 0 else -1000000001
set_option maxRecDepth 100000 in
set_option maxHeartbeats 4000000 in
theorem m7_count (l : Launch) (E : Ex) (S : Sx) (im : Mem) (M : Nat) (hM : ML S M) (x : Int32) : Mt l E yX7_count cX7_count 2 (some .int) 1 0 0 [.ref M, .int x] S im (pI (pE S im (r_count (im (M + 1)) (im M 37) (im M 11) x))) := by
  refine Mt.of (by decide +kernel) rfl rfl (Nat.le_of_ble_eq_true rfl) ?_
  intro κ hκ C ρ
  subst hκ
  show V E κ 2 0 0 0 [some (.ref M), some (.int x)] [] S im
  refine z_iload_n (pc := 0) C dX7_count_0 rfl ?_
  by_cases hs_0 : x = nI 0
  · 
    refine z_eqi (y := nI 0) hs_0 ?_
    refine z_tableIn (off := 51) (pc := 1) C 52 dX7_count_1 (by decide) (by decide) (by decide +kernel) (by decide) ?_
    refine z_aload_n (pc := 52) C dX7_count_52 rfl ?_
    refine gX7_9 (pc := 53) C dX7_count_53 (ml_K hM) (ml_r0 hM) ?_
    refine z_iconstN (pc := 56) C 1 dX7_count_56 ?_
    refine z_iald (pc := 57) C dX7_count_57 (ml_a1 hM) (ml_n1 hM) (by omega) (by decide) ?_
    exact z_iret (pc := 58) C ρ dX7_count_58 (⟨_, rfl, by simp only [r_count, if_pos hs_0], rfl, rfl⟩)
  by_cases hs_1 : x = nI 1
  · 
    refine z_eqi (y := nI 1) hs_1 ?_
    refine z_tableIn (off := 58) (pc := 1) C 59 dX7_count_1 (by decide) (by decide) (by decide +kernel) (by decide) ?_
    refine z_aload_n (pc := 59) C dX7_count_59 rfl ?_
    refine gX7_9 (pc := 60) C dX7_count_60 (ml_K hM) (ml_r0 hM) ?_
    refine z_iconstN (pc := 63) C 2 dX7_count_63 ?_
    refine z_iald (pc := 64) C dX7_count_64 (ml_a1 hM) (ml_n1 hM) (by omega) (by decide) ?_
    exact z_iret (pc := 65) C ρ dX7_count_65 (⟨_, rfl, by simp only [r_count, if_neg hs_0, if_pos hs_1], rfl, rfl⟩)
  by_cases hs_2 : x = nI 2
  · 
    refine z_eqi (y := nI 2) hs_2 ?_
    refine z_tableIn (off := 65) (pc := 1) C 66 dX7_count_1 (by decide) (by decide) (by decide +kernel) (by decide) ?_
    refine z_aload_n (pc := 66) C dX7_count_66 rfl ?_
    refine gX7_9 (pc := 67) C dX7_count_67 (ml_K hM) (ml_r0 hM) ?_
    refine z_iconstN (pc := 70) C 1 dX7_count_70 ?_
    refine z_iload_n (pc := 71) C dX7_count_71 rfl ?_
    refine z_iadd (pc := 72) C dX7_count_72 ?_
    refine z_eqi (y := nI 3) (by rw [hs_2]; decide) ?_
    refine z_iald (pc := 73) C dX7_count_73 (ml_a1 hM) (ml_n1 hM) (by omega) (by decide) ?_
    exact z_iret (pc := 74) C ρ dX7_count_74 (⟨_, rfl, by simp only [r_count, if_neg hs_0, if_neg hs_1, if_pos hs_2], rfl, rfl⟩)
  by_cases hs_3 : x = nI 3
  · 
    refine z_eqi (y := nI 3) hs_3 ?_
    refine z_tableIn (off := 65) (pc := 1) C 66 dX7_count_1 (by decide) (by decide) (by decide +kernel) (by decide) ?_
    refine z_aload_n (pc := 66) C dX7_count_66 rfl ?_
    refine gX7_9 (pc := 67) C dX7_count_67 (ml_K hM) (ml_r0 hM) ?_
    refine z_iconstN (pc := 70) C 1 dX7_count_70 ?_
    refine z_iload_n (pc := 71) C dX7_count_71 rfl ?_
    refine z_iadd (pc := 72) C dX7_count_72 ?_
    refine z_eqi (y := nI 4) (by rw [hs_3]; decide) ?_
    refine z_iald (pc := 73) C dX7_count_73 (ml_a1 hM) (ml_n1 hM) (by omega) (by decide) ?_
    exact z_iret (pc := 74) C ρ dX7_count_74 (⟨_, rfl, by simp only [r_count, if_neg hs_0, if_neg hs_1, if_neg hs_2, if_pos hs_3], rfl, rfl⟩)
  by_cases hs_4 : x = nI 4
  · 
    refine z_eqi (y := nI 4) hs_4 ?_
    refine z_tableIn (off := 65) (pc := 1) C 66 dX7_count_1 (by decide) (by decide) (by decide +kernel) (by decide) ?_
    refine z_aload_n (pc := 66) C dX7_count_66 rfl ?_
    refine gX7_9 (pc := 67) C dX7_count_67 (ml_K hM) (ml_r0 hM) ?_
    refine z_iconstN (pc := 70) C 1 dX7_count_70 ?_
    refine z_iload_n (pc := 71) C dX7_count_71 rfl ?_
    refine z_iadd (pc := 72) C dX7_count_72 ?_
    refine z_eqi (y := nI 5) (by rw [hs_4]; decide) ?_
    refine z_iald (pc := 73) C dX7_count_73 (ml_a1 hM) (ml_n1 hM) (by omega) (by decide) ?_
    exact z_iret (pc := 74) C ρ dX7_count_74 (⟨_, rfl, by simp only [r_count, if_neg hs_0, if_neg hs_1, if_neg hs_2, if_neg hs_3, if_pos hs_4], rfl, rfl⟩)
  by_cases hs_5 : x = nI 5
  · 
    refine z_eqi (y := nI 5) hs_5 ?_
    refine z_tableIn (off := 74) (pc := 1) C 75 dX7_count_1 (by decide) (by decide) (by decide +kernel) (by decide) ?_
    refine z_aload_n (pc := 75) C dX7_count_75 rfl ?_
    refine gX7_9 (pc := 76) C dX7_count_76 (ml_K hM) (ml_r0 hM) ?_
    refine z_bipushN (pc := 79) C 7 (by decide) dX7_count_79 ?_
    refine z_iald (pc := 81) C dX7_count_81 (ml_a1 hM) (ml_n1 hM) (by omega) (by decide) ?_
    exact z_iret (pc := 82) C ρ dX7_count_82 (⟨_, rfl, by simp only [r_count, if_neg hs_0, if_neg hs_1, if_neg hs_2, if_neg hs_3, if_neg hs_4, if_pos hs_5], rfl, rfl⟩)
  by_cases hs_6 : x = nI 6
  · 
    refine z_eqi (y := nI 6) hs_6 ?_
    refine z_tableIn (off := 82) (pc := 1) C 83 dX7_count_1 (by decide) (by decide) (by decide +kernel) (by decide) ?_
    refine z_aload_n (pc := 83) C dX7_count_83 rfl ?_
    refine gX7_277 (pc := 84) C dX7_count_84 (ml_K hM) ?_
    exact z_iret (pc := 87) C ρ dX7_count_87 (⟨_, rfl, by simp only [r_count, if_neg hs_0, if_neg hs_1, if_neg hs_2, if_neg hs_3, if_neg hs_4, if_neg hs_5, if_pos hs_6], rfl, rfl⟩)
  by_cases hs_7 : x = nI 7
  · 
    refine z_eqi (y := nI 7) hs_7 ?_
    refine z_tableIn (off := 87) (pc := 1) C 88 dX7_count_1 (by decide) (by decide) (by decide +kernel) (by decide) ?_
    refine z_aload_n (pc := 88) C dX7_count_88 rfl ?_
    refine gX7_203 (pc := 89) C dX7_count_89 (ml_K hM) ?_
    exact z_iret (pc := 92) C ρ dX7_count_92 (⟨_, rfl, by simp only [r_count, if_neg hs_0, if_neg hs_1, if_neg hs_2, if_neg hs_3, if_neg hs_4, if_neg hs_5, if_neg hs_6, if_pos hs_7], rfl, rfl⟩)
  by_cases hs_8 : x = nI 8
  · 
    refine z_eqi (y := nI 8) hs_8 ?_
    refine z_tableIn (off := 92) (pc := 1) C 93 dX7_count_1 (by decide) (by decide) (by decide +kernel) (by decide) ?_
    refine z_aload_n (pc := 93) C dX7_count_93 rfl ?_
    refine gX7_9 (pc := 94) C dX7_count_94 (ml_K hM) (ml_r0 hM) ?_
    refine z_iconstN (pc := 97) C 0 dX7_count_97 ?_
    refine z_iald (pc := 98) C dX7_count_98 (ml_a1 hM) (ml_n1 hM) (by omega) (by decide) ?_
    exact z_iret (pc := 99) C ρ dX7_count_99 (⟨_, rfl, by simp only [r_count, if_neg hs_0, if_neg hs_1, if_neg hs_2, if_neg hs_3, if_neg hs_4, if_neg hs_5, if_neg hs_6, if_neg hs_7, if_pos hs_8], rfl, rfl⟩)
  refine z_tableOut (pc := 1) C 100 dX7_count_1 (by have q_0 := lv_neT hs_0 (show (nI 0 : Int32).toInt = 0 by decide); have q_1 := lv_neT hs_1 (show (nI 1 : Int32).toInt = 1 by decide); have q_2 := lv_neT hs_2 (show (nI 2 : Int32).toInt = 2 by decide); have q_3 := lv_neT hs_3 (show (nI 3 : Int32).toInt = 3 by decide); have q_4 := lv_neT hs_4 (show (nI 4 : Int32).toInt = 4 by decide); have q_5 := lv_neT hs_5 (show (nI 5 : Int32).toInt = 5 by decide); have q_6 := lv_neT hs_6 (show (nI 6 : Int32).toInt = 6 by decide); have q_7 := lv_neT hs_7 (show (nI 7 : Int32).toInt = 7 by decide); have q_8 := lv_neT hs_8 (show (nI 8 : Int32).toInt = 8 by decide); omega) (by decide) ?_
  refine z_ldc (pc := 100) C dX7_count_100 wk_X7_100 ?_
  exact z_iret (pc := 102) C ρ dX7_count_102 (⟨_, rfl, by simp only [r_count, if_neg hs_0, if_neg hs_1, if_neg hs_2, if_neg hs_3, if_neg hs_4, if_neg hs_5, if_neg hs_6, if_neg hs_7, if_neg hs_8], rfl, rfl⟩)
def s_byte (a b c : Int32) (k : Nat) : Int32 := ((if k < 4 then a else if k < 8 then b else c) >>> ((nI 24 - nI 8 * (nI k - nI k / nI 4 * nI 4)) &&& 31)) &&& nI 255
def r_feed (tp : Nat) : Int32 := if tp + 12 ≤ 96 then nI (tp + 12) else -1000000003
def g_feed (M : Nat) (im : Mem) (tp : Nat) (a b c : Int32) (im' : Mem) : Prop := if tp + 12 ≤ 96 then ((∀ j, im' (M + 9) j = if tp ≤ j ∧ j < tp + 12 then s_byte a b c (j - tp) else im (M + 9) j) ∧ im' M = upd (im M) 11 (nI (tp + 12)) ∧ ∀ d, d ≠ M → d ≠ M + 9 → im' d = im d) else im' = im
set_option maxRecDepth 100000 in
set_option maxHeartbeats 4000000 in
theorem m7_feed (l : Launch) (E : Ex) (S : Sx) (im : Mem) (M : Nat) (hM : ML S M) (tp : Nat) (htp : tp ≤ 96) (ht : im M 11 = nI tp) (a b c : Int32) : Mt l E yX7_feed cX7_feed 6 (some .int) 1 0 0 [.ref M, .int a, .int b, .int c] S im (pI (pQ S (r_feed tp) (g_feed M im tp a b c))) := by
  refine Mt.of (by decide +kernel) rfl rfl (Nat.le_of_ble_eq_true rfl) ?_
  intro κ hκ C ρ
  subst hκ
  show V E κ 6 0 0 0 [some (.ref M), some (.int a), some (.int b), some (.int c), none, none] [] S im
  refine z_aload_n (pc := 0) C dX7_feed_0 rfl ?_
  refine gX7_203 (pc := 1) C dX7_feed_1 (ml_K hM) ?_
  refine z_eqi (y := nI tp) (ht) ?_
  refine z_bipushN (pc := 4) C 12 (by decide) dX7_feed_4 ?_
  refine z_iaddN (pc := 6) C dX7_feed_6 ?_
  refine z_bipushN (pc := 7) C 96 (by decide) dX7_feed_7 ?_
  refine z_icmp_leN (pc := 9) C 15 dX7_feed_9 (by decide) (by omega) (by omega) (fun c_9 => ?_) (fun c_9 => ?_)
  · 
    have loop : ∀ (r k : Nat) (im' : Mem) (y5 : Option Value), k + r = 12 → (∀ j, im' (M + 9) j = if tp ≤ j ∧ j < tp + k then s_byte a b c (j - tp) else im (M + 9) j) → (∀ d, d ≠ M + 9 → im' d = im d) → V E κ 6 0 0 18 [some (.ref M), some (.int a), some (.int b), some (.int c), some (.int (nI k)), y5] [] S im' := by
      intro r
      induction r with
      | zero =>
        intro k im' y5 hk hc ho
        refine z_iload (pc := 18) C dX7_feed_18 rfl ?_
        refine z_bipushN (pc := 20) C 12 (by decide) dX7_feed_20 ?_
        refine z_icmp_geT (pc := 22) C 84 dX7_feed_22 (by decide) (nI_le (by omega) (by omega)) ?_
        refine z_aload_n (pc := 84) C dX7_feed_84 rfl ?_
        refine z_dup (pc := 85) C dX7_feed_85 rfl ?_
        refine gX7_203 (pc := 86) C dX7_feed_86 (ml_K hM) ?_
        refine z_eqi (y := nI tp) (by rw [ho _ (by omega)]; exact ht) ?_
        refine z_bipushN (pc := 89) C 12 (by decide) dX7_feed_89 ?_
        refine z_iaddN (pc := 91) C dX7_feed_91 ?_
        refine pX7_203 (pc := 92) C dX7_feed_92 (ml_K hM) ?_
        refine z_aload_n (pc := 95) C dX7_feed_95 rfl ?_
        refine gX7_203 (pc := 96) C dX7_feed_96 (ml_K hM) ?_
        refine z_eqi (y := nI (tp + 12)) (by rw [up2_s, upd_s]) ?_
        exact z_iret (pc := 99) C ρ dX7_feed_99 (⟨_, rfl, by rw [r_feed, if_pos c_9], rfl, by rw [g_feed, if_pos c_9]; exact ⟨fun j => by rw [up2_n _ _ _ (by omega), hc j, show k = 12 by omega], by rw [up2_s, ho _ (by omega)], fun d q1 q2 => by rw [up2_n _ _ _ q1]; exact ho d q2⟩⟩)
      | succ r ih =>
        intro k im' y5 hk hc ho
        refine z_iload (pc := 18) C dX7_feed_18 rfl ?_
        refine z_bipushN (pc := 20) C 12 (by decide) dX7_feed_20 ?_
        refine z_icmp_geF (pc := 22) C 84 dX7_feed_22 (by decide) (nI_ge (by omega) (by omega)) ?_
        refine z_iload (pc := 25) C dX7_feed_25 rfl ?_
        refine z_iconstN (pc := 27) C 4 dX7_feed_27 ?_
        have j_47 : ∀ x47 : Int32, x47 = (if k < 4 then a else if k < 8 then b else c) → V E κ 6 0 0 47 [some (.ref M), some (.int a), some (.int b), some (.int c), some (.int (nI k)), y5] [.int x47] S im' := by
          intro x47 ex47
          refine z_istore (pc := 47) C dX7_feed_47 (by decide) rfl ?_
          refine z_aload_n (pc := 49) C dX7_feed_49 rfl ?_
          refine gX7_39 (pc := 50) C dX7_feed_50 (ml_K hM) (ml_r10 hM) ?_
          refine z_aload_n (pc := 53) C dX7_feed_53 rfl ?_
          refine gX7_203 (pc := 54) C dX7_feed_54 (ml_K hM) ?_
          refine z_eqi (y := nI tp) (by rw [ho _ (by omega)]; exact ht) ?_
          refine z_iload (pc := 57) C dX7_feed_57 rfl ?_
          refine z_iaddN (pc := 59) C dX7_feed_59 ?_
          refine z_iload (pc := 60) C dX7_feed_60 rfl ?_
          refine z_bipushN (pc := 62) C 24 (by decide) dX7_feed_62 ?_
          refine z_bipushN (pc := 64) C 8 (by decide) dX7_feed_64 ?_
          refine z_iload (pc := 66) C dX7_feed_66 rfl ?_
          refine z_iconstN (pc := 68) C 4 dX7_feed_68 ?_
          refine z_irem (pc := 69) C dX7_feed_69 (by decide) ?_
          refine z_imul (pc := 70) C dX7_feed_70 ?_
          refine z_isub (pc := 71) C dX7_feed_71 ?_
          refine z_ishr (pc := 72) C dX7_feed_72 ?_
          refine z_sipush (v := nI 255) (pc := 73) C dX7_feed_73 (by decide +kernel) ?_
          refine z_iand (pc := 76) C dX7_feed_76 ?_
          refine z_iast (pc := 77) C dX7_feed_77 (ml_a9 hM) (ml_n9 hM) (by omega) (by decide) ?_
          refine z_iincN (pc := 78) C 1 dX7_feed_78 rfl (by decide) rfl ?_
          refine z_goto (pc := 81) C 18 dX7_feed_81 (by decide) ?_
          refine ih (k + 1) _ _ (by omega) (fun j => ?_) (fun d h => by rw [up2_n _ _ _ h]; exact ho d h)
          rw [up2_s]
          by_cases e : j = tp + k
          · rw [e, upd_s, if_pos ⟨by omega, by omega⟩, show tp + k - tp = k by omega, s_byte, ex47]
          · rw [upd_n _ _ e, hc j]
            by_cases e2 : tp ≤ j ∧ j < tp + k
            · rw [if_pos e2, if_pos ⟨by omega, by omega⟩]
            · rw [if_neg e2, if_neg (by omega)]
        refine z_icmp_geN (pc := 28) C 35 dX7_feed_28 (by decide) (by omega) (by omega) (fun c_28 => ?_) (fun c_28 => ?_)
        · 
          refine z_iload (pc := 35) C dX7_feed_35 rfl ?_
          refine z_bipushN (pc := 37) C 8 (by decide) dX7_feed_37 ?_
          refine z_icmp_geN (pc := 39) C 46 dX7_feed_39 (by decide) (by omega) (by omega) (fun c_39 => ?_) (fun c_39 => ?_)
          · 
            refine z_iload_n (pc := 46) C dX7_feed_46 rfl ?_
            exact j_47 _ (by first | rw [if_pos (by omega)] | rw [if_neg (by omega), if_pos (by omega)] | rw [if_neg (by omega), if_neg (by omega)])
          · 
            refine z_iload_n (pc := 42) C dX7_feed_42 rfl ?_
            refine z_goto (pc := 43) C 47 dX7_feed_43 (by decide) ?_
            exact j_47 _ (by first | rw [if_pos (by omega)] | rw [if_neg (by omega), if_pos (by omega)] | rw [if_neg (by omega), if_neg (by omega)])
        · 
          refine z_iload_n (pc := 31) C dX7_feed_31 rfl ?_
          refine z_goto (pc := 32) C 47 dX7_feed_32 (by decide) ?_
          exact j_47 _ (by first | rw [if_pos (by omega)] | rw [if_neg (by omega), if_pos (by omega)] | rw [if_neg (by omega), if_neg (by omega)])
    refine z_iconstN (pc := 15) C 0 dX7_feed_15 ?_
    refine z_istore (pc := 16) C dX7_feed_16 (by decide) rfl ?_
    exact loop 12 0 im _ (by omega) (fun j => by rw [if_neg (by omega)]) (fun _ _ => rfl)
  · 
    refine z_ldc (pc := 12) C dX7_feed_12 wk_X7_101 ?_
    exact z_iret (pc := 14) C ρ dX7_feed_14 (⟨_, rfl, by simp only [r_feed, if_neg c_9], rfl, by simp only [g_feed, if_neg c_9]⟩)
