/-! the reference: its small methods -/
set_option maxRecDepth 100000 in
set_option maxHeartbeats 4000000 in
theorem m7_in (l : Launch) (E : Ex) (S : Sx) (im : Mem) (v a b : Int32) : Mt l E yX7_in cX7_in 3 (some .boolean) 1 0 0 [.int v, .int a, .int b] S im (pI (pB S im (a ≤ v ∧ v ≤ b))) := by
  refine Mt.of (by decide +kernel) rfl rfl (Nat.le_of_ble_eq_true rfl) ?_
  intro κ hκ C ρ
  subst hκ
  show V E κ 3 0 0 0 [some (.int v), some (.int a), some (.int b)] [] S im
  refine z_iload_n (pc := 0) C dX7_in_0 rfl ?_
  refine z_iload_n (pc := 1) C dX7_in_1 rfl ?_
  refine z_icmp_lt (pc := 2) C 14 dX7_in_2 (by decide) (fun c_2 => ?_) (fun c_2 => ?_)
  · 
    refine z_iconstN (pc := 14) C 0 dX7_in_14 ?_
    exact z_zret (pc := 15) C ρ dX7_in_15 (by decide) (⟨_, rfl, by first | exact Or.inl ⟨⟨Int32.not_lt.mp c_2, Int32.not_lt.mp c_7⟩, rfl, rfl, rfl⟩ | exact Or.inr ⟨fun h => Int32.not_lt.mpr h.1 c_2, rfl, rfl, rfl⟩ | exact Or.inr ⟨fun h => Int32.not_lt.mpr h.2 c_7, rfl, rfl, rfl⟩⟩)
  · 
    refine z_iload_n (pc := 5) C dX7_in_5 rfl ?_
    refine z_iload_n (pc := 6) C dX7_in_6 rfl ?_
    refine z_icmp_gt (pc := 7) C 14 dX7_in_7 (by decide) (fun c_7 => ?_) (fun c_7 => ?_)
    · 
      refine z_iconstN (pc := 14) C 0 dX7_in_14 ?_
      exact z_zret (pc := 15) C ρ dX7_in_15 (by decide) (⟨_, rfl, by first | exact Or.inl ⟨⟨Int32.not_lt.mp c_2, Int32.not_lt.mp c_7⟩, rfl, rfl, rfl⟩ | exact Or.inr ⟨fun h => Int32.not_lt.mpr h.1 c_2, rfl, rfl, rfl⟩ | exact Or.inr ⟨fun h => Int32.not_lt.mpr h.2 c_7, rfl, rfl, rfl⟩⟩)
    · 
      refine z_iconstN (pc := 10) C 1 dX7_in_10 ?_
      refine z_goto (pc := 11) C 15 dX7_in_11 (by decide) ?_
      exact z_zret (pc := 15) C ρ dX7_in_15 (by decide) (⟨_, rfl, by first | exact Or.inl ⟨⟨Int32.not_lt.mp c_2, Int32.not_lt.mp c_7⟩, rfl, rfl, rfl⟩ | exact Or.inr ⟨fun h => Int32.not_lt.mpr h.1 c_2, rfl, rfl, rfl⟩ | exact Or.inr ⟨fun h => Int32.not_lt.mpr h.2 c_7, rfl, rfl, rfl⟩⟩)
def s_within (v a b : Int32) : Int32 := if a ≤ v then (if v ≤ b then v else b) else a
set_option maxRecDepth 100000 in
set_option maxHeartbeats 4000000 in
theorem m7_within (l : Launch) (E : Ex) (S : Sx) (im : Mem) (v a b : Int32) : Mt l E yX7_within cX7_within 3 (some .int) 1 0 0 [.int v, .int a, .int b] S im (pI (pE S im (s_within v a b))) := by
  refine Mt.of (by decide +kernel) rfl rfl (Nat.le_of_ble_eq_true rfl) ?_
  intro κ hκ C ρ
  subst hκ
  show V E κ 3 0 0 0 [some (.int v), some (.int a), some (.int b)] [] S im
  refine z_iload_n (pc := 0) C dX7_within_0 rfl ?_
  refine z_iload_n (pc := 1) C dX7_within_1 rfl ?_
  refine z_icmp_ge (pc := 2) C 9 dX7_within_2 (by decide) (fun c_2 => ?_) (fun c_2 => ?_)
  · 
    refine z_iload_n (pc := 9) C dX7_within_9 rfl ?_
    refine z_iload_n (pc := 10) C dX7_within_10 rfl ?_
    refine z_icmp_le (pc := 11) C 18 dX7_within_11 (by decide) (fun c_11 => ?_) (fun c_11 => ?_)
    · 
      refine z_iload_n (pc := 18) C dX7_within_18 rfl ?_
      exact z_iret (pc := 19) C ρ dX7_within_19 (⟨_, rfl, by simp [s_within, *], rfl, rfl⟩)
    · 
      refine z_iload_n (pc := 14) C dX7_within_14 rfl ?_
      refine z_goto (pc := 15) C 19 dX7_within_15 (by decide) ?_
      exact z_iret (pc := 19) C ρ dX7_within_19 (⟨_, rfl, by simp [s_within, *], rfl, rfl⟩)
  · 
    refine z_iload_n (pc := 5) C dX7_within_5 rfl ?_
    refine z_goto (pc := 6) C 19 dX7_within_6 (by decide) ?_
    exact z_iret (pc := 19) C ρ dX7_within_19 (⟨_, rfl, by simp [s_within, *], rfl, rfl⟩)
def s_told0 (v : Int32) : Int32 := if 0 ≤ v then v else -1000000005
set_option maxRecDepth 100000 in
set_option maxHeartbeats 4000000 in
theorem m7_told0 (l : Launch) (E : Ex) (S : Sx) (im : Mem) (v : Int32) : Mt l E yX7_told0 cX7_told0 1 (some .int) 1 0 0 [.int v] S im (pI (pE S im (s_told0 v))) := by
  refine Mt.of (by decide +kernel) rfl rfl (Nat.le_of_ble_eq_true rfl) ?_
  intro κ hκ C ρ
  subst hκ
  show V E κ 1 0 0 0 [some (.int v)] [] S im
  refine z_iload_n (pc := 0) C dX7_told0_0 rfl ?_
  refine z_if_ge (pc := 1) C 9 dX7_told0_1 (by decide) (fun c_1 => ?_) (fun c_1 => ?_)
  · 
    refine z_iload_n (pc := 9) C dX7_told0_9 rfl ?_
    exact z_iret (pc := 10) C ρ dX7_told0_10 (⟨_, rfl, by simp [s_told0, *], rfl, rfl⟩)
  · 
    refine z_ldc (pc := 4) C dX7_told0_4 wk_X7_91 ?_
    refine z_goto (pc := 6) C 10 dX7_told0_6 (by decide) ?_
    exact z_iret (pc := 10) C ρ dX7_told0_10 (⟨_, rfl, by simp [s_told0, *], rfl, rfl⟩)
def s_apart (a b : Int32) : Int32 := if b ≤ a then a - b else b - a
set_option maxRecDepth 100000 in
set_option maxHeartbeats 4000000 in
theorem m7_apart (l : Launch) (E : Ex) (S : Sx) (im : Mem) (a b : Int32) : Mt l E yX7_apart cX7_apart 2 (some .int) 1 0 0 [.int a, .int b] S im (pI (pE S im (s_apart a b))) := by
  refine Mt.of (by decide +kernel) rfl rfl (Nat.le_of_ble_eq_true rfl) ?_
  intro κ hκ C ρ
  subst hκ
  show V E κ 2 0 0 0 [some (.int a), some (.int b)] [] S im
  refine z_iload_n (pc := 0) C dX7_apart_0 rfl ?_
  refine z_iload_n (pc := 1) C dX7_apart_1 rfl ?_
  refine z_icmp_ge (pc := 2) C 11 dX7_apart_2 (by decide) (fun c_2 => ?_) (fun c_2 => ?_)
  · 
    refine z_iload_n (pc := 11) C dX7_apart_11 rfl ?_
    refine z_iload_n (pc := 12) C dX7_apart_12 rfl ?_
    refine z_isub (pc := 13) C dX7_apart_13 ?_
    exact z_iret (pc := 14) C ρ dX7_apart_14 (⟨_, rfl, by simp [s_apart, *], rfl, rfl⟩)
  · 
    refine z_iload_n (pc := 5) C dX7_apart_5 rfl ?_
    refine z_iload_n (pc := 6) C dX7_apart_6 rfl ?_
    refine z_isub (pc := 7) C dX7_apart_7 ?_
    refine z_goto (pc := 8) C 14 dX7_apart_8 (by decide) ?_
    exact z_iret (pc := 14) C ρ dX7_apart_14 (⟨_, rfl, by simp [s_apart, *], rfl, rfl⟩)
def s_most (w : Nat) : Nat := if w = 2 then 999 else if w = 4 then 9999 else 99
set_option maxRecDepth 100000 in
set_option maxHeartbeats 4000000 in
theorem m7_mostOf (l : Launch) (E : Ex) (S : Sx) (im : Mem) (w : Nat) (hw : w < 7) : Mt l E yX7_mostOf cX7_mostOf 1 (some .int) 1 0 0 [.int (nI w)] S im (pI (pE S im (nI (s_most w)))) := by
  refine Mt.of (by decide +kernel) rfl rfl (Nat.le_of_ble_eq_true rfl) ?_
  intro κ hκ C ρ
  subst hκ
  show V E κ 1 0 0 0 [some (.int (nI w))] [] S im
  refine z_iload_n (pc := 0) C dX7_mostOf_0 rfl ?_
  refine z_iconstN (pc := 1) C 2 dX7_mostOf_1 ?_
  refine z_icmp_neN (pc := 2) C 11 dX7_mostOf_2 (by decide) (by omega) (by omega) (fun c_2 => ?_) (fun c_2 => ?_)
  · 
    refine z_iload_n (pc := 11) C dX7_mostOf_11 rfl ?_
    refine z_iconstN (pc := 12) C 4 dX7_mostOf_12 ?_
    refine z_icmp_neN (pc := 13) C 22 dX7_mostOf_13 (by decide) (by omega) (by omega) (fun c_13 => ?_) (fun c_13 => ?_)
    · 
      refine z_bipushN (pc := 22) C 99 (by decide) dX7_mostOf_22 ?_
      exact z_iret (pc := 24) C ρ dX7_mostOf_24 (⟨_, rfl, by simp [s_most, *], rfl, rfl⟩)
    · 
      refine z_sipush (v := nI 9999) (pc := 16) C dX7_mostOf_16 (by decide +kernel) ?_
      refine z_goto (pc := 19) C 24 dX7_mostOf_19 (by decide) ?_
      exact z_iret (pc := 24) C ρ dX7_mostOf_24 (⟨_, rfl, by simp [s_most, *], rfl, rfl⟩)
  · 
    refine z_sipush (v := nI 999) (pc := 5) C dX7_mostOf_5 (by decide +kernel) ?_
    refine z_goto (pc := 8) C 24 dX7_mostOf_8 (by decide) ?_
    exact z_iret (pc := 24) C ρ dX7_mostOf_24 (⟨_, rfl, by simp [s_most, *], rfl, rfl⟩)
set_option maxRecDepth 100000 in
set_option maxHeartbeats 4000000 in
theorem m7_isLamp (l : Launch) (E : Ex) (S : Sx) (im : Mem) (M : Nat) (hM : ML S M) (x : Int32) (n : Nat) (hn : n ≤ 10) (hn1 : im (M + 1) 1 = nI n) : Mt l E yX7_isLamp cX7_isLamp 2 (some .boolean) 2 0 0 [.ref M, .int x] S im (pI (pB S im (∃ k, k < n ∧ x = nI k))) := by
  refine Mt.of (by decide +kernel) rfl rfl (Nat.le_of_ble_eq_true rfl) ?_
  intro κ hκ C ρ
  subst hκ
  show V E κ 2 0 0 0 [some (.ref M), some (.int x)] [] S im
  refine z_iload_n (pc := 0) C dX7_isLamp_0 rfl ?_
  refine z_iconstN (pc := 1) C 0 dX7_isLamp_1 ?_
  refine z_aload_n (pc := 2) C dX7_isLamp_2 rfl ?_
  refine gX7_9 (pc := 3) C dX7_isLamp_3 (ml_K hM) (ml_r0 hM) ?_
  refine z_iconstN (pc := 6) C 1 dX7_isLamp_6 ?_
  refine z_iald (pc := 7) C dX7_isLamp_7 (ml_a1 hM) (ml_n1 hM) (by omega) (by decide) ?_
  refine z_eqi (y := nI n) (hn1) ?_
  refine z_iconstN (pc := 8) C 1 dX7_isLamp_8 ?_
  refine z_isub (pc := 9) C dX7_isLamp_9 ?_
  refine kX7_92 (pc := 10) C dX7_isLamp_10 (m7_in κ.2.1 E S im x (nI 0) (nI n - nI 1)) (by decide) (Nat.le_of_ble_eq_true rfl) (Nat.le_refl _) (Nat.le_refl _) (fun v_10 S_10 im_10 h_10 => ?_)
  rw [pB, in_lamp hn] at h_10
  rcases h_10 with ⟨hb, rfl, rfl, rfl⟩ | ⟨hb, rfl, rfl, rfl⟩
  · exact z_zret (pc := 13) C ρ dX7_isLamp_13 (by decide) (⟨_, rfl, Or.inl ⟨hb, rfl, rfl, rfl⟩⟩)
  · exact z_zret (pc := 13) C ρ dX7_isLamp_13 (by decide) (⟨_, rfl, Or.inr ⟨hb, rfl, rfl, rfl⟩⟩)
  -- done
set_option maxRecDepth 100000 in
set_option maxHeartbeats 4000000 in
theorem m7_of (l : Launch) (E : Ex) (S : Sx) (im : Mem) (M : Nat) (hM : ML S M) (l0 w : Nat) (hl : l0 < 10) (hw : w < 7) : Mt l E yX7_of cX7_of 3 (some .int) 1 0 0 [.ref M, .int (nI l0), .int (nI w)] S im (pI (pE S im (im (M + 1) (8 + 7 * l0 + w)))) := by
  refine Mt.of (by decide +kernel) rfl rfl (Nat.le_of_ble_eq_true rfl) ?_
  intro κ hκ C ρ
  subst hκ
  show V E κ 3 0 0 0 [some (.ref M), some (.int (nI l0)), some (.int (nI w))] [] S im
  refine z_aload_n (pc := 0) C dX7_of_0 rfl ?_
  refine gX7_9 (pc := 1) C dX7_of_1 (ml_K hM) (ml_r0 hM) ?_
  refine z_bipushN (pc := 4) C 8 (by decide) dX7_of_4 ?_
  refine z_bipushN (pc := 6) C 7 (by decide) dX7_of_6 ?_
  refine z_iload_n (pc := 8) C dX7_of_8 rfl ?_
  refine z_imulN (pc := 9) C dX7_of_9 ?_
  refine z_iaddN (pc := 10) C dX7_of_10 ?_
  refine z_iload_n (pc := 11) C dX7_of_11 rfl ?_
  refine z_iaddN (pc := 12) C dX7_of_12 ?_
  refine z_iald (pc := 13) C dX7_of_13 (ml_a1 hM) (ml_n1 hM) (by omega) (by decide) ?_
  exact z_iret (pc := 14) C ρ dX7_of_14 (⟨_, rfl, rfl, rfl, rfl⟩)
set_option maxRecDepth 100000 in
set_option maxHeartbeats 4000000 in
theorem m7_put (l : Launch) (E : Ex) (S : Sx) (im : Mem) (M : Nat) (hM : ML S M) (l0 w : Nat) (hl : l0 < 10) (hw : w < 7) (x : Int32) : Mt l E yX7_put cX7_put 4 none 1 0 0 [.ref M, .int (nI l0), .int (nI w), .int x] S im (pV (pM S (up2 im (M + 1) (8 + 7 * l0 + w) x))) := by
  refine Mt.of (by decide +kernel) rfl rfl (Nat.le_of_ble_eq_true rfl) ?_
  intro κ hκ C ρ
  subst hκ
  show V E κ 4 0 0 0 [some (.ref M), some (.int (nI l0)), some (.int (nI w)), some (.int x)] [] S im
  refine z_aload_n (pc := 0) C dX7_put_0 rfl ?_
  refine gX7_9 (pc := 1) C dX7_put_1 (ml_K hM) (ml_r0 hM) ?_
  refine z_bipushN (pc := 4) C 8 (by decide) dX7_put_4 ?_
  refine z_bipushN (pc := 6) C 7 (by decide) dX7_put_6 ?_
  refine z_iload_n (pc := 8) C dX7_put_8 rfl ?_
  refine z_imulN (pc := 9) C dX7_put_9 ?_
  refine z_iaddN (pc := 10) C dX7_put_10 ?_
  refine z_iload_n (pc := 11) C dX7_put_11 rfl ?_
  refine z_iaddN (pc := 12) C dX7_put_12 ?_
  refine z_iload_n (pc := 13) C dX7_put_13 rfl ?_
  refine z_iast (pc := 14) C dX7_put_14 (ml_a1 hM) (ml_n1 hM) (by omega) (by decide) ?_
  exact z_vret (pc := 15) C ρ dX7_put_15 (⟨rfl, rfl, rfl⟩)
set_option maxRecDepth 100000 in
set_option maxHeartbeats 4000000 in
theorem m7_becomes (l : Launch) (E : Ex) (S : Sx) (im : Mem) (M : Nat) (hM : ML S M) (k : Nat) (hk : k < 1450) (x : Int32) : Mt l E yX7_becomes cX7_becomes 4 (some .int) 1 0 0 [.ref M, .int (nI k), .int x] S im (pI (fun v S' im' => im (M + 1) k = v ∧ S = S' ∧ up2 im (M + 1) k x = im')) := by
  refine Mt.of (by decide +kernel) rfl rfl (Nat.le_of_ble_eq_true rfl) ?_
  intro κ hκ C ρ
  subst hκ
  show V E κ 4 0 0 0 [some (.ref M), some (.int (nI k)), some (.int x), none] [] S im
  refine z_aload_n (pc := 0) C dX7_becomes_0 rfl ?_
  refine gX7_9 (pc := 1) C dX7_becomes_1 (ml_K hM) (ml_r0 hM) ?_
  refine z_iload_n (pc := 4) C dX7_becomes_4 rfl ?_
  refine z_iald (pc := 5) C dX7_becomes_5 (ml_a1 hM) (ml_n1 hM) (by omega) (by decide) ?_
  refine z_istore_n (pc := 6) C dX7_becomes_6 (by decide) rfl ?_
  refine z_aload_n (pc := 7) C dX7_becomes_7 rfl ?_
  refine gX7_9 (pc := 8) C dX7_becomes_8 (ml_K hM) (ml_r0 hM) ?_
  refine z_iload_n (pc := 11) C dX7_becomes_11 rfl ?_
  refine z_iload_n (pc := 12) C dX7_becomes_12 rfl ?_
  refine z_iast (pc := 13) C dX7_becomes_13 (ml_a1 hM) (ml_n1 hM) (by omega) (by decide) ?_
  refine z_iload_n (pc := 14) C dX7_becomes_14 rfl ?_
  exact z_iret (pc := 15) C ρ dX7_becomes_15 (⟨_, rfl, rfl, rfl, rfl⟩)
def s_z (z : Int32) : Int32 := z * 1103515245 + nI 12345
def s_sh (z : Int32) : Int32 := (z.toUInt32 >>> ((nI 8).toUInt32 &&& Int32.toUInt32 31)).toInt32
set_option maxRecDepth 100000 in
set_option maxHeartbeats 4000000 in
theorem m7_draw (l : Launch) (E : Ex) (S : Sx) (im : Mem) (M : Nat) (hM : ML S M)  : Mt l E yX7_draw cX7_draw 1 (some .int) 1 0 0 [.ref M] S im (pI (fun v S' im' => s_sh (s_z (im (M + 1) 0)) = v ∧ S = S' ∧ up2 im (M + 1) 0 (s_z (im (M + 1) 0)) = im')) := by
  refine Mt.of (by decide +kernel) rfl rfl (Nat.le_of_ble_eq_true rfl) ?_
  intro κ hκ C ρ
  subst hκ
  show V E κ 1 0 0 0 [some (.ref M)] [] S im
  refine z_aload_n (pc := 0) C dX7_draw_0 rfl ?_
  refine gX7_9 (pc := 1) C dX7_draw_1 (ml_K hM) (ml_r0 hM) ?_
  refine z_iconstN (pc := 4) C 0 dX7_draw_4 ?_
  refine z_aload_n (pc := 5) C dX7_draw_5 rfl ?_
  refine gX7_9 (pc := 6) C dX7_draw_6 (ml_K hM) (ml_r0 hM) ?_
  refine z_iconstN (pc := 9) C 0 dX7_draw_9 ?_
  refine z_iald (pc := 10) C dX7_draw_10 (ml_a1 hM) (ml_n1 hM) (by omega) (by decide) ?_
  refine z_ldc (pc := 11) C dX7_draw_11 wk_X7_145 ?_
  refine z_imul (pc := 13) C dX7_draw_13 ?_
  refine z_sipush (v := nI 12345) (pc := 14) C dX7_draw_14 (by decide +kernel) ?_
  refine z_iadd (pc := 17) C dX7_draw_17 ?_
  refine z_iast (pc := 18) C dX7_draw_18 (ml_a1 hM) (ml_n1 hM) (by omega) (by decide) ?_
  refine z_aload_n (pc := 19) C dX7_draw_19 rfl ?_
  refine gX7_9 (pc := 20) C dX7_draw_20 (ml_K hM) (ml_r0 hM) ?_
  refine z_iconstN (pc := 23) C 0 dX7_draw_23 ?_
  refine z_iald (pc := 24) C dX7_draw_24 (ml_a1 hM) (ml_n1 hM) (by omega) (by decide) ?_
  refine z_bipushN (pc := 25) C 8 (by decide) dX7_draw_25 ?_
  refine z_iushr (pc := 27) C dX7_draw_27 ?_
  exact z_iret (pc := 28) C ρ dX7_draw_28 (⟨_, rfl, by rw [up2_s, upd_s]; rfl, rfl, rfl⟩)
def s_comes (f : Nat → Int32) (n : Nat) (k p o u : Int32) : Nat → Int32 := upd (upd (upd (upd (upd (upd (upd (upd f (8 + 7 * n) k) (8 + 7 * n + 1) p) (8 + 7 * n + 2) o) (8 + 7 * n + 3) u) (8 + 7 * n + 4) (nI n)) (8 + 7 * n + 5) 0) (8 + 7 * n + 6) 0) 1 (nI (n + 1))
set_option maxRecDepth 100000 in
set_option maxHeartbeats 4000000 in
theorem m7_comes (l : Launch) (E : Ex) (S : Sx) (im : Mem) (M : Nat) (hM : ML S M) (k p o u : Int32) (n : Nat) (hn : n < 10) (hn1 : im (M + 1) 1 = nI n) : Mt l E yX7_comes cX7_comes 6 (some .int) 2 0 0 [.ref M, .int k, .int p, .int o, .int u] S im (pI (fun v S' im' => nI n = v ∧ S = S' ∧ va_up im (M + 1) (s_comes (im (M + 1)) n k p o u) = im')) := by
  refine Mt.of (by decide +kernel) rfl rfl (Nat.le_of_ble_eq_true rfl) ?_
  intro κ hκ C ρ
  subst hκ
  show V E κ 6 0 0 0 [some (.ref M), some (.int k), some (.int p), some (.int o), some (.int u), none] [] S im
  refine z_aload_n (pc := 0) C dX7_comes_0 rfl ?_
  refine gX7_9 (pc := 1) C dX7_comes_1 (ml_K hM) (ml_r0 hM) ?_
  refine z_iconstN (pc := 4) C 1 dX7_comes_4 ?_
  refine z_iald (pc := 5) C dX7_comes_5 (ml_a1 hM) (ml_n1 hM) (by omega) (by decide) ?_
  refine z_eqi (y := nI n) (hn1) ?_
  refine z_istore (pc := 6) C dX7_comes_6 (by decide) rfl ?_
  refine z_aload_n (pc := 8) C dX7_comes_8 rfl ?_
  refine z_iload (pc := 9) C dX7_comes_9 rfl ?_
  refine z_iconstN (pc := 11) C 0 dX7_comes_11 ?_
  refine z_iload_n (pc := 12) C dX7_comes_12 rfl ?_
  refine kX7_96 (pc := 13) C dX7_comes_13 (m7_put κ.2.1 E S (im) M hM n 0 (by omega) (by decide) k) (ml_K hM) (by decide) (Nat.le_of_ble_eq_true rfl) (Nat.le_refl _) (Nat.le_refl _) (fun S_13 im_13 h_13 => ?_)
  obtain ⟨rfl, rfl⟩ := h_13
  refine z_aload_n (pc := 16) C dX7_comes_16 rfl ?_
  refine z_iload (pc := 17) C dX7_comes_17 rfl ?_
  refine z_iconstN (pc := 19) C 1 dX7_comes_19 ?_
  refine z_iload_n (pc := 20) C dX7_comes_20 rfl ?_
  refine kX7_96 (pc := 21) C dX7_comes_21 (m7_put κ.2.1 E S (up2 (im) (M + 1) (8 + 7 * n + 0) k) M hM n 1 (by omega) (by decide) p) (ml_K hM) (by decide) (Nat.le_of_ble_eq_true rfl) (Nat.le_refl _) (Nat.le_refl _) (fun S_21 im_21 h_21 => ?_)
  obtain ⟨rfl, rfl⟩ := h_21
  refine z_aload_n (pc := 24) C dX7_comes_24 rfl ?_
  refine z_iload (pc := 25) C dX7_comes_25 rfl ?_
  refine z_iconstN (pc := 27) C 2 dX7_comes_27 ?_
  refine z_iload_n (pc := 28) C dX7_comes_28 rfl ?_
  refine kX7_96 (pc := 29) C dX7_comes_29 (m7_put κ.2.1 E S (up2 (up2 (im) (M + 1) (8 + 7 * n + 0) k) (M + 1) (8 + 7 * n + 1) p) M hM n 2 (by omega) (by decide) o) (ml_K hM) (by decide) (Nat.le_of_ble_eq_true rfl) (Nat.le_refl _) (Nat.le_refl _) (fun S_29 im_29 h_29 => ?_)
  obtain ⟨rfl, rfl⟩ := h_29
  refine z_aload_n (pc := 32) C dX7_comes_32 rfl ?_
  refine z_iload (pc := 33) C dX7_comes_33 rfl ?_
  refine z_iconstN (pc := 35) C 3 dX7_comes_35 ?_
  refine z_iload (pc := 36) C dX7_comes_36 rfl ?_
  refine kX7_96 (pc := 38) C dX7_comes_38 (m7_put κ.2.1 E S (up2 (up2 (up2 (im) (M + 1) (8 + 7 * n + 0) k) (M + 1) (8 + 7 * n + 1) p) (M + 1) (8 + 7 * n + 2) o) M hM n 3 (by omega) (by decide) u) (ml_K hM) (by decide) (Nat.le_of_ble_eq_true rfl) (Nat.le_refl _) (Nat.le_refl _) (fun S_38 im_38 h_38 => ?_)
  obtain ⟨rfl, rfl⟩ := h_38
  refine z_aload_n (pc := 41) C dX7_comes_41 rfl ?_
  refine z_iload (pc := 42) C dX7_comes_42 rfl ?_
  refine z_iconstN (pc := 44) C 4 dX7_comes_44 ?_
  refine z_iload (pc := 45) C dX7_comes_45 rfl ?_
  refine kX7_96 (pc := 47) C dX7_comes_47 (m7_put κ.2.1 E S (up2 (up2 (up2 (up2 (im) (M + 1) (8 + 7 * n + 0) k) (M + 1) (8 + 7 * n + 1) p) (M + 1) (8 + 7 * n + 2) o) (M + 1) (8 + 7 * n + 3) u) M hM n 4 (by omega) (by decide) (nI n)) (ml_K hM) (by decide) (Nat.le_of_ble_eq_true rfl) (Nat.le_refl _) (Nat.le_refl _) (fun S_47 im_47 h_47 => ?_)
  obtain ⟨rfl, rfl⟩ := h_47
  refine z_aload_n (pc := 50) C dX7_comes_50 rfl ?_
  refine z_iload (pc := 51) C dX7_comes_51 rfl ?_
  refine z_iconstN (pc := 53) C 5 dX7_comes_53 ?_
  refine z_iconstN (pc := 54) C 0 dX7_comes_54 ?_
  refine kX7_96 (pc := 55) C dX7_comes_55 (m7_put κ.2.1 E S (up2 (up2 (up2 (up2 (up2 (im) (M + 1) (8 + 7 * n + 0) k) (M + 1) (8 + 7 * n + 1) p) (M + 1) (8 + 7 * n + 2) o) (M + 1) (8 + 7 * n + 3) u) (M + 1) (8 + 7 * n + 4) (nI n)) M hM n 5 (by omega) (by decide) (nI 0)) (ml_K hM) (by decide) (Nat.le_of_ble_eq_true rfl) (Nat.le_refl _) (Nat.le_refl _) (fun S_55 im_55 h_55 => ?_)
  obtain ⟨rfl, rfl⟩ := h_55
  refine z_aload_n (pc := 58) C dX7_comes_58 rfl ?_
  refine z_iload (pc := 59) C dX7_comes_59 rfl ?_
  refine z_bipushN (pc := 61) C 6 (by decide) dX7_comes_61 ?_
  refine z_iconstN (pc := 63) C 0 dX7_comes_63 ?_
  refine kX7_96 (pc := 64) C dX7_comes_64 (m7_put κ.2.1 E S (up2 (up2 (up2 (up2 (up2 (up2 (im) (M + 1) (8 + 7 * n + 0) k) (M + 1) (8 + 7 * n + 1) p) (M + 1) (8 + 7 * n + 2) o) (M + 1) (8 + 7 * n + 3) u) (M + 1) (8 + 7 * n + 4) (nI n)) (M + 1) (8 + 7 * n + 5) (nI 0)) M hM n 6 (by omega) (by decide) (nI 0)) (ml_K hM) (by decide) (Nat.le_of_ble_eq_true rfl) (Nat.le_refl _) (Nat.le_refl _) (fun S_64 im_64 h_64 => ?_)
  obtain ⟨rfl, rfl⟩ := h_64
  refine z_aload_n (pc := 67) C dX7_comes_67 rfl ?_
  refine gX7_9 (pc := 68) C dX7_comes_68 (ml_K hM) (ml_r0 hM) ?_
  refine z_iconstN (pc := 71) C 1 dX7_comes_71 ?_
  refine z_dup2 (pc := 72) C dX7_comes_72 rfl rfl ?_
  refine z_iald (pc := 73) C dX7_comes_73 (ml_a1 hM) (ml_n1 hM) (by omega) (by decide) ?_
  refine z_eqi (y := nI n) (by simp only [up2_s, upd]; rw [if_neg (by omega), if_neg (by omega), if_neg (by omega), if_neg (by omega), if_neg (by omega), if_neg (by omega), if_neg (by omega)]; exact hn1) ?_
  refine z_iconstN (pc := 74) C 1 dX7_comes_74 ?_
  refine z_iaddN (pc := 75) C dX7_comes_75 ?_
  refine z_iast (pc := 76) C dX7_comes_76 (ml_a1 hM) (ml_n1 hM) (by omega) (by decide) ?_
  refine z_iload (pc := 77) C dX7_comes_77 rfl ?_
  exact z_iret (pc := 79) C ρ dX7_comes_79 (⟨_, rfl, rfl, rfl, by simp only [up2, up_s, bx_uu]; rfl⟩)
