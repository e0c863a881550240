/-! the class: a sheet cleared; keys -/
set_option maxRecDepth 100000 in
set_option maxHeartbeats 4000000 in
theorem c1_clear (l : Launch) (E : Ex) (S : Sx) (im : Mem) (q : Nat) (hs : TL S q) (k w : Int32) : Mt l E yX1_clear cX1_clear 4 none 1 0 0 [.ref q, .int k, .int w] S im (pV (fun S' im' => S = S' ∧ im' q = upd (upd (im q) 0 k) 1 (s_mx (nI 0) (s_mn w (nI 24))) ∧ (∀ i, im' (q + 1) i = if i < 24 then 0 else im (q + 1) i) ∧ ∀ c, c ≠ q → c ≠ q + 1 → im' c = im c)) := by
  refine Mt.of (by decide +kernel) rfl rfl (Nat.le_of_ble_eq_true rfl) ?_
  intro κ hκ C ρ
  subst hκ
  show V E κ 4 0 0 0 [some (.ref q), some (.int k), some (.int w), none] [] S im
  have loop : ∀ (im1 : Mem), im1 q = upd (upd (im q) 0 k) 1 (s_mx (nI 0) (s_mn w (nI 24))) → (∀ c, c ≠ q → im1 c = im c) → ∀ (r j : Nat) (im' : Mem), j + r = 24 → (∀ i, im' (q + 1) i = if i < j then 0 else im (q + 1) i) → (∀ c, c ≠ q + 1 → im' c = im1 c) → V E κ 4 0 0 21 [some (.ref q), some (.int k), some (.int w), some (.int (nI j))] [] S im' := by
    intro im1 h1 h2 r
    induction r with
    | zero =>
      intro j im' hj hz ho
      refine z_iload_n (pc := 21) C dX1_clear_21 rfl ?_
      refine z_bipushN (pc := 22) C 24 (by decide) dX1_clear_22 ?_
      refine z_icmp_geT (pc := 24) C 40 dX1_clear_24 (by decide) (nI_le (by omega) (by omega)) ?_
      exact z_vret (pc := 40) C ρ dX1_clear_40 (⟨rfl, rfl, by rw [ho _ (by omega)]; exact h1, fun i => by rw [hz i, show j = 24 by omega], fun c q1 q2 => by rw [ho c q2]; exact h2 c q1⟩)
    | succ r ih =>
      intro j im' hj hz ho
      refine z_iload_n (pc := 21) C dX1_clear_21 rfl ?_
      refine z_bipushN (pc := 22) C 24 (by decide) dX1_clear_22 ?_
      refine z_icmp_geF (pc := 24) C 40 dX1_clear_24 (by decide) (nI_ge (by omega) (by omega)) ?_
      refine z_aload_n (pc := 27) C dX1_clear_27 rfl ?_
      refine gX1_15 (pc := 28) C dX1_clear_28 hs.1 hs.2.1 ?_
      refine z_iload_n (pc := 31) C dX1_clear_31 rfl ?_
      refine z_iconstN (pc := 32) C 0 dX1_clear_32 ?_
      refine z_iast (pc := 33) C dX1_clear_33 hs.2.2.1 hs.2.2.2 (by omega) (by decide) ?_
      refine z_iincN (pc := 34) C 1 dX1_clear_34 rfl (by decide) rfl ?_
      refine z_goto (pc := 37) C 21 dX1_clear_37 (by decide) ?_
      refine ih (j + 1) _ (by omega) (fun i => ?_) (fun c h => by rw [up2_n _ _ _ h]; exact ho c h)
      rw [up2_at]
      by_cases e : i = j
      · rw [if_pos e, if_pos (by omega)]; rfl
      · rw [if_neg e, hz i]
        by_cases e2 : i < j
        · rw [if_pos e2, if_pos (by omega)]
        · rw [if_neg e2, if_neg (by omega)]
  refine z_aload_n (pc := 0) C dX1_clear_0 rfl ?_
  refine z_iload_n (pc := 1) C dX1_clear_1 rfl ?_
  refine pX1_11 (pc := 2) C dX1_clear_2 hs.1 ?_
  refine z_aload_n (pc := 5) C dX1_clear_5 rfl ?_
  refine z_iconstN (pc := 6) C 0 dX1_clear_6 ?_
  refine z_iload_n (pc := 7) C dX1_clear_7 rfl ?_
  refine z_bipushN (pc := 8) C 24 (by decide) dX1_clear_8 ?_
  refine z_min (pc := 10) C dX1_clear_10 wm_X1_19 (by decide) (Nat.le_of_ble_eq_true rfl) (Nat.zero_le _) (Nat.zero_le _) ?_
  refine z_max (pc := 13) C dX1_clear_13 wm_X1_25 (by decide) (Nat.le_of_ble_eq_true rfl) (Nat.zero_le _) (Nat.zero_le _) ?_
  refine pX1_28 (pc := 16) C dX1_clear_16 hs.1 ?_
  refine z_iconstN (pc := 19) C 0 dX1_clear_19 ?_
  refine z_istore_n (pc := 20) C dX1_clear_20 (by decide) rfl ?_
  exact loop _ (by rw [up2_s, up2_s]; rfl) (fun c h => by rw [up2_n _ _ _ h, up2_n _ _ _ h]) 24 0 _ (by omega) (fun i => by rw [up2_n _ _ _ (by omega), up2_n _ _ _ (by omega), if_neg (by omega)]) (fun _ _ => rfl)
set_option maxRecDepth 100000 in
set_option maxHeartbeats 4000000 in
theorem c4_isKey (l : Launch) (E : Ex) (S : Sx) (im : Mem) (x : Int32) : Mt l E yX4_isKey cX4_isKey 1 (some .boolean) 1 0 0 [.int x] S im (pI (pB S im (nI 0 ≤ x ∧ x ≤ nI 2))) := by
  refine Mt.of (by decide +kernel) rfl rfl (Nat.le_of_ble_eq_true rfl) ?_
  intro κ hκ C ρ
  subst hκ
  show V E κ 1 0 0 0 [some (.int x)] [] S im
  refine z_iconstN (pc := 0) C 0 dX4_isKey_0 ?_
  refine z_iload_n (pc := 1) C dX4_isKey_1 rfl ?_
  refine z_icmp_gt (pc := 2) C 14 dX4_isKey_2 (by decide) (fun c_2 => ?_) (fun c_2 => ?_)
  · 
    refine z_iconstN (pc := 14) C 0 dX4_isKey_14 ?_
    exact z_zret (pc := 15) C ρ dX4_isKey_15 (by decide) (⟨_, rfl, Or.inr ⟨fun h => i_nlt c_2 h.1, rfl, rfl, rfl⟩⟩)
  · 
    refine z_iload_n (pc := 5) C dX4_isKey_5 rfl ?_
    refine z_iconstN (pc := 6) C 3 dX4_isKey_6 ?_
    refine z_icmp_ge (pc := 7) C 14 dX4_isKey_7 (by decide) (fun c_7 => ?_) (fun c_7 => ?_)
    · 
      refine z_iconstN (pc := 14) C 0 dX4_isKey_14 ?_
      exact z_zret (pc := 15) C ρ dX4_isKey_15 (by decide) (⟨_, rfl, Or.inr ⟨fun h => by have h2 := h.2; rw [Int32.le_iff_toInt_le, nI_toInt (by decide)] at h2 c_7; omega, rfl, rfl, rfl⟩⟩)
    · 
      refine z_iconstN (pc := 10) C 1 dX4_isKey_10 ?_
      refine z_goto (pc := 11) C 15 dX4_isKey_11 (by decide) ?_
      exact z_zret (pc := 15) C ρ dX4_isKey_15 (by decide) (⟨_, rfl, Or.inl ⟨⟨i_le c_2, by rw [Int32.le_iff_toInt_le, nI_toInt (by decide)]; rw [Int32.le_iff_toInt_le, nI_toInt (by decide)] at c_7; omega⟩, rfl, rfl, rfl⟩⟩)
