/-! the class: readText -/
theorem key_le (a : Nat → Int32) (s e : Nat) : ∀ r w, w + r = 3 → s_keyF a s e r w ≤ 3 := by
  intro r
  induction r with
  | zero => intro w _; exact Nat.le_refl _
  | succ r ih =>
    intro w h
    rw [s_keyF]
    split
    · omega
    · exact ih (w + 1) (by omega)
theorem txk_le (a : Nat → Int32) (T : Nat) : tx_key a T ≤ 3 := by
  unfold tx_key
  split
  · exact key_le a _ _ 3 0 rfl
  · exact Nat.le_refl _
theorem txk_1 {a : Nat → Int32} {T : Nat} (h : tx_key a T < 3) : tK a T 0 false = 1 := by
  unfold tx_key at h
  by_cases q : tK a T 0 false = 1
  · exact q
  · rw [if_neg q] at h; omega
theorem kyC_ge {k : Nat} (h : k ≤ 3) : 0 ≤ kyC k ↔ k < 3 := by
  rcases (show k = 0 ∨ k = 1 ∨ k = 2 ∨ k = 3 by omega) with rfl | rfl | rfl | rfl <;> decide
set_option maxRecDepth 100000 in
set_option maxHeartbeats 4000000 in
theorem c5_readText (l : Launch) (E : Ex) (S : Sx) (im : Mem) (R : Nat) (hR : RLay S R) (T : Nat) (hT : T ≤ 96) (hl : im R 1 = nI T) : Mt l E yX5_readText cX5_readText 1 (some .boolean) 147 0 0 [.ref R] S im (pI (fun v S' im' => S = S' ∧ frR R im im' ∧ ((tx_ok (im (R + 1)) T ∧ nI 1 = v ∧ PC0 (im (R + 1)) im' R T (tx_key (im (R + 1)) T) (tx_rd (im (R + 1)) T).2) ∨ (¬ tx_ok (im (R + 1)) T ∧ nI 0 = v ∧ im' R 3 = nI (tx_at (im (R + 1)) T))))) := by
  refine Mt.of (by decide +kernel) rfl rfl (Nat.le_of_ble_eq_true rfl) ?_
  intro κ hκ C ρ
  subst hκ
  show V E κ 1 0 0 0 [some (.ref R)] [] S im
  obtain ⟨a, ha⟩ : ∃ a, a = im (R + 1) := ⟨_, rfl⟩
  have hKle := txk_le a T
  rw [← ha] at ρ
  refine z_aload_n (pc := 0) C dX5_readText_0 rfl ?_
  refine z_iconstN (pc := 1) C 3 dX5_readText_1 ?_
  refine pX5_22 (pc := 2) C dX5_readText_2 hR.1 ?_
  refine z_aload_n (pc := 5) C dX5_readText_5 rfl ?_
  refine z_iconstN (pc := 6) C 0 dX5_readText_6 ?_
  refine pX5_25 (pc := 7) C dX5_readText_7 hR.1 ?_
  refine z_aload_n (pc := 10) C dX5_readText_10 rfl ?_
  refine z_iconstN (pc := 11) C 0 dX5_readText_11 ?_
  refine pX5_28 (pc := 12) C dX5_readText_12 hR.1 ?_
  refine z_aload_n (pc := 15) C dX5_readText_15 rfl ?_
  refine z_iconstN (pc := 16) C 0 dX5_readText_16 ?_
  refine pX5_31 (pc := 17) C dX5_readText_17 hR.1 ?_
  refine z_aload_n (pc := 20) C dX5_readText_20 rfl ?_
  refine kX5_34 (pc := 21) C dX5_readText_21 (c5_step κ.2.1 E S (up2 (up2 (up2 (up2 im R 2 (nI 3)) R 4 (nI 0)) R 6 (nI 0)) R 8 (nI 0)) R hR T hT (by simp [up2_at]; exact hl) 0 (Nat.zero_le _) (by simp [up2_at]) false (by simp [up2_at]; decide)) hR.1 (by decide) (Nat.le_of_ble_eq_true rfl) (Nat.le_refl _) (Nat.le_refl _) (fun S_21 im_21 h_21 => ?_)
  obtain ⟨rfl, g1, g2, g3, gj, gc⟩ := h_21
  have h21a : im_21 (R + 1) = a := by rw [gc _ (by omega), up2_n _ _ _ (by omega), up2_n _ _ _ (by omega), up2_n _ _ _ (by omega), up2_n _ _ _ (by omega)]; exact ha.symm
  have h1a : (up2 (up2 (up2 (up2 im R 2 (nI 3)) R 4 (nI 0)) R 6 (nI 0)) R 8 (nI 0)) (R + 1) = a := by rw [up2_n _ _ _ (by omega), up2_n _ _ _ (by omega), up2_n _ _ _ (by omega), up2_n _ _ _ (by omega)]; exact ha.symm
  rw [h1a] at g1 g2 g3
  have hl21 : im_21 R 1 = nI T := by rw [gj 1 (by decide) (by decide) (by decide)]; simp [up2_at]; exact hl
  have hk21 : TkC im_21 R T 0 false := by unfold TkC; rw [h21a]; exact ⟨g1, g2, g3⟩
  have h21f : frR R im im_21 := fun c q1 q2 => by rw [gc c q1, up2_n _ _ _ q1, up2_n _ _ _ q1, up2_n _ _ _ q1, up2_n _ _ _ q1]
  refine z_aload_n (pc := 24) C dX5_readText_24 rfl ?_
  refine z_aload_n (pc := 25) C dX5_readText_25 rfl ?_
  refine kX5_37 (pc := 26) C dX5_readText_26 (c5_keyHere κ.2.1 E S im_21 R hR T hT hl21 0 (Nat.zero_le _) false hk21) hR.1 (by decide) (Nat.le_of_ble_eq_true rfl) (Nat.le_refl _) (Nat.le_refl _) (fun v_26 S_26 im_26 h_26 => ?_)
  obtain ⟨rfl, rfl, rfl⟩ := h_26
  refine z_eqi (y := kyC (tx_key a T)) (by rw [h21a]; rfl) ?_
  refine pX5_41 (pc := 29) C dX5_readText_29 hR.1 ?_
  refine z_aload_n (pc := 32) C dX5_readText_32 rfl ?_
  refine gX5_41 (pc := 33) C dX5_readText_33 hR.1 ?_
  refine z_eqi (y := kyC (tx_key a T)) (by rw [up2_at, if_pos rfl]) ?_
  refine z_if_ge (pc := 36) C 41 dX5_readText_36 (by decide) (fun c_36 => ?_) (fun c_36 => ?_)
  · 
    have hK3 : tx_key a T < 3 := (kyC_ge hKle).mp c_36
    have hK1 := txk_1 hK3
    refine z_aload_n (pc := 41) C dX5_readText_41 rfl ?_
    refine kX5_34 (pc := 42) C dX5_readText_42 (c5_step κ.2.1 E S (up2 im_21 R 5 (kyC (tx_key a T))) R hR T hT (by rw [up2_at, if_neg (by decide)]; exact hl21) (tE a T 0) (tE_le (Nat.zero_le _)) (by rw [up2_at, if_neg (by decide)]; exact g3) true (by rw [up2_at, if_neg (by decide), g2, hK1]; decide)) hR.1 (by decide) (Nat.le_of_ble_eq_true rfl) (Nat.le_refl _) (Nat.le_refl _) (fun S_42 im_42 h_42 => ?_)
    obtain ⟨rfl, k1, k2, k3, kj, kc⟩ := h_42
    have h42a : im_42 (R + 1) = a := by rw [kc _ (by omega), up2_n _ _ _ (by omega)]; exact h21a
    have h42b : (up2 im_21 R 5 (kyC (tx_key a T))) (R + 1) = a := by rw [up2_n _ _ _ (by omega)]; exact h21a
    rw [h42b] at k1 k2 k3
    have h42 : PC0 a im_42 R T (tx_key a T) (tE a T 0, true, ([] : List Int32), 0) := ⟨h42a, by rw [kj 1 (by decide) (by decide) (by decide), up2_at, if_neg (by decide)]; exact hl21, ⟨k1, k2, k3⟩, by rw [kj 5 (by decide) (by decide) (by decide), up2_at, if_pos rfl, kyC, if_neg (by omega)], by rw [kj 6 (by decide) (by decide) (by decide), up2_at, if_neg (by decide), gj 6 (by decide) (by decide) (by decide)]; simp [up2_at], by rw [kj 8 (by decide) (by decide) (by decide), up2_at, if_neg (by decide), gj 8 (by decide) (by decide) (by decide)]; simp [up2_at], fun i hi => absurd hi (Nat.not_lt_zero _), tE_le (Nat.zero_le _)⟩
    have h42f : frR R im im_42 := fun c q1 q2 => by rw [kc c q1, up2_n _ _ _ q1]; exact h21f c q1 q2
    refine z_aload_n (pc := 45) C dX5_readText_45 rfl ?_
    refine z_iconstN (pc := 46) C 0 dX5_readText_46 ?_
    refine z_iconstN (pc := 47) C 0 dX5_readText_47 ?_
    refine z_iconstN (pc := 48) C 0 dX5_readText_48 ?_
    refine kX5_44 (pc := 49) C dX5_readText_49 ((c5_rd κ.2.1 E S R hR T hT (tx_key a T) hK3 a 70).1 im_42 0 0 0 (tE a T 0, true, ([] : List Int32), 0) (by decide) (by decide) (by decide) (by decide) h42 (Nat.zero_le _)) hR.1 (by decide) (Nat.le_of_ble_eq_true rfl) (Nat.le_refl _) (Nat.le_refl _) (fun v_49 S_49 im_49 h_49 => ?_)
    obtain ⟨rfl, fr_49, hres_49⟩ := h_49
    change ((tx_rd a T).1 = true ∧ _ ∧ PC0 a im_49 R T (tx_key a T) (tx_rd a T).2) ∨ ((tx_rd a T).1 = false ∧ _ ∧ im_49 R 3 = nI (tS a T (tx_rd a T).2.1)) at hres_49
    rcases hres_49 with ⟨e_49, rfl, st_49⟩ | ⟨e_49, rfl, st_49⟩
    · 
      refine z_if_eqF (pc := 52) C 66 dX5_readText_52 (by decide) (by decide) ?_
      refine z_aload_n (pc := 55) C dX5_readText_55 rfl ?_
      refine gX5_22 (pc := 56) C dX5_readText_56 hR.1 ?_
      refine z_eqi (y := nI (tK a T (tx_rd a T).2.1 (tx_rd a T).2.2.1)) (st_49.2.2.1.2.1) ?_
      refine z_if_neN (pc := 59) C 66 dX5_readText_59 (by decide) (by have := tK_le a T (tx_rd a T).2.1 (tx_rd a T).2.2.1; omega) (fun c_59 => ?_) (fun c_59 => ?_)
      · 
        refine z_iconstN (pc := 66) C 0 dX5_readText_66 ?_
        exact z_zret (pc := 67) C ρ dX5_readText_67 (by decide) (⟨_, rfl, rfl, h42f.tr fr_49, Or.inr ⟨fun q => c_59 q.2.2, rfl, by rw [tx_at, if_pos hK3]; exact st_49.2.2.1.1⟩⟩)
      · 
        refine z_iconstN (pc := 62) C 1 dX5_readText_62 ?_
        refine z_goto (pc := 63) C 67 dX5_readText_63 (by decide) ?_
        exact z_zret (pc := 67) C ρ dX5_readText_67 (by decide) (⟨_, rfl, rfl, h42f.tr fr_49, Or.inl ⟨⟨hK3, e_49, c_59⟩, rfl, st_49⟩⟩)
    · 
      refine z_if_eqT (pc := 52) C 66 dX5_readText_52 (by decide) (by decide) ?_
      refine z_iconstN (pc := 66) C 0 dX5_readText_66 ?_
      exact z_zret (pc := 67) C ρ dX5_readText_67 (by decide) (⟨_, rfl, rfl, h42f.tr fr_49, Or.inr ⟨fun q => by have q1 := q.2.1; rw [e_49] at q1; exact absurd q1 (by decide), rfl, by rw [tx_at, if_pos hK3]; exact st_49⟩⟩)
  · 
    refine z_iconstN (pc := 39) C 0 dX5_readText_39 ?_
    exact z_zret (pc := 40) C ρ dX5_readText_40 (by decide) (⟨_, rfl, rfl, (show frR R im _ from fun c q1 q2 => by rw [up2_n _ _ _ q1]; exact h21f c q1 q2), Or.inr ⟨fun q => c_36 ((kyC_ge hKle).mpr q.1), rfl, by rw [tx_at, if_neg (fun q => c_36 ((kyC_ge hKle).mpr q)), up2_at, if_neg (by decide)]; exact g1⟩⟩)
