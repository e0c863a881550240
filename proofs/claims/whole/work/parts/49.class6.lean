/-! the class: foremost, hindmostWalked -/
set_option maxRecDepth 100000 in
set_option maxHeartbeats 4000000 in
theorem c3_foremost (l : Launch) (E : Ex) (S : Sx) (im : Mem) (q : Nat) (hs : SL S q) (f : Nat → Int32) (n : Nat) (hr : SR im q f n)  : Mt l E yX3_foremost cX3_foremost 1 (some .int) 3 0 0 [.ref q] S im (pI (fun v S' im' => s_told0 (s_firstN f n) = v ∧ S = S' ∧ ∀ c, c ≠ q + 2 → im' c = im c)) := by
  refine Mt.of (by decide +kernel) rfl rfl (Nat.le_of_ble_eq_true rfl) ?_
  intro κ hκ C ρ
  subst hκ
  show V E κ 1 0 0 0 [some (.ref q)] [] S im
  refine z_aload_n (pc := 0) C dX3_foremost_0 rfl ?_
  refine gX3_39 (pc := 1) C dX3_foremost_1 (sl_K hs) ?_
  refine z_eqi (y := nI n) (hr.1.2.2) ?_
  refine z_if_neN (pc := 4) C 10 dX3_foremost_4 (by decide) (by have := hr.1.1; omega) (fun c_4 => ?_) (fun c_4 => ?_)
  · 
    refine z_aload_n (pc := 10) C dX3_foremost_10 rfl ?_
    refine kX3_103 (pc := 11) C dX3_foremost_11 (c3_lineUp κ.2.1 E S im q hs f n hr) (sl_K hs) (by decide) (Nat.le_of_ble_eq_true rfl) (Nat.le_refl _) (Nat.le_refl _) (fun S_11 im_11 h_11 => ?_)
    obtain ⟨rfl, hL, hc⟩ := h_11
    refine z_aload_n (pc := 14) C dX3_foremost_14 rfl ?_
    refine gX3_17 (pc := 15) C dX3_foremost_15 (sl_K hs) (sl_r2 hs) ?_
    refine z_iconstN (pc := 18) C 0 dX3_foremost_18 ?_
    refine z_iald (pc := 19) C dX3_foremost_19 (sl_a2 hs) (sl_n2 hs) (by omega) (by decide) ?_
    refine z_eqi (y := nI (ordA f n 0)) (hL 0 (by omega)) ?_
    exact z_iret (pc := 20) C ρ dX3_foremost_20 (⟨_, rfl, by rw [s_firstN, if_neg c_4, s_told0, if_pos (nI_pos' (by have h1 := ordA_lt (f := f) (n := n) (i := 0) (by omega); have h2 := hr.1.1; omega))], rfl, hc⟩)
  · 
    refine z_ldc (pc := 7) C dX3_foremost_7 wk_X3_34 ?_
    exact z_iret (pc := 9) C ρ dX3_foremost_9 (⟨_, rfl, by rw [s_firstN, if_pos c_4]; rfl, rfl, fun _ _ => rfl⟩)
set_option maxRecDepth 100000 in
set_option maxHeartbeats 4000000 in
theorem c3_hindmost (l : Launch) (E : Ex) (S : Sx) (im : Mem) (q : Nat) (hs : SL S q) (n : Nat) (hn : n ≤ 10) (hc1 : im q 1 = nI n) (hn0 : ¬ n = 0) : Mt l E yX3_hindmostWalked cX3_hindmostWalked 1 (some .int) 1 0 0 [.ref q] S im (pI (pE S im (im (q + 2) (n - 1)))) := by
  refine Mt.of (by decide +kernel) rfl rfl (Nat.le_of_ble_eq_true rfl) ?_
  intro κ hκ C ρ
  subst hκ
  show V E κ 1 0 0 0 [some (.ref q)] [] S im
  refine z_aload_n (pc := 0) C dX3_hindmostWalked_0 rfl ?_
  refine gX3_39 (pc := 1) C dX3_hindmostWalked_1 (sl_K hs) ?_
  refine z_eqi (y := nI n) (hc1) ?_
  refine z_if_neT (pc := 4) C 11 dX3_hindmostWalked_4 (by decide) (nI_ne0 (by omega) (by omega)) ?_
  refine z_aload_n (pc := 11) C dX3_hindmostWalked_11 rfl ?_
  refine gX3_17 (pc := 12) C dX3_hindmostWalked_12 (sl_K hs) (sl_r2 hs) ?_
  refine z_aload_n (pc := 15) C dX3_hindmostWalked_15 rfl ?_
  refine gX3_39 (pc := 16) C dX3_hindmostWalked_16 (sl_K hs) ?_
  refine z_eqi (y := nI n) (hc1) ?_
  refine z_iconstN (pc := 19) C 1 dX3_hindmostWalked_19 ?_
  refine z_isubN (pc := 20) C dX3_hindmostWalked_20 (by omega) ?_
  refine z_iald (pc := 21) C dX3_hindmostWalked_21 (sl_a2 hs) (sl_n2 hs) (by omega) (by decide) ?_
  exact z_iret (pc := 22) C ρ dX3_hindmostWalked_22 (⟨_, rfl, rfl, rfl, rfl⟩)
