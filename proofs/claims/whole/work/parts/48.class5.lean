/-! the class: lineUp -/
theorem rk_turn {im im' : Mem} {q n l0 : Nat} {f : Nat → Int32} (hr : SR im q f n) (hl : l0 < n) (hc : ∀ c, c ≠ q + 2 → im' c = im c) : s_rkC (im' q 3) (im' (q + 5 + l0) 4) (im' (q + 5 + l0) 1) = s_turn f l0 := by
  rw [hc q (by omega), hc (q + 5 + l0) (by omega), hr.2.1.2.2.1, hr.2.2 l0 hl 4 (by decide), hr.2.2 l0 hl 1 (by decide)]
  unfold s_rkC s_turn
  rw [nI_0]
theorem i_nlt2 {x y : Int32} (h : y ≤ x) : ¬ x < y := by rw [Int32.lt_iff_toInt_lt]; rw [Int32.le_iff_toInt_le] at h; omega
theorem i_lt2 {x y : Int32} (h : ¬ y ≤ x) : x < y := by rw [Int32.lt_iff_toInt_lt]; rw [Int32.le_iff_toInt_le] at h; omega
set_option maxRecDepth 100000 in
set_option maxHeartbeats 4000000 in
theorem c3_lineUp (l : Launch) (E : Ex) (S : Sx) (im : Mem) (q : Nat) (hs : SL S q) (f : Nat → Int32) (n : Nat) (hr : SR im q f n)  : Mt l E yX3_lineUp cX3_lineUp 4 none 2 0 0 [.ref q] S im (pV (fun S' im' => S = S' ∧ (∀ i, i < n → im' (q + 2) i = nI (ordA f n i)) ∧ ∀ c, c ≠ q + 2 → im' c = im c)) := by
  refine Mt.of (by decide +kernel) rfl rfl (Nat.le_of_ble_eq_true rfl) ?_
  intro κ hκ C ρ
  subst hκ
  show V E κ 4 0 0 0 [some (.ref q), none, none, none] [] S im
  have hn10 := hr.1.1
  have loop : ∀ (r i : Nat) (im' : Mem) (y2 y3 : Option Value), i + r = n → (∀ j, j < i → im' (q + 2) j = nI (ordA f i j)) → (∀ c, c ≠ q + 2 → im' c = im c) → V E κ 4 0 0 2 [some (.ref q), some (.int (nI i)), y2, y3] [] S im' := by
    intro r
    induction r with
    | zero =>
      intro i im' y2 y3 hi hL hc
      refine z_iload_n (pc := 2) C dX3_lineUp_2 rfl ?_
      refine z_aload_n (pc := 3) C dX3_lineUp_3 rfl ?_
      refine gX3_39 (pc := 4) C dX3_lineUp_4 (sl_K hs) ?_
      refine z_eqi (y := nI n) (by rw [hc q (by omega)]; exact hr.1.2.2) ?_
      refine z_icmp_geT (pc := 7) C 81 dX3_lineUp_7 (by decide) (nI_le (by omega) (by omega)) ?_
      exact z_vret (pc := 81) C ρ dX3_lineUp_81 (⟨rfl, rfl, fun j hj => by rw [show n = i by omega]; exact hL j (by omega), hc⟩)
    | succ r iho =>
      intro i im' y2 y3 hi hL hc
      have fin : ∀ (at_ : Nat) (im' : Mem), at_ ≤ i → (∀ j, j < at_ → im' (q + 2) j = nI (ordA f i j)) → (∀ j, at_ ≤ j → j < i → im' (q + 2) (j + 1) = nI (ordA f i j)) → (at_ < i → s_turn f i < s_turn f (ordA f i (at_))) → (∀ c, c ≠ q + 2 → im' c = im c) → (0 < at_ → ¬ s_turn f i < s_turn f (ordA f i (at_ - 1))) → V E κ 4 0 0 68 [some (.ref q), some (.int (nI i)), some (.int (s_turn f i)), some (.int (nI at_))] [] S im' := by
        intro at_ im' hat h1 h2 hg hc h0
        refine z_aload_n (pc := 68) C dX3_lineUp_68 rfl ?_
        refine gX3_17 (pc := 69) C dX3_lineUp_69 (sl_K hs) (sl_r2 hs) ?_
        refine z_iload_n (pc := 72) C dX3_lineUp_72 rfl ?_
        refine z_iload_n (pc := 73) C dX3_lineUp_73 rfl ?_
        refine z_iast (pc := 74) C dX3_lineUp_74 (sl_a2 hs) (sl_n2 hs) (by omega) (by decide) ?_
        refine z_iincN (pc := 75) C 1 dX3_lineUp_75 rfl (by decide) rfl ?_
        refine z_goto (pc := 78) C 2 dX3_lineUp_78 (by decide) ?_
        refine iho (i + 1) _ _ _ (by omega) (fun j hj => ?_) (fun c h => by rw [up2_n _ _ _ h]; exact hc c h)
        rw [up2_at, ordA_ins hat h0 hg j (by omega)]
        by_cases e : j = at_
        · rw [if_pos e, if_neg (by omega), if_pos e]
        · rw [if_neg e]
          by_cases e2 : j < at_
          · rw [if_pos e2]; exact h1 j e2
          · rw [if_neg e2, if_neg e]
            have := h2 (j - 1) (by omega) (by omega)
            rw [show j - 1 + 1 = j by omega] at this
            exact this
      have inner : ∀ (at_ : Nat) (im' : Mem), at_ ≤ i → (∀ j, j < at_ → im' (q + 2) j = nI (ordA f i j)) → (∀ j, at_ ≤ j → j < i → im' (q + 2) (j + 1) = nI (ordA f i j)) → (at_ < i → s_turn f i < s_turn f (ordA f i (at_))) → (∀ c, c ≠ q + 2 → im' c = im c) → V E κ 4 0 0 23 [some (.ref q), some (.int (nI i)), some (.int (s_turn f i)), some (.int (nI at_))] [] S im' := by
        intro at_
        induction at_ with
        | zero =>
          intro im' hat h1 h2 hg hc
          refine z_iload_n (pc := 23) C dX3_lineUp_23 rfl ?_
          refine z_if_leT (pc := 24) C 68 dX3_lineUp_24 (by decide) (by decide) ?_
          exact fin 0 im' (by omega) h1 h2 hg hc (fun h => absurd h (by omega))
        | succ a0 ih =>
          intro im' hat h1 h2 hg hc
          have hob : ordA f i a0 < i := ordA_lt (by omega)
          refine z_iload_n (pc := 23) C dX3_lineUp_23 rfl ?_
          refine z_if_leF (pc := 24) C 68 dX3_lineUp_24 (by decide) (nI_nle (by omega) (by omega)) ?_
          refine z_iload_n (pc := 27) C dX3_lineUp_27 rfl ?_
          refine z_aload_n (pc := 28) C dX3_lineUp_28 rfl ?_
          refine z_aload_n (pc := 29) C dX3_lineUp_29 rfl ?_
          refine gX3_11 (pc := 30) C dX3_lineUp_30 (sl_K hs) (sl_r0 hs) ?_
          refine z_aload_n (pc := 33) C dX3_lineUp_33 rfl ?_
          refine gX3_17 (pc := 34) C dX3_lineUp_34 (sl_K hs) (sl_r2 hs) ?_
          refine z_iload_n (pc := 37) C dX3_lineUp_37 rfl ?_
          refine z_iconstN (pc := 38) C 1 dX3_lineUp_38 ?_
          refine z_isubN (pc := 39) C dX3_lineUp_39 (by omega) ?_
          refine z_iald (pc := 40) C dX3_lineUp_40 (sl_a2 hs) (sl_n2 hs) (by omega) (by decide) ?_
          refine z_eqi (y := nI (ordA f i a0)) (h1 a0 (by omega)) ?_
          refine z_aald (pc := 41) C dX3_lineUp_41 (sl_a1 hs) (by decide) (sl_n1 hs) (by omega) (by decide) (sl_e hs (i := ordA f i a0) (by omega)) ?_
          refine kX3_99 (pc := 42) C dX3_lineUp_42 (c3_rankOf κ.2.1 E S im' q hs (q + 5 + ordA f i a0) (sl_l hs (by omega))) (sl_K hs) (by decide) (Nat.le_of_ble_eq_true rfl) (Nat.le_refl _) (Nat.le_refl _) (fun v_42 S_42 im_42 h_42 => ?_)
          obtain ⟨rfl, rfl, rfl⟩ := h_42
          refine z_eqi (y := s_turn f (ordA f i a0)) (rk_turn hr (by omega) hc) ?_
          refine z_icmp_ge (pc := 45) C 68 dX3_lineUp_45 (by decide) (fun c_45 => ?_) (fun c_45 => ?_)
          · 
            exact fin (a0 + 1) im' (by omega) h1 h2 hg hc (fun _ => i_nlt2 c_45)
          · 
            refine z_aload_n (pc := 48) C dX3_lineUp_48 rfl ?_
            refine gX3_17 (pc := 49) C dX3_lineUp_49 (sl_K hs) (sl_r2 hs) ?_
            refine z_iload_n (pc := 52) C dX3_lineUp_52 rfl ?_
            refine z_aload_n (pc := 53) C dX3_lineUp_53 rfl ?_
            refine gX3_17 (pc := 54) C dX3_lineUp_54 (sl_K hs) (sl_r2 hs) ?_
            refine z_iload_n (pc := 57) C dX3_lineUp_57 rfl ?_
            refine z_iconstN (pc := 58) C 1 dX3_lineUp_58 ?_
            refine z_isubN (pc := 59) C dX3_lineUp_59 (by omega) ?_
            refine z_iald (pc := 60) C dX3_lineUp_60 (sl_a2 hs) (sl_n2 hs) (by omega) (by decide) ?_
            refine z_eqi (y := nI (ordA f i a0)) (h1 a0 (by omega)) ?_
            refine z_iast (pc := 61) C dX3_lineUp_61 (sl_a2 hs) (sl_n2 hs) (by omega) (by decide) ?_
            refine z_iinc (pc := 62) C dX3_lineUp_62 rfl (pr_dec (by omega)) (by decide) rfl ?_
            refine z_goto (pc := 65) C 23 dX3_lineUp_65 (by decide) ?_
            refine ih _ (by omega) (fun j hj => ?_) (fun j h3 h4 => ?_) (fun _ => i_lt2 c_45) (fun c h => by rw [up2_n _ _ _ h]; exact hc c h)
            · rw [up2_at, if_neg (by omega)]; exact h1 j (by omega)
            · rw [up2_at]
              by_cases e : j = a0
              · rw [if_pos (by omega), e]
              · rw [if_neg (by omega)]; exact h2 j (by omega) h4
      refine z_iload_n (pc := 2) C dX3_lineUp_2 rfl ?_
      refine z_aload_n (pc := 3) C dX3_lineUp_3 rfl ?_
      refine gX3_39 (pc := 4) C dX3_lineUp_4 (sl_K hs) ?_
      refine z_eqi (y := nI n) (by rw [hc q (by omega)]; exact hr.1.2.2) ?_
      refine z_icmp_geF (pc := 7) C 81 dX3_lineUp_7 (by decide) (nI_ge (by omega) (by omega)) ?_
      refine z_aload_n (pc := 10) C dX3_lineUp_10 rfl ?_
      refine z_aload_n (pc := 11) C dX3_lineUp_11 rfl ?_
      refine gX3_11 (pc := 12) C dX3_lineUp_12 (sl_K hs) (sl_r0 hs) ?_
      refine z_iload_n (pc := 15) C dX3_lineUp_15 rfl ?_
      refine z_aald (pc := 16) C dX3_lineUp_16 (sl_a1 hs) (by decide) (sl_n1 hs) (by omega) (by decide) (sl_e hs (i := i) (by omega)) ?_
      refine kX3_99 (pc := 17) C dX3_lineUp_17 (c3_rankOf κ.2.1 E S im' q hs (q + 5 + i) (sl_l hs (by omega))) (sl_K hs) (by decide) (Nat.le_of_ble_eq_true rfl) (Nat.le_refl _) (Nat.le_refl _) (fun v_17 S_17 im_17 h_17 => ?_)
      obtain ⟨rfl, rfl, rfl⟩ := h_17
      refine z_eqi (y := s_turn f i) (rk_turn hr (by omega) hc) ?_
      refine z_istore_n (pc := 20) C dX3_lineUp_20 (by decide) rfl ?_
      refine z_iload_n (pc := 21) C dX3_lineUp_21 rfl ?_
      refine z_istore_n (pc := 22) C dX3_lineUp_22 (by decide) rfl ?_
      exact inner i im' (by omega) hL (fun j h3 h4 => absurd h4 (by omega)) (fun h => absurd h (by omega)) hc
  refine z_iconstN (pc := 0) C 0 dX3_lineUp_0 ?_
  refine z_istore_n (pc := 1) C dX3_lineUp_1 (by decide) rfl ?_
  exact loop n 0 im _ _ (by omega) (fun j h => absurd h (Nat.not_lt_zero _)) (fun _ _ => rfl)
