/-! the reference: the calls of lamps and nights -/
def r_lamp (n : Nat) (k p o u : Int32) : Int32 := if nI 0 ≤ k ∧ k ≤ nI 5 then (if nI 0 ≤ p ∧ p ≤ nI 99 then (if nI 0 ≤ o ∧ o ≤ nI 999 then (if nI 0 ≤ u ∧ u ≤ nI 99 then (if n = 10 then -1000000003 else nI n) else -1000000001) else -1000000001) else -1000000001) else -1000000001
def f_lamp (f : Nat → Int32) (n : Nat) (k p o u : Int32) : Nat → Int32 := if nI 0 ≤ k ∧ k ≤ nI 5 then (if nI 0 ≤ p ∧ p ≤ nI 99 then (if nI 0 ≤ o ∧ o ≤ nI 999 then (if nI 0 ≤ u ∧ u ≤ nI 99 then (if n = 10 then f else s_comes f n k p o u) else f) else f) else f) else f
set_option maxRecDepth 100000 in
set_option maxHeartbeats 4000000 in
theorem m7_lamp (l : Launch) (E : Ex) (S : Sx) (im : Mem) (M : Nat) (hM : ML S M) (n n7 : Nat) (f : Nat → Int32) (hf0 : im (M + 1) = f) (hok : MOk f n n7) (k p o u : Int32) : Mt l E yX7_lamp cX7_lamp 5 (some .int) 3 0 0 [.ref M, .int k, .int p, .int o, .int u] S im (pI (pP S im M (r_lamp n k p o u) (f_lamp f n k p o u))) := by
  refine Mt.of (by decide +kernel) rfl rfl (Nat.le_of_ble_eq_true rfl) ?_
  intro κ hκ C ρ
  subst hκ
  show V E κ 5 0 0 0 [some (.ref M), some (.int k), some (.int p), some (.int o), some (.int u)] [] S im
  have hn10 := hok.1.1
  refine z_iload_n (pc := 0) C dX7_lamp_0 rfl ?_
  refine z_iconstN (pc := 1) C 0 dX7_lamp_1 ?_
  refine z_iconstN (pc := 2) C 5 dX7_lamp_2 ?_
  refine kX7_92 (pc := 3) C dX7_lamp_3 (m7_in κ.2.1 E S im (k) (nI 0) (nI 5)) (by decide) (Nat.le_of_ble_eq_true rfl) (Nat.le_refl _) (Nat.le_refl _) (fun v_3 S_3 im_3 h_3 => ?_)
  rcases h_3 with ⟨hb_3, rfl, rfl, rfl⟩ | ⟨hb_3, rfl, rfl, rfl⟩
  · 
    refine z_if_eqF (pc := 6) C 41 dX7_lamp_6 (by decide) (by decide) ?_
    refine z_iload_n (pc := 9) C dX7_lamp_9 rfl ?_
    refine z_iconstN (pc := 10) C 0 dX7_lamp_10 ?_
    refine z_bipushN (pc := 11) C 99 (by decide) dX7_lamp_11 ?_
    refine kX7_92 (pc := 13) C dX7_lamp_13 (m7_in κ.2.1 E S im (p) (nI 0) (nI 99)) (by decide) (Nat.le_of_ble_eq_true rfl) (Nat.le_refl _) (Nat.le_refl _) (fun v_13 S_13 im_13 h_13 => ?_)
    rcases h_13 with ⟨hb_13, rfl, rfl, rfl⟩ | ⟨hb_13, rfl, rfl, rfl⟩
    · 
      refine z_if_eqF (pc := 16) C 41 dX7_lamp_16 (by decide) (by decide) ?_
      refine z_iload_n (pc := 19) C dX7_lamp_19 rfl ?_
      refine z_iconstN (pc := 20) C 0 dX7_lamp_20 ?_
      refine z_sipush (v := nI 999) (pc := 21) C dX7_lamp_21 (by decide +kernel) ?_
      refine kX7_92 (pc := 24) C dX7_lamp_24 (m7_in κ.2.1 E S im (o) (nI 0) (nI 999)) (by decide) (Nat.le_of_ble_eq_true rfl) (Nat.le_refl _) (Nat.le_refl _) (fun v_24 S_24 im_24 h_24 => ?_)
      rcases h_24 with ⟨hb_24, rfl, rfl, rfl⟩ | ⟨hb_24, rfl, rfl, rfl⟩
      · 
        refine z_if_eqF (pc := 27) C 41 dX7_lamp_27 (by decide) (by decide) ?_
        refine z_iload (pc := 30) C dX7_lamp_30 rfl ?_
        refine z_iconstN (pc := 32) C 0 dX7_lamp_32 ?_
        refine z_bipushN (pc := 33) C 99 (by decide) dX7_lamp_33 ?_
        refine kX7_92 (pc := 35) C dX7_lamp_35 (m7_in κ.2.1 E S im (u) (nI 0) (nI 99)) (by decide) (Nat.le_of_ble_eq_true rfl) (Nat.le_refl _) (Nat.le_refl _) (fun v_35 S_35 im_35 h_35 => ?_)
        rcases h_35 with ⟨hb_35, rfl, rfl, rfl⟩ | ⟨hb_35, rfl, rfl, rfl⟩
        · 
          refine z_if_neT (pc := 38) C 44 dX7_lamp_38 (by decide) (by decide) ?_
          refine z_aload_n (pc := 44) C dX7_lamp_44 rfl ?_
          refine gX7_9 (pc := 45) C dX7_lamp_45 (ml_K hM) (ml_r0 hM) ?_
          refine z_iconstN (pc := 48) C 1 dX7_lamp_48 ?_
          refine z_iald (pc := 49) C dX7_lamp_49 (ml_a1 hM) (ml_n1 hM) (by omega) (by decide) ?_
          refine z_eqi (y := nI n) (by rw [hf0]; exact hok.1.2) ?_
          refine z_bipushN (pc := 50) C 10 (by decide) dX7_lamp_50 ?_
          refine z_icmp_neN (pc := 52) C 60 dX7_lamp_52 (by decide) (by omega) (by omega) (fun c_52 => ?_) (fun c_52 => ?_)
          · 
            refine z_aload_n (pc := 60) C dX7_lamp_60 rfl ?_
            refine z_iload_n (pc := 61) C dX7_lamp_61 rfl ?_
            refine z_iload_n (pc := 62) C dX7_lamp_62 rfl ?_
            refine z_iload_n (pc := 63) C dX7_lamp_63 rfl ?_
            refine z_iload (pc := 64) C dX7_lamp_64 rfl ?_
            refine kX7_102 (pc := 66) C dX7_lamp_66 (m7_comes κ.2.1 E S im M hM k p o u n (by have := hok.1.1; omega) (by rw [hf0]; exact hok.1.2)) (ml_K hM) (by decide) (Nat.le_of_ble_eq_true rfl) (Nat.le_refl _) (Nat.le_refl _) (fun v_66 S_66 im_66 h_66 => ?_)
            obtain ⟨rfl, rfl, rfl⟩ := h_66
            exact z_iret (pc := 69) C ρ dX7_lamp_69 (⟨_, rfl, by simp only [r_lamp, if_pos hb_3, if_pos hb_13, if_pos hb_24, if_pos hb_35, if_neg c_52], rfl, by first | (simp only [f_lamp, if_pos hb_3, if_pos hb_13, if_pos hb_24, if_pos hb_35, if_neg c_52]; exact hf0) | (simp only [f_lamp, if_pos hb_3, if_pos hb_13, if_pos hb_24, if_pos hb_35, if_neg c_52]; rw [up_s, hf0]), by first | exact frP.rf | exact frP.va⟩)
          · 
            refine z_ldc (pc := 55) C dX7_lamp_55 wk_X7_101 ?_
            refine z_goto (pc := 57) C 69 dX7_lamp_57 (by decide) ?_
            exact z_iret (pc := 69) C ρ dX7_lamp_69 (⟨_, rfl, by simp only [r_lamp, if_pos hb_3, if_pos hb_13, if_pos hb_24, if_pos hb_35, if_pos c_52], rfl, by first | (simp only [f_lamp, if_pos hb_3, if_pos hb_13, if_pos hb_24, if_pos hb_35, if_pos c_52]; exact hf0) | (simp only [f_lamp, if_pos hb_3, if_pos hb_13, if_pos hb_24, if_pos hb_35, if_pos c_52]; rw [up_s, hf0]), by first | exact frP.rf | exact frP.va⟩)
        · 
          refine z_if_neF (pc := 38) C 44 dX7_lamp_38 (by decide) (by decide) ?_
          refine z_ldc (pc := 41) C dX7_lamp_41 wk_X7_100 ?_
          exact z_iret (pc := 43) C ρ dX7_lamp_43 (⟨_, rfl, by simp only [r_lamp, if_pos hb_3, if_pos hb_13, if_pos hb_24, if_neg hb_35], rfl, by simp only [f_lamp, if_pos hb_3, if_pos hb_13, if_pos hb_24, if_neg hb_35]; exact hf0, frP.rf⟩)
      · 
        refine z_if_eqT (pc := 27) C 41 dX7_lamp_27 (by decide) (by decide) ?_
        refine z_ldc (pc := 41) C dX7_lamp_41 wk_X7_100 ?_
        exact z_iret (pc := 43) C ρ dX7_lamp_43 (⟨_, rfl, by simp only [r_lamp, if_pos hb_3, if_pos hb_13, if_neg hb_24], rfl, by simp only [f_lamp, if_pos hb_3, if_pos hb_13, if_neg hb_24]; exact hf0, frP.rf⟩)
    · 
      refine z_if_eqT (pc := 16) C 41 dX7_lamp_16 (by decide) (by decide) ?_
      refine z_ldc (pc := 41) C dX7_lamp_41 wk_X7_100 ?_
      exact z_iret (pc := 43) C ρ dX7_lamp_43 (⟨_, rfl, by simp only [r_lamp, if_pos hb_3, if_neg hb_13], rfl, by simp only [f_lamp, if_pos hb_3, if_neg hb_13]; exact hf0, frP.rf⟩)
  · 
    refine z_if_eqT (pc := 6) C 41 dX7_lamp_6 (by decide) (by decide) ?_
    refine z_ldc (pc := 41) C dX7_lamp_41 wk_X7_100 ?_
    exact z_iret (pc := 43) C ρ dX7_lamp_43 (⟨_, rfl, by simp only [r_lamp, if_neg hb_3], rfl, by simp only [f_lamp, if_neg hb_3]; exact hf0, frP.rf⟩)
def r_told (f : Nat → Int32) (n n7 : Nat) (x w : Int32) : Int32 := if lmp n x then (if nI 0 ≤ w ∧ w ≤ nI 8 then (if nI 7 ≤ w then (if w = nI 7 then s_burns f n7 x.toNatClampNeg else s_worth (f (8 + 7 * x.toNatClampNeg + 0)) (f (8 + 7 * x.toNatClampNeg + 1))) else f (8 + 7 * x.toNatClampNeg + w.toNatClampNeg)) else -1000000001) else -1000000001
theorem w_ge {a b : Nat} (ha : a < 2 ^ 31) (hb : b < 2 ^ 31) (h : b ≤ a) : nI b ≤ nI a := nI_le h ha
set_option maxRecDepth 100000 in
set_option maxHeartbeats 4000000 in
theorem m7_told (l : Launch) (E : Ex) (S : Sx) (im : Mem) (M : Nat) (hM : ML S M) (n n7 : Nat) (f : Nat → Int32) (hf0 : im (M + 1) = f) (hok : MOk f n n7) (x w : Int32) : Mt l E yX7_told cX7_told 3 (some .int) 4 0 0 [.ref M, .int x, .int w] S im (pI (pP S im M (r_told f n n7 x w) (f))) := by
  refine Mt.of (by decide +kernel) rfl rfl (Nat.le_of_ble_eq_true rfl) ?_
  intro κ hκ C ρ
  subst hκ
  show V E κ 3 0 0 0 [some (.ref M), some (.int x), some (.int w)] [] S im
  refine z_aload_n (pc := 0) C dX7_told_0 rfl ?_
  refine z_iload_n (pc := 1) C dX7_told_1 rfl ?_
  refine kX7_121 (pc := 2) C dX7_told_2 (m7_isLmp κ.2.1 E S im M hM x n hok.1.1 (by rw [hf0]; exact hok.1.2)) (ml_K hM) (by decide) (Nat.le_of_ble_eq_true rfl) (Nat.le_refl _) (Nat.le_refl _) (fun v_2 S_2 im_2 h_2 => ?_)
  rcases h_2 with ⟨hb_2, rfl, rfl, rfl⟩ | ⟨hb_2, rfl, rfl, rfl⟩
  · 
    obtain ⟨l0, hl0, rfl⟩ := (in_lamp hok.1.1).mp hb_2
    refine z_if_eqF (pc := 5) C 18 dX7_told_5 (by decide) (by decide) ?_
    refine z_iload_n (pc := 8) C dX7_told_8 rfl ?_
    refine z_iconstN (pc := 9) C 0 dX7_told_9 ?_
    refine z_bipushN (pc := 10) C 8 (by decide) dX7_told_10 ?_
    refine kX7_92 (pc := 12) C dX7_told_12 (m7_in κ.2.1 E S im (w) (nI 0) (nI 8)) (by decide) (Nat.le_of_ble_eq_true rfl) (Nat.le_refl _) (Nat.le_refl _) (fun v_12 S_12 im_12 h_12 => ?_)
    rcases h_12 with ⟨hb_12, rfl, rfl, rfl⟩ | ⟨hb_12, rfl, rfl, rfl⟩
    · 
      obtain ⟨w0, hw00, hw0, rfl⟩ := (rng (by decide) (by decide)).mp hb_12
      refine z_if_neT (pc := 15) C 21 dX7_told_15 (by decide) (by decide) ?_
      refine z_iload_n (pc := 21) C dX7_told_21 rfl ?_
      refine z_bipushN (pc := 22) C 7 (by decide) dX7_told_22 ?_
      refine z_icmp_ge (pc := 24) C 36 dX7_told_24 (by decide) (fun c_24 => ?_) (fun c_24 => ?_)
      · 
        refine z_iload_n (pc := 36) C dX7_told_36 rfl ?_
        refine z_bipushN (pc := 37) C 7 (by decide) dX7_told_37 ?_
        refine z_icmp_ne (pc := 39) C 50 dX7_told_39 (by decide) (fun c_39 => ?_) (fun c_39 => ?_)
        · 
          refine z_aload_n (pc := 50) C dX7_told_50 rfl ?_
          refine z_iload_n (pc := 51) C dX7_told_51 rfl ?_
          refine kX7_128 (pc := 52) C dX7_told_52 (m7_worthOf κ.2.1 E S im M hM l0 (by have := hok.1.1; omega)) (ml_K hM) (by decide) (Nat.le_of_ble_eq_true rfl) (Nat.le_refl _) (Nat.le_refl _) (fun v_52 S_52 im_52 h_52 => ?_)
          obtain ⟨rfl, rfl, rfl⟩ := h_52
          exact z_iret (pc := 55) C ρ dX7_told_55 (⟨_, rfl, by simp only [r_told, if_pos hb_2, if_pos hb_12, if_pos c_24, if_neg c_39, hf0, nI_clamp (show l0 < 2 ^ 31 by have := hok.1.1; omega), nI_clamp (show w0 < 2 ^ 31 by omega)], rfl, by first | exact hf0 | (rw [hx _ (by omega) (by omega)]; exact hf0), by first | exact frP.rf | exact hx.P⟩)
        · 
          refine z_aload_n (pc := 42) C dX7_told_42 rfl ?_
          refine z_iload_n (pc := 43) C dX7_told_43 rfl ?_
          refine kX7_125 (pc := 44) C dX7_told_44 (m7_burnsOf κ.2.1 E S im M hM n n7 l0 (by have := hok.1.1; omega) (by rw [hf0]; exact hok)) (ml_K hM) (by decide) (Nat.le_of_ble_eq_true rfl) (Nat.le_refl _) (Nat.le_refl _) (fun v_44 S_44 im_44 h_44 => ?_)
          obtain ⟨rfl, rfl, hx⟩ := h_44
          refine z_goto (pc := 47) C 55 dX7_told_47 (by decide) ?_
          exact z_iret (pc := 55) C ρ dX7_told_55 (⟨_, rfl, by simp only [r_told, if_pos hb_2, if_pos hb_12, if_pos c_24, if_pos c_39, hf0, nI_clamp (show l0 < 2 ^ 31 by have := hok.1.1; omega), nI_clamp (show w0 < 2 ^ 31 by omega)], rfl, by first | exact hf0 | (rw [hx _ (by omega) (by omega)]; exact hf0), by first | exact frP.rf | exact hx.P⟩)
      · 
        refine z_aload_n (pc := 27) C dX7_told_27 rfl ?_
        refine z_iload_n (pc := 28) C dX7_told_28 rfl ?_
        refine z_iload_n (pc := 29) C dX7_told_29 rfl ?_
        refine kX7_106 (pc := 30) C dX7_told_30 (m7_of κ.2.1 E S im M hM l0 w0 (by have := hok.1.1; omega) (Nat.lt_of_not_le (fun h => c_24 (nI_le h (by omega))))) (ml_K hM) (by decide) (Nat.le_of_ble_eq_true rfl) (Nat.le_refl _) (Nat.le_refl _) (fun v_30 S_30 im_30 h_30 => ?_)
        obtain ⟨rfl, rfl, rfl⟩ := h_30
        refine z_goto (pc := 33) C 55 dX7_told_33 (by decide) ?_
        exact z_iret (pc := 55) C ρ dX7_told_55 (⟨_, rfl, by simp only [r_told, if_pos hb_2, if_pos hb_12, if_neg c_24, hf0, nI_clamp (show l0 < 2 ^ 31 by have := hok.1.1; omega), nI_clamp (show w0 < 2 ^ 31 by omega)], rfl, by first | exact hf0 | (rw [hx _ (by omega) (by omega)]; exact hf0), by first | exact frP.rf | exact hx.P⟩)
    · 
      refine z_if_neF (pc := 15) C 21 dX7_told_15 (by decide) (by decide) ?_
      refine z_ldc (pc := 18) C dX7_told_18 wk_X7_100 ?_
      exact z_iret (pc := 20) C ρ dX7_told_20 (⟨_, rfl, by simp only [r_told, if_pos hb_2, if_neg hb_12], rfl, hf0, frP.rf⟩)
  · 
    refine z_if_eqT (pc := 5) C 18 dX7_told_5 (by decide) (by decide) ?_
    refine z_ldc (pc := 18) C dX7_told_18 wk_X7_100 ?_
    exact z_iret (pc := 20) C ρ dX7_told_20 (⟨_, rfl, by simp only [r_told, if_neg hb_2], rfl, hf0, frP.rf⟩)
def r_drinks (f : Nat → Int32) (n : Nat) (x m : Int32) : Int32 := if lmp n x then (if nI 0 ≤ m ∧ m ≤ nI 999 then s_drink (f (8 + 7 * x.toNatClampNeg + 0)) (f (8 + 7 * x.toNatClampNeg + 2)) m else -1000000001) else -1000000001
set_option maxRecDepth 100000 in
set_option maxHeartbeats 4000000 in
theorem m7_drinks (l : Launch) (E : Ex) (S : Sx) (im : Mem) (M : Nat) (hM : ML S M) (n n7 : Nat) (f : Nat → Int32) (hf0 : im (M + 1) = f) (hok : MOk f n n7) (x m : Int32) : Mt l E yX7_drinks cX7_drinks 3 (some .int) 3 0 0 [.ref M, .int x, .int m] S im (pI (pP S im M (r_drinks f n x m) (f))) := by
  refine Mt.of (by decide +kernel) rfl rfl (Nat.le_of_ble_eq_true rfl) ?_
  intro κ hκ C ρ
  subst hκ
  show V E κ 3 0 0 0 [some (.ref M), some (.int x), some (.int m)] [] S im
  refine z_aload_n (pc := 0) C dX7_drinks_0 rfl ?_
  refine z_iload_n (pc := 1) C dX7_drinks_1 rfl ?_
  refine kX7_121 (pc := 2) C dX7_drinks_2 (m7_isLmp κ.2.1 E S im M hM x n hok.1.1 (by rw [hf0]; exact hok.1.2)) (ml_K hM) (by decide) (Nat.le_of_ble_eq_true rfl) (Nat.le_refl _) (Nat.le_refl _) (fun v_2 S_2 im_2 h_2 => ?_)
  rcases h_2 with ⟨hb_2, rfl, rfl, rfl⟩ | ⟨hb_2, rfl, rfl, rfl⟩
  · 
    obtain ⟨l0, hl0, rfl⟩ := (in_lamp hok.1.1).mp hb_2
    refine z_if_eqF (pc := 5) C 28 dX7_drinks_5 (by decide) (by decide) ?_
    refine z_iload_n (pc := 8) C dX7_drinks_8 rfl ?_
    refine z_iconstN (pc := 9) C 0 dX7_drinks_9 ?_
    refine z_sipush (v := nI 999) (pc := 10) C dX7_drinks_10 (by decide +kernel) ?_
    refine kX7_92 (pc := 13) C dX7_drinks_13 (m7_in κ.2.1 E S im (m) (nI 0) (nI 999)) (by decide) (Nat.le_of_ble_eq_true rfl) (Nat.le_refl _) (Nat.le_refl _) (fun v_13 S_13 im_13 h_13 => ?_)
    rcases h_13 with ⟨hb_13, rfl, rfl, rfl⟩ | ⟨hb_13, rfl, rfl, rfl⟩
    · 
      refine z_if_eqF (pc := 16) C 28 dX7_drinks_16 (by decide) (by decide) ?_
      refine z_aload_n (pc := 19) C dX7_drinks_19 rfl ?_
      refine z_iload_n (pc := 20) C dX7_drinks_20 rfl ?_
      refine z_iload_n (pc := 21) C dX7_drinks_21 rfl ?_
      refine kX7_131 (pc := 22) C dX7_drinks_22 (m7_drinksOf κ.2.1 E S im M hM l0 (by have := hok.1.1; omega) m) (ml_K hM) (by decide) (Nat.le_of_ble_eq_true rfl) (Nat.le_refl _) (Nat.le_refl _) (fun v_22 S_22 im_22 h_22 => ?_)
      obtain ⟨rfl, rfl, rfl⟩ := h_22
      refine z_goto (pc := 25) C 30 dX7_drinks_25 (by decide) ?_
      exact z_iret (pc := 30) C ρ dX7_drinks_30 (⟨_, rfl, by first | simp only [r_drinks, if_pos hb_2, if_pos hb_13, hf0, nI_clamp (show l0 < 2 ^ 31 by have := hok.1.1; omega)] | simp only [r_drinks, if_pos hb_2, if_pos hb_13], rfl, hf0, frP.rf⟩)
    · 
      refine z_if_eqT (pc := 16) C 28 dX7_drinks_16 (by decide) (by decide) ?_
      refine z_ldc (pc := 28) C dX7_drinks_28 wk_X7_100 ?_
      exact z_iret (pc := 30) C ρ dX7_drinks_30 (⟨_, rfl, by first | simp only [r_drinks, if_pos hb_2, if_neg hb_13, hf0, nI_clamp (show l0 < 2 ^ 31 by have := hok.1.1; omega)] | simp only [r_drinks, if_pos hb_2, if_neg hb_13], rfl, hf0, frP.rf⟩)
  · 
    refine z_if_eqT (pc := 5) C 28 dX7_drinks_5 (by decide) (by decide) ?_
    refine z_ldc (pc := 28) C dX7_drinks_28 wk_X7_100 ?_
    exact z_iret (pc := 30) C ρ dX7_drinks_30 (⟨_, rfl, by first | simp only [r_drinks, if_neg hb_2, hf0, nI_clamp (show l0 < 2 ^ 31 by have := hok.1.1; omega)] | simp only [r_drinks, if_neg hb_2], rfl, hf0, frP.rf⟩)
def r_as (f : Nat → Int32) (n : Nat) (x k : Int32) : Int32 := if lmp n x then (if nI 0 ≤ k ∧ k ≤ nI 5 then (if k = 0 ∨ f (8 + 7 * x.toNatClampNeg + 0) = k ∨ (k = nI 1 ∧ f (8 + 7 * x.toNatClampNeg + 0) = nI 3) ∨ (k = nI 2 ∧ f (8 + 7 * x.toNatClampNeg + 0) = nI 4) then f (8 + 7 * x.toNatClampNeg + 1) else -1000000012) else -1000000001) else -1000000001
set_option maxRecDepth 100000 in
set_option maxHeartbeats 4000000 in
theorem m7_as (l : Launch) (E : Ex) (S : Sx) (im : Mem) (M : Nat) (hM : ML S M) (n n7 : Nat) (f : Nat → Int32) (hf0 : im (M + 1) = f) (hok : MOk f n n7) (x k : Int32) : Mt l E yX7_as cX7_as 3 (some .int) 3 0 0 [.ref M, .int x, .int k] S im (pI (pP S im M (r_as f n x k) (f))) := by
  refine Mt.of (by decide +kernel) rfl rfl (Nat.le_of_ble_eq_true rfl) ?_
  intro κ hκ C ρ
  subst hκ
  show V E κ 3 0 0 0 [some (.ref M), some (.int x), some (.int k)] [] S im
  refine z_aload_n (pc := 0) C dX7_as_0 rfl ?_
  refine z_iload_n (pc := 1) C dX7_as_1 rfl ?_
  refine kX7_121 (pc := 2) C dX7_as_2 (m7_isLmp κ.2.1 E S im M hM x n hok.1.1 (by rw [hf0]; exact hok.1.2)) (ml_K hM) (by decide) (Nat.le_of_ble_eq_true rfl) (Nat.le_refl _) (Nat.le_refl _) (fun v_2 S_2 im_2 h_2 => ?_)
  rcases h_2 with ⟨hb_2, rfl, rfl, rfl⟩ | ⟨hb_2, rfl, rfl, rfl⟩
  · 
    obtain ⟨l0, hl0, rfl⟩ := (in_lamp hok.1.1).mp hb_2
    have hcl : (nI l0).toNatClampNeg = l0 := nI_clamp (by have := hok.1.1; omega)
    refine z_if_eqF (pc := 5) C 17 dX7_as_5 (by decide) (by decide) ?_
    refine z_iload_n (pc := 8) C dX7_as_8 rfl ?_
    refine z_iconstN (pc := 9) C 0 dX7_as_9 ?_
    refine z_iconstN (pc := 10) C 5 dX7_as_10 ?_
    refine kX7_92 (pc := 11) C dX7_as_11 (m7_in κ.2.1 E S im (k) (nI 0) (nI 5)) (by decide) (Nat.le_of_ble_eq_true rfl) (Nat.le_refl _) (Nat.le_refl _) (fun v_11 S_11 im_11 h_11 => ?_)
    rcases h_11 with ⟨hb_11, rfl, rfl, rfl⟩ | ⟨hb_11, rfl, rfl, rfl⟩
    · 
      refine z_if_neT (pc := 14) C 20 dX7_as_14 (by decide) (by decide) ?_
      refine z_aload_n (pc := 20) C dX7_as_20 rfl ?_
      refine z_iload_n (pc := 21) C dX7_as_21 rfl ?_
      refine z_iconstN (pc := 22) C 0 dX7_as_22 ?_
      refine kX7_106 (pc := 23) C dX7_as_23 (m7_of κ.2.1 E S im M hM l0 0 (by have := hok.1.1; omega) (by decide)) (ml_K hM) (by decide) (Nat.le_of_ble_eq_true rfl) (Nat.le_refl _) (Nat.le_refl _) (fun v_23 S_23 im_23 h_23 => ?_)
      obtain ⟨rfl, rfl, rfl⟩ := h_23
      refine z_eqi (y := f (8 + 7 * l0 + 0)) (by rw [hf0]) ?_
      refine z_iload_n (pc := 26) C dX7_as_26 rfl ?_
      refine kX7_134 (pc := 27) C dX7_as_27 (m7_isUnder κ.2.1 E S im (f (8 + 7 * l0 + 0)) k) (by decide) (Nat.le_of_ble_eq_true rfl) (Nat.le_refl _) (Nat.le_refl _) (fun v_27 S_27 im_27 h_27 => ?_)
      rcases h_27 with ⟨hb_27, rfl, rfl, rfl⟩ | ⟨hb_27, rfl, rfl, rfl⟩
      · 
        rw [s_under] at hb_27
        refine z_if_eqF (pc := 30) C 42 dX7_as_30 (by decide) (by decide) ?_
        refine z_aload_n (pc := 33) C dX7_as_33 rfl ?_
        refine z_iload_n (pc := 34) C dX7_as_34 rfl ?_
        refine z_iconstN (pc := 35) C 1 dX7_as_35 ?_
        refine kX7_106 (pc := 36) C dX7_as_36 (m7_of κ.2.1 E S im M hM l0 1 (by have := hok.1.1; omega) (by decide)) (ml_K hM) (by decide) (Nat.le_of_ble_eq_true rfl) (Nat.le_refl _) (Nat.le_refl _) (fun v_36 S_36 im_36 h_36 => ?_)
        obtain ⟨rfl, rfl, rfl⟩ := h_36
        refine z_goto (pc := 39) C 44 dX7_as_39 (by decide) ?_
        exact z_iret (pc := 44) C ρ dX7_as_44 (⟨_, rfl, by simp only [r_as, if_pos hb_2, if_pos hb_11, if_pos hb_27, hf0, hcl], rfl, hf0, frP.rf⟩)
      · 
        rw [s_under] at hb_27
        refine z_if_eqT (pc := 30) C 42 dX7_as_30 (by decide) (by decide) ?_
        refine z_ldc (pc := 42) C dX7_as_42 wk_X7_138 ?_
        exact z_iret (pc := 44) C ρ dX7_as_44 (⟨_, rfl, by simp only [r_as, if_pos hb_2, if_pos hb_11, if_neg hb_27, hf0, hcl], rfl, hf0, frP.rf⟩)
    · 
      refine z_if_neF (pc := 14) C 20 dX7_as_14 (by decide) (by decide) ?_
      refine z_ldc (pc := 17) C dX7_as_17 wk_X7_100 ?_
      exact z_iret (pc := 19) C ρ dX7_as_19 (⟨_, rfl, by simp only [r_as, if_pos hb_2, if_neg hb_11], rfl, hf0, frP.rf⟩)
  · 
    refine z_if_eqT (pc := 5) C 17 dX7_as_5 (by decide) (by decide) ?_
    refine z_ldc (pc := 17) C dX7_as_17 wk_X7_100 ?_
    exact z_iret (pc := 19) C ρ dX7_as_19 (⟨_, rfl, by simp only [r_as, if_neg hb_2], rfl, hf0, frP.rf⟩)
def r_turns (f : Nat → Int32) (n : Nat) (x k : Int32) : Int32 := if lmp n x then (if nI 0 ≤ k ∧ k ≤ nI 5 then f (8 + 7 * x.toNatClampNeg) else -1000000001) else -1000000001
def f_turns (f : Nat → Int32) (n : Nat) (x k : Int32) : Nat → Int32 := if lmp n x then (if nI 0 ≤ k ∧ k ≤ nI 5 then upd f (8 + 7 * x.toNatClampNeg) k else f) else f
set_option maxRecDepth 100000 in
set_option maxHeartbeats 4000000 in
theorem m7_turns (l : Launch) (E : Ex) (S : Sx) (im : Mem) (M : Nat) (hM : ML S M) (n n7 : Nat) (f : Nat → Int32) (hf0 : im (M + 1) = f) (hok : MOk f n n7) (x k : Int32) : Mt l E yX7_turns cX7_turns 3 (some .int) 3 0 0 [.ref M, .int x, .int k] S im (pI (pP S im M (r_turns f n x k) (f_turns f n x k))) := by
  refine Mt.of (by decide +kernel) rfl rfl (Nat.le_of_ble_eq_true rfl) ?_
  intro κ hκ C ρ
  subst hκ
  show V E κ 3 0 0 0 [some (.ref M), some (.int x), some (.int k)] [] S im
  refine z_aload_n (pc := 0) C dX7_turns_0 rfl ?_
  refine z_iload_n (pc := 1) C dX7_turns_1 rfl ?_
  refine kX7_121 (pc := 2) C dX7_turns_2 (m7_isLmp κ.2.1 E S im M hM x n hok.1.1 (by rw [hf0]; exact hok.1.2)) (ml_K hM) (by decide) (Nat.le_of_ble_eq_true rfl) (Nat.le_refl _) (Nat.le_refl _) (fun v_2 S_2 im_2 h_2 => ?_)
  rcases h_2 with ⟨hb_2, rfl, rfl, rfl⟩ | ⟨hb_2, rfl, rfl, rfl⟩
  · 
    obtain ⟨l0, hl0, rfl⟩ := (in_lamp hok.1.1).mp hb_2
    have hcl : (nI l0).toNatClampNeg = l0 := nI_clamp (by have := hok.1.1; omega)
    refine z_if_eqF (pc := 5) C 32 dX7_turns_5 (by decide) (by decide) ?_
    refine z_iload_n (pc := 8) C dX7_turns_8 rfl ?_
    refine z_iconstN (pc := 9) C 0 dX7_turns_9 ?_
    refine z_iconstN (pc := 10) C 5 dX7_turns_10 ?_
    refine kX7_92 (pc := 11) C dX7_turns_11 (m7_in κ.2.1 E S im (k) (nI 0) (nI 5)) (by decide) (Nat.le_of_ble_eq_true rfl) (Nat.le_refl _) (Nat.le_refl _) (fun v_11 S_11 im_11 h_11 => ?_)
    rcases h_11 with ⟨hb_11, rfl, rfl, rfl⟩ | ⟨hb_11, rfl, rfl, rfl⟩
    · 
      refine z_if_eqF (pc := 14) C 32 dX7_turns_14 (by decide) (by decide) ?_
      refine z_aload_n (pc := 17) C dX7_turns_17 rfl ?_
      refine z_bipushN (pc := 18) C 8 (by decide) dX7_turns_18 ?_
      refine z_bipushN (pc := 20) C 7 (by decide) dX7_turns_20 ?_
      refine z_iload_n (pc := 22) C dX7_turns_22 rfl ?_
      refine z_imulN (pc := 23) C dX7_turns_23 ?_
      refine z_iaddN (pc := 24) C dX7_turns_24 ?_
      refine z_iload_n (pc := 25) C dX7_turns_25 rfl ?_
      refine kX7_139 (pc := 26) C dX7_turns_26 (m7_becomes κ.2.1 E S im M hM (8 + 7 * l0) (by have := hok.1.1; omega) k) (ml_K hM) (by decide) (Nat.le_of_ble_eq_true rfl) (Nat.le_refl _) (Nat.le_refl _) (fun v_26 S_26 im_26 h_26 => ?_)
      obtain ⟨rfl, rfl, rfl⟩ := h_26
      refine z_goto (pc := 29) C 34 dX7_turns_29 (by decide) ?_
      exact z_iret (pc := 34) C ρ dX7_turns_34 (⟨_, rfl, by first | simp only [r_turns, if_pos hb_2, if_pos hb_11, hf0, hcl] | simp only [r_turns, if_pos hb_2, if_pos hb_11], rfl, by first | (simp only [f_turns, if_pos hb_2, if_pos hb_11]; exact hf0) | (simp only [f_turns, if_pos hb_2, if_pos hb_11, hcl]; rw [up2_s, hf0]), by first | exact frP.rf | exact frP.up⟩)
    · 
      refine z_if_eqT (pc := 14) C 32 dX7_turns_14 (by decide) (by decide) ?_
      refine z_ldc (pc := 32) C dX7_turns_32 wk_X7_100 ?_
      exact z_iret (pc := 34) C ρ dX7_turns_34 (⟨_, rfl, by first | simp only [r_turns, if_pos hb_2, if_neg hb_11, hf0, hcl] | simp only [r_turns, if_pos hb_2, if_neg hb_11], rfl, by first | (simp only [f_turns, if_pos hb_2, if_neg hb_11]; exact hf0) | (simp only [f_turns, if_pos hb_2, if_neg hb_11, hcl]; rw [up2_s, hf0]), by first | exact frP.rf | exact frP.up⟩)
  · 
    refine z_if_eqT (pc := 5) C 32 dX7_turns_5 (by decide) (by decide) ?_
    refine z_ldc (pc := 32) C dX7_turns_32 wk_X7_100 ?_
    exact z_iret (pc := 34) C ρ dX7_turns_34 (⟨_, rfl, by first | simp only [r_turns, if_neg hb_2, hf0, hcl] | simp only [r_turns, if_neg hb_2], rfl, by first | (simp only [f_turns, if_neg hb_2]; exact hf0) | (simp only [f_turns, if_neg hb_2, hcl]; rw [up2_s, hf0]), by first | exact frP.rf | exact frP.up⟩)
def r_set (f : Nat → Int32) (n : Nat) (x w v0 : Int32) : Int32 := if lmp n x then (if nI 1 ≤ w ∧ w ≤ nI 4 then (if nI 0 ≤ v0 ∧ v0 ≤ nI (s_most w.toNatClampNeg) then f (8 + 7 * x.toNatClampNeg + w.toNatClampNeg) else -1000000001) else -1000000001) else -1000000001
def f_set (f : Nat → Int32) (n : Nat) (x w v0 : Int32) : Nat → Int32 := if lmp n x then (if nI 1 ≤ w ∧ w ≤ nI 4 then (if nI 0 ≤ v0 ∧ v0 ≤ nI (s_most w.toNatClampNeg) then upd f (8 + 7 * x.toNatClampNeg + w.toNatClampNeg) v0 else f) else f) else f
set_option maxRecDepth 100000 in
set_option maxHeartbeats 4000000 in
theorem m7_set (l : Launch) (E : Ex) (S : Sx) (im : Mem) (M : Nat) (hM : ML S M) (n n7 : Nat) (f : Nat → Int32) (hf0 : im (M + 1) = f) (hok : MOk f n n7) (x w v0 : Int32) : Mt l E yX7_set cX7_set 4 (some .int) 3 0 0 [.ref M, .int x, .int w, .int v0] S im (pI (pP S im M (r_set f n x w v0) (f_set f n x w v0))) := by
  refine Mt.of (by decide +kernel) rfl rfl (Nat.le_of_ble_eq_true rfl) ?_
  intro κ hκ C ρ
  subst hκ
  show V E κ 4 0 0 0 [some (.ref M), some (.int x), some (.int w), some (.int v0)] [] S im
  refine z_aload_n (pc := 0) C dX7_set_0 rfl ?_
  refine z_iload_n (pc := 1) C dX7_set_1 rfl ?_
  refine kX7_121 (pc := 2) C dX7_set_2 (m7_isLmp κ.2.1 E S im M hM x n hok.1.1 (by rw [hf0]; exact hok.1.2)) (ml_K hM) (by decide) (Nat.le_of_ble_eq_true rfl) (Nat.le_refl _) (Nat.le_refl _) (fun v_2 S_2 im_2 h_2 => ?_)
  rcases h_2 with ⟨hb_2, rfl, rfl, rfl⟩ | ⟨hb_2, rfl, rfl, rfl⟩
  · 
    obtain ⟨l0, hl0, rfl⟩ := (in_lamp hok.1.1).mp hb_2
    have hcl : (nI l0).toNatClampNeg = l0 := nI_clamp (by have := hok.1.1; omega)
    refine z_if_eqF (pc := 5) C 46 dX7_set_5 (by decide) (by decide) ?_
    refine z_iload_n (pc := 8) C dX7_set_8 rfl ?_
    refine z_iconstN (pc := 9) C 1 dX7_set_9 ?_
    refine z_iconstN (pc := 10) C 4 dX7_set_10 ?_
    refine kX7_92 (pc := 11) C dX7_set_11 (m7_in κ.2.1 E S im (w) (nI 1) (nI 4)) (by decide) (Nat.le_of_ble_eq_true rfl) (Nat.le_refl _) (Nat.le_refl _) (fun v_11 S_11 im_11 h_11 => ?_)
    rcases h_11 with ⟨hb_11, rfl, rfl, rfl⟩ | ⟨hb_11, rfl, rfl, rfl⟩
    · 
      obtain ⟨w0, hw00, hw0, rfl⟩ := (rng (by decide) (by decide)).mp hb_11
      have hcw : (nI w0).toNatClampNeg = w0 := nI_clamp (by omega)
      refine z_if_eqF (pc := 14) C 46 dX7_set_14 (by decide) (by decide) ?_
      refine z_iload_n (pc := 17) C dX7_set_17 rfl ?_
      refine z_iconstN (pc := 18) C 0 dX7_set_18 ?_
      refine z_iload_n (pc := 19) C dX7_set_19 rfl ?_
      refine kX7_142 (pc := 20) C dX7_set_20 (m7_mostOf κ.2.1 E S im w0 (by omega)) (by decide) (Nat.le_of_ble_eq_true rfl) (Nat.le_refl _) (Nat.le_refl _) (fun v_20 S_20 im_20 h_20 => ?_)
      obtain ⟨rfl, rfl, rfl⟩ := h_20
      refine kX7_92 (pc := 23) C dX7_set_23 (m7_in κ.2.1 E S im v0 (nI 0) (nI (s_most w0))) (by decide) (Nat.le_of_ble_eq_true rfl) (Nat.le_refl _) (Nat.le_refl _) (fun v_23 S_23 im_23 h_23 => ?_)
      rcases h_23 with ⟨hb_23, rfl, rfl, rfl⟩ | ⟨hb_23, rfl, rfl, rfl⟩
      · 
        refine z_if_eqF (pc := 26) C 46 dX7_set_26 (by decide) (by decide) ?_
        refine z_aload_n (pc := 29) C dX7_set_29 rfl ?_
        refine z_bipushN (pc := 30) C 8 (by decide) dX7_set_30 ?_
        refine z_bipushN (pc := 32) C 7 (by decide) dX7_set_32 ?_
        refine z_iload_n (pc := 34) C dX7_set_34 rfl ?_
        refine z_imulN (pc := 35) C dX7_set_35 ?_
        refine z_iaddN (pc := 36) C dX7_set_36 ?_
        refine z_iload_n (pc := 37) C dX7_set_37 rfl ?_
        refine z_iaddN (pc := 38) C dX7_set_38 ?_
        refine z_iload_n (pc := 39) C dX7_set_39 rfl ?_
        refine kX7_139 (pc := 40) C dX7_set_40 (m7_becomes κ.2.1 E S im M hM (8 + 7 * l0 + w0) (by have := hok.1.1; omega) v0) (ml_K hM) (by decide) (Nat.le_of_ble_eq_true rfl) (Nat.le_refl _) (Nat.le_refl _) (fun v_40 S_40 im_40 h_40 => ?_)
        obtain ⟨rfl, rfl, rfl⟩ := h_40
        refine z_goto (pc := 43) C 48 dX7_set_43 (by decide) ?_
        exact z_iret (pc := 48) C ρ dX7_set_48 (⟨_, rfl, by first | simp only [r_set, if_pos hb_2, if_pos hb_11, if_pos hb_23, hf0, hcl, hcw] | simp only [r_set, if_pos hb_2, if_pos hb_11, if_pos hb_23], rfl, by first | (simp only [f_set, if_pos hb_2, if_pos hb_11, if_pos hb_23, hcl, hcw]; exact hf0) | (simp only [f_set, if_pos hb_2, if_pos hb_11, if_pos hb_23]; exact hf0) | (simp only [f_set, if_pos hb_2, if_pos hb_11, if_pos hb_23, hcl, hcw]; rw [up2_s, hf0]), by first | exact frP.rf | exact frP.up⟩)
      · 
        refine z_if_eqT (pc := 26) C 46 dX7_set_26 (by decide) (by decide) ?_
        refine z_ldc (pc := 46) C dX7_set_46 wk_X7_100 ?_
        exact z_iret (pc := 48) C ρ dX7_set_48 (⟨_, rfl, by first | simp only [r_set, if_pos hb_2, if_pos hb_11, if_neg hb_23, hf0, hcl, hcw] | simp only [r_set, if_pos hb_2, if_pos hb_11, if_neg hb_23], rfl, by first | (simp only [f_set, if_pos hb_2, if_pos hb_11, if_neg hb_23, hcl, hcw]; exact hf0) | (simp only [f_set, if_pos hb_2, if_pos hb_11, if_neg hb_23]; exact hf0) | (simp only [f_set, if_pos hb_2, if_pos hb_11, if_neg hb_23, hcl, hcw]; rw [up2_s, hf0]), by first | exact frP.rf | exact frP.up⟩)
    · 
      refine z_if_eqT (pc := 14) C 46 dX7_set_14 (by decide) (by decide) ?_
      refine z_ldc (pc := 46) C dX7_set_46 wk_X7_100 ?_
      exact z_iret (pc := 48) C ρ dX7_set_48 (⟨_, rfl, by first | simp only [r_set, if_pos hb_2, if_neg hb_11, hf0, hcl, hcw] | simp only [r_set, if_pos hb_2, if_neg hb_11], rfl, by first | (simp only [f_set, if_pos hb_2, if_neg hb_11, hcl, hcw]; exact hf0) | (simp only [f_set, if_pos hb_2, if_neg hb_11]; exact hf0) | (simp only [f_set, if_pos hb_2, if_neg hb_11, hcl, hcw]; rw [up2_s, hf0]), by first | exact frP.rf | exact frP.up⟩)
  · 
    refine z_if_eqT (pc := 5) C 46 dX7_set_5 (by decide) (by decide) ?_
    refine z_ldc (pc := 46) C dX7_set_46 wk_X7_100 ?_
    exact z_iret (pc := 48) C ρ dX7_set_48 (⟨_, rfl, by first | simp only [r_set, if_neg hb_2, hf0, hcl, hcw] | simp only [r_set, if_neg hb_2], rfl, by first | (simp only [f_set, if_neg hb_2, hcl, hcw]; exact hf0) | (simp only [f_set, if_neg hb_2]; exact hf0) | (simp only [f_set, if_neg hb_2, hcl, hcw]; rw [up2_s, hf0]), by first | exact frP.rf | exact frP.up⟩)
set_option maxRecDepth 100000 in
set_option maxHeartbeats 4000000 in
theorem m7_seed (l : Launch) (E : Ex) (S : Sx) (im : Mem) (M : Nat) (hM : ML S M) (n n7 : Nat) (f : Nat → Int32) (hf0 : im (M + 1) = f) (hok : MOk f n n7) (x : Int32) : Mt l E yX7_seed cX7_seed 2 (some .int) 2 0 0 [.ref M, .int x] S im (pI (pP S im M (f 0) (upd f 0 x))) := by
  refine Mt.of (by decide +kernel) rfl rfl (Nat.le_of_ble_eq_true rfl) ?_
  intro κ hκ C ρ
  subst hκ
  show V E κ 2 0 0 0 [some (.ref M), some (.int x)] [] S im
  refine z_aload_n (pc := 0) C dX7_seed_0 rfl ?_
  refine z_iconstN (pc := 1) C 0 dX7_seed_1 ?_
  refine z_iload_n (pc := 2) C dX7_seed_2 rfl ?_
  refine kX7_139 (pc := 3) C dX7_seed_3 (m7_becomes κ.2.1 E S im M hM 0 (by decide) x) (ml_K hM) (by decide) (Nat.le_of_ble_eq_true rfl) (Nat.le_refl _) (Nat.le_refl _) (fun v_3 S_3 im_3 h_3 => ?_)
  obtain ⟨rfl, rfl, rfl⟩ := h_3
  exact z_iret (pc := 6) C ρ dX7_seed_6 (⟨_, rfl, by rw [hf0], rfl, by rw [up2_s, hf0], frP.up⟩)
def r_order (f : Nat → Int32) (n : Nat) (x : Int32) : Int32 := if lmp n x then nI (ordA f n x.toNatClampNeg) else -1000000001
set_option maxRecDepth 100000 in
set_option maxHeartbeats 4000000 in
theorem m7_order (l : Launch) (E : Ex) (S : Sx) (im : Mem) (M : Nat) (hM : ML S M) (n n7 : Nat) (f : Nat → Int32) (hf0 : im (M + 1) = f) (hok : MOk f n n7) (x : Int32) : Mt l E yX7_order cX7_order 2 (some .int) 4 0 0 [.ref M, .int x] S im (pI (pP S im M (r_order f n x) (f))) := by
  refine Mt.of (by decide +kernel) rfl rfl (Nat.le_of_ble_eq_true rfl) ?_
  intro κ hκ C ρ
  subst hκ
  show V E κ 2 0 0 0 [some (.ref M), some (.int x)] [] S im
  refine z_aload_n (pc := 0) C dX7_order_0 rfl ?_
  refine z_iload_n (pc := 1) C dX7_order_1 rfl ?_
  refine kX7_121 (pc := 2) C dX7_order_2 (m7_isLmp κ.2.1 E S im M hM x n hok.1.1 (by rw [hf0]; exact hok.1.2)) (ml_K hM) (by decide) (Nat.le_of_ble_eq_true rfl) (Nat.le_refl _) (Nat.le_refl _) (fun v_2 S_2 im_2 h_2 => ?_)
  rcases h_2 with ⟨hb_2, rfl, rfl, rfl⟩ | ⟨hb_2, rfl, rfl, rfl⟩
  · 
    obtain ⟨l0, hl0, rfl⟩ := (in_lamp hok.1.1).mp hb_2
    have hcl : (nI l0).toNatClampNeg = l0 := nI_clamp (by have := hok.1.1; omega)
    refine z_if_neT (pc := 5) C 11 dX7_order_5 (by decide) (by decide) ?_
    refine z_aload_n (pc := 11) C dX7_order_11 rfl ?_
    refine kX7_153 (pc := 12) C dX7_order_12 (m7_findOrder κ.2.1 E S im M hM n n7 (by rw [hf0]; exact hok)) (ml_K hM) (by decide) (Nat.le_of_ble_eq_true rfl) (Nat.le_refl _) (Nat.le_refl _) (fun S_12 im_12 h_12 => ?_)
    obtain ⟨rfl, ho1, ho2⟩ := h_12
    rw [hf0] at ho1
    refine z_aload_n (pc := 15) C dX7_order_15 rfl ?_
    refine gX7_23 (pc := 16) C dX7_order_16 (ml_K hM) (ml_r5 hM) ?_
    refine z_iload_n (pc := 19) C dX7_order_19 rfl ?_
    refine z_iald (pc := 20) C dX7_order_20 (ml_a4 hM) (ml_n4 hM) (by have := hok.1.1; omega) (by decide) ?_
    refine z_eqi (y := nI (ordA f n l0)) (ho1 l0 hl0) ?_
    exact z_iret (pc := 21) C ρ dX7_order_21 (⟨_, rfl, by simp only [r_order, if_pos hb_2, hcl], rfl, by rw [ho2 _ (by omega) (by omega)]; exact hf0, ho2.P⟩)
  · 
    refine z_if_neF (pc := 5) C 11 dX7_order_5 (by decide) (by decide) ?_
    refine z_ldc (pc := 8) C dX7_order_8 wk_X7_100 ?_
    exact z_iret (pc := 10) C ρ dX7_order_10 (⟨_, rfl, by simp only [r_order, if_neg hb_2], rfl, hf0, frP.rf⟩)
