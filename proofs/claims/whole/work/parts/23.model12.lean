/-! the reference: first, last -/
def s_fst (f : Nat → Int32) (n n7 l0 k : Nat) : Nat → Nat → Int32
  | 0, _ => -1000000005
  | r + 1, q => if s_firstN (s_nights (upd f (8 + 7 * l0 + 3) (nI q)) n n7 (-1) k) n = nI l0 then nI q else s_fst f n n7 l0 k r (q + 1)
def r_first (f : Nat → Int32) (n n7 : Nat) (x w : Int32) : Int32 := if lmp n x then (if nI 1 ≤ w ∧ w ≤ nI 20 then s_fst f n n7 x.toNatClampNeg w.toNatClampNeg 100 0 else -1000000001) else -1000000001
/-- the numbers are as they were, of the rest only rows used within a call have changed -/
theorem keep_back {M : Nat} {f g : Nat → Int32} {im im1 im2 im3 : Mem} (h1 : frP M im im1) (hm1 : im1 M = im M) (hidle : im M 4 = -1) (h12 : frP M im1 im2) (h6 : ∀ j, j < 78 → im2 (M + 6) j = f j) (hM4 : ∀ j, j ≠ 4 → im2 M j = im1 M j) (hg : im2 (M + 1) = g) (hs : sam f g) (h3 : ∀ j, im3 (M + 1) j = if j < 78 then im2 (M + 6) j else im2 (M + 1) j) (h4 : im3 M = upd (im2 M) 4 (-1)) (h5 : ∀ a, a ≠ M → a ≠ M + 1 → im3 a = im2 a) : im3 (M + 1) = f ∧ frP M im im3 ∧ (∀ j, j < 78 → im3 (M + 6) j = f j) ∧ im3 M = im M := by
  have hM3 : im3 M = im M := by
    rw [h4]
    funext j
    by_cases e4 : j = 4
    · subst e4; rw [upd_s, hidle]
    · rw [upd_n _ _ e4, hM4 j e4, hm1]
  refine ⟨back_eq (b := im2 (M + 6)) hs h6 (fun j => by rw [h3 j, hg]), fun a q1 q2 q3 q4 q5 q6 q7 q8 => ?_, fun j hj => by rw [h5 _ (by omega) (by omega)]; exact h6 j hj, hM3⟩
  by_cases e : a = M
  · subst e; exact hM3
  · rw [h5 a e q1, h12 a q1 q2 q3 q4 q5 q6 q7 q8]; exact h1 a q1 q2 q3 q4 q5 q6 q7 q8
set_option maxRecDepth 100000 in
set_option maxHeartbeats 4000000 in
theorem m7_first (l : Launch) (E : Ex) (S : Sx) (im : Mem) (M : Nat) (hM : ML S M) (n n7 : Nat) (f : Nat → Int32) (hf0 : im (M + 1) = f) (hok : MOk f n n7) (hidle : im M 4 = -1) (x w : Int32) : Mt l E yX7_first cX7_first 5 (some .int) 7 0 0 [.ref M, .int x, .int w] S im (pI (pP S im M (r_first f n n7 x w) (f))) := by
  refine Mt.of (by decide +kernel) rfl rfl (Nat.le_of_ble_eq_true rfl) ?_
  intro κ hκ C ρ
  subst hκ
  show V E κ 5 0 0 0 [some (.ref M), some (.int x), some (.int w), none, none] [] S im
  have hn10 := hok.1.1
  refine z_aload_n (pc := 0) C dX7_first_0 rfl ?_
  refine z_iload_n (pc := 1) C dX7_first_1 rfl ?_
  refine kX7_121 (pc := 2) C dX7_first_2 (m7_isLmp κ.2.1 E S im M hM x n hok.1.1 (by rw [hf0]; exact hok.1.2)) (ml_K hM) (by decide) (Nat.le_of_ble_eq_true rfl) (Nat.le_refl _) (Nat.le_refl _) (fun v_2 S_2 im_2 h_2 => ?_)
  rcases h_2 with ⟨hb_2, rfl, rfl, rfl⟩ | ⟨hb_2, rfl, rfl, rfl⟩
  · 
    obtain ⟨l0, hl0, rfl⟩ := (in_lamp hok.1.1).mp hb_2
    have hcl : (nI l0).toNatClampNeg = l0 := nI_clamp (by omega)
    refine z_if_eqF (pc := 5) C 18 dX7_first_5 (by decide) (by decide) ?_
    refine z_iload_n (pc := 8) C dX7_first_8 rfl ?_
    refine z_iconstN (pc := 9) C 1 dX7_first_9 ?_
    refine z_bipushN (pc := 10) C 20 (by decide) dX7_first_10 ?_
    refine kX7_92 (pc := 12) C dX7_first_12 (m7_in κ.2.1 E S im (w) (nI 1) (nI 20)) (by decide) (Nat.le_of_ble_eq_true rfl) (Nat.le_refl _) (Nat.le_refl _) (fun v_12 S_12 im_12 h_12 => ?_)
    rcases h_12 with ⟨hb_12, rfl, rfl, rfl⟩ | ⟨hb_12, rfl, rfl, rfl⟩
    · 
      obtain ⟨w0, hw00, hw0, rfl⟩ := (rng (by decide) (by decide)).mp hb_12
      have hcw : (nI w0).toNatClampNeg = w0 := nI_clamp (by omega)
      refine z_if_neT (pc := 15) C 21 dX7_first_15 (by decide) (by decide) ?_
      refine z_aload_n (pc := 21) C dX7_first_21 rfl ?_
      refine kX7_173 (pc := 22) C dX7_first_22 (m7_thinks κ.2.1 E S im M hM) (ml_K hM) (by decide) (Nat.le_of_ble_eq_true rfl) (Nat.le_refl _) (Nat.le_refl _) (fun S_22 im_22 h_22 => ?_)
      obtain ⟨rfl, hth, hth2⟩ := h_22
      rw [hf0] at hth
      have hf1 : im_22 (M + 1) = f := by rw [hth2 _ (by omega)]; exact hf0
      have hi1 : im_22 M 4 = -1 := by rw [hth2 _ (by omega)]; exact hidle
      have hno : ∀ z : Nat, z < 100 → ¬ nI z = -1000000005 := by decide +kernel
      have found : ∀ (q q2 : Nat) (im' : Mem), q = q2 + 1 ∧ q ≤ 100 → s_fst f n n7 l0 w0 100 0 = nI q2 → im' (M + 1) = f → frP M im im' → V E κ 5 0 0 31 [some (.ref M), some (.int (nI l0)), some (.int (nI w0)), some (.int (nI q2)), some (.int (nI q))] [] S im' := by
        intro q q2 im' hq hans hm hfr
        refine z_iload (pc := 31) C dX7_first_31 rfl ?_
        refine z_bipushN (pc := 33) C 100 (by decide) dX7_first_33 ?_
        refine z_icmp_geN (pc := 35) C 83 dX7_first_35 (by decide) (by omega) (by omega) (fun c_35 => ?_) (fun c_35 => ?_)
        · 
          refine z_iload_n (pc := 83) C dX7_first_83 rfl ?_
          exact z_iret (pc := 84) C ρ dX7_first_84 (⟨_, rfl, by rw [r_first, if_pos hb_2, if_pos hb_12, hcl, hcw, hans], rfl, hm, hfr⟩)
        · 
          refine z_iload_n (pc := 38) C dX7_first_38 rfl ?_
          refine z_ldc (pc := 39) C dX7_first_39 wk_X7_91 ?_
          refine z_icmp_neT (pc := 41) C 83 dX7_first_41 (by decide) (hno q2 (by omega)) ?_
          refine z_iload_n (pc := 83) C dX7_first_83 rfl ?_
          exact z_iret (pc := 84) C ρ dX7_first_84 (⟨_, rfl, by rw [r_first, if_pos hb_2, if_pos hb_12, hcl, hcw, hans], rfl, hm, hfr⟩)
      have loop : ∀ (r q : Nat) (im' : Mem) (fd : Int32), q + r = 100 → s_fst f n n7 l0 w0 r q = s_fst f n n7 l0 w0 100 0 → fd = -1000000005 → im' (M + 1) = f → frP M im im' → (∀ j, j < 78 → im' (M + 6) j = f j) → im' M = im M → V E κ 5 0 0 31 [some (.ref M), some (.int (nI l0)), some (.int (nI w0)), some (.int fd), some (.int (nI q))] [] S im' := by
        intro r
        induction r with
        | zero =>
          intro q im' fd hq hans hfd hm hfr h6 hMM
          refine z_iload (pc := 31) C dX7_first_31 rfl ?_
          refine z_bipushN (pc := 33) C 100 (by decide) dX7_first_33 ?_
          refine z_icmp_geT (pc := 35) C 83 dX7_first_35 (by decide) (nI_le (by omega) (by omega)) ?_
          refine z_iload_n (pc := 83) C dX7_first_83 rfl ?_
          exact z_iret (pc := 84) C ρ dX7_first_84 (⟨_, rfl, by rw [r_first, if_pos hb_2, if_pos hb_12, hcl, hcw, ← hans, hfd]; rfl, rfl, hm, hfr⟩)
        | succ r ih =>
          intro q im' fd hq hans hfd hm hfr h6 hMM
          refine z_iload (pc := 31) C dX7_first_31 rfl ?_
          refine z_bipushN (pc := 33) C 100 (by decide) dX7_first_33 ?_
          refine z_icmp_geF (pc := 35) C 83 dX7_first_35 (by decide) (nI_ge (by omega) (by omega)) ?_
          refine z_iload_n (pc := 38) C dX7_first_38 rfl ?_
          refine z_ldc (pc := 39) C dX7_first_39 wk_X7_91 ?_
          refine z_icmp_neF (pc := 41) C 83 dX7_first_41 (by decide) (hfd) ?_
          refine z_aload_n (pc := 44) C dX7_first_44 rfl ?_
          refine z_iload_n (pc := 45) C dX7_first_45 rfl ?_
          refine z_iconstN (pc := 46) C 3 dX7_first_46 ?_
          refine z_iload (pc := 47) C dX7_first_47 rfl ?_
          refine kX7_96 (pc := 49) C dX7_first_49 (m7_put κ.2.1 E S im' M hM l0 3 (by omega) (by decide) (nI q)) (ml_K hM) (by decide) (Nat.le_of_ble_eq_true rfl) (Nat.le_refl _) (Nat.le_refl _) (fun S_49 im_49 h_49 => ?_)
          obtain ⟨rfl, rfl⟩ := h_49
          refine z_aload_n (pc := 52) C dX7_first_52 rfl ?_
          refine z_iload_n (pc := 53) C dX7_first_53 rfl ?_
          refine kX7_166 (pc := 54) C dX7_first_54 (m7_goesOn κ.2.1 E S _ M hM n n7 (upd f (8 + 7 * l0 + 3) (nI q)) (by rw [up2_s, hm]) (hok.sam (sam.upd (by omega) (by omega) (by omega))) (-1) (by rw [up2_n _ _ _ (by omega), hMM]; exact hidle) w0 (by omega)) (ml_K hM) (by decide) (Nat.le_of_ble_eq_true rfl) (Nat.le_refl _) (Nat.le_refl _) (fun S_54 im_54 h_54 => ?_)
          obtain ⟨rfl, hm2, hfr2⟩ := h_54
          have hsm : sam f (s_nights (upd f (8 + 7 * l0 + 3) (nI q)) n n7 (-1) w0) := (sam.upd (by omega) (by omega) (by omega)).tr (sam_nights hok.1.1 w0)
          refine z_aload_n (pc := 57) C dX7_first_57 rfl ?_
          refine kX7_176 (pc := 58) C dX7_first_58 (m7_firstNow κ.2.1 E S im_54 M hM n n7 _ hm2 (hok.sam hsm)) (ml_K hM) (by decide) (Nat.le_of_ble_eq_true rfl) (Nat.le_refl _) (Nat.le_refl _) (fun v_58 S_58 im_58 h_58 => ?_)
          obtain ⟨rfl, rfl, hfo⟩ := h_58
          refine z_iload_n (pc := 61) C dX7_first_61 rfl ?_
          have j_72 : ∀ x72 : Int32, x72 = (if s_firstN (s_nights (upd f (8 + 7 * l0 + 3) (nI q)) n n7 (-1) w0) n = nI l0 then nI q else -1000000005) → V E κ 5 0 0 72 [some (.ref M), some (.int (nI l0)), some (.int (nI w0)), some (.int fd), some (.int (nI q))] [.int x72] S im_58 := by
            intro x72 ex72
            refine z_istore_n (pc := 72) C dX7_first_72 (by decide) rfl ?_
            refine z_aload_n (pc := 73) C dX7_first_73 rfl ?_
            refine kX7_185 (pc := 74) C dX7_first_74 (m7_putsBack κ.2.1 E S im_58 M hM) (ml_K hM) (by decide) (Nat.le_of_ble_eq_true rfl) (Nat.le_refl _) (Nat.le_refl _) (fun S_74 im_74 h_74 => ?_)
            obtain ⟨rfl, hb1, hb2, hb3⟩ := h_74
            have hq := keep_back (im1 := im') (im2 := im_58) hfr hMM hidle (frP.up.tr (hfr2.P.tr hfo.P)) (fun j hj => by rw [hfo _ (by omega) (by omega), hfr2 _ (by omega) (by omega) (by omega) (by omega) (by omega), up2_n _ _ _ (by omega)]; exact h6 j hj) (fun j _ => by rw [hfo _ (by omega) (by omega), hfr2 _ (by omega) (by omega) (by omega) (by omega) (by omega), up2_n _ _ _ (by omega)]) (by rw [hfo _ (by omega) (by omega)]; exact hm2) hsm hb1 hb2 hb3
            refine z_iincN (pc := 77) C 1 dX7_first_77 rfl (by decide) rfl ?_
            refine z_goto (pc := 80) C 31 dX7_first_80 (by decide) ?_
            by_cases hc : s_firstN (s_nights (upd f (8 + 7 * l0 + 3) (nI q)) n n7 (-1) w0) n = nI l0
            · rw [if_pos hc] at ex72
              rw [ex72]
              exact found (q + 1) q im_74 ⟨rfl, by omega⟩ (by rw [← hans, s_fst, if_pos hc]) hq.1 hq.2.1
            · rw [if_neg hc] at ex72
              exact ih (q + 1) im_74 _ (by omega) (by rw [← hans, s_fst, if_neg hc]) ex72 hq.1 hq.2.1 hq.2.2.1 hq.2.2.2
          refine z_icmp_ne (pc := 62) C 70 dX7_first_62 (by decide) (fun c_62 => ?_) (fun c_62 => ?_)
          · 
            refine z_ldc (pc := 70) C dX7_first_70 wk_X7_91 ?_
            exact j_72 _ (by simp only [if_neg c_62])
          · 
            refine z_iload (pc := 65) C dX7_first_65 rfl ?_
            refine z_goto (pc := 67) C 72 dX7_first_67 (by decide) ?_
            exact j_72 _ (by simp only [if_pos c_62])
      refine z_ldc (pc := 25) C dX7_first_25 wk_X7_91 ?_
      refine z_istore_n (pc := 27) C dX7_first_27 (by decide) rfl ?_
      refine z_iconstN (pc := 28) C 0 dX7_first_28 ?_
      refine z_istore (pc := 29) C dX7_first_29 (by decide) rfl ?_
      exact loop 100 0 im_22 _ (by omega) rfl rfl hf1 (frP.of_ne hth2) hth (hth2 _ (by omega))
    · 
      refine z_if_neF (pc := 15) C 21 dX7_first_15 (by decide) (by decide) ?_
      refine z_ldc (pc := 18) C dX7_first_18 wk_X7_100 ?_
      exact z_iret (pc := 20) C ρ dX7_first_20 (⟨_, rfl, by simp only [r_first, if_pos hb_2, if_neg hb_12], rfl, hf0, frP.rf⟩)
  · 
    refine z_if_eqT (pc := 5) C 18 dX7_first_5 (by decide) (by decide) ?_
    refine z_ldc (pc := 18) C dX7_first_18 wk_X7_100 ?_
    exact z_iret (pc := 20) C ρ dX7_first_20 (⟨_, rfl, by simp only [r_first, if_neg hb_2], rfl, hf0, frP.rf⟩)
def s_oft (f : Nat → Int32) (n n7 : Nat) : Nat → Nat → Int32
  | 0 => fun _ => nI 0
  | k + 1 => upd (s_oft f n n7 k) (ordA (s_nights f n n7 (-1) k) n (n - 1)) (s_oft f n n7 k (ordA (s_nights f n n7 (-1) k) n (n - 1)) + nI 1)
/-- the place of the greatest of the first ones, of several the least -/
def s_bst (c : Nat → Int32) : Nat → Nat
  | 0 => 0
  | l0 + 1 => if c l0 ≤ c (s_bst c l0) then s_bst c l0 else l0
theorem s_bst_le (c : Nat → Int32) : ∀ k, s_bst c k ≤ k - 1 := by
  intro k
  induction k with
  | zero => exact Nat.le_refl _
  | succ k ih => rw [s_bst]; split <;> omega
def r_last (f : Nat → Int32) (n n7 : Nat) (x w : Int32) : Int32 := if nI 1 ≤ x ∧ x ≤ nI 60 then (if nI 0 ≤ w ∧ w ≤ nI 1 then (if n = 0 then -1000000005 else (if w = 0 then nI (s_bst (s_oft f n n7 x.toNatClampNeg) n) else s_oft f n n7 x.toNatClampNeg (s_bst (s_oft f n n7 x.toNatClampNeg) n))) else -1000000001) else -1000000001
set_option maxRecDepth 100000 in
set_option maxHeartbeats 4000000 in
theorem m7_last (l : Launch) (E : Ex) (S : Sx) (im : Mem) (M : Nat) (hM : ML S M) (n n7 : Nat) (f : Nat → Int32) (hf0 : im (M + 1) = f) (hok : MOk f n n7) (hidle : im M 4 = -1) (x w : Int32) : Mt l E yX7_last cX7_last 5 (some .int) 7 0 0 [.ref M, .int x, .int w] S im (pI (pP S im M (r_last f n n7 x w) (f))) := by
  refine Mt.of (by decide +kernel) rfl rfl (Nat.le_of_ble_eq_true rfl) ?_
  intro κ hκ C ρ
  subst hκ
  show V E κ 5 0 0 0 [some (.ref M), some (.int x), some (.int w), none, none] [] S im
  have hn10 := hok.1.1
  refine z_iload_n (pc := 0) C dX7_last_0 rfl ?_
  refine z_iconstN (pc := 1) C 1 dX7_last_1 ?_
  refine z_bipushN (pc := 2) C 60 (by decide) dX7_last_2 ?_
  refine kX7_92 (pc := 4) C dX7_last_4 (m7_in κ.2.1 E S im (x) (nI 1) (nI 60)) (by decide) (Nat.le_of_ble_eq_true rfl) (Nat.le_refl _) (Nat.le_refl _) (fun v_4 S_4 im_4 h_4 => ?_)
  rcases h_4 with ⟨hb_4, rfl, rfl, rfl⟩ | ⟨hb_4, rfl, rfl, rfl⟩
  · 
    obtain ⟨x0, hx00, hx0, rfl⟩ := (rng (by decide) (by decide)).mp hb_4
    have hcl : (nI x0).toNatClampNeg = x0 := nI_clamp (by omega)
    refine z_if_eqF (pc := 7) C 19 dX7_last_7 (by decide) (by decide) ?_
    refine z_iload_n (pc := 10) C dX7_last_10 rfl ?_
    refine z_iconstN (pc := 11) C 0 dX7_last_11 ?_
    refine z_iconstN (pc := 12) C 1 dX7_last_12 ?_
    refine kX7_92 (pc := 13) C dX7_last_13 (m7_in κ.2.1 E S im (w) (nI 0) (nI 1)) (by decide) (Nat.le_of_ble_eq_true rfl) (Nat.le_refl _) (Nat.le_refl _) (fun v_13 S_13 im_13 h_13 => ?_)
    rcases h_13 with ⟨hb_13, rfl, rfl, rfl⟩ | ⟨hb_13, rfl, rfl, rfl⟩
    · 
      refine z_if_neT (pc := 16) C 22 dX7_last_16 (by decide) (by decide) ?_
      refine z_aload_n (pc := 22) C dX7_last_22 rfl ?_
      refine gX7_9 (pc := 23) C dX7_last_23 (ml_K hM) (ml_r0 hM) ?_
      refine z_iconstN (pc := 26) C 1 dX7_last_26 ?_
      refine z_iald (pc := 27) C dX7_last_27 (ml_a1 hM) (ml_n1 hM) (by omega) (by decide) ?_
      refine z_eqi (y := nI n) (by rw [hf0]; exact hok.1.2) ?_
      refine z_if_neN (pc := 28) C 34 dX7_last_28 (by decide) (by omega) (fun c_28 => ?_) (fun c_28 => ?_)
      · 
        have loopK : ∀ (r k : Nat) (im' : Mem) (y4 : Option Value), k + r = x0 → im' (M + 1) = s_nights f n n7 (-1) k → frP M im im' → (∀ j, j < 78 → im' (M + 6) j = f j) → (∀ j, j ≠ 4 → im' M j = im M j) → im' M 4 = -1 → (∀ j, j < 10 → im' (M + 8) j = s_oft f n n7 k j) → V E κ 5 0 0 61 [some (.ref M), some (.int (nI x0)), some (.int w), some (.int (nI k)), y4] [] S im' := by
          intro r
          induction r with
          | zero =>
            intro k im' y4 hk hm hfr h6 hM4 hi4 h8
            have hkx : k = x0 := by omega
            refine z_iload_n (pc := 61) C dX7_last_61 rfl ?_
            refine z_iload_n (pc := 62) C dX7_last_62 rfl ?_
            refine z_icmp_geT (pc := 63) C 102 dX7_last_63 (by decide) (nI_le (by omega) (by omega)) ?_
            refine z_aload_n (pc := 102) C dX7_last_102 rfl ?_
            refine kX7_185 (pc := 103) C dX7_last_103 (m7_putsBack κ.2.1 E S im' M hM) (ml_K hM) (by decide) (Nat.le_of_ble_eq_true rfl) (Nat.le_refl _) (Nat.le_refl _) (fun S_103 im_103 h_103 => ?_)
            obtain ⟨rfl, hb1, hb2, hb3⟩ := h_103
            have hq := keep_back (im1 := im) (im2 := im') frP.rf rfl hidle hfr h6 hM4 hm (sam_nights hok.1.1 k) hb1 hb2 hb3
            have h8' : ∀ j, j < 10 → im_103 (M + 8) j = s_oft f n n7 x0 j := fun j hj => by rw [hb3 _ (by omega) (by omega), h8 j hj, hkx]
            obtain ⟨hm, hfr, -, -⟩ := hq
            generalize im_103 = im' at hm hfr h8' ⊢
            have h8 := h8'
            have loopB : ∀ (r l0 : Nat), l0 + r = n → 1 ≤ l0 → V E κ 5 0 0 111 [some (.ref M), some (.int (nI x0)), some (.int w), some (.int (nI (s_bst (s_oft f n n7 x0) l0))), some (.int (nI l0))] [] S im' := by
              intro r
              induction r with
              | zero =>
                intro l0 hl hl1
                have hln : l0 = n := by omega
                have hble := s_bst_le (s_oft f n n7 x0) l0
                refine z_iload (pc := 111) C dX7_last_111 rfl ?_
                refine z_aload_n (pc := 113) C dX7_last_113 rfl ?_
                refine gX7_9 (pc := 114) C dX7_last_114 (ml_K hM) (ml_r0 hM) ?_
                refine z_iconstN (pc := 117) C 1 dX7_last_117 ?_
                refine z_iald (pc := 118) C dX7_last_118 (ml_a1 hM) (ml_n1 hM) (by omega) (by decide) ?_
                refine z_eqi (y := nI n) (by rw [hm]; exact hok.1.2) ?_
                refine z_icmp_geT (pc := 119) C 151 dX7_last_119 (by decide) (nI_le (by omega) (by omega)) ?_
                refine z_iload_n (pc := 151) C dX7_last_151 rfl ?_
                refine z_if_ne (pc := 152) C 159 dX7_last_152 (by decide) (fun c_152 => ?_) (fun c_152 => ?_)
                · 
                  refine z_aload_n (pc := 159) C dX7_last_159 rfl ?_
                  refine gX7_36 (pc := 160) C dX7_last_160 (ml_K hM) (ml_r9 hM) ?_
                  refine z_iload_n (pc := 163) C dX7_last_163 rfl ?_
                  refine z_iald (pc := 164) C dX7_last_164 (ml_a8 hM) (ml_n8 hM) (by omega) (by decide) ?_
                  exact z_iret (pc := 165) C ρ dX7_last_165 (⟨_, rfl, by rw [r_last, if_pos hb_4, if_pos hb_13, if_neg c_28, hcl]; first | rw [if_pos c_152, hln] | rw [if_neg c_152, h8 _ (by omega), hln], rfl, hm, hfr⟩)
                · 
                  refine z_iload_n (pc := 155) C dX7_last_155 rfl ?_
                  refine z_goto (pc := 156) C 165 dX7_last_156 (by decide) ?_
                  exact z_iret (pc := 165) C ρ dX7_last_165 (⟨_, rfl, by rw [r_last, if_pos hb_4, if_pos hb_13, if_neg c_28, hcl]; first | rw [if_pos c_152, hln] | rw [if_neg c_152, h8 _ (by omega), hln], rfl, hm, hfr⟩)
              | succ r ih =>
                intro l0 hl hl1
                have hble := s_bst_le (s_oft f n n7 x0) l0
                refine z_iload (pc := 111) C dX7_last_111 rfl ?_
                refine z_aload_n (pc := 113) C dX7_last_113 rfl ?_
                refine gX7_9 (pc := 114) C dX7_last_114 (ml_K hM) (ml_r0 hM) ?_
                refine z_iconstN (pc := 117) C 1 dX7_last_117 ?_
                refine z_iald (pc := 118) C dX7_last_118 (ml_a1 hM) (ml_n1 hM) (by omega) (by decide) ?_
                refine z_eqi (y := nI n) (by rw [hm]; exact hok.1.2) ?_
                refine z_icmp_geF (pc := 119) C 151 dX7_last_119 (by decide) (nI_ge (by omega) (by omega)) ?_
                refine z_aload_n (pc := 122) C dX7_last_122 rfl ?_
                refine gX7_36 (pc := 123) C dX7_last_123 (ml_K hM) (ml_r9 hM) ?_
                refine z_iload (pc := 126) C dX7_last_126 rfl ?_
                refine z_iald (pc := 128) C dX7_last_128 (ml_a8 hM) (ml_n8 hM) (by omega) (by decide) ?_
                refine z_eqi (y := s_oft f n n7 x0 l0) (h8 _ (by omega)) ?_
                refine z_aload_n (pc := 129) C dX7_last_129 rfl ?_
                refine gX7_36 (pc := 130) C dX7_last_130 (ml_K hM) (ml_r9 hM) ?_
                refine z_iload_n (pc := 133) C dX7_last_133 rfl ?_
                refine z_iald (pc := 134) C dX7_last_134 (ml_a8 hM) (ml_n8 hM) (by omega) (by decide) ?_
                refine z_eqi (y := s_oft f n n7 x0 (s_bst (s_oft f n n7 x0) l0)) (h8 _ (by omega)) ?_
                refine z_icmp_le (pc := 135) C 143 dX7_last_135 (by decide) (fun c_135 => ?_) (fun c_135 => ?_)
                · 
                  refine z_iload_n (pc := 143) C dX7_last_143 rfl ?_
                  refine z_istore_n (pc := 144) C dX7_last_144 (by decide) rfl ?_
                  refine z_iincN (pc := 145) C 1 dX7_last_145 rfl (by decide) rfl ?_
                  refine z_goto (pc := 148) C 111 dX7_last_148 (by decide) ?_
                  first | (have := ih (l0 + 1) (by omega) (by omega); rw [s_bst, if_pos c_135] at this; exact this) | (have := ih (l0 + 1) (by omega) (by omega); rw [s_bst, if_neg c_135] at this; exact this)
                · 
                  refine z_iload (pc := 138) C dX7_last_138 rfl ?_
                  refine z_goto (pc := 140) C 144 dX7_last_140 (by decide) ?_
                  refine z_istore_n (pc := 144) C dX7_last_144 (by decide) rfl ?_
                  refine z_iincN (pc := 145) C 1 dX7_last_145 rfl (by decide) rfl ?_
                  refine z_goto (pc := 148) C 111 dX7_last_148 (by decide) ?_
                  first | (have := ih (l0 + 1) (by omega) (by omega); rw [s_bst, if_pos c_135] at this; exact this) | (have := ih (l0 + 1) (by omega) (by omega); rw [s_bst, if_neg c_135] at this; exact this)
            refine z_iconstN (pc := 106) C 0 dX7_last_106 ?_
            refine z_istore_n (pc := 107) C dX7_last_107 (by decide) rfl ?_
            refine z_iconstN (pc := 108) C 1 dX7_last_108 ?_
            refine z_istore (pc := 109) C dX7_last_109 (by decide) rfl ?_
            have := loopB (n - 1) 1 (by omega) (by omega)
            rw [show s_bst (s_oft f n n7 x0) 1 = 0 from by rw [s_bst, s_bst]; split <;> rfl] at this
            exact this
          | succ r ih =>
            intro k im' y4 hk hm hfr h6 hM4 hi4 h8
            have hokk := hok.sam (sam_nights (n7 := n7) (idle := -1) hok.1.1 k)
            refine z_iload_n (pc := 61) C dX7_last_61 rfl ?_
            refine z_iload_n (pc := 62) C dX7_last_62 rfl ?_
            refine z_icmp_geF (pc := 63) C 102 dX7_last_63 (by decide) (nI_ge (by omega) (by omega)) ?_
            refine z_aload_n (pc := 66) C dX7_last_66 rfl ?_
            refine kX7_153 (pc := 67) C dX7_last_67 (m7_findOrder κ.2.1 E S im' M hM n n7 (by rw [hm]; exact hokk)) (ml_K hM) (by decide) (Nat.le_of_ble_eq_true rfl) (Nat.le_refl _) (Nat.le_refl _) (fun S_67 im_67 h_67 => ?_)
            obtain ⟨rfl, hrow, hfo⟩ := h_67
            rw [hm] at hrow
            have hpl : ordA (s_nights f n n7 (-1) k) n (n - 1) < n := ordA_lt (by omega)
            refine z_aload_n (pc := 70) C dX7_last_70 rfl ?_
            refine gX7_36 (pc := 71) C dX7_last_71 (ml_K hM) (ml_r9 hM) ?_
            refine z_aload_n (pc := 74) C dX7_last_74 rfl ?_
            refine gX7_23 (pc := 75) C dX7_last_75 (ml_K hM) (ml_r5 hM) ?_
            refine z_aload_n (pc := 78) C dX7_last_78 rfl ?_
            refine gX7_9 (pc := 79) C dX7_last_79 (ml_K hM) (ml_r0 hM) ?_
            refine z_iconstN (pc := 82) C 1 dX7_last_82 ?_
            refine z_iald (pc := 83) C dX7_last_83 (ml_a1 hM) (ml_n1 hM) (by omega) (by decide) ?_
            refine z_eqi (y := nI n) (by rw [hfo _ (by omega) (by omega), hm]; exact hokk.1.2) ?_
            refine z_iconstN (pc := 84) C 1 dX7_last_84 ?_
            refine z_isubN (pc := 85) C dX7_last_85 (by omega) ?_
            refine z_iald (pc := 86) C dX7_last_86 (ml_a4 hM) (ml_n4 hM) (by omega) (by decide) ?_
            refine z_eqi (y := nI (ordA (s_nights f n n7 (-1) k) n (n - 1))) (hrow _ (by omega)) ?_
            refine z_dup2 (pc := 87) C dX7_last_87 rfl rfl ?_
            refine z_iald (pc := 88) C dX7_last_88 (ml_a8 hM) (ml_n8 hM) (by omega) (by decide) ?_
            refine z_eqi (y := s_oft f n n7 k (ordA (s_nights f n n7 (-1) k) n (n - 1))) (by rw [hfo _ (by omega) (by omega)]; exact h8 _ (by omega)) ?_
            refine z_iconstN (pc := 89) C 1 dX7_last_89 ?_
            refine z_iadd (pc := 90) C dX7_last_90 ?_
            refine z_iast (pc := 91) C dX7_last_91 (ml_a8 hM) (ml_n8 hM) (by omega) (by decide) ?_
            refine z_aload_n (pc := 92) C dX7_last_92 rfl ?_
            refine kX7_163 (pc := 93) C dX7_last_93 (m7_night κ.2.1 E S _ M hM n n7 (s_nights f n n7 (-1) k) (by rw [up2_n _ _ _ (by omega), hfo _ (by omega) (by omega)]; exact hm) (-1) (by rw [up2_n _ _ _ (by omega), hfo _ (by omega) (by omega)]; exact hi4) hokk) (ml_K hM) (by decide) (Nat.le_of_ble_eq_true rfl) (Nat.le_refl _) (Nat.le_refl _) (fun S_93 im_93 h_93 => ?_)
            obtain ⟨rfl, hm2, hfr2⟩ := h_93
            refine z_iincN (pc := 96) C 1 dX7_last_96 rfl (by decide) rfl ?_
            refine z_goto (pc := 99) C 61 dX7_last_99 (by decide) ?_
            refine ih (k + 1) im_93 _ (by omega) hm2 (hfr.tr (hfo.P.tr (frP.tr (fun a _ _ _ _ _ q6 _ _ => up2_n _ _ _ q6) hfr2.P))) (fun j hj => by rw [hfr2 _ (by omega) (by omega) (by omega) (by omega) (by omega), up2_n _ _ _ (by omega), hfo _ (by omega) (by omega)]; exact h6 j hj) (fun j hj => by rw [hfr2 _ (by omega) (by omega) (by omega) (by omega) (by omega), up2_n _ _ _ (by omega), hfo _ (by omega) (by omega)]; exact hM4 j hj) (by rw [hfr2 _ (by omega) (by omega) (by omega) (by omega) (by omega), up2_n _ _ _ (by omega), hfo _ (by omega) (by omega)]; exact hi4) (fun j hj => ?_)
            rw [hfr2 _ (by omega) (by omega) (by omega) (by omega) (by omega), up2_s, s_oft]
            by_cases e : j = ordA (s_nights f n n7 (-1) k) n (n - 1)
            · rw [e, upd_s, upd_s]
            · rw [upd_n _ _ e, upd_n _ _ e, hfo _ (by omega) (by omega)]; exact h8 j hj
        have loopI : ∀ (r i : Nat) (im' : Mem) (y4 : Option Value), i + r = 10 → im' (M + 1) = f → frP M im im' → im' M = im M → (∀ j, j < i → im' (M + 8) j = s_oft f n n7 0 j) → V E κ 5 0 0 36 [some (.ref M), some (.int (nI x0)), some (.int w), some (.int (nI i)), y4] [] S im' := by
          intro r
          induction r with
          | zero =>
            intro i im' y4 hi hm hfr hMM h8
            refine z_iload_n (pc := 36) C dX7_last_36 rfl ?_
            refine z_bipushN (pc := 37) C 10 (by decide) dX7_last_37 ?_
            refine z_icmp_geT (pc := 39) C 55 dX7_last_39 (by decide) (nI_le (by omega) (by omega)) ?_
            refine z_aload_n (pc := 55) C dX7_last_55 rfl ?_
            refine kX7_173 (pc := 56) C dX7_last_56 (m7_thinks κ.2.1 E S im' M hM) (ml_K hM) (by decide) (Nat.le_of_ble_eq_true rfl) (Nat.le_refl _) (Nat.le_refl _) (fun S_56 im_56 h_56 => ?_)
            obtain ⟨rfl, hth, hth2⟩ := h_56
            rw [hm] at hth
            refine z_iconstN (pc := 59) C 0 dX7_last_59 ?_
            refine z_istore_n (pc := 60) C dX7_last_60 (by decide) rfl ?_
            exact loopK x0 0 im_56 _ (by omega) (by rw [hth2 _ (by omega)]; exact hm) (hfr.tr (frP.of_ne hth2)) hth (fun j _ => by rw [hth2 _ (by omega), hMM]) (by rw [hth2 _ (by omega), hMM]; exact hidle) (fun j hj => by rw [hth2 _ (by omega)]; exact h8 j (by omega))
          | succ r ih =>
            intro i im' y4 hi hm hfr hMM h8
            refine z_iload_n (pc := 36) C dX7_last_36 rfl ?_
            refine z_bipushN (pc := 37) C 10 (by decide) dX7_last_37 ?_
            refine z_icmp_geF (pc := 39) C 55 dX7_last_39 (by decide) (nI_ge (by omega) (by omega)) ?_
            refine z_aload_n (pc := 42) C dX7_last_42 rfl ?_
            refine gX7_36 (pc := 43) C dX7_last_43 (ml_K hM) (ml_r9 hM) ?_
            refine z_iload_n (pc := 46) C dX7_last_46 rfl ?_
            refine z_iconstN (pc := 47) C 0 dX7_last_47 ?_
            refine z_iast (pc := 48) C dX7_last_48 (ml_a8 hM) (ml_n8 hM) (by omega) (by decide) ?_
            refine z_iincN (pc := 49) C 1 dX7_last_49 rfl (by decide) rfl ?_
            refine z_goto (pc := 52) C 36 dX7_last_52 (by decide) ?_
            refine ih (i + 1) _ _ (by omega) (by rw [up2_n _ _ _ (by omega)]; exact hm) (hfr.tr (fun a _ _ _ _ _ q6 _ _ => up2_n _ _ _ q6)) (by rw [up2_n _ _ _ (by omega)]; exact hMM) (fun j hj => ?_)
            rw [up2_s]
            by_cases e : j = i
            · subst e; rw [upd_s]; rfl
            · rw [upd_n _ _ e]; exact h8 j (by omega)
        refine z_iconstN (pc := 34) C 0 dX7_last_34 ?_
        refine z_istore_n (pc := 35) C dX7_last_35 (by decide) rfl ?_
        exact loopI 10 0 im _ (by omega) hf0 frP.rf rfl (fun j h => absurd h (Nat.not_lt_zero _))
      · 
        refine z_ldc (pc := 31) C dX7_last_31 wk_X7_91 ?_
        exact z_iret (pc := 33) C ρ dX7_last_33 (⟨_, rfl, by simp only [r_last, if_pos hb_4, if_pos hb_13, if_pos c_28], rfl, hf0, frP.rf⟩)
    · 
      refine z_if_neF (pc := 16) C 22 dX7_last_16 (by decide) (by decide) ?_
      refine z_ldc (pc := 19) C dX7_last_19 wk_X7_100 ?_
      exact z_iret (pc := 21) C ρ dX7_last_21 (⟨_, rfl, by simp only [r_last, if_pos hb_4, if_neg hb_13], rfl, hf0, frP.rf⟩)
  · 
    refine z_if_eqT (pc := 7) C 19 dX7_last_7 (by decide) (by decide) ?_
    refine z_ldc (pc := 19) C dX7_last_19 wk_X7_100 ?_
    exact z_iret (pc := 21) C ρ dX7_last_21 (⟨_, rfl, by simp only [r_last, if_neg hb_4], rfl, hf0, frP.rf⟩)
