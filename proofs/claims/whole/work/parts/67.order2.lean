/-! the class: deal, rule, nights, and what only tells -/
set_option maxRecDepth 100000 in
set_option maxHeartbeats 4000000 in
theorem c3_drawnS (l : Launch) (E : Ex) (S : Sx) (im : Mem) (q : Nat) (hs : SL S q) (X : Nat) (f : Nat → Int32) (n n7 : Nat) (hst : ST S im q X f n n7) (hqX : q + 15 ≤ X) : Mt l E yX3_drawn cX3_drawn 1 (some .int) 1 0 0 [.ref q] S im (pI (fun v S' im' => s_sh (s_z (f 0)) = v ∧ S = S' ∧ ST S im' q X (upd f 0 (s_z (f 0))) n n7 ∧ frQ q X im im')) := by
  refine Mt.of (by decide +kernel) rfl rfl (Nat.le_of_ble_eq_true rfl) ?_
  intro κ hκ C ρ
  subst hκ
  show V E κ 1 0 0 0 [some (.ref q)] [] S im
  refine z_aload_n (pc := 0) C dX3_drawn_0 rfl ?_
  refine z_aload_n (pc := 1) C dX3_drawn_1 rfl ?_
  refine gX3_25 (pc := 2) C dX3_drawn_2 (sl_K hs) ?_
  refine z_ldc (pc := 5) C dX3_drawn_5 wk_X3_98 ?_
  refine z_imul (pc := 7) C dX3_drawn_7 ?_
  refine z_sipush (v := nI 12345) (pc := 8) C dX3_drawn_8 (by decide +kernel) ?_
  refine z_iadd (pc := 11) C dX3_drawn_11 ?_
  refine pX3_25 (pc := 12) C dX3_drawn_12 (sl_K hs) ?_
  refine z_aload_n (pc := 15) C dX3_drawn_15 rfl ?_
  refine gX3_25 (pc := 16) C dX3_drawn_16 (sl_K hs) ?_
  refine z_bipushN (pc := 19) C 8 (by decide) dX3_drawn_19 ?_
  refine z_iushr (pc := 21) C dX3_drawn_21 ?_
  exact z_iret (pc := 22) C ρ dX3_drawn_22 (⟨_, rfl, by rw [up2_at, if_pos rfl, hst.1.2.1.1]; rfl, rfl, by rw [hst.1.2.1.1]; exact ST_up hst (SR_h0 hst.1) (sam.upd (by decide) (by decide) (by decide)) (RG_hd hst.2.2 (upd_n _ _ (by decide)) (upd_n _ _ (by decide)) (fun j hj _ => upd_n _ _ (by omega))) (by omega) (by omega) (by omega) hqX, frQ.rf.up (by omega) (by omega)⟩)
theorem deal_mn {n x : Nat} (hn : n ≤ 10) (hx : x ≤ 10) : s_mn (nI x) (nI (10 - n)) = nI (k_deal n x) := by
  unfold s_mn k_deal
  by_cases h : x ≤ 10 - n
  · rw [if_neg (nI_nlt h (by omega)), if_pos h]
  · rw [if_pos (nI_lt (by omega) (by omega)), if_neg h]
set_option maxRecDepth 100000 in
set_option maxHeartbeats 4000000 in
theorem c6_deal (l : Launch) (E : Ex) (S : Sx) (im : Mem) (B : Nat) (hC : CL S B) (X : Nat) (hX : B + 107 ≤ X) (f : Nat → Int32) (n n7 : Nat) (hst : ST S im (B + 1) X f n n7) (x : Int32) : Mt l E yX6_deal cX6_deal 7 (some .int) 2 0 0 [.ref B, .int x] S im (pI (pC S im B X n7 (r_deal n x) (f_deal f n x))) := by
  refine Mt.of (by decide +kernel) rfl rfl (Nat.le_of_ble_eq_true rfl) ?_
  intro κ hκ C ρ
  subst hκ
  show V E κ 7 0 0 0 [some (.ref B), some (.int x), none, none, none, none, none] [] S im
  have hn10 := hst.1.1.1
  have h14 := hst.2.1.1.1
  have hr := hst.1
  have hT := hst.2.1
  have hg := hst.2.2
  have hX1 : B + 1 + 15 ≤ X := by omega
  refine z_iload_n (pc := 0) C dX6_deal_0 rfl ?_
  refine z_iconstN (pc := 1) C 1 dX6_deal_1 ?_
  refine z_bipushN (pc := 2) C 10 (by decide) dX6_deal_2 ?_
  refine kX6_56 (pc := 4) C dX6_deal_4 (c6_within κ.2.1 E S im (x) (nI 1) (nI 10)) (by decide) (Nat.le_of_ble_eq_true rfl) (Nat.le_refl _) (Nat.le_refl _) (fun v_4 S_4 im_4 h_4 => ?_)
  rcases h_4 with ⟨hb_4, rfl, rfl, rfl⟩ | ⟨hb_4, rfl, rfl, rfl⟩
  · 
    obtain ⟨x0, hx00, hx0, rfl⟩ := (rng (by decide) (by decide)).mp hb_4
    have hcx : (nI x0).toNatClampNeg = x0 := nI_clamp (by omega)
    obtain ⟨k, hk⟩ : ∃ k, k = k_deal n x0 := ⟨_, rfl⟩
    have hkn : n + k ≤ 10 := by rw [hk, k_deal]; split <;> omega
    have loop : ∀ (r i : Nat) (im' : Mem) (y4 y5 y6 : Option Value), i + r = k → ST S im' (B + 1) X (s_deal f n i) (n + i) n7 → frC B X im im' → V E κ 7 0 0 30 [some (.ref B), some (.int (nI x0)), some (.int (nI k)), some (.int (nI i)), y4, y5, y6] [] S im' := by
      intro r
      induction r with
      | zero =>
        intro i im' y4 y5 y6 hi h' hfr
        refine z_iload_n (pc := 30) C dX6_deal_30 rfl ?_
        refine z_iload_n (pc := 31) C dX6_deal_31 rfl ?_
        refine z_icmp_geT (pc := 32) C 100 dX6_deal_32 (by decide) (nI_le (by omega) (by omega)) ?_
        refine z_iload_n (pc := 100) C dX6_deal_100 rfl ?_
        exact z_iret (pc := 101) C ρ dX6_deal_101 (⟨_, rfl, by simp only [r_deal, if_pos hb_4, hcx, hk], SX.rf, ⟨n + i, by simp only [f_deal, if_pos hb_4, hcx, ← hk, show k = i by omega]; exact h'⟩, hfr⟩)
      | succ r ih =>
        intro i im' y4 y5 y6 hi h' hfr
        refine z_iload_n (pc := 30) C dX6_deal_30 rfl ?_
        refine z_iload_n (pc := 31) C dX6_deal_31 rfl ?_
        refine z_icmp_geF (pc := 32) C 100 dX6_deal_32 (by decide) (nI_ge (by omega) (by omega)) ?_
        refine z_aload_n (pc := 35) C dX6_deal_35 rfl ?_
        refine gX6_10 (pc := 36) C dX6_deal_36 (cl_K hC) (cl_r0 hC) ?_
        refine kX6_123 (pc := 39) C dX6_deal_39 (c3_drawnS κ.2.1 E S im' (B + 1) (cl_s1 hC) X (s_deal f n i) (n + i) n7 h' hX1) (sl_K (cl_s1 hC)) (by decide) (Nat.le_of_ble_eq_true rfl) (Nat.le_refl _) (Nat.le_refl _) (fun v_39 S_39 im_39 h_39 => ?_)
        obtain ⟨e_39, rfl, g_39, fr_39⟩ := h_39
        subst e_39
        refine z_bipushN (pc := 42) C 6 (by decide) dX6_deal_42 ?_
        refine z_irem (pc := 44) C dX6_deal_44 (by decide) ?_
        refine z_istore (pc := 45) C dX6_deal_45 (by decide) rfl ?_
        refine z_aload_n (pc := 47) C dX6_deal_47 rfl ?_
        refine gX6_10 (pc := 48) C dX6_deal_48 (cl_K hC) (cl_r0 hC) ?_
        refine kX6_123 (pc := 51) C dX6_deal_51 (c3_drawnS κ.2.1 E S im_39 (B + 1) (cl_s1 hC) X (upd (s_deal f n i) 0 (s_z ((s_deal f n i) 0))) (n + i) n7 g_39 hX1) (sl_K (cl_s1 hC)) (by decide) (Nat.le_of_ble_eq_true rfl) (Nat.le_refl _) (Nat.le_refl _) (fun v_51 S_51 im_51 h_51 => ?_)
        obtain ⟨e_51, rfl, g_51, fr_51⟩ := h_51
        rw [upd_s] at e_51 g_51
        rw [upd_upd] at g_51
        subst e_51
        refine z_bipushN (pc := 54) C 60 (by decide) dX6_deal_54 ?_
        refine z_irem (pc := 56) C dX6_deal_56 (by decide) ?_
        refine z_istore (pc := 57) C dX6_deal_57 (by decide) rfl ?_
        refine z_aload_n (pc := 59) C dX6_deal_59 rfl ?_
        refine gX6_10 (pc := 60) C dX6_deal_60 (cl_K hC) (cl_r0 hC) ?_
        refine kX6_123 (pc := 63) C dX6_deal_63 (c3_drawnS κ.2.1 E S im_51 (B + 1) (cl_s1 hC) X (upd (s_deal f n i) 0 (s_z (s_z ((s_deal f n i) 0)))) (n + i) n7 g_51 hX1) (sl_K (cl_s1 hC)) (by decide) (Nat.le_of_ble_eq_true rfl) (Nat.le_refl _) (Nat.le_refl _) (fun v_63 S_63 im_63 h_63 => ?_)
        obtain ⟨e_63, rfl, g_63, fr_63⟩ := h_63
        rw [upd_s] at e_63 g_63
        rw [upd_upd] at g_63
        subst e_63
        refine z_bipushN (pc := 66) C 80 (by decide) dX6_deal_66 ?_
        refine z_irem (pc := 68) C dX6_deal_68 (by decide) ?_
        refine z_istore (pc := 69) C dX6_deal_69 (by decide) rfl ?_
        refine z_aload_n (pc := 71) C dX6_deal_71 rfl ?_
        refine gX6_10 (pc := 72) C dX6_deal_72 (cl_K hC) (cl_r0 hC) ?_
        refine z_iload (pc := 75) C dX6_deal_75 rfl ?_
        refine z_iload (pc := 77) C dX6_deal_77 rfl ?_
        refine z_iload (pc := 79) C dX6_deal_79 rfl ?_
        refine z_aload_n (pc := 81) C dX6_deal_81 rfl ?_
        refine gX6_10 (pc := 82) C dX6_deal_82 (cl_K hC) (cl_r0 hC) ?_
        refine kX6_123 (pc := 85) C dX6_deal_85 (c3_drawnS κ.2.1 E S im_63 (B + 1) (cl_s1 hC) X (upd (s_deal f n i) 0 (s_z (s_z (s_z ((s_deal f n i) 0))))) (n + i) n7 g_63 hX1) (sl_K (cl_s1 hC)) (by decide) (Nat.le_of_ble_eq_true rfl) (Nat.le_refl _) (Nat.le_refl _) (fun v_85 S_85 im_85 h_85 => ?_)
        obtain ⟨e_85, rfl, g_85, fr_85⟩ := h_85
        rw [upd_s] at e_85 g_85
        rw [upd_upd] at g_85
        subst e_85
        refine z_bipushN (pc := 88) C 40 (by decide) dX6_deal_88 ?_
        refine z_irem (pc := 90) C dX6_deal_90 (by decide) ?_
        refine kX6_66 (pc := 91) C dX6_deal_91 (c3_addLamp κ.2.1 E S im_85 (B + 1) (cl_s1 hC) (upd (s_deal f n i) 0 (s_z (s_z (s_z (s_z ((s_deal f n i) 0)))))) (n + i) g_85.1 (by omega) (s_rem (s_z ((s_deal f n i) 0)) 6) (s_rem (s_z (s_z ((s_deal f n i) 0))) 60) (s_rem (s_z (s_z (s_z ((s_deal f n i) 0)))) 80) (s_rem (s_z (s_z (s_z (s_z ((s_deal f n i) 0))))) 40)) (sl_K (cl_s1 hC)) (by decide) (Nat.le_of_ble_eq_true rfl) (Nat.le_refl _) (Nat.le_refl _) (fun S_91 im_91 h_91 => ?_)
        obtain ⟨rfl, g1, g2, g3⟩ := h_91
        refine z_iincN (pc := 94) C 1 dX6_deal_94 rfl (by decide) rfl ?_
        refine z_goto (pc := 97) C 30 dX6_deal_97 (by decide) ?_
        exact ih (i + 1) _ _ _ _ (by omega) (ST_comes g_85 (by omega) g1 g2 g3 hX1 (inR_wk (rem_rng _ (by decide) (by decide)) (by decide) (by decide)) (inR_wk (rem_rng _ (by decide) (by decide)) (by decide) (by decide)) (inR_wk (rem_rng _ (by decide) (by decide)) (by decide) (by decide)) (inR_wk (rem_rng _ (by decide) (by decide)) (by decide) (by decide))) (hfr.tr (((fr_39.tr fr_51).tr (fr_63.tr fr_85)).C1.tr (fun a h1 h2 h3 => g3 a (by omega) (by omega))))
    refine z_if_neT (pc := 7) C 13 dX6_deal_7 (by decide) (by decide) ?_
    refine z_iload_n (pc := 13) C dX6_deal_13 rfl ?_
    refine z_bipushN (pc := 14) C 10 (by decide) dX6_deal_14 ?_
    refine z_aload_n (pc := 16) C dX6_deal_16 rfl ?_
    refine gX6_10 (pc := 17) C dX6_deal_17 (cl_K hC) (cl_r0 hC) ?_
    refine gX6_61 (pc := 20) C dX6_deal_20 (sl_K (cl_s1 hC)) ?_
    refine z_eqi (y := nI n) (hr.1.2.2) ?_
    refine z_isubN (pc := 23) C dX6_deal_23 (by omega) ?_
    refine z_min (pc := 24) C dX6_deal_24 wm_X6_117 (by decide) (Nat.le_of_ble_eq_true rfl) (Nat.zero_le _) (Nat.zero_le _) ?_
    refine z_eqi (y := nI k) (by rw [hk]; exact deal_mn hn10 hx0) ?_
    refine z_istore_n (pc := 27) C dX6_deal_27 (by decide) rfl ?_
    refine z_iconstN (pc := 28) C 0 dX6_deal_28 ?_
    refine z_istore_n (pc := 29) C dX6_deal_29 (by decide) rfl ?_
    exact loop k 0 im _ _ _ (by omega) hst frC.rf
  · 
    refine z_if_neF (pc := 7) C 13 dX6_deal_7 (by decide) (by decide) ?_
    refine z_ldc (pc := 10) C dX6_deal_10 wk_X6_60 ?_
    exact z_iret (pc := 12) C ρ dX6_deal_12 (⟨_, rfl, by simp only [r_deal, if_neg hb_4], SX.rf, ⟨n, by simp only [f_deal, if_neg hb_4]; exact hst⟩, frC.rf⟩)
theorem rule_k {f : Nat → Int32} {x : Int32} {k a b : Nat} (hk : k ≤ 2) (ha : (if nI k = nI 2 then nI 60 else nI 0) = nI a) (hb : (if nI k = 0 then nI 2 else if nI k = nI 1 then nI 9 else nI 999) = nI b) : r_rule f (nI k) x = (if nI a ≤ x ∧ x ≤ nI b then f (3 + k) else -1000000001) ∧ f_rule f (nI k) x = (if nI a ≤ x ∧ x ≤ nI b then upd f (3 + k) x else f) := by
  have h : nI 0 ≤ nI k ∧ nI k ≤ nI 2 := (rng (by decide) (by decide)).mpr ⟨k, by omega, hk, rfl⟩
  rw [r_rule, f_rule, if_pos h, if_pos h, ha, hb, nI_clamp (by omega)]
  exact ⟨rfl, rfl⟩
theorem rule_no {f : Nat → Int32} {w x : Int32} (h0 : ¬ w = nI 0) (h1 : ¬ w = nI 1) (h2 : ¬ w = nI 2) : r_rule f w x = -1000000001 ∧ f_rule f w x = f := by
  have h : ¬ (nI 0 ≤ w ∧ w ≤ nI 2) := fun hw => by
    obtain ⟨j, -, hj, rfl⟩ := (rng (by decide) (by decide)).mp hw
    rcases (show j = 0 ∨ j = 1 ∨ j = 2 by omega) with rfl | rfl | rfl
    · exact h0 rfl
    · exact h1 rfl
    · exact h2 rfl
  rw [r_rule, f_rule, if_neg h, if_neg h]
  exact ⟨rfl, rfl⟩
theorem wi_R2 {x : Int32} {a b : Nat} (h : nI a ≤ x ∧ x ≤ nI b) (ha : a < 2 ^ 31) (hb : b < 2 ^ 31) : inR a b x := by
  obtain ⟨h1, h2⟩ := h
  rw [Int32.le_iff_toInt_le, nI_toInt ha] at h1
  rw [Int32.le_iff_toInt_le, nI_toInt hb] at h2
  exact ⟨h1, h2⟩
set_option maxRecDepth 100000 in
set_option maxHeartbeats 4000000 in
theorem c6_rule (l : Launch) (E : Ex) (S : Sx) (im : Mem) (B : Nat) (hC : CL S B) (X : Nat) (hX : B + 107 ≤ X) (f : Nat → Int32) (n n7 : Nat) (hst : ST S im (B + 1) X f n n7) (w x : Int32) : Mt l E yX6_rule cX6_rule 4 (some .int) 2 0 0 [.ref B, .int w, .int x] S im (pI (pC S im B X n7 (r_rule f w x) (f_rule f w x))) := by
  refine Mt.of (by decide +kernel) rfl rfl (Nat.le_of_ble_eq_true rfl) ?_
  intro κ hκ C ρ
  subst hκ
  show V E κ 4 0 0 0 [some (.ref B), some (.int w), some (.int x), none] [] S im
  have hn10 := hst.1.1.1
  have h14 := hst.2.1.1.1
  have hr := hst.1
  have hT := hst.2.1
  have hg := hst.2.2
  have hX1 : B + 1 + 15 ≤ X := by omega
  by_cases h0 : w = nI 0
  · subst h0
    refine z_iload_n (pc := 0) C dX6_rule_0 rfl ?_
    refine z_if_neF (pc := 1) C 32 dX6_rule_1 (by decide) (by decide) ?_
    refine z_iload_n (pc := 4) C dX6_rule_4 rfl ?_
    refine z_iconstN (pc := 5) C 0 dX6_rule_5 ?_
    refine z_iconstN (pc := 6) C 2 dX6_rule_6 ?_
    refine kX6_56 (pc := 7) C dX6_rule_7 (c6_within κ.2.1 E S im (x) (nI 0) (nI 2)) (by decide) (Nat.le_of_ble_eq_true rfl) (Nat.le_refl _) (Nat.le_refl _) (fun v_7 S_7 im_7 h_7 => ?_)
    rcases h_7 with ⟨hb_7, rfl, rfl, rfl⟩ | ⟨hb_7, rfl, rfl, rfl⟩
    · 
      refine z_if_eqF (pc := 10) C 32 dX6_rule_10 (by decide) (by decide) ?_
      refine z_aload_n (pc := 13) C dX6_rule_13 rfl ?_
      refine gX6_10 (pc := 14) C dX6_rule_14 (cl_K hC) (cl_r0 hC) ?_
      refine gX6_129 (pc := 17) C dX6_rule_17 (sl_K (cl_s1 hC)) ?_
      refine z_eqi (y := f 3) (hr.2.1.2.2.1) ?_
      refine z_istore_n (pc := 20) C dX6_rule_20 (by decide) rfl ?_
      refine z_aload_n (pc := 21) C dX6_rule_21 rfl ?_
      refine gX6_10 (pc := 22) C dX6_rule_22 (cl_K hC) (cl_r0 hC) ?_
      refine z_iload_n (pc := 25) C dX6_rule_25 rfl ?_
      refine pX6_129 (pc := 26) C dX6_rule_26 (sl_K (cl_s1 hC)) ?_
      refine z_goto (pc := 29) C 105 dX6_rule_29 (by decide) ?_
      refine z_iload_n (pc := 105) C dX6_rule_105 rfl ?_
      exact z_iret (pc := 106) C ρ dX6_rule_106 (⟨_, rfl, by rw [(rule_k (f := f) (x := x) (k := 0) (a := 0) (b := 2) (by decide) (by decide) (by decide)).1, if_pos hb_7], SX.rf, ⟨n, by rw [(rule_k (f := f) (x := x) (k := 0) (a := 0) (b := 2) (by decide) (by decide) (by decide)).2, if_pos hb_7]; exact ST_up hst (SR_h3 hr) (sam.upd (by decide) (by decide) (by decide)) (RG_hd hg (upd_n _ _ (by decide)) (upd_n _ _ (by decide)) (fun j hj _ => upd_n _ _ (by omega))) (by omega) (by omega) (by omega) hX1⟩, frC.rf.up (by omega)⟩)
    · 
      refine z_if_eqT (pc := 10) C 32 dX6_rule_10 (by decide) (by decide) ?_
      refine z_iload_n (pc := 32) C dX6_rule_32 rfl ?_
      refine z_iconstN (pc := 33) C 1 dX6_rule_33 ?_
      refine z_icmp_neT (pc := 34) C 66 dX6_rule_34 (by decide) (by decide) ?_
      refine z_iload_n (pc := 66) C dX6_rule_66 rfl ?_
      refine z_iconstN (pc := 67) C 2 dX6_rule_67 ?_
      refine z_icmp_neT (pc := 68) C 102 dX6_rule_68 (by decide) (by decide) ?_
      refine z_ldc (pc := 102) C dX6_rule_102 wk_X6_60 ?_
      refine z_istore_n (pc := 104) C dX6_rule_104 (by decide) rfl ?_
      refine z_iload_n (pc := 105) C dX6_rule_105 rfl ?_
      exact z_iret (pc := 106) C ρ dX6_rule_106 (⟨_, rfl, by rw [(rule_k (f := f) (x := x) (k := 0) (a := 0) (b := 2) (by decide) (by decide) (by decide)).1, if_neg hb_7], SX.rf, ⟨n, by rw [(rule_k (f := f) (x := x) (k := 0) (a := 0) (b := 2) (by decide) (by decide) (by decide)).2, if_neg hb_7]; exact hst⟩, frC.rf⟩)
  · by_cases h1 : w = nI 1
    · subst h1
      refine z_iload_n (pc := 0) C dX6_rule_0 rfl ?_
      refine z_if_neT (pc := 1) C 32 dX6_rule_1 (by decide) (by decide) ?_
      refine z_iload_n (pc := 32) C dX6_rule_32 rfl ?_
      refine z_iconstN (pc := 33) C 1 dX6_rule_33 ?_
      refine z_icmp_neF (pc := 34) C 66 dX6_rule_34 (by decide) (by decide) ?_
      refine z_iload_n (pc := 37) C dX6_rule_37 rfl ?_
      refine z_iconstN (pc := 38) C 0 dX6_rule_38 ?_
      refine z_bipushN (pc := 39) C 9 (by decide) dX6_rule_39 ?_
      refine kX6_56 (pc := 41) C dX6_rule_41 (c6_within κ.2.1 E S im (x) (nI 0) (nI 9)) (by decide) (Nat.le_of_ble_eq_true rfl) (Nat.le_refl _) (Nat.le_refl _) (fun v_41 S_41 im_41 h_41 => ?_)
      rcases h_41 with ⟨hb_41, rfl, rfl, rfl⟩ | ⟨hb_41, rfl, rfl, rfl⟩
      · 
        refine z_if_eqF (pc := 44) C 66 dX6_rule_44 (by decide) (by decide) ?_
        refine z_aload_n (pc := 47) C dX6_rule_47 rfl ?_
        refine gX6_10 (pc := 48) C dX6_rule_48 (cl_K hC) (cl_r0 hC) ?_
        refine gX6_132 (pc := 51) C dX6_rule_51 (sl_K (cl_s1 hC)) ?_
        refine z_eqi (y := f 4) (hr.2.1.2.2.2.1) ?_
        refine z_istore_n (pc := 54) C dX6_rule_54 (by decide) rfl ?_
        refine z_aload_n (pc := 55) C dX6_rule_55 rfl ?_
        refine gX6_10 (pc := 56) C dX6_rule_56 (cl_K hC) (cl_r0 hC) ?_
        refine z_iload_n (pc := 59) C dX6_rule_59 rfl ?_
        refine pX6_132 (pc := 60) C dX6_rule_60 (sl_K (cl_s1 hC)) ?_
        refine z_goto (pc := 63) C 105 dX6_rule_63 (by decide) ?_
        refine z_iload_n (pc := 105) C dX6_rule_105 rfl ?_
        exact z_iret (pc := 106) C ρ dX6_rule_106 (⟨_, rfl, by rw [(rule_k (f := f) (x := x) (k := 1) (a := 0) (b := 9) (by decide) (by decide) (by decide)).1, if_pos hb_41], SX.rf, ⟨n, by rw [(rule_k (f := f) (x := x) (k := 1) (a := 0) (b := 9) (by decide) (by decide) (by decide)).2, if_pos hb_41]; exact ST_up hst (SR_h4 hr) (sam.upd (by decide) (by decide) (by decide)) (⟨by rw [upd_s]; exact wi_R hb_41 (by decide) rfl, by rw [upd_n _ _ (by decide)]; exact hg.2.1, fun l hl => by rw [upd_n _ _ (by omega), upd_n _ _ (by omega), upd_n _ _ (by omega), upd_n _ _ (by omega), upd_n _ _ (by omega)]; exact hg.2.2 l hl⟩) (by omega) (by omega) (by omega) hX1⟩, frC.rf.up (by omega)⟩)
      · 
        refine z_if_eqT (pc := 44) C 66 dX6_rule_44 (by decide) (by decide) ?_
        refine z_iload_n (pc := 66) C dX6_rule_66 rfl ?_
        refine z_iconstN (pc := 67) C 2 dX6_rule_67 ?_
        refine z_icmp_neT (pc := 68) C 102 dX6_rule_68 (by decide) (by decide) ?_
        refine z_ldc (pc := 102) C dX6_rule_102 wk_X6_60 ?_
        refine z_istore_n (pc := 104) C dX6_rule_104 (by decide) rfl ?_
        refine z_iload_n (pc := 105) C dX6_rule_105 rfl ?_
        exact z_iret (pc := 106) C ρ dX6_rule_106 (⟨_, rfl, by rw [(rule_k (f := f) (x := x) (k := 1) (a := 0) (b := 9) (by decide) (by decide) (by decide)).1, if_neg hb_41], SX.rf, ⟨n, by rw [(rule_k (f := f) (x := x) (k := 1) (a := 0) (b := 9) (by decide) (by decide) (by decide)).2, if_neg hb_41]; exact hst⟩, frC.rf⟩)
    · by_cases h2 : w = nI 2
      · subst h2
        refine z_iload_n (pc := 0) C dX6_rule_0 rfl ?_
        refine z_if_neT (pc := 1) C 32 dX6_rule_1 (by decide) (by decide) ?_
        refine z_iload_n (pc := 32) C dX6_rule_32 rfl ?_
        refine z_iconstN (pc := 33) C 1 dX6_rule_33 ?_
        refine z_icmp_neT (pc := 34) C 66 dX6_rule_34 (by decide) (by decide) ?_
        refine z_iload_n (pc := 66) C dX6_rule_66 rfl ?_
        refine z_iconstN (pc := 67) C 2 dX6_rule_67 ?_
        refine z_icmp_neF (pc := 68) C 102 dX6_rule_68 (by decide) (by decide) ?_
        refine z_iload_n (pc := 71) C dX6_rule_71 rfl ?_
        refine z_bipushN (pc := 72) C 60 (by decide) dX6_rule_72 ?_
        refine z_sipush (v := nI 999) (pc := 74) C dX6_rule_74 (by decide +kernel) ?_
        refine kX6_56 (pc := 77) C dX6_rule_77 (c6_within κ.2.1 E S im (x) (nI 60) (nI 999)) (by decide) (Nat.le_of_ble_eq_true rfl) (Nat.le_refl _) (Nat.le_refl _) (fun v_77 S_77 im_77 h_77 => ?_)
        rcases h_77 with ⟨hb_77, rfl, rfl, rfl⟩ | ⟨hb_77, rfl, rfl, rfl⟩
        · 
          refine z_if_eqF (pc := 80) C 102 dX6_rule_80 (by decide) (by decide) ?_
          refine z_aload_n (pc := 83) C dX6_rule_83 rfl ?_
          refine gX6_10 (pc := 84) C dX6_rule_84 (cl_K hC) (cl_r0 hC) ?_
          refine gX6_135 (pc := 87) C dX6_rule_87 (sl_K (cl_s1 hC)) ?_
          refine z_eqi (y := f 5) (hr.2.1.2.2.2.2.1) ?_
          refine z_istore_n (pc := 90) C dX6_rule_90 (by decide) rfl ?_
          refine z_aload_n (pc := 91) C dX6_rule_91 rfl ?_
          refine gX6_10 (pc := 92) C dX6_rule_92 (cl_K hC) (cl_r0 hC) ?_
          refine z_iload_n (pc := 95) C dX6_rule_95 rfl ?_
          refine pX6_135 (pc := 96) C dX6_rule_96 (sl_K (cl_s1 hC)) ?_
          refine z_goto (pc := 99) C 105 dX6_rule_99 (by decide) ?_
          refine z_iload_n (pc := 105) C dX6_rule_105 rfl ?_
          exact z_iret (pc := 106) C ρ dX6_rule_106 (⟨_, rfl, by rw [(rule_k (f := f) (x := x) (k := 2) (a := 60) (b := 999) (by decide) (by decide) (by decide)).1, if_pos hb_77], SX.rf, ⟨n, by rw [(rule_k (f := f) (x := x) (k := 2) (a := 60) (b := 999) (by decide) (by decide) (by decide)).2, if_pos hb_77]; exact ST_up hst (SR_h5 hr) (sam.upd (by decide) (by decide) (by decide)) (⟨by rw [upd_n _ _ (by decide)]; exact hg.1, by rw [upd_s]; exact wi_R2 (a := 60) (b := 999) hb_77 (by decide) (by decide), fun l hl => by rw [upd_n _ _ (by omega), upd_n _ _ (by omega), upd_n _ _ (by omega), upd_n _ _ (by omega), upd_n _ _ (by omega)]; exact hg.2.2 l hl⟩) (by omega) (by omega) (by omega) hX1⟩, frC.rf.up (by omega)⟩)
        · 
          refine z_if_eqT (pc := 80) C 102 dX6_rule_80 (by decide) (by decide) ?_
          refine z_ldc (pc := 102) C dX6_rule_102 wk_X6_60 ?_
          refine z_istore_n (pc := 104) C dX6_rule_104 (by decide) rfl ?_
          refine z_iload_n (pc := 105) C dX6_rule_105 rfl ?_
          exact z_iret (pc := 106) C ρ dX6_rule_106 (⟨_, rfl, by rw [(rule_k (f := f) (x := x) (k := 2) (a := 60) (b := 999) (by decide) (by decide) (by decide)).1, if_neg hb_77], SX.rf, ⟨n, by rw [(rule_k (f := f) (x := x) (k := 2) (a := 60) (b := 999) (by decide) (by decide) (by decide)).2, if_neg hb_77]; exact hst⟩, frC.rf⟩)
      · refine z_iload_n (pc := 0) C dX6_rule_0 rfl ?_
        refine z_if_neT (pc := 1) C 32 dX6_rule_1 (by decide) (fun h => h0 (h.trans nI_0.symm)) ?_
        refine z_iload_n (pc := 32) C dX6_rule_32 rfl ?_
        refine z_iconstN (pc := 33) C 1 dX6_rule_33 ?_
        refine z_icmp_neT (pc := 34) C 66 dX6_rule_34 (by decide) (h1) ?_
        refine z_iload_n (pc := 66) C dX6_rule_66 rfl ?_
        refine z_iconstN (pc := 67) C 2 dX6_rule_67 ?_
        refine z_icmp_neT (pc := 68) C 102 dX6_rule_68 (by decide) (h2) ?_
        refine z_ldc (pc := 102) C dX6_rule_102 wk_X6_60 ?_
        refine z_istore_n (pc := 104) C dX6_rule_104 (by decide) rfl ?_
        refine z_iload_n (pc := 105) C dX6_rule_105 rfl ?_
        exact z_iret (pc := 106) C ρ dX6_rule_106 (⟨_, rfl, (rule_no h0 h1 h2).1, SX.rf, ⟨n, by rw [(rule_no h0 h1 h2).2]; exact hst⟩, frC.rf⟩)
theorem nights_mn {f : Nat → Int32} {x0 : Nat} (h2 : inR 0 9999 (f 2)) (hx : x0 ≤ 100) : s_mn (nI x0) (nI 9999 - f 2) = nI (k_nights f (nI x0)) ∧ k_nights f (nI x0) ≤ x0 ∧ ∃ j, f 2 = nI j ∧ j + k_nights f (nI x0) ≤ 9999 := by
  obtain ⟨j, hj, e⟩ := inR_nI (k := 9999) h2
  unfold k_nights s_mn s_within
  rw [e, pk_sub hj, if_pos (nI_le (by omega) (by omega))]
  by_cases h : x0 ≤ 9999 - j
  · rw [if_neg (nI_nlt h (by omega))]
    by_cases h3 : 9999 - j ≤ x0
    · rw [if_pos (nI_le h3 (by omega)), nI_clamp (by omega), show 9999 - j = x0 by omega]; exact ⟨rfl, Nat.le_refl _, j, rfl, by omega⟩
    · rw [if_neg (nI_ge (by omega) (by omega)), nI_clamp (by omega)]; exact ⟨rfl, Nat.le_refl _, j, rfl, by omega⟩
  · rw [if_pos (nI_lt (by omega) (by omega)), if_pos (nI_le (by omega) (by omega)), nI_clamp (by omega)]; exact ⟨rfl, by omega, j, rfl, by omega⟩
set_option maxRecDepth 100000 in
set_option maxHeartbeats 4000000 in
theorem c6_nights (l : Launch) (E : Ex) (S : Sx) (im : Mem) (B : Nat) (hC : CL S B) (X : Nat) (hX : B + 107 ≤ X) (f : Nat → Int32) (n n7 : Nat) (hst : ST S im (B + 1) X f n n7) (h2 : inR 0 9999 (f 2)) (x : Int32) : Mt l E yX6_nights cX6_nights 3 (some .int) 7 0 0 [.ref B, .int x] S im (pI (pC S im B X n7 (r_nights f n n7 x) (f_nights f n n7 x))) := by
  refine Mt.of (by decide +kernel) rfl rfl (Nat.le_of_ble_eq_true rfl) ?_
  intro κ hκ C ρ
  subst hκ
  show V E κ 3 0 0 0 [some (.ref B), some (.int x), none] [] S im
  have hn10 := hst.1.1.1
  have h14 := hst.2.1.1.1
  have hr := hst.1
  have hT := hst.2.1
  have hg := hst.2.2
  have hX1 : B + 1 + 15 ≤ X := by omega
  refine z_iload_n (pc := 0) C dX6_nights_0 rfl ?_
  refine z_iconstN (pc := 1) C 1 dX6_nights_1 ?_
  refine z_bipushN (pc := 2) C 100 (by decide) dX6_nights_2 ?_
  refine kX6_56 (pc := 4) C dX6_nights_4 (c6_within κ.2.1 E S im (x) (nI 1) (nI 100)) (by decide) (Nat.le_of_ble_eq_true rfl) (Nat.le_refl _) (Nat.le_refl _) (fun v_4 S_4 im_4 h_4 => ?_)
  rcases h_4 with ⟨hb_4, rfl, rfl, rfl⟩ | ⟨hb_4, rfl, rfl, rfl⟩
  · 
    obtain ⟨x0, hx00, hx0, rfl⟩ := (rng (by decide) (by decide)).mp hb_4
    have hkn := nights_mn (f := f) h2 hx0
    refine z_if_neT (pc := 7) C 13 dX6_nights_7 (by decide) (by decide) ?_
    refine z_aload_n (pc := 13) C dX6_nights_13 rfl ?_
    refine gX6_10 (pc := 14) C dX6_nights_14 (cl_K hC) (cl_r0 hC) ?_
    refine gX6_144 (pc := 17) C dX6_nights_17 (sl_K (cl_s1 hC)) ?_
    refine z_eqi (y := f 6) (hr.2.1.2.2.2.2.2.1) ?_
    refine z_istore_n (pc := 20) C dX6_nights_20 (by decide) rfl ?_
    refine z_aload_n (pc := 21) C dX6_nights_21 rfl ?_
    refine gX6_10 (pc := 22) C dX6_nights_22 (cl_K hC) (cl_r0 hC) ?_
    refine z_iload_n (pc := 25) C dX6_nights_25 rfl ?_
    refine z_sipush (v := nI 9999) (pc := 26) C dX6_nights_26 (by decide +kernel) ?_
    refine z_aload_n (pc := 29) C dX6_nights_29 rfl ?_
    refine gX6_10 (pc := 30) C dX6_nights_30 (cl_K hC) (cl_r0 hC) ?_
    refine gX6_147 (pc := 33) C dX6_nights_33 (sl_K (cl_s1 hC)) ?_
    refine z_eqi (y := f 2) (hr.2.1.2.1) ?_
    refine z_isub (pc := 36) C dX6_nights_36 ?_
    refine z_min (pc := 37) C dX6_nights_37 wm_X6_117 (by decide) (Nat.le_of_ble_eq_true rfl) (Nat.zero_le _) (Nat.zero_le _) ?_
    refine z_eqi (y := nI (k_nights f (nI x0))) hkn.1 ?_
    refine z_iconst (v := -1) (pc := 40) C dX6_nights_40 (by decide) ?_
    refine kX6_150 (pc := 41) C dX6_nights_41 (c3_passNights κ.2.1 E S im (B + 1) (cl_s1 hC) X f n n7 hst hX1 (k_nights f (nI x0)) (by omega) (-1)) (sl_K (cl_s1 hC)) (by decide) (Nat.le_of_ble_eq_true rfl) (Nat.le_refl _) (Nat.le_refl _) (fun S_41 im_41 h_41 => ?_)
    obtain ⟨rfl, g1, g2, g3⟩ := h_41
    refine z_aload_n (pc := 44) C dX6_nights_44 rfl ?_
    refine gX6_10 (pc := 45) C dX6_nights_45 (cl_K hC) (cl_r0 hC) ?_
    refine gX6_144 (pc := 48) C dX6_nights_48 (sl_K (cl_s1 hC)) ?_
    refine z_eqi (y := s_nights f n n7 (-1) (k_nights f (nI x0)) 6) (g1.1.2.1.2.2.2.2.2.1) ?_
    refine z_iload_n (pc := 51) C dX6_nights_51 rfl ?_
    refine z_isub (pc := 52) C dX6_nights_52 ?_
    exact z_iret (pc := 53) C ρ dX6_nights_53 (⟨_, rfl, by simp only [r_nights, if_pos hb_4], SX.rf, ⟨n, by simp only [f_nights, if_pos hb_4]; exact g1⟩, g3.C1⟩)
  · 
    refine z_if_neF (pc := 7) C 13 dX6_nights_7 (by decide) (by decide) ?_
    refine z_ldc (pc := 10) C dX6_nights_10 wk_X6_60 ?_
    exact z_iret (pc := 12) C ρ dX6_nights_12 (⟨_, rfl, by simp only [r_nights, if_neg hb_4], SX.rf, ⟨n, by simp only [f_nights, if_neg hb_4]; exact hst⟩, frC.rf⟩)
set_option maxRecDepth 100000 in
set_option maxHeartbeats 4000000 in
theorem c6_way (l : Launch) (E : Ex) (S : Sx) (im : Mem) (B : Nat) (hC : CL S B) (X : Nat) (hX : B + 107 ≤ X) (f : Nat → Int32) (n n7 : Nat) (hst : ST S im (B + 1) X f n n7)  : Mt l E yX6_way cX6_way 1 (some .int) 4 0 0 [.ref B] S im (pI (pC S im B X n7 ((s_wy f (ordA f n) n).1) (f))) := by
  refine Mt.of (by decide +kernel) rfl rfl (Nat.le_of_ble_eq_true rfl) ?_
  intro κ hκ C ρ
  subst hκ
  show V E κ 1 0 0 0 [some (.ref B)] [] S im
  have hn10 := hst.1.1.1
  have h14 := hst.2.1.1.1
  have hr := hst.1
  have hT := hst.2.1
  have hg := hst.2.2
  have hX1 : B + 1 + 15 ≤ X := by omega
  refine z_aload_n (pc := 0) C dX6_way_0 rfl ?_
  refine gX6_10 (pc := 1) C dX6_way_1 (cl_K hC) (cl_r0 hC) ?_
  refine kX6_154 (pc := 4) C dX6_way_4 (c3_minutes κ.2.1 E S im (B + 1) (cl_s1 hC) f n hr (fun l hl => (hg.2.2 l hl).2.1)) (sl_K (cl_s1 hC)) (by decide) (Nat.le_of_ble_eq_true rfl) (Nat.le_refl _) (Nat.le_refl _) (fun v_4 S_4 im_4 h_4 => ?_)
  obtain ⟨rfl, rfl, hc⟩ := h_4
  exact z_iret (pc := 7) C ρ dX6_way_7 (⟨_, rfl, rfl, SX.rf, ⟨n, ST_fr hst (fun a _ _ h => hc a h) (fun a _ _ => hc a (by omega))⟩, fun a h1 _ _ => hc a (by omega)⟩)
set_option maxRecDepth 100000 in
set_option maxHeartbeats 4000000 in
theorem c6_dark (l : Launch) (E : Ex) (S : Sx) (im : Mem) (B : Nat) (hC : CL S B) (X : Nat) (hX : B + 107 ≤ X) (f : Nat → Int32) (n n7 : Nat) (hst : ST S im (B + 1) X f n n7) (m : Int32) : Mt l E yX6_dark cX6_dark 2 (some .int) 2 0 0 [.ref B, .int m] S im (pI (pC S im B X n7 (r_dark f n m) (f))) := by
  refine Mt.of (by decide +kernel) rfl rfl (Nat.le_of_ble_eq_true rfl) ?_
  intro κ hκ C ρ
  subst hκ
  show V E κ 2 0 0 0 [some (.ref B), some (.int m)] [] S im
  have hn10 := hst.1.1.1
  have h14 := hst.2.1.1.1
  have hr := hst.1
  have hT := hst.2.1
  have hg := hst.2.2
  have hX1 : B + 1 + 15 ≤ X := by omega
  refine z_iload_n (pc := 0) C dX6_dark_0 rfl ?_
  refine z_iconstN (pc := 1) C 0 dX6_dark_1 ?_
  refine z_sipush (v := nI 9999) (pc := 2) C dX6_dark_2 (by decide +kernel) ?_
  refine kX6_56 (pc := 5) C dX6_dark_5 (c6_within κ.2.1 E S im (m) (nI 0) (nI 9999)) (by decide) (Nat.le_of_ble_eq_true rfl) (Nat.le_refl _) (Nat.le_refl _) (fun v_5 S_5 im_5 h_5 => ?_)
  rcases h_5 with ⟨hb_5, rfl, rfl, rfl⟩ | ⟨hb_5, rfl, rfl, rfl⟩
  · 
    refine z_if_eqF (pc := 8) C 22 dX6_dark_8 (by decide) (by decide) ?_
    refine z_aload_n (pc := 11) C dX6_dark_11 rfl ?_
    refine gX6_10 (pc := 12) C dX6_dark_12 (cl_K hC) (cl_r0 hC) ?_
    refine z_iload_n (pc := 15) C dX6_dark_15 rfl ?_
    refine kX6_157 (pc := 16) C dX6_dark_16 (c3_darkAt κ.2.1 E S im (B + 1) (cl_s1 hC) f n hr m) (sl_K (cl_s1 hC)) (by decide) (Nat.le_of_ble_eq_true rfl) (Nat.le_refl _) (Nat.le_refl _) (fun v_16 S_16 im_16 h_16 => ?_)
    obtain ⟨rfl, rfl, rfl⟩ := h_16
    refine z_goto (pc := 19) C 24 dX6_dark_19 (by decide) ?_
    exact z_iret (pc := 24) C ρ dX6_dark_24 (⟨_, rfl, by simp only [r_dark, if_pos hb_5], SX.rf, ⟨n, hst⟩, frC.rf⟩)
  · 
    refine z_if_eqT (pc := 8) C 22 dX6_dark_8 (by decide) (by decide) ?_
    refine z_ldc (pc := 22) C dX6_dark_22 wk_X6_60 ?_
    exact z_iret (pc := 24) C ρ dX6_dark_24 (⟨_, rfl, by simp only [r_dark, if_neg hb_5], SX.rf, ⟨n, hst⟩, frC.rf⟩)
set_option maxRecDepth 100000 in
set_option maxHeartbeats 4000000 in
theorem c6_street (l : Launch) (E : Ex) (S : Sx) (im : Mem) (B : Nat) (hC : CL S B) (X : Nat) (hX : B + 107 ≤ X) (f : Nat → Int32) (n n7 : Nat) (hst : ST S im (B + 1) X f n n7) (x : Int32) : Mt l E yX6_street cX6_street 2 (some .int) 3 0 0 [.ref B, .int x] S im (pI (pC S im B X n7 (r_street f n x) (f))) := by
  refine Mt.of (by decide +kernel) rfl rfl (Nat.le_of_ble_eq_true rfl) ?_
  intro κ hκ C ρ
  subst hκ
  show V E κ 2 0 0 0 [some (.ref B), some (.int x)] [] S im
  have hn10 := hst.1.1.1
  have h14 := hst.2.1.1.1
  have hr := hst.1
  have hT := hst.2.1
  have hg := hst.2.2
  have hX1 : B + 1 + 15 ≤ X := by omega
  refine z_iload_n (pc := 0) C dX6_street_0 rfl ?_
  by_cases hs_0 : x = nI 0
  · 
    refine z_eqi (y := nI 0) hs_0 ?_
    refine z_tableIn (off := 31) (pc := 1) C 32 dX6_street_1 (by decide) (by decide) (by decide +kernel) (by decide) ?_
    refine z_aload_n (pc := 32) C dX6_street_32 rfl ?_
    refine gX6_10 (pc := 33) C dX6_street_33 (cl_K hC) (cl_r0 hC) ?_
    refine gX6_144 (pc := 36) C dX6_street_36 (sl_K (cl_s1 hC)) ?_
    refine z_eqi (y := f 6) (hr.2.1.2.2.2.2.2.1) ?_
    exact z_iret (pc := 39) C ρ dX6_street_39 (⟨_, rfl, by simp only [r_street, if_pos hs_0], SX.rf, ⟨n, hst⟩, frC.rf⟩)
  by_cases hs_1 : x = nI 1
  · 
    refine z_eqi (y := nI 1) hs_1 ?_
    refine z_tableIn (off := 39) (pc := 1) C 40 dX6_street_1 (by decide) (by decide) (by decide +kernel) (by decide) ?_
    refine z_aload_n (pc := 40) C dX6_street_40 rfl ?_
    refine gX6_10 (pc := 41) C dX6_street_41 (cl_K hC) (cl_r0 hC) ?_
    refine z_bipushN (pc := 44) C 6 (by decide) dX6_street_44 ?_
    refine kX6_160 (pc := 46) C dX6_street_46 (c3_sumOf κ.2.1 E S im (B + 1) (cl_s1 hC) f n hr 6 (by decide)) (sl_K (cl_s1 hC)) (by decide) (Nat.le_of_ble_eq_true rfl) (Nat.le_refl _) (Nat.le_refl _) (fun v_46 S_46 im_46 h_46 => ?_)
    obtain ⟨rfl, rfl, rfl⟩ := h_46
    exact z_iret (pc := 49) C ρ dX6_street_49 (⟨_, rfl, by simp only [r_street, if_neg hs_0, if_pos hs_1], SX.rf, ⟨n, hst⟩, frC.rf⟩)
  by_cases hs_2 : x = nI 2
  · 
    refine z_eqi (y := nI 2) hs_2 ?_
    refine z_tableIn (off := 49) (pc := 1) C 50 dX6_street_1 (by decide) (by decide) (by decide +kernel) (by decide) ?_
    refine z_aload_n (pc := 50) C dX6_street_50 rfl ?_
    refine gX6_10 (pc := 51) C dX6_street_51 (cl_K hC) (cl_r0 hC) ?_
    refine z_iconstN (pc := 54) C 2 dX6_street_54 ?_
    refine kX6_160 (pc := 55) C dX6_street_55 (c3_sumOf κ.2.1 E S im (B + 1) (cl_s1 hC) f n hr 2 (by decide)) (sl_K (cl_s1 hC)) (by decide) (Nat.le_of_ble_eq_true rfl) (Nat.le_refl _) (Nat.le_refl _) (fun v_55 S_55 im_55 h_55 => ?_)
    obtain ⟨rfl, rfl, rfl⟩ := h_55
    exact z_iret (pc := 58) C ρ dX6_street_58 (⟨_, rfl, by simp only [r_street, if_neg hs_0, if_neg hs_1, if_pos hs_2], SX.rf, ⟨n, hst⟩, frC.rf⟩)
  by_cases hs_3 : x = nI 3
  · 
    refine z_eqi (y := nI 3) hs_3 ?_
    refine z_tableIn (off := 58) (pc := 1) C 59 dX6_street_1 (by decide) (by decide) (by decide +kernel) (by decide) ?_
    refine z_aload_n (pc := 59) C dX6_street_59 rfl ?_
    refine gX6_10 (pc := 60) C dX6_street_60 (cl_K hC) (cl_r0 hC) ?_
    refine z_iconstN (pc := 63) C 3 dX6_street_63 ?_
    refine kX6_160 (pc := 64) C dX6_street_64 (c3_sumOf κ.2.1 E S im (B + 1) (cl_s1 hC) f n hr 3 (by decide)) (sl_K (cl_s1 hC)) (by decide) (Nat.le_of_ble_eq_true rfl) (Nat.le_refl _) (Nat.le_refl _) (fun v_64 S_64 im_64 h_64 => ?_)
    obtain ⟨rfl, rfl, rfl⟩ := h_64
    exact z_iret (pc := 67) C ρ dX6_street_67 (⟨_, rfl, by simp only [r_street, if_neg hs_0, if_neg hs_1, if_neg hs_2, if_pos hs_3], SX.rf, ⟨n, hst⟩, frC.rf⟩)
  refine z_tableOut (pc := 1) C 68 dX6_street_1 (by have q_0 := lv_neT hs_0 (show (nI 0 : Int32).toInt = 0 by decide); have q_1 := lv_neT hs_1 (show (nI 1 : Int32).toInt = 1 by decide); have q_2 := lv_neT hs_2 (show (nI 2 : Int32).toInt = 2 by decide); have q_3 := lv_neT hs_3 (show (nI 3 : Int32).toInt = 3 by decide); omega) (by decide) ?_
  refine z_ldc (pc := 68) C dX6_street_68 wk_X6_60 ?_
  exact z_iret (pc := 70) C ρ dX6_street_70 (⟨_, rfl, by simp only [r_street, if_neg hs_0, if_neg hs_1, if_neg hs_2, if_neg hs_3], SX.rf, ⟨n, hst⟩, frC.rf⟩)
theorem give_t {f : Nat → Int32} {n7 t key m : Nat} {k : Int32} {fa : Nat → Int32} {d : Int32} (ht : t < 14) (hc : s_cnt f k n7 = nI t) (hk : TxOk f t key m) : s_give f n7 k fa d = s_val f t m fa := by
  unfold s_give
  rw [hc, if_pos (nI_pos' (by omega)), nI_clamp (by omega), s_len_eq hk]
theorem give_d {f : Nat → Int32} {n7 : Nat} {k : Int32} {fa : Nat → Int32} {d : Int32} (hc : s_cnt f k n7 = -1) : s_give f n7 k fa d = d := by
  unfold s_give
  rw [hc, if_neg (by decide)]
set_option maxRecDepth 100000 in
set_option maxHeartbeats 4000000 in
theorem c6_fee (l : Launch) (E : Ex) (S : Sx) (im : Mem) (B : Nat) (hC : CL S B) (X : Nat) (hX : B + 107 ≤ X) (f : Nat → Int32) (n n7 : Nat) (hst : ST S im (B + 1) X f n n7)  : Mt l E yX6_fee cX6_fee 2 (some .int) 3 0 0 [.ref B] S im (pI (pC S im B X n7 (r_fee f n7) (f))) := by
  refine Mt.of (by decide +kernel) rfl rfl (Nat.le_of_ble_eq_true rfl) ?_
  intro κ hκ C ρ
  subst hκ
  show V E κ 2 0 0 0 [some (.ref B), none] [] S im
  have hn10 := hst.1.1.1
  have h14 := hst.2.1.1.1
  have hr := hst.1
  have hT := hst.2.1
  have hg := hst.2.2
  have hX1 : B + 1 + 15 ≤ X := by omega
  refine z_aload_n (pc := 0) C dX6_fee_0 rfl ?_
  refine gX6_10 (pc := 1) C dX6_fee_1 (cl_K hC) (cl_r0 hC) ?_
  refine z_iconstN (pc := 4) C 1 dX6_fee_4 ?_
  refine kX6_199 (pc := 5) C dX6_fee_5 (c3_textThatCounts κ.2.1 E S im (B + 1) (cl_s1 hC) X f n7 hT 1 (by decide)) (sl_K (cl_s1 hC)) (by decide) (Nat.le_of_ble_eq_true rfl) (Nat.le_refl _) (Nat.le_refl _) (fun v_5 S_5 im_5 h_5 => ?_)
  obtain ⟨hd, rfl, rfl⟩ := h_5
  rcases hd with ⟨hc, rfl⟩ | ⟨t, i, m, key, u, htn, hc, hy, hx, rfl⟩
  · show V E κ 2 0 0 8 [some (.ref B), none] [.null] S im
    refine z_astore_nN (pc := 8) C dX6_fee_8 (by decide) rfl ?_
    refine z_aload_nN (pc := 9) C dX6_fee_9 rfl ?_
    refine z_ifnonnullN (pc := 10) C dX6_fee_10 ?_
    refine z_aload_n (pc := 13) C dX6_fee_13 rfl ?_
    refine gX6_10 (pc := 14) C dX6_fee_14 (cl_K hC) (cl_r0 hC) ?_
    refine gX6_144 (pc := 17) C dX6_fee_17 (sl_K (cl_s1 hC)) ?_
    refine z_eqi (y := f 6) (hr.2.1.2.2.2.2.2.1) ?_
    refine z_goto (pc := 20) C 42 dX6_fee_20 (by decide) ?_
    exact z_iret (pc := 42) C ρ dX6_fee_42 (⟨_, rfl, by rw [r_fee, give_d hc], SX.rf, ⟨n, hst⟩, frC.rf⟩)
  · show V E κ 2 0 0 8 [some (.ref B), none] [.ref (X + 3 * i + 1)] S im
    refine z_astore_n (pc := 8) C dX6_fee_8 (by decide) rfl ?_
    refine z_aload_n (pc := 9) C dX6_fee_9 rfl ?_
    refine z_ifnonnull (pc := 10) C 23 dX6_fee_10 (by decide) ?_
    refine z_aload_n (pc := 23) C dX6_fee_23 rfl ?_
    refine z_aload_n (pc := 24) C dX6_fee_24 rfl ?_
    refine gX6_10 (pc := 25) C dX6_fee_25 (cl_K hC) (cl_r0 hC) ?_
    refine gX6_147 (pc := 28) C dX6_fee_28 (sl_K (cl_s1 hC)) ?_
    refine z_eqi (y := f 2) (hr.2.1.2.1) ?_
    refine z_aload_n (pc := 31) C dX6_fee_31 rfl ?_
    refine gX6_10 (pc := 32) C dX6_fee_32 (cl_K hC) (cl_r0 hC) ?_
    refine gX6_144 (pc := 35) C dX6_fee_35 (sl_K (cl_s1 hC)) ?_
    refine z_eqi (y := f 6) (hr.2.1.2.2.2.2.2.1) ?_
    refine z_iconstN (pc := 38) C 0 dX6_fee_38 ?_
    refine kX6_203 (pc := 39) C dX6_fee_39 (c4_gives κ.2.1 E S im (X + 3 * i) m u hx.1 (s_row f t) (nnm key) (nnm_le key) hx.2.1.2.2 hx.2.2.1 hx.2.2.2.1 (f 2) (f 6) (nI 0)) hx.1.2.2.1 (by decide) (Nat.le_of_ble_eq_true rfl) (Nat.le_refl _) (Nat.le_refl _) (fun v_39 S_39 im_39 h_39 => ?_)
    obtain ⟨rfl, rfl, hst2⟩ := h_39
    exact z_iret (pc := 42) C ρ dX6_fee_42 (⟨_, rfl, by rw [r_fee, give_t (by omega) hc hx.2.1, nI_0]; rfl, SX.rf, ⟨n, ST_fr hst (fun a _ _ _ => hst2 a (by omega)) (fun a _ h => hst2 a (by omega))⟩, fun a h1 h2 h3 => hst2 a (by omega)⟩)
set_option maxRecDepth 100000 in
set_option maxHeartbeats 4000000 in
theorem c6_fine (l : Launch) (E : Ex) (S : Sx) (im : Mem) (B : Nat) (hC : CL S B) (X : Nat) (hX : B + 107 ≤ X) (f : Nat → Int32) (n n7 : Nat) (hst : ST S im (B + 1) X f n n7) (x : Int32) : Mt l E yX6_fine cX6_fine 4 (some .int) 3 0 0 [.ref B, .int x] S im (pI (pC S im B X n7 (r_fine f n n7 x) (f))) := by
  refine Mt.of (by decide +kernel) rfl rfl (Nat.le_of_ble_eq_true rfl) ?_
  intro κ hκ C ρ
  subst hκ
  show V E κ 4 0 0 0 [some (.ref B), some (.int x), none, none] [] S im
  have hn10 := hst.1.1.1
  have h14 := hst.2.1.1.1
  have hr := hst.1
  have hT := hst.2.1
  have hg := hst.2.2
  have hX1 : B + 1 + 15 ≤ X := by omega
  refine z_aload_n (pc := 0) C dX6_fine_0 rfl ?_
  refine gX6_10 (pc := 1) C dX6_fine_1 (cl_K hC) (cl_r0 hC) ?_
  refine z_iload_n (pc := 4) C dX6_fine_4 rfl ?_
  refine kX6_70 (pc := 5) C dX6_fine_5 (c3_hasLamp κ.2.1 E S im (B + 1) (cl_s1 hC) x n hn10 hr.1.2.2) (sl_K (cl_s1 hC)) (by decide) (Nat.le_of_ble_eq_true rfl) (Nat.le_refl _) (Nat.le_refl _) (fun v_5 S_5 im_5 h_5 => ?_)
  rcases h_5 with ⟨hb_5, rfl, rfl, rfl⟩ | ⟨hb_5, rfl, rfl, rfl⟩
  · 
    obtain ⟨l0, hl0, rfl⟩ := (in_lamp hn10).mp hb_5
    have hcl : (nI l0).toNatClampNeg = l0 := nI_clamp (by omega)
    refine z_if_neT (pc := 8) C 14 dX6_fine_8 (by decide) (by decide) ?_
    refine z_aload_n (pc := 14) C dX6_fine_14 rfl ?_
    refine gX6_10 (pc := 15) C dX6_fine_15 (cl_K hC) (cl_r0 hC) ?_
    refine gX6_73 (pc := 18) C dX6_fine_18 (sl_K (cl_s1 hC)) (sl_r0 (cl_s1 hC)) ?_
    refine z_iload_n (pc := 21) C dX6_fine_21 rfl ?_
    refine z_aald (pc := 22) C dX6_fine_22 (sl_a1 (cl_s1 hC)) (by decide) (sl_n1 (cl_s1 hC)) (by omega) (by decide) (sl_e (cl_s1 hC) (i := l0) (by omega)) ?_
    refine z_astore_n (pc := 23) C dX6_fine_23 (by decide) rfl ?_
    refine z_aload_n (pc := 24) C dX6_fine_24 rfl ?_
    refine gX6_10 (pc := 25) C dX6_fine_25 (cl_K hC) (cl_r0 hC) ?_
    refine z_iconstN (pc := 28) C 2 dX6_fine_28 ?_
    refine kX6_199 (pc := 29) C dX6_fine_29 (c3_textThatCounts κ.2.1 E S im (B + 1) (cl_s1 hC) X f n7 hT 2 (by decide)) (sl_K (cl_s1 hC)) (by decide) (Nat.le_of_ble_eq_true rfl) (Nat.le_refl _) (Nat.le_refl _) (fun v_29 S_29 im_29 h_29 => ?_)
    obtain ⟨hd, rfl, rfl⟩ := h_29
    rcases hd with ⟨hc, rfl⟩ | ⟨t, i, m, key, u, htn, hc, hy, hx, rfl⟩
    · show V E κ 4 0 0 32 [some (.ref B), some (.int (nI l0)), some (.ref (B + 1 + 5 + l0)), none] [.null] S im
      refine z_astore_nN (pc := 32) C dX6_fine_32 (by decide) rfl ?_
      refine z_aload_nN (pc := 33) C dX6_fine_33 rfl ?_
      refine z_ifnonnullN (pc := 34) C dX6_fine_34 ?_
      refine z_aload_n (pc := 37) C dX6_fine_37 rfl ?_
      refine gX6_207 (pc := 38) C dX6_fine_38 (sl_l (cl_s1 hC) (i := l0) (by omega)) ?_
      refine z_eqi (y := f (8 + 7 * l0 + 6)) (hr.2.2 l0 hl0 6 (by decide)) ?_
      refine z_goto (pc := 41) C 57 dX6_fine_41 (by decide) ?_
      exact z_iret (pc := 57) C ρ dX6_fine_57 (⟨_, rfl, by rw [r_fine, if_pos hb_5, hcl, give_d hc], SX.rf, ⟨n, hst⟩, frC.rf⟩)
    · show V E κ 4 0 0 32 [some (.ref B), some (.int (nI l0)), some (.ref (B + 1 + 5 + l0)), none] [.ref (X + 3 * i + 1)] S im
      refine z_astore_n (pc := 32) C dX6_fine_32 (by decide) rfl ?_
      refine z_aload_n (pc := 33) C dX6_fine_33 rfl ?_
      refine z_ifnonnull (pc := 34) C 44 dX6_fine_34 (by decide) ?_
      refine z_aload_n (pc := 44) C dX6_fine_44 rfl ?_
      refine z_aload_n (pc := 45) C dX6_fine_45 rfl ?_
      refine gX6_111 (pc := 46) C dX6_fine_46 (sl_l (cl_s1 hC) (i := l0) (by omega)) ?_
      refine z_eqi (y := f (8 + 7 * l0 + 3)) (hr.2.2 l0 hl0 3 (by decide)) ?_
      refine z_aload_n (pc := 49) C dX6_fine_49 rfl ?_
      refine gX6_207 (pc := 50) C dX6_fine_50 (sl_l (cl_s1 hC) (i := l0) (by omega)) ?_
      refine z_eqi (y := f (8 + 7 * l0 + 6)) (hr.2.2 l0 hl0 6 (by decide)) ?_
      refine z_iconstN (pc := 53) C 0 dX6_fine_53 ?_
      refine kX6_203 (pc := 54) C dX6_fine_54 (c4_gives κ.2.1 E S im (X + 3 * i) m u hx.1 (s_row f t) (nnm key) (nnm_le key) hx.2.1.2.2 hx.2.2.1 hx.2.2.2.1 (f (8 + 7 * l0 + 3)) (f (8 + 7 * l0 + 6)) (nI 0)) hx.1.2.2.1 (by decide) (Nat.le_of_ble_eq_true rfl) (Nat.le_refl _) (Nat.le_refl _) (fun v_54 S_54 im_54 h_54 => ?_)
      obtain ⟨rfl, rfl, hst2⟩ := h_54
      exact z_iret (pc := 57) C ρ dX6_fine_57 (⟨_, rfl, by rw [r_fine, if_pos hb_5, hcl, give_t (by omega) hc hx.2.1, nI_0]; rfl, SX.rf, ⟨n, ST_fr hst (fun a _ _ _ => hst2 a (by omega)) (fun a _ h => hst2 a (by omega))⟩, fun a h1 h2 h3 => hst2 a (by omega)⟩)
  · 
    refine z_if_neF (pc := 8) C 14 dX6_fine_8 (by decide) (by decide) ?_
    refine z_ldc (pc := 11) C dX6_fine_11 wk_X6_60 ?_
    exact z_iret (pc := 13) C ρ dX6_fine_13 (⟨_, rfl, by simp only [r_fine, if_neg hb_5], SX.rf, ⟨n, hst⟩, frC.rf⟩)
theorem key_div {f : Nat → Int32} {t key m : Nat} (h : TxOk f t key m) : f (78 + 2 * t) / nI 1000 = nI key := by
  have hm := h.2.2.1
  have hk := h.1
  rw [h.2.1, pk_div (by omega) (by decide) (by decide), show (1000 * key + m) / 1000 = key by omega]
set_option maxRecDepth 100000 in
set_option maxHeartbeats 4000000 in
theorem c6_textTold (l : Launch) (E : Ex) (S : Sx) (im : Mem) (B : Nat) (hC : CL S B) (X : Nat) (hX : B + 107 ≤ X) (f : Nat → Int32) (n n7 : Nat) (hst : ST S im (B + 1) X f n n7) (x w : Int32) : Mt l E yX6_textTold cX6_textTold 3 (some .int) 2 0 0 [.ref B, .int x, .int w] S im (pI (pC S im B X n7 (r_textTold f n7 x w) (f))) := by
  refine Mt.of (by decide +kernel) rfl rfl (Nat.le_of_ble_eq_true rfl) ?_
  intro κ hκ C ρ
  subst hκ
  show V E κ 3 0 0 0 [some (.ref B), some (.int x), some (.int w)] [] S im
  have hn10 := hst.1.1.1
  have h14 := hst.2.1.1.1
  have hr := hst.1
  have hT := hst.2.1
  have hg := hst.2.2
  have hX1 : B + 1 + 15 ≤ X := by omega
  refine z_aload_n (pc := 0) C dX6_textTold_0 rfl ?_
  refine gX6_10 (pc := 1) C dX6_textTold_1 (cl_K hC) (cl_r0 hC) ?_
  refine z_iload_n (pc := 4) C dX6_textTold_4 rfl ?_
  refine kX6_233 (pc := 5) C dX6_textTold_5 (c3_hasText κ.2.1 E S im (B + 1) (cl_s1 hC) x n7 h14 hT.1.2.1) (sl_K (cl_s1 hC)) (by decide) (Nat.le_of_ble_eq_true rfl) (Nat.le_refl _) (Nat.le_refl _) (fun v_5 S_5 im_5 h_5 => ?_)
  rcases h_5 with ⟨hb_5, rfl, rfl, rfl⟩ | ⟨hb_5, rfl, rfl, rfl⟩
  · 
    obtain ⟨t, ht, rfl⟩ := (in_text h14).mp hb_5
    have hct : (nI t).toNatClampNeg = t := nI_clamp (by omega)
    obtain ⟨i, m, key, u, hy, hx⟩ := hT.2.1 t ht
    refine z_if_eqF (pc := 8) C 20 dX6_textTold_8 (by decide) (by decide) ?_
    refine z_iload_n (pc := 11) C dX6_textTold_11 rfl ?_
    refine z_iconstN (pc := 12) C 0 dX6_textTold_12 ?_
    refine z_iconstN (pc := 13) C 1 dX6_textTold_13 ?_
    refine kX6_56 (pc := 14) C dX6_textTold_14 (c6_within κ.2.1 E S im (w) (nI 0) (nI 1)) (by decide) (Nat.le_of_ble_eq_true rfl) (Nat.le_refl _) (Nat.le_refl _) (fun v_14 S_14 im_14 h_14 => ?_)
    rcases h_14 with ⟨hb_14, rfl, rfl, rfl⟩ | ⟨hb_14, rfl, rfl, rfl⟩
    · 
      refine z_if_neT (pc := 17) C 23 dX6_textTold_17 (by decide) (by decide) ?_
      refine z_iload_n (pc := 23) C dX6_textTold_23 rfl ?_
      refine z_if_ne (pc := 24) C 42 dX6_textTold_24 (by decide) (fun c_24 => ?_) (fun c_24 => ?_)
      · 
        refine z_aload_n (pc := 42) C dX6_textTold_42 rfl ?_
        refine gX6_10 (pc := 43) C dX6_textTold_43 (cl_K hC) (cl_r0 hC) ?_
        refine gX6_236 (pc := 46) C dX6_textTold_46 (sl_K (cl_s1 hC)) (sl_r9 (cl_s1 hC)) ?_
        refine z_iload_n (pc := 49) C dX6_textTold_49 rfl ?_
        refine z_aald (pc := 50) C dX6_textTold_50 (sl_a3 (cl_s1 hC)) (by decide) (sl_n3 (cl_s1 hC)) (by omega) (by decide) hy ?_
        refine gX6_243 (pc := 51) C dX6_textTold_51 hx.1.2.2.1 ?_
        exact z_iret (pc := 54) C ρ dX6_textTold_54 (⟨_, rfl, by simp only [r_textTold, if_pos hb_5, if_pos hb_14, if_neg c_24, hct]; exact hx.2.2.2.2.2.symm, SX.rf, ⟨n, hst⟩, frC.rf⟩)
      · 
        refine z_aload_n (pc := 27) C dX6_textTold_27 rfl ?_
        refine gX6_10 (pc := 28) C dX6_textTold_28 (cl_K hC) (cl_r0 hC) ?_
        refine gX6_236 (pc := 31) C dX6_textTold_31 (sl_K (cl_s1 hC)) (sl_r9 (cl_s1 hC)) ?_
        refine z_iload_n (pc := 34) C dX6_textTold_34 rfl ?_
        refine z_aald (pc := 35) C dX6_textTold_35 (sl_a3 (cl_s1 hC)) (by decide) (sl_n3 (cl_s1 hC)) (by omega) (by decide) hy ?_
        refine gX6_240 (pc := 36) C dX6_textTold_36 hx.1.2.2.1 ?_
        refine z_eqi (y := nI key) (hx.2.2.2.2.1) ?_
        refine z_goto (pc := 39) C 54 dX6_textTold_39 (by decide) ?_
        exact z_iret (pc := 54) C ρ dX6_textTold_54 (⟨_, rfl, by simp only [r_textTold, if_pos hb_5, if_pos hb_14, if_pos c_24, hct]; exact key_div hx.2.1, SX.rf, ⟨n, hst⟩, frC.rf⟩)
    · 
      refine z_if_neF (pc := 17) C 23 dX6_textTold_17 (by decide) (by decide) ?_
      refine z_ldc (pc := 20) C dX6_textTold_20 wk_X6_60 ?_
      exact z_iret (pc := 22) C ρ dX6_textTold_22 (⟨_, rfl, by simp only [r_textTold, if_pos hb_5, if_neg hb_14], SX.rf, ⟨n, hst⟩, frC.rf⟩)
  · 
    refine z_if_eqT (pc := 8) C 20 dX6_textTold_8 (by decide) (by decide) ?_
    refine z_ldc (pc := 20) C dX6_textTold_20 wk_X6_60 ?_
    exact z_iret (pc := 22) C ρ dX6_textTold_22 (⟨_, rfl, by simp only [r_textTold, if_neg hb_5], SX.rf, ⟨n, hst⟩, frC.rf⟩)
set_option maxRecDepth 100000 in
set_option maxHeartbeats 4000000 in
theorem c6_why (l : Launch) (E : Ex) (S : Sx) (im : Mem) (B : Nat) (hC : CL S B) (X : Nat) (hX : B + 107 ≤ X) (f : Nat → Int32) (n n7 : Nat) (hst : ST S im (B + 1) X f n n7) (x : Int32) : Mt l E yX6_why cX6_why 2 (some .int) 2 0 0 [.ref B, .int x] S im (pI (pC S im B X n7 (r_why f n7 x) (f))) := by
  refine Mt.of (by decide +kernel) rfl rfl (Nat.le_of_ble_eq_true rfl) ?_
  intro κ hκ C ρ
  subst hκ
  show V E κ 2 0 0 0 [some (.ref B), some (.int x)] [] S im
  have hn10 := hst.1.1.1
  have h14 := hst.2.1.1.1
  have hr := hst.1
  have hT := hst.2.1
  have hg := hst.2.2
  have hX1 : B + 1 + 15 ≤ X := by omega
  refine z_iload_n (pc := 0) C dX6_why_0 rfl ?_
  refine kX6_246 (pc := 1) C dX6_why_1 (c4_isKey κ.2.1 E S im x) (by decide) (Nat.le_of_ble_eq_true rfl) (Nat.le_refl _) (Nat.le_refl _) (fun v_1 S_1 im_1 h_1 => ?_)
  rcases h_1 with ⟨hb_1, rfl, rfl, rfl⟩ | ⟨hb_1, rfl, rfl, rfl⟩
  · 
    obtain ⟨k, hk0, hk, rfl⟩ := (rng (by decide) (by decide)).mp hb_1
    refine z_if_eqF (pc := 4) C 19 dX6_why_4 (by decide) (by decide) ?_
    refine z_aload_n (pc := 7) C dX6_why_7 rfl ?_
    refine gX6_10 (pc := 8) C dX6_why_8 (cl_K hC) (cl_r0 hC) ?_
    refine gX6_249 (pc := 11) C dX6_why_11 (sl_K (cl_s1 hC)) (sl_r11 (cl_s1 hC)) ?_
    refine z_iload_n (pc := 14) C dX6_why_14 rfl ?_
    refine z_iald (pc := 15) C dX6_why_15 (sl_a4 (cl_s1 hC)) (sl_n4 (cl_s1 hC)) (by omega) (by decide) ?_
    refine z_goto (pc := 16) C 21 dX6_why_16 (by decide) ?_
    exact z_iret (pc := 21) C ρ dX6_why_21 (⟨_, rfl, by rw [hT.2.2 k (by omega)]; simp only [r_why, if_pos hb_1, s_told0], SX.rf, ⟨n, hst⟩, frC.rf⟩)
  · 
    refine z_if_eqT (pc := 4) C 19 dX6_why_4 (by decide) (by decide) ?_
    refine z_ldc (pc := 19) C dX6_why_19 wk_X6_60 ?_
    exact z_iret (pc := 21) C ρ dX6_why_21 (⟨_, rfl, by simp only [r_why, if_neg hb_1], SX.rf, ⟨n, hst⟩, frC.rf⟩)
set_option maxRecDepth 100000 in
set_option maxHeartbeats 4000000 in
theorem c6_count (l : Launch) (E : Ex) (S : Sx) (im : Mem) (B : Nat) (hC : CL S B) (X : Nat) (hX : B + 107 ≤ X) (f : Nat → Int32) (n n7 : Nat) (hst : ST S im (B + 1) X f n n7) (x : Int32) : Mt l E yX6_count cX6_count 2 (some .int) 1 0 0 [.ref B, .int x] S im (pI (pC S im B X n7 (r_count f (im B 8) (im (B + 46) 1) x) (f))) := by
  refine Mt.of (by decide +kernel) rfl rfl (Nat.le_of_ble_eq_true rfl) ?_
  intro κ hκ C ρ
  subst hκ
  show V E κ 2 0 0 0 [some (.ref B), some (.int x)] [] S im
  have hn10 := hst.1.1.1
  have h14 := hst.2.1.1.1
  have hr := hst.1
  have hT := hst.2.1
  have hg := hst.2.2
  have hX1 : B + 1 + 15 ≤ X := by omega
  refine z_iload_n (pc := 0) C dX6_count_0 rfl ?_
  by_cases hs_0 : x = nI 0
  · 
    refine z_eqi (y := nI 0) hs_0 ?_
    refine z_tableIn (off := 51) (pc := 1) C 52 dX6_count_1 (by decide) (by decide) (by decide +kernel) (by decide) ?_
    refine z_aload_n (pc := 52) C dX6_count_52 rfl ?_
    refine gX6_10 (pc := 53) C dX6_count_53 (cl_K hC) (cl_r0 hC) ?_
    refine gX6_61 (pc := 56) C dX6_count_56 (sl_K (cl_s1 hC)) ?_
    refine z_eqi (y := f 1) (by rw [hr.1.2.1]; exact hr.1.2.2) ?_
    exact z_iret (pc := 59) C ρ dX6_count_59 (⟨_, rfl, by simp only [r_count, if_pos hs_0], SX.rf, ⟨n, hst⟩, frC.rf⟩)
  by_cases hs_1 : x = nI 1
  · 
    refine z_eqi (y := nI 1) hs_1 ?_
    refine z_tableIn (off := 59) (pc := 1) C 60 dX6_count_1 (by decide) (by decide) (by decide +kernel) (by decide) ?_
    refine z_aload_n (pc := 60) C dX6_count_60 rfl ?_
    refine gX6_10 (pc := 61) C dX6_count_61 (cl_K hC) (cl_r0 hC) ?_
    refine gX6_147 (pc := 64) C dX6_count_64 (sl_K (cl_s1 hC)) ?_
    refine z_eqi (y := f 2) (hr.2.1.2.1) ?_
    exact z_iret (pc := 67) C ρ dX6_count_67 (⟨_, rfl, by simp only [r_count, if_neg hs_0, if_pos hs_1], SX.rf, ⟨n, hst⟩, frC.rf⟩)
  by_cases hs_2 : x = nI 2
  · 
    refine z_eqi (y := nI 2) hs_2 ?_
    refine z_tableIn (off := 67) (pc := 1) C 68 dX6_count_1 (by decide) (by decide) (by decide +kernel) (by decide) ?_
    refine z_aload_n (pc := 68) C dX6_count_68 rfl ?_
    refine gX6_10 (pc := 69) C dX6_count_69 (cl_K hC) (cl_r0 hC) ?_
    refine gX6_129 (pc := 72) C dX6_count_72 (sl_K (cl_s1 hC)) ?_
    refine z_eqi (y := f 3) (hr.2.1.2.2.1) ?_
    exact z_iret (pc := 75) C ρ dX6_count_75 (⟨_, rfl, by simp only [r_count, if_neg hs_0, if_neg hs_1, if_pos hs_2], SX.rf, ⟨n, hst⟩, frC.rf⟩)
  by_cases hs_3 : x = nI 3
  · 
    refine z_eqi (y := nI 3) hs_3 ?_
    refine z_tableIn (off := 75) (pc := 1) C 76 dX6_count_1 (by decide) (by decide) (by decide +kernel) (by decide) ?_
    refine z_aload_n (pc := 76) C dX6_count_76 rfl ?_
    refine gX6_10 (pc := 77) C dX6_count_77 (cl_K hC) (cl_r0 hC) ?_
    refine gX6_132 (pc := 80) C dX6_count_80 (sl_K (cl_s1 hC)) ?_
    refine z_eqi (y := f 4) (hr.2.1.2.2.2.1) ?_
    exact z_iret (pc := 83) C ρ dX6_count_83 (⟨_, rfl, by simp only [r_count, if_neg hs_0, if_neg hs_1, if_neg hs_2, if_pos hs_3], SX.rf, ⟨n, hst⟩, frC.rf⟩)
  by_cases hs_4 : x = nI 4
  · 
    refine z_eqi (y := nI 4) hs_4 ?_
    refine z_tableIn (off := 83) (pc := 1) C 84 dX6_count_1 (by decide) (by decide) (by decide +kernel) (by decide) ?_
    refine z_aload_n (pc := 84) C dX6_count_84 rfl ?_
    refine gX6_10 (pc := 85) C dX6_count_85 (cl_K hC) (cl_r0 hC) ?_
    refine gX6_135 (pc := 88) C dX6_count_88 (sl_K (cl_s1 hC)) ?_
    refine z_eqi (y := f 5) (hr.2.1.2.2.2.2.1) ?_
    exact z_iret (pc := 91) C ρ dX6_count_91 (⟨_, rfl, by simp only [r_count, if_neg hs_0, if_neg hs_1, if_neg hs_2, if_neg hs_3, if_pos hs_4], SX.rf, ⟨n, hst⟩, frC.rf⟩)
  by_cases hs_5 : x = nI 5
  · 
    refine z_eqi (y := nI 5) hs_5 ?_
    refine z_tableIn (off := 91) (pc := 1) C 92 dX6_count_1 (by decide) (by decide) (by decide +kernel) (by decide) ?_
    refine z_aload_n (pc := 92) C dX6_count_92 rfl ?_
    refine gX6_10 (pc := 93) C dX6_count_93 (cl_K hC) (cl_r0 hC) ?_
    refine gX6_222 (pc := 96) C dX6_count_96 (sl_K (cl_s1 hC)) ?_
    refine z_eqi (y := f 7) (hr.2.1.2.2.2.2.2.2) ?_
    exact z_iret (pc := 99) C ρ dX6_count_99 (⟨_, rfl, by simp only [r_count, if_neg hs_0, if_neg hs_1, if_neg hs_2, if_neg hs_3, if_neg hs_4, if_pos hs_5], SX.rf, ⟨n, hst⟩, frC.rf⟩)
  by_cases hs_6 : x = nI 6
  · 
    refine z_eqi (y := nI 6) hs_6 ?_
    refine z_tableIn (off := 99) (pc := 1) C 100 dX6_count_1 (by decide) (by decide) (by decide +kernel) (by decide) ?_
    refine z_aload_n (pc := 100) C dX6_count_100 rfl ?_
    refine gX6_314 (pc := 101) C dX6_count_101 (cl_K hC) ?_
    exact z_iret (pc := 104) C ρ dX6_count_104 (⟨_, rfl, by simp only [r_count, if_neg hs_0, if_neg hs_1, if_neg hs_2, if_neg hs_3, if_neg hs_4, if_neg hs_5, if_pos hs_6], SX.rf, ⟨n, hst⟩, frC.rf⟩)
  by_cases hs_7 : x = nI 7
  · 
    refine z_eqi (y := nI 7) hs_7 ?_
    refine z_tableIn (off := 104) (pc := 1) C 105 dX6_count_1 (by decide) (by decide) (by decide +kernel) (by decide) ?_
    refine z_aload_n (pc := 105) C dX6_count_105 rfl ?_
    refine gX6_25 (pc := 106) C dX6_count_106 (cl_K hC) (cl_r4 hC) ?_
    refine gX6_210 (pc := 109) C dX6_count_109 (cl_kr hC) ?_
    exact z_iret (pc := 112) C ρ dX6_count_112 (⟨_, rfl, by simp only [r_count, if_neg hs_0, if_neg hs_1, if_neg hs_2, if_neg hs_3, if_neg hs_4, if_neg hs_5, if_neg hs_6, if_pos hs_7], SX.rf, ⟨n, hst⟩, frC.rf⟩)
  by_cases hs_8 : x = nI 8
  · 
    refine z_eqi (y := nI 8) hs_8 ?_
    refine z_tableIn (off := 112) (pc := 1) C 113 dX6_count_1 (by decide) (by decide) (by decide +kernel) (by decide) ?_
    refine z_aload_n (pc := 113) C dX6_count_113 rfl ?_
    refine gX6_10 (pc := 114) C dX6_count_114 (cl_K hC) (cl_r0 hC) ?_
    refine gX6_126 (pc := 117) C dX6_count_117 (sl_K (cl_s1 hC)) ?_
    refine z_eqi (y := f 0) (hr.2.1.1) ?_
    exact z_iret (pc := 120) C ρ dX6_count_120 (⟨_, rfl, by simp only [r_count, if_neg hs_0, if_neg hs_1, if_neg hs_2, if_neg hs_3, if_neg hs_4, if_neg hs_5, if_neg hs_6, if_neg hs_7, if_pos hs_8], SX.rf, ⟨n, hst⟩, frC.rf⟩)
  refine z_tableOut (pc := 1) C 121 dX6_count_1 (by have q_0 := lv_neT hs_0 (show (nI 0 : Int32).toInt = 0 by decide); have q_1 := lv_neT hs_1 (show (nI 1 : Int32).toInt = 1 by decide); have q_2 := lv_neT hs_2 (show (nI 2 : Int32).toInt = 2 by decide); have q_3 := lv_neT hs_3 (show (nI 3 : Int32).toInt = 3 by decide); have q_4 := lv_neT hs_4 (show (nI 4 : Int32).toInt = 4 by decide); have q_5 := lv_neT hs_5 (show (nI 5 : Int32).toInt = 5 by decide); have q_6 := lv_neT hs_6 (show (nI 6 : Int32).toInt = 6 by decide); have q_7 := lv_neT hs_7 (show (nI 7 : Int32).toInt = 7 by decide); have q_8 := lv_neT hs_8 (show (nI 8 : Int32).toInt = 8 by decide); omega) (by decide) ?_
  refine z_ldc (pc := 121) C dX6_count_121 wk_X6_60 ?_
  exact z_iret (pc := 123) C ρ dX6_count_123 (⟨_, rfl, by simp only [r_count, if_neg hs_0, if_neg hs_1, if_neg hs_2, if_neg hs_3, if_neg hs_4, if_neg hs_5, if_neg hs_6, if_neg hs_7, if_neg hs_8], SX.rf, ⟨n, hst⟩, frC.rf⟩)
