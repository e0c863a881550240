/-! the class: what will be -/
set_option maxRecDepth 100000 in
set_option maxHeartbeats 4000000 in
theorem c6_behind (l : Launch) (E : Ex) (S : Sx) (im : Mem) (B : Nat) (hC : CL S B) (X : Nat) (hX : B + 107 ≤ X) (f : Nat → Int32) (n n7 : Nat) (hst : ST S im (B + 1) X f n n7) (x w : Int32) : Mt l E yX6_behind cX6_behind 3 (some .int) 7 0 0 [.ref B, .int x, .int w] S im (pI (pC S im B X n7 (r_behind f n n7 x w) (f))) := by
  refine Mt.of (by decide +kernel) rfl rfl (Nat.le_of_ble_eq_true rfl) ?_
  intro κ hκ C ρ
  subst hκ
  show V E κ 3 0 0 0 [some (.ref B), some (.int x), some (.int w)] [] S im
  have hn10 := hst.1.1.1
  have h14 := hst.2.1.1.1
  have hr := hst.1
  have hT := hst.2.1
  have hg := hst.2.2
  have hX1 : B + 1 + 15 ≤ X := by omega
  refine z_iload_n (pc := 0) C dX6_behind_0 rfl ?_
  refine z_iconstN (pc := 1) C 0 dX6_behind_1 ?_
  refine z_bipushN (pc := 2) C 100 (by decide) dX6_behind_2 ?_
  refine kX6_56 (pc := 4) C dX6_behind_4 (c6_within κ.2.1 E S im (x) (nI 0) (nI 100)) (by decide) (Nat.le_of_ble_eq_true rfl) (Nat.le_refl _) (Nat.le_refl _) (fun v_4 S_4 im_4 h_4 => ?_)
  rcases h_4 with ⟨hb_4, rfl, rfl, rfl⟩ | ⟨hb_4, rfl, rfl, rfl⟩
  · 
    obtain ⟨x0, hx00, hx0, rfl⟩ := (rng (by decide) (by decide)).mp hb_4
    have hcx : (nI x0).toNatClampNeg = x0 := nI_clamp (by omega)
    refine z_if_eqF (pc := 7) C 19 dX6_behind_7 (by decide) (by decide) ?_
    refine z_iload_n (pc := 10) C dX6_behind_10 rfl ?_
    refine z_iconstN (pc := 11) C 0 dX6_behind_11 ?_
    refine z_iconstN (pc := 12) C 3 dX6_behind_12 ?_
    refine kX6_56 (pc := 13) C dX6_behind_13 (c6_within κ.2.1 E S im (w) (nI 0) (nI 3)) (by decide) (Nat.le_of_ble_eq_true rfl) (Nat.le_refl _) (Nat.le_refl _) (fun v_13 S_13 im_13 h_13 => ?_)
    rcases h_13 with ⟨hb_13, rfl, rfl, rfl⟩ | ⟨hb_13, rfl, rfl, rfl⟩
    · 
      refine z_if_neT (pc := 16) C 22 dX6_behind_16 (by decide) (by decide) ?_
      refine z_aload_n (pc := 22) C dX6_behind_22 rfl ?_
      refine gX6_19 (pc := 23) C dX6_behind_23 (cl_K hC) (cl_r2 hC) ?_
      refine z_aload_n (pc := 26) C dX6_behind_26 rfl ?_
      refine gX6_10 (pc := 27) C dX6_behind_27 (cl_K hC) (cl_r0 hC) ?_
      refine kX6_163 (pc := 30) C dX6_behind_30 (c3_becomes κ.2.1 E S im (B + 31) (cl_s3 hC) (B + 1) (cl_s1 hC) (by omega) X f n n7 hst (by omega) (by omega)) (sl_K (cl_s3 hC)) (by decide) (Nat.le_of_ble_eq_true rfl) (Nat.le_refl _) (Nat.le_refl _) (fun S_30 im_30 h_30 => ?_)
      obtain ⟨sx_30, ht_30, -, fq_30⟩ := h_30
      have hC := CL_X hC sx_30 (Or.inr (Or.inr rfl))
      have hn_30 : ST S_30 im_30 (B + 1) X f n n7 := ST_fr (ST_X hst sx_30 (by omega) (by omega)) (fun a h1 h2 _ => fq_30 a (by omega)) (fun a h1 _ => fq_30 a (by omega))
      have fr_30 : frC B X im im_30 := fun a h1 h2 h3 => fq_30 a (by omega)
      refine z_aload_n (pc := 33) C dX6_behind_33 rfl ?_
      refine gX6_19 (pc := 34) C dX6_behind_34 (cl_K hC) (cl_r2 hC) ?_
      refine z_iload_n (pc := 37) C dX6_behind_37 rfl ?_
      refine z_iconst (v := -1) (pc := 38) C dX6_behind_38 (by decide) ?_
      refine kX6_150 (pc := 39) C dX6_behind_39 (c3_passNights κ.2.1 E S_30 im_30 (B + 31) (cl_s3 hC) X (f) n n7 ht_30 (by omega) (x0) (by omega) (-1)) (sl_K (cl_s3 hC)) (by decide) (Nat.le_of_ble_eq_true rfl) (Nat.le_refl _) (Nat.le_refl _) (fun S_39 im_39 h_39 => ?_)
      obtain ⟨rfl, ht_39, -, fq_39⟩ := h_39
      have hn_39 : ST S_30 im_39 (B + 1) X f n n7 := ST_fr hn_30 (fun a h1 h2 _ => fq_39 a (by omega) (by omega)) (fun a h1 h2 => fq_39 a (by omega) (Or.inr h2))
      refine z_iload_n (pc := 42) C dX6_behind_42 rfl ?_
      by_cases hs_0 : w = nI 0
      · 
        refine z_eqi (y := nI 0) hs_0 ?_
        refine z_tableIn (off := 25) (pc := 43) C 68 dX6_behind_43 (by decide) (by decide) (by decide +kernel) (by decide) ?_
        refine z_aload_n (pc := 68) C dX6_behind_68 rfl ?_
        refine gX6_19 (pc := 69) C dX6_behind_69 (cl_K hC) (cl_r2 hC) ?_
        refine gX6_144 (pc := 72) C dX6_behind_72 (sl_K (cl_s3 hC)) ?_
        refine z_eqi (y := (s_nights f n n7 (-1) x0) 6) (ht_39.1.2.1.2.2.2.2.2.1) ?_
        exact z_iret (pc := 75) C ρ dX6_behind_75 (⟨_, rfl, by rw [r_behind, if_pos hb_4, if_pos hb_13, hs_0, if_neg (by decide), hcx, r_street, if_pos rfl], sx_30, ⟨n, hn_39⟩, fr_30.tr fq_39.C3⟩)
      by_cases hs_1 : w = nI 1
      · 
        refine z_eqi (y := nI 1) hs_1 ?_
        refine z_tableIn (off := 33) (pc := 43) C 76 dX6_behind_43 (by decide) (by decide) (by decide +kernel) (by decide) ?_
        refine z_aload_n (pc := 76) C dX6_behind_76 rfl ?_
        refine gX6_19 (pc := 77) C dX6_behind_77 (cl_K hC) (cl_r2 hC) ?_
        refine z_bipushN (pc := 80) C 6 (by decide) dX6_behind_80 ?_
        refine kX6_160 (pc := 82) C dX6_behind_82 (c3_sumOf κ.2.1 E S_30 im_39 (B + 31) (cl_s3 hC) (s_nights f n n7 (-1) x0) n ht_39.1 6 (by decide)) (sl_K (cl_s3 hC)) (by decide) (Nat.le_of_ble_eq_true rfl) (Nat.le_refl _) (Nat.le_refl _) (fun v_82 S_82 im_82 h_82 => ?_)
        obtain ⟨rfl, rfl, rfl⟩ := h_82
        exact z_iret (pc := 85) C ρ dX6_behind_85 (⟨_, rfl, by rw [r_behind, if_pos hb_4, if_pos hb_13, hs_1, if_neg (by decide), hcx, r_street, if_neg (by decide), if_pos rfl], sx_30, ⟨n, hn_39⟩, fr_30.tr fq_39.C3⟩)
      by_cases hs_2 : w = nI 2
      · 
        refine z_eqi (y := nI 2) hs_2 ?_
        refine z_tableIn (off := 43) (pc := 43) C 86 dX6_behind_43 (by decide) (by decide) (by decide +kernel) (by decide) ?_
        refine z_aload_n (pc := 86) C dX6_behind_86 rfl ?_
        refine gX6_19 (pc := 87) C dX6_behind_87 (cl_K hC) (cl_r2 hC) ?_
        refine z_iconstN (pc := 90) C 2 dX6_behind_90 ?_
        refine kX6_160 (pc := 91) C dX6_behind_91 (c3_sumOf κ.2.1 E S_30 im_39 (B + 31) (cl_s3 hC) (s_nights f n n7 (-1) x0) n ht_39.1 2 (by decide)) (sl_K (cl_s3 hC)) (by decide) (Nat.le_of_ble_eq_true rfl) (Nat.le_refl _) (Nat.le_refl _) (fun v_91 S_91 im_91 h_91 => ?_)
        obtain ⟨rfl, rfl, rfl⟩ := h_91
        exact z_iret (pc := 94) C ρ dX6_behind_94 (⟨_, rfl, by rw [r_behind, if_pos hb_4, if_pos hb_13, hs_2, if_neg (by decide), hcx, r_street, if_neg (by decide), if_neg (by decide), if_pos rfl], sx_30, ⟨n, hn_39⟩, fr_30.tr fq_39.C3⟩)
      refine z_tableOut (pc := 43) C 95 dX6_behind_43 (by have q_0 := lv_neT hs_0 (show (nI 0 : Int32).toInt = 0 by decide); have q_1 := lv_neT hs_1 (show (nI 1 : Int32).toInt = 1 by decide); have q_2 := lv_neT hs_2 (show (nI 2 : Int32).toInt = 2 by decide); omega) (by decide) ?_
      refine z_aload_n (pc := 95) C dX6_behind_95 rfl ?_
      refine gX6_19 (pc := 96) C dX6_behind_96 (cl_K hC) (cl_r2 hC) ?_
      refine kX6_167 (pc := 99) C dX6_behind_99 (c3_foremost κ.2.1 E S_30 im_39 (B + 31) (cl_s3 hC) (s_nights f n n7 (-1) x0) n ht_39.1) (sl_K (cl_s3 hC)) (by decide) (Nat.le_of_ble_eq_true rfl) (Nat.le_refl _) (Nat.le_refl _) (fun v_99 S_99 im_99 h_99 => ?_)
      obtain ⟨rfl, rfl, hc⟩ := h_99
      obtain ⟨w0, -, hw0, rfl⟩ := (rng (by decide) (by decide)).mp hb_13
      have hw3 : w0 = 3 := (by have h1 : ¬ w0 = 0 := (fun h => hs_0 (by rw [h])); have h2 : ¬ w0 = 1 := (fun h => hs_1 (by rw [h])); have h3 : ¬ w0 = 2 := (fun h => hs_2 (by rw [h])); omega)
      subst hw3
      exact z_iret (pc := 102) C ρ dX6_behind_102 (⟨_, rfl, by rw [r_behind, if_pos hb_4, if_pos hb_13, if_pos rfl, hcx], sx_30, ⟨n, ST_fr hn_39 (fun a _ _ _ => hc a (by omega)) (fun a _ _ => hc a (by omega))⟩, (fr_30.tr fq_39.C3).tr (fun a h1 _ _ => hc a (by omega))⟩)
    · 
      refine z_if_neF (pc := 16) C 22 dX6_behind_16 (by decide) (by decide) ?_
      refine z_ldc (pc := 19) C dX6_behind_19 wk_X6_60 ?_
      exact z_iret (pc := 21) C ρ dX6_behind_21 (⟨_, rfl, by simp only [r_behind, if_pos hb_4, if_neg hb_13], SX.rf, ⟨n, hst⟩, frC.rf⟩)
  · 
    refine z_if_eqT (pc := 7) C 19 dX6_behind_7 (by decide) (by decide) ?_
    refine z_ldc (pc := 19) C dX6_behind_19 wk_X6_60 ?_
    exact z_iret (pc := 21) C ρ dX6_behind_21 (⟨_, rfl, by simp only [r_behind, if_neg hb_4], SX.rf, ⟨n, hst⟩, frC.rf⟩)
set_option maxRecDepth 100000 in
set_option maxHeartbeats 4000000 in
theorem c6_round (l : Launch) (E : Ex) (S : Sx) (im : Mem) (B : Nat) (hC : CL S B) (X : Nat) (hX : B + 107 ≤ X) (f : Nat → Int32) (n n7 : Nat) (hst : ST S im (B + 1) X f n n7)  : Mt l E yX6_round cX6_round 2 (some .int) 6 0 0 [.ref B] S im (pI (pC S im B X n7 (s_rnd f n n7 200 1) (f))) := by
  refine Mt.of (by decide +kernel) rfl rfl (Nat.le_of_ble_eq_true rfl) ?_
  intro κ hκ C ρ
  subst hκ
  show V E κ 2 0 0 0 [some (.ref B), none] [] S im
  have hn10 := hst.1.1.1
  have h14 := hst.2.1.1.1
  have hr := hst.1
  have hT := hst.2.1
  have hg := hst.2.2
  have hX1 : B + 1 + 15 ≤ X := by omega
  refine z_aload_n (pc := 0) C dX6_round_0 rfl ?_
  refine gX6_10 (pc := 1) C dX6_round_1 (cl_K hC) (cl_r0 hC) ?_
  refine kX6_138 (pc := 4) C dX6_round_4 (c3_lineUp κ.2.1 E S im (B + 1) (cl_s1 hC) f n hr) (sl_K (cl_s1 hC)) (by decide) (Nat.le_of_ble_eq_true rfl) (Nat.le_refl _) (Nat.le_refl _) (fun S_4 im_4 h_4 => ?_)
  obtain ⟨rfl, hL, hc⟩ := h_4
  have hst4 : ST S im_4 (B + 1) X f n n7 := ST_fr hst (fun a _ _ h => hc a h) (fun a _ _ => hc a (by omega))
  refine z_aload_n (pc := 7) C dX6_round_7 rfl ?_
  refine gX6_19 (pc := 8) C dX6_round_8 (cl_K hC) (cl_r2 hC) ?_
  refine z_aload_n (pc := 11) C dX6_round_11 rfl ?_
  refine gX6_10 (pc := 12) C dX6_round_12 (cl_K hC) (cl_r0 hC) ?_
  refine kX6_163 (pc := 15) C dX6_round_15 (c3_becomes κ.2.1 E S im_4 (B + 31) (cl_s3 hC) (B + 1) (cl_s1 hC) (by omega) X f n n7 hst4 (by omega) (by omega)) (sl_K (cl_s3 hC)) (by decide) (Nat.le_of_ble_eq_true rfl) (Nat.le_refl _) (Nat.le_refl _) (fun S_15 im_15 h_15 => ?_)
  obtain ⟨sx_15, ht_15, -, fq_15⟩ := h_15
  have hC := CL_X hC sx_15 (Or.inr (Or.inr rfl))
  have hn_15 : ST S_15 im_15 (B + 1) X f n n7 := ST_fr (ST_X hst4 sx_15 (by omega) (by omega)) (fun a h1 h2 _ => fq_15 a (by omega)) (fun a h1 _ => fq_15 a (by omega))
  have fr_15 : frC B X im_4 im_15 := fun a h1 h2 h3 => fq_15 a (by omega)
  have loop : ∀ (r i : Nat) (im' : Mem), i + r = 200 → s_rnd f n n7 200 1 = s_rnd f n n7 r (i + 1) → ST S_15 im' (B + 31) X (s_nights f n n7 (-1) i) n n7 → ST S_15 im' (B + 1) X f n n7 → (∀ j, j < n → im' (B + 1 + 2) j = nI (ordA f n j)) → frC B X im im' → V E κ 2 0 0 20 [some (.ref B), some (.int (nI (i + 1)))] [] S_15 im' := by
    intro r
    induction r with
    | zero =>
      intro i im' hi hans ht' hn' hL' hfr
      refine z_iload_n (pc := 20) C dX6_round_20 rfl ?_
      refine z_sipush (v := nI 200) (pc := 21) C dX6_round_21 (by decide +kernel) ?_
      refine z_icmp_gtT (pc := 24) C 64 dX6_round_24 (by decide) (nI_lt (by omega) (by omega)) ?_
      refine z_ldc (pc := 64) C dX6_round_64 wk_X6_178 ?_
      exact z_iret (pc := 66) C ρ dX6_round_66 (⟨_, rfl, by rw [hans]; rfl, sx_15, ⟨n, hn'⟩, hfr⟩)
    | succ r ih =>
      intro i im' hi hans ht' hn' hL' hfr
      refine z_iload_n (pc := 20) C dX6_round_20 rfl ?_
      refine z_sipush (v := nI 200) (pc := 21) C dX6_round_21 (by decide +kernel) ?_
      refine z_icmp_gtF (pc := 24) C 64 dX6_round_24 (by decide) (nI_nlt (by omega) (by omega)) ?_
      refine z_aload_n (pc := 27) C dX6_round_27 rfl ?_
      refine gX6_19 (pc := 28) C dX6_round_28 (cl_K hC) (cl_r2 hC) ?_
      refine z_iconst (v := -1) (pc := 31) C dX6_round_31 (by decide) ?_
      refine kX6_170 (pc := 32) C dX6_round_32 (c3_passNight κ.2.1 E S_15 im' (B + 31) (cl_s3 hC) (s_nights f n n7 (-1) i) n ht'.1 X n7 ht'.2.1 (by omega) ht'.2.2 (-1)) (sl_K (cl_s3 hC)) (by decide) (Nat.le_of_ble_eq_true rfl) (Nat.le_refl _) (Nat.le_refl _) (fun S_32 im_32 h_32 => ?_)
      obtain ⟨rfl, g1, -, g2, g3⟩ := h_32
      have h32 : ST S_15 im_32 (B + 31) X (s_nights f n n7 (-1) (i + 1)) n n7 := ST_mv ht' g1 (sam_night hn10) (RG_night hn10 ht'.2.2) g2 g3 (by omega)
      refine z_aload_n (pc := 35) C dX6_round_35 rfl ?_
      refine gX6_19 (pc := 36) C dX6_round_36 (cl_K hC) (cl_r2 hC) ?_
      refine kX6_138 (pc := 39) C dX6_round_39 (c3_lineUp κ.2.1 E S_15 im_32 (B + 31) (cl_s3 hC) (s_nights f n n7 (-1) (i + 1)) n h32.1) (sl_K (cl_s3 hC)) (by decide) (Nat.le_of_ble_eq_true rfl) (Nat.le_refl _) (Nat.le_refl _) (fun S_39 im_39 h_39 => ?_)
      obtain ⟨rfl, gL, gc⟩ := h_39
      have hn39 : ST S_15 im_39 (B + 1) X f n n7 := ST_fr hn' (fun a h1 h2 _ => (gc a (by omega)).trans (g3 a (by omega) (by omega))) (fun a h1 h2 => (gc a (by omega)).trans (g3 a (by omega) (Or.inr h2)))
      have hl39 : ∀ j, j < n → im_39 (B + 1 + 2) j = nI (ordA f n j) := fun j hj => by rw [gc _ (by omega), g3 _ (by omega) (by omega)]; exact hL' j hj
      refine z_aload_n (pc := 42) C dX6_round_42 rfl ?_
      refine gX6_19 (pc := 43) C dX6_round_43 (cl_K hC) (cl_r2 hC) ?_
      refine z_aload_n (pc := 46) C dX6_round_46 rfl ?_
      refine gX6_10 (pc := 47) C dX6_round_47 (cl_K hC) (cl_r0 hC) ?_
      refine kX6_174 (pc := 50) C dX6_round_50 (c3_hasLineOf κ.2.1 E S_15 im_39 (B + 31) (cl_s3 hC) (B + 1) (cl_s1 hC) n hn10 (by rw [gc _ (by omega)]; exact h32.1.1.2.2) hn39.1.1.2.2) (sl_K (cl_s3 hC)) (by decide) (Nat.le_of_ble_eq_true rfl) (Nat.le_refl _) (Nat.le_refl _) (fun v_50 S_50 im_50 h_50 => ?_)
      rcases h_50 with ⟨hb_50, rfl, rfl, rfl⟩ | ⟨hb_50, rfl, rfl, rfl⟩
      · 
        refine z_if_eqF (pc := 53) C 58 dX6_round_53 (by decide) (by decide) ?_
        refine z_iload_n (pc := 56) C dX6_round_56 rfl ?_
        exact z_iret (pc := 57) C ρ dX6_round_57 (⟨_, rfl, by rw [hans, s_rnd, if_pos ((sameO_at n).mpr (fun j hj => by have h9 := hb_50 j hj; rw [gL j hj, hl39 j hj] at h9; have o1 := ordA_lt (f := s_nights f n n7 (-1) (i + 1)) hj; have o2 := ordA_lt (f := f) hj; exact (nI_eq (by omega) (by omega)).mp h9))], sx_15, ⟨n, hn39⟩, hfr.tr (g3.C3.tr (fun a h1 h2 h3 => gc a (by omega)))⟩)
      · 
        refine z_if_eqT (pc := 53) C 58 dX6_round_53 (by decide) (by decide) ?_
        refine z_iincN (pc := 58) C 1 dX6_round_58 rfl (by decide) rfl ?_
        refine z_goto (pc := 61) C 20 dX6_round_61 (by decide) ?_
        refine ih (i + 1) im_39 (by omega) ?_ (ST_fr h32 (fun a _ _ h => gc a h) (fun a _ _ => gc a (by omega))) hn39 hl39 (hfr.tr (g3.C3.tr (fun a h1 h2 h3 => gc a (by omega))))
        rw [hans, s_rnd, if_neg]
        intro h
        apply hb_50
        intro j hj
        rw [gL j hj, hl39 j hj, (sameO_at n).mp h j hj]
  refine z_iconstN (pc := 18) C 1 dX6_round_18 ?_
  refine z_istore_n (pc := 19) C dX6_round_19 (by decide) rfl ?_
  exact loop 200 0 im_15 (by omega) rfl ht_15 hn_15 (fun j hj => by rw [fq_15 _ (by omega)]; exact hL j hj) ((show frC B X im im_4 from fun a h1 _ _ => hc a (by omega)).tr fr_15)
set_option maxRecDepth 100000 in
set_option maxHeartbeats 4000000 in
theorem c6_first (l : Launch) (E : Ex) (S : Sx) (im : Mem) (B : Nat) (hC : CL S B) (X : Nat) (hX : B + 107 ≤ X) (f : Nat → Int32) (n n7 : Nat) (hst : ST S im (B + 1) X f n n7) (x w : Int32) : Mt l E yX6_first cX6_first 4 (some .int) 7 0 0 [.ref B, .int x, .int w] S im (pI (pC S im B X n7 (r_first f n n7 x w) (f))) := by
  refine Mt.of (by decide +kernel) rfl rfl (Nat.le_of_ble_eq_true rfl) ?_
  intro κ hκ C ρ
  subst hκ
  show V E κ 4 0 0 0 [some (.ref B), some (.int x), some (.int w), none] [] S im
  have hn10 := hst.1.1.1
  have h14 := hst.2.1.1.1
  have hr := hst.1
  have hT := hst.2.1
  have hg := hst.2.2
  have hX1 : B + 1 + 15 ≤ X := by omega
  refine z_aload_n (pc := 0) C dX6_first_0 rfl ?_
  refine gX6_10 (pc := 1) C dX6_first_1 (cl_K hC) (cl_r0 hC) ?_
  refine z_iload_n (pc := 4) C dX6_first_4 rfl ?_
  refine kX6_70 (pc := 5) C dX6_first_5 (c3_hasLamp κ.2.1 E S im (B + 1) (cl_s1 hC) x n hn10 hr.1.2.2) (sl_K (cl_s1 hC)) (by decide) (Nat.le_of_ble_eq_true rfl) (Nat.le_refl _) (Nat.le_refl _) (fun v_5 S_5 im_5 h_5 => ?_)
  rcases h_5 with ⟨hb_5, rfl, rfl, rfl⟩ | ⟨hb_5, rfl, rfl, rfl⟩
  · 
    obtain ⟨l0, hl0, rfl⟩ := (in_lamp hn10).mp hb_5
    have hcl : (nI l0).toNatClampNeg = l0 := nI_clamp (by omega)
    refine z_if_eqF (pc := 8) C 21 dX6_first_8 (by decide) (by decide) ?_
    refine z_iload_n (pc := 11) C dX6_first_11 rfl ?_
    refine z_iconstN (pc := 12) C 1 dX6_first_12 ?_
    refine z_bipushN (pc := 13) C 20 (by decide) dX6_first_13 ?_
    refine kX6_56 (pc := 15) C dX6_first_15 (c6_within κ.2.1 E S im (w) (nI 1) (nI 20)) (by decide) (Nat.le_of_ble_eq_true rfl) (Nat.le_refl _) (Nat.le_refl _) (fun v_15 S_15 im_15 h_15 => ?_)
    rcases h_15 with ⟨hb_15, rfl, rfl, rfl⟩ | ⟨hb_15, rfl, rfl, rfl⟩
    · 
      obtain ⟨k0, hk00, hk0, rfl⟩ := (rng (by decide) (by decide)).mp hb_15
      have hck : (nI k0).toNatClampNeg = k0 := nI_clamp (by omega)
      have loop : ∀ (r i : Nat) (S' : Sx) (im' : Mem), i + r = 100 → s_fst f n n7 l0 k0 100 0 = s_fst f n n7 l0 k0 r i → SX (B + 31) S S' → ST S' im' (B + 1) X f n n7 → frC B X im im' → V E κ 4 0 0 26 [some (.ref B), some (.int (nI l0)), some (.int (nI k0)), some (.int (nI i))] [] S' im' := by
        intro r
        induction r with
        | zero =>
          intro i S' im' hi hans hsx hn' hfr
          have hC := CL_X hC hsx (Or.inr (Or.inr rfl))
          refine z_iload_n (pc := 26) C dX6_first_26 rfl ?_
          refine z_bipushN (pc := 27) C 99 (by decide) dX6_first_27 ?_
          refine z_icmp_gtT (pc := 29) C 84 dX6_first_29 (by decide) (nI_lt (by omega) (by omega)) ?_
          refine z_ldc (pc := 84) C dX6_first_84 wk_X6_178 ?_
          exact z_iret (pc := 86) C ρ dX6_first_86 (⟨_, rfl, by rw [r_first, if_pos hb_5, if_pos hb_15, hcl, hck, hans]; rfl, hsx, ⟨n, hn'⟩, hfr⟩)
        | succ r ih =>
          intro i S' im' hi hans hsx hn' hfr
          have hC := CL_X hC hsx (Or.inr (Or.inr rfl))
          refine z_iload_n (pc := 26) C dX6_first_26 rfl ?_
          refine z_bipushN (pc := 27) C 99 (by decide) dX6_first_27 ?_
          refine z_icmp_gtF (pc := 29) C 84 dX6_first_29 (by decide) (nI_nlt (by omega) (by omega)) ?_
          refine z_aload_n (pc := 32) C dX6_first_32 rfl ?_
          refine gX6_19 (pc := 33) C dX6_first_33 (cl_K hC) (cl_r2 hC) ?_
          refine z_aload_n (pc := 36) C dX6_first_36 rfl ?_
          refine gX6_10 (pc := 37) C dX6_first_37 (cl_K hC) (cl_r0 hC) ?_
          refine kX6_163 (pc := 40) C dX6_first_40 (c3_becomes κ.2.1 E S' im' (B + 31) (cl_s3 hC) (B + 1) (cl_s1 hC) (by omega) X f n n7 hn' (by omega) (by omega)) (sl_K (cl_s3 hC)) (by decide) (Nat.le_of_ble_eq_true rfl) (Nat.le_refl _) (Nat.le_refl _) (fun S_40 im_40 h_40 => ?_)
          obtain ⟨sx_40, ht_40, -, fq_40⟩ := h_40
          have hC := CL_X hC sx_40 (Or.inr (Or.inr rfl))
          have hn_40 : ST S_40 im_40 (B + 1) X f n n7 := ST_fr (ST_X hn' sx_40 (by omega) (by omega)) (fun a h1 h2 _ => fq_40 a (by omega)) (fun a h1 _ => fq_40 a (by omega))
          have fr_40 : frC B X im' im_40 := fun a h1 h2 h3 => fq_40 a (by omega)
          refine z_aload_n (pc := 43) C dX6_first_43 rfl ?_
          refine gX6_19 (pc := 44) C dX6_first_44 (cl_K hC) (cl_r2 hC) ?_
          refine gX6_73 (pc := 47) C dX6_first_47 (sl_K (cl_s3 hC)) (sl_r0 (cl_s3 hC)) ?_
          refine z_iload_n (pc := 50) C dX6_first_50 rfl ?_
          refine z_aald (pc := 51) C dX6_first_51 (sl_a1 (cl_s3 hC)) (by decide) (sl_n1 (cl_s3 hC)) (by omega) (by decide) (sl_e (cl_s3 hC) (i := l0) (by omega)) ?_
          refine z_iload_n (pc := 52) C dX6_first_52 rfl ?_
          refine pX6_111 (pc := 53) C dX6_first_53 (sl_l (cl_s3 hC) (i := l0) (by omega)) ?_
          have ht53 : ST S_40 (up2 im_40 (B + 31 + 5 + l0) 3 (nI i)) (B + 31) X (upd f (8 + 7 * l0 + 3) (nI i)) n n7 := ST_lamp ht_40 hl0 (by decide) (fun h => by cases h) (fun h => by cases h) (fun h => by cases h) (fun _ => nI_R (by omega) (by omega)) (fun h => by cases h) (by omega)
          have hn53 : ST S_40 (up2 im_40 (B + 31 + 5 + l0) 3 (nI i)) (B + 1) X f n n7 := ST_fr hn_40 (fun a h1 h2 _ => up2_n _ _ _ (by omega)) (fun a h1 _ => up2_n _ _ _ (by omega))
          refine z_aload_n (pc := 56) C dX6_first_56 rfl ?_
          refine gX6_19 (pc := 57) C dX6_first_57 (cl_K hC) (cl_r2 hC) ?_
          refine z_iload_n (pc := 60) C dX6_first_60 rfl ?_
          refine z_iconst (v := -1) (pc := 61) C dX6_first_61 (by decide) ?_
          refine kX6_150 (pc := 62) C dX6_first_62 (c3_passNights κ.2.1 E S_40 (up2 im_40 (B + 31 + 5 + l0) 3 (nI i)) (B + 31) (cl_s3 hC) X (upd f (8 + 7 * l0 + 3) (nI i)) n n7 ht53 (by omega) (k0) (by omega) (-1)) (sl_K (cl_s3 hC)) (by decide) (Nat.le_of_ble_eq_true rfl) (Nat.le_refl _) (Nat.le_refl _) (fun S_62 im_62 h_62 => ?_)
          obtain ⟨rfl, ht_62, -, fq_62⟩ := h_62
          have hn_62 : ST S_40 im_62 (B + 1) X f n n7 := ST_fr hn53 (fun a h1 h2 _ => fq_62 a (by omega) (by omega)) (fun a h1 h2 => fq_62 a (by omega) (Or.inr h2))
          refine z_aload_n (pc := 65) C dX6_first_65 rfl ?_
          refine gX6_19 (pc := 66) C dX6_first_66 (cl_K hC) (cl_r2 hC) ?_
          refine kX6_167 (pc := 69) C dX6_first_69 (c3_foremost κ.2.1 E S_40 im_62 (B + 31) (cl_s3 hC) (s_nights (upd f (8 + 7 * l0 + 3) (nI i)) n n7 (-1) k0) n ht_62.1) (sl_K (cl_s3 hC)) (by decide) (Nat.le_of_ble_eq_true rfl) (Nat.le_refl _) (Nat.le_refl _) (fun v_69 S_69 im_69 h_69 => ?_)
          obtain ⟨rfl, rfl, hc⟩ := h_69
          refine z_eqi (y := s_firstN (s_nights (upd f (8 + 7 * l0 + 3) (nI i)) n n7 (-1) k0) n) (by rw [s_firstN, if_neg (by omega)]; exact told_nI (by have := ordA_lt (f := s_nights (upd f (8 + 7 * l0 + 3) (nI i)) n n7 (-1) k0) (n := n) (i := 0) (by omega); omega)) ?_
          have hn69 : ST S_40 im_69 (B + 1) X f n n7 := ST_fr hn_62 (fun a _ _ _ => hc a (by omega)) (fun a _ _ => hc a (by omega))
          have hfr69 : frC B X im im_69 := hfr.tr (fr_40.tr ((frC.rf.up (by omega)).tr (fq_62.C3.tr (fun a h1 _ _ => hc a (by omega)))))
          refine z_iload_n (pc := 72) C dX6_first_72 rfl ?_
          refine z_icmp_ne (pc := 73) C 78 dX6_first_73 (by decide) (fun c_73 => ?_) (fun c_73 => ?_)
          · 
            refine z_iincN (pc := 78) C 1 dX6_first_78 rfl (by decide) rfl ?_
            refine z_goto (pc := 81) C 26 dX6_first_81 (by decide) ?_
            exact ih (i + 1) S_40 im_69 (by omega) (by rw [hans, s_fst, if_neg c_73]) (hsx.tr sx_40) hn69 hfr69
          · 
            refine z_iload_n (pc := 76) C dX6_first_76 rfl ?_
            exact z_iret (pc := 77) C ρ dX6_first_77 (⟨_, rfl, by rw [r_first, if_pos hb_5, if_pos hb_15, hcl, hck, hans, s_fst, if_pos c_73], hsx.tr sx_40, ⟨n, hn69⟩, hfr69⟩)
      refine z_if_neT (pc := 18) C 24 dX6_first_18 (by decide) (by decide) ?_
      refine z_iconstN (pc := 24) C 0 dX6_first_24 ?_
      refine z_istore_n (pc := 25) C dX6_first_25 (by decide) rfl ?_
      exact loop 100 0 S im (by omega) rfl SX.rf hst frC.rf
    · 
      refine z_if_neF (pc := 18) C 24 dX6_first_18 (by decide) (by decide) ?_
      refine z_ldc (pc := 21) C dX6_first_21 wk_X6_60 ?_
      exact z_iret (pc := 23) C ρ dX6_first_23 (⟨_, rfl, by simp only [r_first, if_pos hb_5, if_neg hb_15], SX.rf, ⟨n, hst⟩, frC.rf⟩)
  · 
    refine z_if_eqT (pc := 8) C 21 dX6_first_8 (by decide) (by decide) ?_
    refine z_ldc (pc := 21) C dX6_first_21 wk_X6_60 ?_
    exact z_iret (pc := 23) C ρ dX6_first_23 (⟨_, rfl, by simp only [r_first, if_neg hb_5], SX.rf, ⟨n, hst⟩, frC.rf⟩)
